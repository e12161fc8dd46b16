section WHYN
variable {n rule mv ps pr c0 c1 k : Nat} {w : GSt} {b0 b1 : Nat → Int64} {g : RSt} {f : Nat → Int64}
/-- the reference's working places after a stone has been tried at k -/
def laid (n : Nat) (b0 b1 : Nat → Int64) (mv k : Nat) (y : MSt) : MSt := (y.1, y.2.1, y.2.2.1, nA b0 b1 mv k, nB n b0 b1 mv k, nI (cn (nT n b0 b1 mv k) 49), nF n b0 b1 mv k, y.2.2.2.2.2.2.2.1, y.2.2.2.2.2.2.2.2.1, y.2.2.2.2.2.2.2.2.2)
def tried (n : Nat) (b0 b1 : Nat → Int64) (mv k : Nat) (y : MSt) : MSt := if tb (b0 mv ||| b1 mv) k = true then y else laid n b0 b1 mv k y
theorem nP_ne (hk : k < 64) (hc : ¬ tb (b0 mv ||| b1 mv) k = true) : ¬ (b0 mv = nP0 n b0 b1 mv k ∧ b1 mv = nP1 n b0 b1 mv k) := by
  intro ⟨h1, h2⟩
  apply hc
  rw [m_or]
  rcases (show mv % 2 = 0 ∨ mv % 2 = 1 by omega) with e | e
  · left
    rw [h1]
    unfold nP0
    rw [if_pos e]
    exact m_or.mpr (.inr (pt_self hk))
  · right
    rw [h2]
    unfold nP1
    rw [if_neg (by omega)]
    exact m_or.mpr (.inr (pt_self hk))
theorem sOf_free (h : ¬ tb (b0 mv ||| b1 mv) k = true) (c : Nat) : ¬ tb (sOf b0 b1 mv c) k = true := by
  intro q
  apply h
  rw [m_or]
  unfold sOf at q
  by_cases e : c = 0
  · rw [if_pos e] at q; exact .inl q
  · rw [if_neg e] at q; exact .inr q
theorem whyNot_eq (h : GR n rule mv ps pr c0 c1 w b0 b1 g f) (hk : k < n * n) (y : MSt) : fX8_whyNot y f (nI k) = some (nI (why n rule mv b0 b1 k), tried n b0 b1 mv k y) := by
  have ht := h.turn.2
  have h2 : mv % 2 < 2 := by omega
  have hp := h.pos h2
  have hs0 := h.s0
  have hs1 := h.s1
  have hsa := h.sc h2
  have hsb := h.sc (c := 1 - mv % 2) (by omega)
  have hn := h.1
  have hk64 : k < 64 := by have := (okN_sq hn).2; omega
  have hf0 : f 0 = nL n := h.2.2.2.2.2.2.2.2.2.1
  have hf3 : f 3 = nL mv := h.2.2.2.2.2.2.2.2.2.2.2.2.1
  have hmv : mv ≤ 120 := h.2.2.2.1
  unfold fX8_whyNot why tried
  rw [ht, Option.bind_some, hs0, Option.bind_some, hs1, Option.bind_some, has_pt hk64]
  by_cases c : tb (b0 mv ||| b1 mv) k = true
  · rw [if_pos c, if_pos c, if_pos c]
    rfl
  · have hy := may_eq h (nP_ne (n := n) hk64 c)
    rw [if_neg c, if_neg c, if_neg c, if_pos (by decide), hsa, Option.bind_some, other_nI h2, hsb, Option.bind_some, rows_eq hf0, lays_eq hn hk hp (sOf_free c _) (sOf_free c _), Option.bind_some]
    by_cases d : nF n b0 b1 mv k = 0
    · rw [if_pos d, if_pos d]
      rfl
    · rw [if_neg d, if_neg d]
      have e120 : (nI mv = (120 : Int32)) ↔ ¬ mv < 120 := by
        constructor
        · intro q r
          have := nI_inj (a := mv) (b := 120) (by omega) (by omega) q
          omega
        · intro q
          have : mv = 120 := by omega
          rw [this]
          rfl
      rcases (show mv % 2 = 0 ∨ mv % 2 = 1 by omega) with e | e
      · have e0 : nI (mv % 2) = 0 := by rw [e]; rfl
        have p0 : nP0 n b0 b1 mv k = nA b0 b1 mv k := by unfold nP0; rw [if_pos e]
        have p1 : nP1 n b0 b1 mv k = nB n b0 b1 mv k := by unfold nP1; rw [if_pos e]
        rw [p0, p1] at hy ⊢
        rw [if_pos rfl, if_pos e0, if_pos e0]
        show (fX8_mayNotCome f (nA b0 b1 mv k) (nB n b0 b1 mv k)).bind _ = _
        rw [hy, Option.bind_some]
        by_cases q : bad rule mv b0 b1 (nA b0 b1 mv k) (nB n b0 b1 mv k) = true
        · rw [if_pos q, if_pos q]; rfl
        · rw [if_neg q, if_neg q, moves_eq hf3, Option.bind_some]
          by_cases r : mv < 120
          · rw [if_pos r, if_neg (fun z => e120.mp z r)]; rfl
          · rw [if_neg r, if_pos (e120.mpr r)]; rfl
      · have e0 : ¬ nI (mv % 2) = 0 := by rw [e]; decide
        have e' : ¬ mv % 2 = 0 := by omega
        have p0 : nP0 n b0 b1 mv k = nB n b0 b1 mv k := by unfold nP0; rw [if_neg e']
        have p1 : nP1 n b0 b1 mv k = nA b0 b1 mv k := by unfold nP1; rw [if_neg e']
        rw [p0, p1] at hy ⊢
        rw [if_pos rfl, if_neg e0, if_neg e0]
        show (fX8_mayNotCome f (nB n b0 b1 mv k) (nA b0 b1 mv k)).bind _ = _
        rw [hy, Option.bind_some]
        by_cases q : bad rule mv b0 b1 (nB n b0 b1 mv k) (nA b0 b1 mv k) = true
        · rw [if_pos q, if_pos q]; rfl
        · rw [if_neg q, if_neg q, moves_eq hf3, Option.bind_some]
          by_cases r : mv < 120
          · rw [if_pos r, if_neg (fun z => e120.mp z r)]; rfl
          · rw [if_neg r, if_pos (e120.mpr r)]; rfl
theorem why_0 (h : why n rule mv b0 b1 k = 0) : ¬ tb (b0 mv ||| b1 mv) k = true ∧ ¬ nF n b0 b1 mv k = 0 ∧ mv < 120 := by
  unfold why at h
  by_cases c : tb (b0 mv ||| b1 mv) k = true
  · rw [if_pos c] at h; cases h
  · rw [if_neg c] at h
    by_cases d : nF n b0 b1 mv k = 0
    · rw [if_pos d] at h; cases h
    · rw [if_neg d] at h
      by_cases e : bad rule mv b0 b1 (nP0 n b0 b1 mv k) (nP1 n b0 b1 mv k) = true
      · rw [if_pos e] at h; cases h
      · rw [if_neg e] at h
        by_cases q : mv < 120
        · exact ⟨c, d, q⟩
        · rw [if_neg q] at h; cases h
theorem new_pos (h : GR n rule mv ps pr c0 c1 w b0 b1 g f) (hk : k < n * n) (hc : ¬ tb (b0 mv ||| b1 mv) k = true) (hf : ¬ nF n b0 b1 mv k = 0) : posOK n (nP0 n b0 b1 mv k) (nP1 n b0 b1 mv k) := by
  have h2 : mv % 2 < 2 := by omega
  have := (lay_new h.1 hk (h.pos h2) (sOf_free hc _) (sOf_free hc _)).2 hf
  unfold nP0 nP1
  by_cases e : mv % 2 = 0
  · rw [if_pos e, if_pos e]; exact this
  · rw [if_neg e, if_neg e]; exact posOK_sym this
end WHYN
