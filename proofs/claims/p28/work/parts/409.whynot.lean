section WHYN
variable {n rule mv ps pr c0 c1 k : Nat} {w : GSt} {b0 b1 : Nat → Int64} {g : RSt}
theorem nP_ne (hk : k < 64) (hc : ¬ tb (b0 mv ||| b1 mv) k = true) : ¬ (b0 mv = nP0 n b0 b1 mv k ∧ b1 mv = nP1 n b0 b1 mv k) := by
  intro ⟨h1, h2⟩
  apply hc
  rw [m_or]
  rcases (show mv % 2 = 0 ∨ mv % 2 = 1 by omega) with e | e
  · left
    rw [h1]
    unfold nP0
    rw [if_pos e]
    exact m_or.mpr (.inr (pt_self hk))
  · right
    rw [h2]
    unfold nP1
    rw [if_neg (by omega)]
    exact m_or.mpr (.inr (pt_self hk))
theorem sOf_free (h : ¬ tb (b0 mv ||| b1 mv) k = true) (c : Nat) : ¬ tb (sOf b0 b1 mv c) k = true := by
  intro q
  apply h
  rw [m_or]
  unfold sOf at q
  by_cases e : c = 0
  · rw [if_pos e] at q; exact .inl q
  · rw [if_neg e] at q; exact .inr q
theorem why_0 (h : why n rule mv b0 b1 k = 0) : ¬ tb (b0 mv ||| b1 mv) k = true ∧ ¬ nF n b0 b1 mv k = 0 ∧ mv < 120 := by
  unfold why at h
  by_cases c : tb (b0 mv ||| b1 mv) k = true
  · rw [if_pos c] at h; cases h
  · rw [if_neg c] at h
    by_cases d : nF n b0 b1 mv k = 0
    · rw [if_pos d] at h; cases h
    · rw [if_neg d] at h
      by_cases e : bad rule mv b0 b1 (nP0 n b0 b1 mv k) (nP1 n b0 b1 mv k) = true
      · rw [if_pos e] at h; cases h
      · rw [if_neg e] at h
        by_cases q : mv < 120
        · exact ⟨c, d, q⟩
        · rw [if_neg q] at h; cases h
theorem new_pos (h : GR n rule mv ps pr c0 c1 w b0 b1 g) (hk : k < n * n) (hc : ¬ tb (b0 mv ||| b1 mv) k = true) (hf : ¬ nF n b0 b1 mv k = 0) : posOK n (nP0 n b0 b1 mv k) (nP1 n b0 b1 mv k) := by
  have h2 : mv % 2 < 2 := by omega
  have := (lay_new h.1 hk (h.pos h2) (sOf_free hc _) (sOf_free hc _)).2 hf
  unfold nP0 nP1
  by_cases e : mv % 2 = 0
  · rw [if_pos e, if_pos e]; exact this
  · rw [if_neg e, if_neg e]; exact posOK_sym this
end WHYN
