section BEST
variable {n rule mv ps pr c0 c1 : Nat} {w : GSt} {b0 b1 : Nat → Int64} {g : RSt}
/-- the best taker among the first k points, and what it takes -/
def bst (n rule mv : Nat) (b0 b1 : Nat → Int64) : Nat → Int32 × Nat
  | 0 => (-1, 0)
  | k + 1 => if why n rule mv b0 b1 k = 0 ∧ (bst n rule mv b0 b1 k).2 < cn (nT n b0 b1 mv k) 49 then (nI k, cn (nT n b0 b1 mv k) 49) else bst n rule mv b0 b1 k
theorem bst_le (k : Nat) : (bst n rule mv b0 b1 k).2 ≤ 49 := by
  induction k with
  | zero => exact Nat.zero_le _
  | succ k ih =>
    unfold bst
    split
    · exact cn_le _ _
    · exact ih
theorem bstC_loop (h : GR n rule mv ps pr c0 c1 w b0 b1 g) : ∀ (d fu k : Nat), k + d = n * n → d + 1 ≤ fu → fX7_bestTake_6 w b0 b1 g fu (bst n rule mv b0 b1 k).1 (nI (bst n rule mv b0 b1 k).2) (nI k) = some (bst n rule mv b0 b1 (n * n)).1 := by
  have hs := okN_sq h.okn
  have hg : g.2.1 = nI (n * n) := by rw [h.grid]; exact grid_points h.okn
  intro d
  induction d with
  | zero =>
    intro fu k hk hf
    obtain ⟨fu, rfl⟩ : ∃ f, fu = f + 1 := ⟨fu - 1, by omega⟩
    have : k = n * n := by omega
    subst this
    unfold fX7_bestTake_6
    rw [hg, if_pos (nI_le (Nat.le_refl _) (by omega))]
  | succ d ih =>
    intro fu k hk hf
    obtain ⟨fu, rfl⟩ : ∃ f, fu = f + 1 := ⟨fu - 1, by omega⟩
    have hl := why_le (n := n) (rule := rule) (mv := mv) (b0 := b0) (b1 := b1) k
    have hb := bst_le (n := n) (rule := rule) (mv := mv) (b0 := b0) (b1 := b1) k
    have ht := cn_le (nT n b0 b1 mv k) 49
    have he : fX0_effectOf w g (nI k) 0 = some (nI (cn (nT n b0 b1 mv k) 49)) := effect_eq h (v := 0) (by omega) (by omega)
    have := ih fu (k + 1) (by omega) (by omega)
    have e : bst n rule mv b0 b1 (k + 1) = if why n rule mv b0 b1 k = 0 ∧ (bst n rule mv b0 b1 k).2 < cn (nT n b0 b1 mv k) 49 then (nI k, cn (nT n b0 b1 mv k) 49) else bst n rule mv b0 b1 k := rfl
    rw [e, nI_succ] at this
    unfold fX7_bestTake_6
    rw [hg, if_neg (nI_ge (by omega) (by omega)), reason_eq h (by omega), Option.bind_some, he, Option.bind_some]
    by_cases q : why n rule mv b0 b1 k = 0
    · rw [if_pos ((nI_eq0 (by omega)).mpr q)]
      by_cases r : (bst n rule mv b0 b1 k).2 < cn (nT n b0 b1 mv k) 49
      · rw [if_pos ⟨q, r⟩] at this
        rw [if_neg (fun z => by have := (nI_le_iff (by omega) (by omega)).mp z; omega)]
        exact this
      · rw [if_neg (fun z => r z.2)] at this
        rw [if_pos (nI_le (by omega) (by omega))]
        exact this
    · rw [if_neg (fun z => q z.1)] at this
      rw [if_neg (fun z => q ((nI_eq0 (by omega)).mp z)), if_pos (nI_pos' (by omega))]
      exact this
theorem best_GR (h : GR n rule mv ps pr c0 c1 w b0 b1 g) : fX7_bestTake w b0 b1 g = some (bst n rule mv b0 b1 (n * n)).1 := by
  have hs := okN_sq h.okn
  exact bstC_loop h (n * n) 5000 0 (by omega) (by omega)
end BEST
