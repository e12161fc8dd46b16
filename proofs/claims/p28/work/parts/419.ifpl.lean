section IFPL
variable {n rule mv ps pr c0 c1 : Nat} {w : GSt} {b0 b1 : Nat → Int64} {g : RSt}
/-- what a stone at k would do -/
def eff (n : Nat) (b0 b1 : Nat → Int64) (mv k v : Nat) : Nat :=
  if v = 0 then cn (nT n b0 b1 mv k) 49 else if v = 1 then cn (nF n b0 b1 mv k) 49 else if v = 2 then cn (cl n (nA b0 b1 mv k) (pt k)) 49 else gsum n (nB n b0 b1 mv k) (oneL n (nB n b0 b1 mv k) (nA b0 b1 mv k)) 49 (nB n b0 b1 mv k)
theorem effect_eq (h : GR n rule mv ps pr c0 c1 w b0 b1 g) {k v : Nat} (hk : k < n * n) (hv : v < 4) : fX0_effectOf w g (nI k) (nI v) = some (nI (eff n b0 b1 mv k v)) := by
  have ht := h.turn.1
  have h2 : mv % 2 < 2 := by omega
  have hp := h.pos h2
  have hw1 := h.wc h2
  have hw2 := h.wc (c := 1 - mv % 2) (by omega)
  have hn := h.okn
  have hA : sb (nA b0 b1 mv k) (mA n) := sb_or hp.1 (pt_mA hn hk)
  have hT : sb (nT n b0 b1 mv k) (mA n) := sb_trans (sb_andl _ _) hp.2.1
  have hB : sb (nB n b0 b1 mv k) (mA n) := sb_trans (sb_andl _ _) hp.2.1
  have hF : sb (nF n b0 b1 mv k) (mA n) := sb_trans (sb_andl _ _) (sb_andr _ _)
  unfold fX0_effectOf bnd eff
  dsimp only
  rw [ht, other_nI h2, hw1, hw2, shl_pt, h.grid, taken_eq hn hp.2.1, Option.bind_some]
  rcases (show v = 0 ∨ v = 1 ∨ v = 2 ∨ v = 3 by omega) with e | e | e | e
  · subst e
    rw [if_pos (show nI 0 = 0 from rfl), if_pos rfl, bc49 hn hT]
  · subst e
    rw [if_neg (by decide), if_pos (show nI 1 = 1 from rfl), if_neg (by decide), if_pos rfl, lib_eq hn hA, Option.bind_some, bc49 hn hF]
  · subst e
    rw [if_neg (by decide), if_neg (by decide), if_pos (show nI 2 = 2 from rfl), if_neg (by decide), if_neg (by decide), if_pos rfl, conn_eq hn hA, Option.bind_some, bc49 hn (sb_trans (cl_sb hn hA) hA)]
  · subst e
    rw [if_neg (by decide), if_neg (by decide), if_neg (by decide), if_neg (by decide), if_neg (by decide), if_neg (by decide), one_eq hn hB, Option.bind_some]
/-- how many of the first k points may be played -/
def chN (n rule mv : Nat) (b0 b1 : Nat → Int64) : Nat → Nat
  | 0 => 0
  | k + 1 => chN n rule mv b0 b1 k + (if why n rule mv b0 b1 k = 0 then 1 else 0)
theorem why_le (k : Nat) : why n rule mv b0 b1 k ≤ 4 := by
  unfold why
  split
  · omega
  · split
    · omega
    · split
      · omega
      · split <;> omega
theorem nI_eq0 {c : Nat} (h : c < 2147483648) : nI c = 0 ↔ c = 0 := nI_eq_iff (b := 0) h (by omega)
theorem chC_loop (h : GR n rule mv ps pr c0 c1 w b0 b1 g) : ∀ (d fu k : Nat), k + d = n * n → d + 1 ≤ fu → fX7_choices_4 w b0 b1 g fu (nI (chN n rule mv b0 b1 k)) (nI k) = some (nI (chN n rule mv b0 b1 (n * n))) := by
  have hs := okN_sq h.okn
  have hg : g.2.1 = nI (n * n) := by rw [h.grid]; exact grid_points h.okn
  intro d
  induction d with
  | zero =>
    intro fu k hk hf
    obtain ⟨fu, rfl⟩ : ∃ f, fu = f + 1 := ⟨fu - 1, by omega⟩
    have : k = n * n := by omega
    subst this
    unfold fX7_choices_4
    rw [hg, if_pos (nI_le (Nat.le_refl _) (by omega))]
  | succ d ih =>
    intro fu k hk hf
    obtain ⟨fu, rfl⟩ : ∃ f, fu = f + 1 := ⟨fu - 1, by omega⟩
    have hl := why_le (n := n) (rule := rule) (mv := mv) (b0 := b0) (b1 := b1) k
    have := ih fu (k + 1) (by omega) (by omega)
    have e : chN n rule mv b0 b1 (k + 1) = chN n rule mv b0 b1 k + (if why n rule mv b0 b1 k = 0 then 1 else 0) := rfl
    rw [e, nI_succ] at this
    unfold fX7_choices_4
    rw [hg, if_neg (nI_ge (by omega) (by omega)), reason_eq h (by omega), Option.bind_some]
    by_cases q : why n rule mv b0 b1 k = 0
    · rw [if_pos q, nI_succ] at this
      rw [if_pos ((nI_eq0 (by omega)).mpr q)]
      exact this
    · rw [if_neg q, Nat.add_zero] at this
      rw [if_neg (fun z => q ((nI_eq0 (by omega)).mp z))]
      exact this
theorem choices_GR (h : GR n rule mv ps pr c0 c1 w b0 b1 g) : fX7_choices w b0 b1 g = some (nI (chN n rule mv b0 b1 (n * n))) := by
  have hs := okN_sq h.okn
  exact chC_loop h (n * n) 5000 0 (by omega) (by omega)
end IFPL
