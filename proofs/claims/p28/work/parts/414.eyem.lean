section EYEM
variable {n rule mv ps pr c0 c1 : Nat} {w : GSt} {b0 b1 : Nat → Int64} {g : RSt}
def eyeV (n : Nat) (a o : Int64) (k : Nat) : Nat := if tb (fE n a o) k = true then 1 else if tb (eyS n a o) k = true then 2 else 0
theorem eyeV_le (a o : Int64) (k : Nat) : eyeV n a o k ≤ 2 := by
  unfold eyeV
  split
  · omega
  · split <;> omega
theorem free_has (h : GR n rule mv ps pr c0 c1 w b0 b1 g) {k c : Nat} (hk : k < n * n) (hc : c < 2) : tb (fre n (sOf b0 b1 mv c ||| sOf b0 b1 mv (1 - c))) k = true ↔ ¬ tb (b0 mv ||| b1 mv) k = true := by
  rw [sOf_or' hc, m_fre, tb_mA h.okn, decide_eq_true_eq]
  exact ⟨fun q => q.2, fun q => ⟨hk, q⟩⟩
theorem nI_le_iff {a b : Nat} (ha : a < 2147483648) (hb : b < 2147483648) : nI a ≤ nI b ↔ a ≤ b :=
  ⟨fun q => Classical.byContradiction fun r => nI_ge (by omega) (by omega) q, fun q => nI_le q (by omega)⟩
theorem nI_lt_iff {a b : Nat} (ha : a < 2147483648) (hb : b < 2147483648) : nI a < nI b ↔ a < b :=
  ⟨fun q => Classical.byContradiction fun r => nI_nlt (by omega) (by omega) q, fun q => nI_lt q (by omega)⟩
theorem nI_eq_iff {a b : Nat} (ha : a < 2147483648) (hb : b < 2147483648) : nI a = nI b ↔ a = b :=
  ⟨fun q => nI_inj ha hb q, fun q => by rw [q]⟩
/-- the set of the points whose eye is v -/
def eyX (n : Nat) (a o : Int64) (v : Nat) : Int64 := if v = 1 then fE n a o else eyS n a o &&& (fE n a o ^^^ (-1))
theorem eyX_iff {a o : Int64} {v k : Nat} (hv : v = 1 ∨ v = 2) : tb (eyX n a o v) k = true ↔ eyeV n a o k = v := by
  unfold eyX eyeV
  rcases hv with e | e
  · subst e
    rw [if_pos rfl]
    constructor
    · intro q
      rw [if_pos q]
    · intro q
      apply Classical.byContradiction
      intro r
      rw [if_neg r] at q
      split at q <;> omega
  · subst e
    rw [if_neg (by decide), m_dif]
    constructor
    · intro q
      rw [if_neg q.2, if_pos q.1]
    · intro q
      by_cases r : tb (fE n a o) k = true
      · rw [if_pos r] at q
        cases q
      · rw [if_neg r] at q
        refine ⟨?_, r⟩
        apply Classical.byContradiction
        intro s
        rw [if_neg s] at q
        cases q
theorem eyX_sb {a o : Int64} {v : Nat} (h : okN n) : sb (eyX n a o v) (mA n) := by
  unfold eyX
  split
  · intro i hi
    exact eyS_sb h i (((fE_ex h a o).2 i).mp hi).1
  · exact sb_trans (sb_andl _ _) (eyS_sb h)
theorem cnN2 {x : Int64} (h : okN n) (hx : sb x (mA n)) : cn x (n * n) = cn x 49 := by
  have h1 := okN_sq h
  have := cn_top (x := x) (m := n * n) ((sbA h).mp hx) (49 - n * n)
  rw [show n * n + (49 - n * n) = 49 by omega] at this
  exact this.symm
theorem falseEyes_eq (h : GR n rule mv ps pr c0 c1 w b0 b1 g) {c : Nat} (hc : c < 2) : fX0_falseEyes w g (nI c) = some (fE n (sOf b0 b1 mv c) (sOf b0 b1 mv (1 - c))) := by
  unfold fX0_falseEyes
  rw [other_nI hc, h.wc hc, h.wc (c := 1 - c) (by omega), h.grid]
  show (fX2_falseAmong (gridOf n) (eyS n _ _) _).bind _ = _
  rw [(fE_ex h.okn _ _).1, Option.bind_some]
theorem trueEyes_eq (h : GR n rule mv ps pr c0 c1 w b0 b1 g) {c : Nat} (hc : c < 2) : fX0_trueEyes w g (nI c) = some (eyX n (sOf b0 b1 mv c) (sOf b0 b1 mv (1 - c)) 2) := by
  unfold fX0_trueEyes bnd
  dsimp only
  rw [other_nI hc, h.wc hc, h.wc (c := 1 - c) (by omega), h.grid]
  show (fX2_falseAmong (gridOf n) (eyS n _ _) _).bind _ = _
  rw [(fE_ex h.okn _ _).1, Option.bind_some]
  rfl
theorem adj_ex (h : okN n) {k : Nat} (hk : k < n * n) : ∃ j, adj n k j := by
  by_cases c : k % n = 0
  · refine ⟨k + 1, hk, ?_, .inr (.inl ⟨rfl, ?_⟩)⟩
    · rcases h with h | h | h | h | h <;> subst h <;> omega
    · rcases h with h | h | h | h | h <;> subst h <;> omega
  · have : 1 ≤ k := by
      apply Decidable.byContradiction
      intro q
      rw [show k = 0 by omega, Nat.zero_mod] at c
      exact c rfl
    exact ⟨k - 1, hk, by omega, .inl ⟨by omega, c⟩⟩
theorem eye_one (h : okN n) {a b : Int64} (hd : a &&& b = 0) {k : Nat} (h1 : tb (eyS n a b) k = true) (h2 : tb (eyS n b a) k = true) : False := by
  rw [m_eyS h] at h1 h2
  have hk : k < n * n := (sbA h).mp fre_sb k h1.1
  obtain ⟨j, j1⟩ := adj_ex h hk
  have := (tb_arpt h hk).mpr (adj_comm.mp j1)
  exact m_and0.mp hd j (h1.2 j this) (h2.2 j this)
end EYEM
