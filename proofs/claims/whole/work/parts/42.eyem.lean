section EYEM
variable {n rule mv ps pr c0 c1 : Nat} {w : GSt} {b0 b1 : Nat → Int64} {g : RSt} {f : Nat → Int64}
def eyeV (n : Nat) (a o : Int64) (k : Nat) : Nat := if tb (fE n a o) k = true then 1 else if tb (eyS n a o) k = true then 2 else 0
theorem eyeV_le (a o : Int64) (k : Nat) : eyeV n a o k ≤ 2 := by
  unfold eyeV
  split
  · omega
  · split <;> omega
theorem free_has (h : GR n rule mv ps pr c0 c1 w b0 b1 g f) {k c : Nat} (hk : k < n * n) (hc : c < 2) : tb (fre n (sOf b0 b1 mv c ||| sOf b0 b1 mv (1 - c))) k = true ↔ ¬ tb (b0 mv ||| b1 mv) k = true := by
  rw [sOf_or' hc, m_fre, tb_mA h.okn, decide_eq_true_eq]
  exact ⟨fun q => q.2, fun q => ⟨hk, q⟩⟩
theorem nI_le_iff {a b : Nat} (ha : a < 2147483648) (hb : b < 2147483648) : nI a ≤ nI b ↔ a ≤ b :=
  ⟨fun q => Classical.byContradiction fun r => nI_ge (by omega) (by omega) q, fun q => nI_le q (by omega)⟩
theorem nI_lt_iff {a b : Nat} (ha : a < 2147483648) (hb : b < 2147483648) : nI a < nI b ↔ a < b :=
  ⟨fun q => Classical.byContradiction fun r => nI_nlt (by omega) (by omega) q, fun q => nI_lt q (by omega)⟩
theorem nI_eq_iff {a b : Nat} (ha : a < 2147483648) (hb : b < 2147483648) : nI a = nI b ↔ a = b :=
  ⟨fun q => nI_inj ha hb q, fun q => by rw [q]⟩
theorem eye_eq (h : GR n rule mv ps pr c0 c1 w b0 b1 g f) {k c : Nat} (hk : k < n * n) (hc : c < 2) : fX8_eye f (nI k) (nI c) = some (nI (eyeV n (sOf b0 b1 mv c) (sOf b0 b1 mv (1 - c)) k)) := by
  have hn := h.okn
  have hk64 : k < 64 := by have := (okN_sq hn).2; omega
  have hfr := free_has h hk hc
  have hey := m_eyS (a := sOf b0 b1 mv c) (b := sOf b0 b1 mv (1 - c)) (k := k) hn
  have hfe := (fE_ex hn (sOf b0 b1 mv c) (sOf b0 b1 mv (1 - c))).2 k
  unfold fX8_eye bnd
  dsimp only
  rw [if_pos (by decide), rows_eq h.f0, shl_pt, near_eq hn (pt_mA hn hk), Option.bind_some, h.s0, Option.bind_some, h.s1, Option.bind_some, has_pt hk64]
  unfold eyeV
  by_cases q1 : tb (b0 mv ||| b1 mv) k = true
  · have z1 : ¬ tb (eyS n (sOf b0 b1 mv c) (sOf b0 b1 mv (1 - c))) k = true := fun r => hfr.mp (hey.mp r).1 q1
    rw [if_pos q1, if_neg (fun r => z1 (hfe.mp r).1), if_neg z1]
    rfl
  · rw [if_neg q1, h.sc hc, Option.bind_some]
    have hs : (ar n (pt k) &&& (sOf b0 b1 mv c ^^^ (-1))) = 0 ↔ sb (ar n (pt k)) (sOf b0 b1 mv c) := by
      rw [m_and0]
      constructor
      · intro q i hi
        apply Classical.byContradiction
        intro r
        exact q i hi (m_not.mpr ⟨tb_lt hi, r⟩)
      · intro q i hi r
        exact (m_not.mp r).2 (q i hi)
    by_cases q2 : sb (ar n (pt k)) (sOf b0 b1 mv c)
    · have z1 : tb (eyS n (sOf b0 b1 mv c) (sOf b0 b1 mv (1 - c))) k = true := hey.mpr ⟨hfr.mpr q1, q2⟩
      rw [if_pos (hs.mpr q2), crn_eq hn hk, Option.bind_some, other_nI hc, h.sc (c := 1 - c) (by omega), Option.bind_some, bits_eq, Option.bind_some, bits_eq, Option.bind_some]
      have l1 : cn (xs n k) 49 ≤ 49 := cn_le _ _
      have l2 : cn (xs n k &&& sOf b0 b1 mv (1 - c)) 49 ≤ 49 := cn_le _ _
      have i4 : (4 : Int32) ≤ nI (cn (xs n k) 49) ↔ 4 ≤ cn (xs n k) 49 := nI_le_iff (a := 4) (by omega) (by omega)
      have i2 : (2 : Int32) ≤ nI (cn (xs n k &&& sOf b0 b1 mv (1 - c)) 49) ↔ 2 ≤ cn (xs n k &&& sOf b0 b1 mv (1 - c)) 49 := nI_le_iff (a := 2) (by omega) (by omega)
      have i1 : nI (cn (xs n k &&& sOf b0 b1 mv (1 - c)) 49) = 1 ↔ cn (xs n k &&& sOf b0 b1 mv (1 - c)) 49 = 1 := nI_eq_iff (b := 1) (by omega) (by omega)
      have hF : tb (fE n (sOf b0 b1 mv c) (sOf b0 b1 mv (1 - c))) k = true ↔ isF n (sOf b0 b1 mv (1 - c)) k := ⟨fun r => (hfe.mp r).2, fun r => hfe.mpr ⟨z1, r⟩⟩
      by_cases r2 : 2 ≤ cn (xs n k &&& sOf b0 b1 mv (1 - c)) 49
      · have : isF n (sOf b0 b1 mv (1 - c)) k := by
          unfold isF
          split <;> omega
        rw [if_pos (i2.mpr r2), if_pos (hF.mpr this)]
        rfl
      · rw [if_neg (fun z => r2 (i2.mp z))]
        by_cases r1 : cn (xs n k &&& sOf b0 b1 mv (1 - c)) 49 = 1
        · rw [if_pos (i1.mpr r1)]
          by_cases r4 : 4 ≤ cn (xs n k) 49
          · have : ¬ isF n (sOf b0 b1 mv (1 - c)) k := by
              unfold isF
              rw [if_pos r4]
              omega
            rw [if_pos (i4.mpr r4), if_neg (fun z => this (hF.mp z)), if_pos z1]
            rfl
          · have : isF n (sOf b0 b1 mv (1 - c)) k := by
              unfold isF
              rw [if_neg r4]
              omega
            rw [if_neg (fun z => r4 (i4.mp z)), if_pos (hF.mpr this)]
            rfl
        · have : ¬ isF n (sOf b0 b1 mv (1 - c)) k := by
            unfold isF
            split <;> omega
          rw [if_neg (fun z => r1 (i1.mp z)), if_neg (fun z => this (hF.mp z)), if_pos z1]
          rfl
    · have z1 : ¬ tb (eyS n (sOf b0 b1 mv c) (sOf b0 b1 mv (1 - c))) k = true := fun r => q2 (hey.mp r).2
      rw [if_neg (fun r => q2 (hs.mp r)), if_neg (fun r => z1 (hfe.mp r).1), if_neg z1]
      rfl
/-- the set of the points whose eye is v -/
def eyX (n : Nat) (a o : Int64) (v : Nat) : Int64 := if v = 1 then fE n a o else eyS n a o &&& (fE n a o ^^^ (-1))
theorem eyX_iff {a o : Int64} {v k : Nat} (hv : v = 1 ∨ v = 2) : tb (eyX n a o v) k = true ↔ eyeV n a o k = v := by
  unfold eyX eyeV
  rcases hv with e | e
  · subst e
    rw [if_pos rfl]
    constructor
    · intro q
      rw [if_pos q]
    · intro q
      apply Classical.byContradiction
      intro r
      rw [if_neg r] at q
      split at q <;> omega
  · subst e
    rw [if_neg (by decide), m_dif]
    constructor
    · intro q
      rw [if_neg q.2, if_pos q.1]
    · intro q
      by_cases r : tb (fE n a o) k = true
      · rw [if_pos r] at q
        cases q
      · rw [if_neg r] at q
        refine ⟨?_, r⟩
        apply Classical.byContradiction
        intro s
        rw [if_neg s] at q
        cases q
theorem eyX_sb {a o : Int64} {v : Nat} (h : okN n) : sb (eyX n a o v) (mA n) := by
  unfold eyX
  split
  · intro i hi
    exact eyS_sb h i (((fE_ex h a o).2 i).mp hi).1
  · exact sb_trans (sb_andl _ _) (eyS_sb h)
theorem cnN2 {x : Int64} (h : okN n) (hx : sb x (mA n)) : cn x (n * n) = cn x 49 := by
  have h1 := okN_sq h
  have := cn_top (x := x) (m := n * n) ((sbA h).mp hx) (49 - n * n)
  rw [show n * n + (49 - n * n) = 49 by omega] at this
  exact this.symm
theorem eyes_loop (h : GR n rule mv ps pr c0 c1 w b0 b1 g f) {c v : Nat} (hc : c < 2) (hv : v = 1 ∨ v = 2) : ∀ (d fu k : Nat), k + d = n * n → d + 1 ≤ fu →
    fX8_eyes_5 f (nI c) (nI v) fu (nI (cn (eyX n (sOf b0 b1 mv c) (sOf b0 b1 mv (1 - c)) v) k)) (nI k) = some (nI (cn (eyX n (sOf b0 b1 mv c) (sOf b0 b1 mv (1 - c)) v) (n * n))) := by
  have hs := okN_sq h.okn
  intro d
  induction d with
  | zero =>
    intro fu k hk hf
    obtain ⟨fu, rfl⟩ : ∃ f, fu = f + 1 := ⟨fu - 1, by omega⟩
    unfold fX8_eyes_5
    have : k = n * n := by omega
    subst this
    rw [points_eq h.f0, Option.bind_some, if_pos (nI_le (Nat.le_refl _) (by omega))]
  | succ d ih =>
    intro fu k hk hf
    obtain ⟨fu, rfl⟩ : ∃ f, fu = f + 1 := ⟨fu - 1, by omega⟩
    unfold fX8_eyes_5
    have hle := eyeV_le (n := n) (sOf b0 b1 mv c) (sOf b0 b1 mv (1 - c)) k
    rw [points_eq h.f0, Option.bind_some, if_neg (nI_ge (by omega) (by omega)), eye_eq h (by omega) hc, Option.bind_some]
    have := ih fu (k + 1) (by omega) (by omega)
    have e : cn (eyX n (sOf b0 b1 mv c) (sOf b0 b1 mv (1 - c)) v) (k + 1) = cn (eyX n (sOf b0 b1 mv c) (sOf b0 b1 mv (1 - c)) v) k + (if tb (eyX n (sOf b0 b1 mv c) (sOf b0 b1 mv (1 - c)) v) k = true then 1 else 0) := rfl
    rw [e, nI_succ] at this
    have hi := eyX_iff (n := n) (a := sOf b0 b1 mv c) (o := sOf b0 b1 mv (1 - c)) (k := k) hv
    have hq : nI (eyeV n (sOf b0 b1 mv c) (sOf b0 b1 mv (1 - c)) k) = nI v ↔ eyeV n (sOf b0 b1 mv c) (sOf b0 b1 mv (1 - c)) k = v := nI_eq_iff (by omega) (by omega)
    by_cases q : eyeV n (sOf b0 b1 mv c) (sOf b0 b1 mv (1 - c)) k = v
    · rw [if_pos (hi.mpr q), nI_succ] at this
      rw [if_pos (hq.mpr q)]
      exact this
    · rw [if_neg (fun z => q (hi.mp z)), Nat.add_zero] at this
      rw [if_neg (fun z => q (hq.mp z)), Int32.add_zero]
      exact this
theorem eyes_eq (h : GR n rule mv ps pr c0 c1 w b0 b1 g f) {c v : Nat} (hc : c < 2) (hv : v = 1 ∨ v = 2) : fX8_eyes f (nI c) (nI v) = some (nI (cn (eyX n (sOf b0 b1 mv c) (sOf b0 b1 mv (1 - c)) v) 49)) := by
  have hs := okN_sq h.okn
  rw [← cnN2 h.okn (eyX_sb h.okn)]
  exact eyes_loop h hc hv (n * n) 5000 0 (by omega) (by omega)
theorem falseEyes_eq (h : GR n rule mv ps pr c0 c1 w b0 b1 g f) {c : Nat} (hc : c < 2) : fX0_falseEyes w g (nI c) = some (fE n (sOf b0 b1 mv c) (sOf b0 b1 mv (1 - c))) := by
  unfold fX0_falseEyes
  rw [other_nI hc, h.wc hc, h.wc (c := 1 - c) (by omega), h.grid]
  show (fX2_falseAmong (gridOf n) (eyS n _ _) _).bind _ = _
  rw [(fE_ex h.okn _ _).1, Option.bind_some]
theorem trueEyes_eq (h : GR n rule mv ps pr c0 c1 w b0 b1 g f) {c : Nat} (hc : c < 2) : fX0_trueEyes w g (nI c) = some (eyX n (sOf b0 b1 mv c) (sOf b0 b1 mv (1 - c)) 2) := by
  unfold fX0_trueEyes bnd
  dsimp only
  rw [other_nI hc, h.wc hc, h.wc (c := 1 - c) (by omega), h.grid]
  show (fX2_falseAmong (gridOf n) (eyS n _ _) _).bind _ = _
  rw [(fE_ex h.okn _ _).1, Option.bind_some]
  rfl
theorem adj_ex (h : okN n) {k : Nat} (hk : k < n * n) : ∃ j, adj n k j := by
  by_cases c : k % n = 0
  · refine ⟨k + 1, hk, ?_, .inr (.inl ⟨rfl, ?_⟩)⟩
    · rcases h with h | h | h | h | h <;> subst h <;> omega
    · rcases h with h | h | h | h | h <;> subst h <;> omega
  · have : 1 ≤ k := by
      apply Decidable.byContradiction
      intro q
      rw [show k = 0 by omega, Nat.zero_mod] at c
      exact c rfl
    exact ⟨k - 1, hk, by omega, .inl ⟨by omega, c⟩⟩
theorem eye_one (h : okN n) {a b : Int64} (hd : a &&& b = 0) {k : Nat} (h1 : tb (eyS n a b) k = true) (h2 : tb (eyS n b a) k = true) : False := by
  rw [m_eyS h] at h1 h2
  have hk : k < n * n := (sbA h).mp fre_sb k h1.1
  obtain ⟨j, j1⟩ := adj_ex h hk
  have := (tb_arpt h hk).mpr (adj_comm.mp j1)
  exact m_and0.mp hd j (h1.2 j this) (h2.2 j this)
end EYEM
