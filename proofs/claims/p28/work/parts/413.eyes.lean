section EYES
variable {n rule mv ps pr c0 c1 : Nat} {w : GSt} {b0 b1 : Nat → Int64} {g : RSt}
def eyS (n : Nat) (a b : Int64) : Int64 := fX2_eyes (gridOf n) a b
theorem tb_arpt {k i : Nat} (h : okN n) (hk : k < n * n) : tb (ar n (pt k)) i = true ↔ adj n i k := by
  have hk64 : k < 64 := by have := (okN_sq h).2; omega
  rw [tb_ar h (pt_mA h hk)]
  constructor
  · intro ⟨j, j1, j2⟩
    rw [m_pt hk64] at j2
    subst j2
    exact j1
  · intro q
    exact ⟨k, q, pt_self hk64⟩
theorem m_eyS {a b : Int64} {k : Nat} (h : okN n) : tb (eyS n a b) k = true ↔ tb (fre n (a ||| b)) k = true ∧ sb (ar n (pt k)) a := by
  have e : eyS n a b = fre n (a ||| b) &&& (ar n (fre n a) ^^^ (-1)) := rfl
  rw [e, m_dif]
  constructor
  · intro ⟨q1, q2⟩
    have hk : k < n * n := (sbA h).mp fre_sb k q1
    refine ⟨q1, ?_⟩
    intro i hi
    rw [tb_arpt h hk] at hi
    apply Classical.byContradiction
    intro r
    apply q2
    rw [tb_ar h fre_sb]
    exact ⟨i, adj_comm.mp hi, m_fre.mpr ⟨by rw [tb_mA h]; exact decide_eq_true hi.1, r⟩⟩
  · intro ⟨q1, q2⟩
    have hk : k < n * n := (sbA h).mp fre_sb k q1
    refine ⟨q1, ?_⟩
    intro r
    rw [tb_ar h fre_sb] at r
    obtain ⟨j, j1, j2⟩ := r
    rw [m_fre] at j2
    exact j2.2 (q2 j ((tb_arpt h hk).mpr (adj_comm.mp j1)))
def xs (n k : Nat) : Int64 := fX2_across (gridOf n) (pt k)
theorem xs_sb {k : Nat} (h : okN n) : sb (xs n k) (mA n) := by
  intro i hi
  unfold xs fX2_across bnd at hi
  dsimp only at hi
  rw [m_or, m_and, m_and, tb_nF h, tb_nL h, decide_eq_true_eq, decide_eq_true_eq] at hi
  rw [tb_mA h, decide_eq_true_eq]
  rcases hi with hi | hi
  · exact hi.2.1
  · exact hi.2.1
/-- is the eye k false -/
def isF (n : Nat) (b : Int64) (k : Nat) : Prop := if 4 ≤ cn (xs n k) 49 then 2 ≤ cn (xs n k &&& b) 49 else 1 ≤ cn (xs n k &&& b) 49
theorem tb_xlow {x : Int64} {e i : Nat} (he : e < 64) (hx : tb x e = true) : tb (x ^^^ pt e) i = true ↔ tb x i = true ∧ ¬ i = e := by
  rw [tb_xor, tb_pt he]
  by_cases c : i = e
  · subst c
    simp [hx]
  · simp [c]
theorem false_loop (h : okN n) {b ey : Int64} : ∀ (d fu k : Nat) (acc x : Int64), k + d = 49 → d + 1 ≤ fu → sb x (mA n) → cn x 49 ≤ d →
    ∃ F, fX2_falseAmong_9 (gridOf n) ey b fu acc x (nI k) = some F ∧ ∀ i, tb F i = true ↔ tb acc i = true ∨ (tb x i = true ∧ isF n b i) := by
  intro d
  induction d with
  | zero =>
    intro fu k acc x hk hf hx hc
    obtain ⟨fu, rfl⟩ : ∃ f, fu = f + 1 := ⟨fu - 1, by omega⟩
    have x0 : x = 0 := by
      apply Classical.byContradiction
      intro q
      have := cn_pos h hx q
      omega
    refine ⟨acc, ?_, ?_⟩
    · unfold fX2_falseAmong_9
      rw [show k = 49 by omega, if_pos (show (49 : Int32) ≤ nI 49 by decide)]
    · intro i
      rw [x0, tb_zero]
      constructor
      · exact .inl
      · rintro (q | q)
        · exact q
        · cases q.1
  | succ d ih =>
    intro fu k acc x hk hf hx hc
    obtain ⟨fu, rfl⟩ : ∃ f, fu = f + 1 := ⟨fu - 1, by omega⟩
    by_cases x0 : x = 0
    · refine ⟨acc, ?_, ?_⟩
      · unfold fX2_falseAmong_9
        rw [if_neg (show ¬ (49 : Int32) ≤ nI k from nI_ge (b := 49) (by omega) (by decide)), if_pos x0]
      · intro i
        rw [x0, tb_zero]
        constructor
        · exact .inl
        · rintro (q | q)
          · exact q
          · cases q.1
    · obtain ⟨e, e1, e2, e3, e4, e5⟩ := low_ex h (sb_refl _) hx x0
      have hx' : sb (x ^^^ pt e) (mA n) := by
        intro i hi
        rw [tb_xlow e2 e3] at hi
        exact hx i hi.1
      have hc' : cn (x ^^^ pt e) 49 ≤ d := by
        have h1 : sb (x ^^^ pt e) x := by
          intro i hi
          rw [tb_xlow e2 e3] at hi
          exact hi.1
        have h2 : tb (x ^^^ pt e) e = false := by
          cases q : tb (x ^^^ pt e) e with
          | false => rfl
          | true =>
            rw [tb_xlow e2 e3] at q
            exact absurd rfl q.2
        have := okN_sq h
        have := cn_strict h1 e3 h2 49 (by omega)
        omega
      have hxs : sb (xs n e &&& b) (mA n) := sb_trans (sb_andl _ _) (xs_sb h)
      have l1 : cn (xs n e) 49 ≤ 49 := cn_le _ _
      have l2 : cn (xs n e &&& b) 49 ≤ 49 := cn_le _ _
      have hstep : ∀ (acc' : Int64), (∀ i, tb acc' i = true ↔ tb acc i = true ∨ (i = e ∧ isF n b i)) → ∃ F, fX2_falseAmong_9 (gridOf n) ey b fu acc' (x ^^^ pt e) (nI k + 1) = some F ∧ ∀ i, tb F i = true ↔ tb acc i = true ∨ (tb x i = true ∧ isF n b i) := by
        intro acc' ha
        obtain ⟨F, F1, F2⟩ := ih fu (k + 1) acc' (x ^^^ pt e) (by omega) (by omega) hx' hc'
        rw [nI_succ] at F1
        refine ⟨F, F1, ?_⟩
        intro i
        rw [F2 i, ha i, tb_xlow e2 e3]
        constructor
        · rintro ((q | ⟨q, r⟩) | ⟨⟨q, s⟩, r⟩)
          · exact .inl q
          · subst q
            exact .inr ⟨e3, r⟩
          · exact .inr ⟨q, r⟩
        · rintro (q | ⟨q, r⟩)
          · exact .inl (.inl q)
          · by_cases c : i = e
            · exact .inl (.inr ⟨c, r⟩)
            · exact .inr ⟨⟨q, c⟩, r⟩
      have hno : ¬ isF n b e → ∀ i, tb acc i = true ↔ tb acc i = true ∨ (i = e ∧ isF n b i) := by
        intro q i
        constructor
        · exact .inl
        · rintro (r | ⟨r, s⟩)
          · exact r
          · subst r
            exact absurd s q
      have hyes : isF n b e → ∀ i, tb (acc ||| pt e) i = true ↔ tb acc i = true ∨ (i = e ∧ isF n b i) := by
        intro q i
        rw [m_or, m_pt e2]
        constructor
        · rintro (r | r)
          · exact .inl r
          · subst r
            exact .inr ⟨rfl, q⟩
        · rintro (r | ⟨r, s⟩)
          · exact .inl r
          · exact .inr r
      unfold fX2_falseAmong_9 bnd
      dsimp only
      rw [if_neg (show ¬ (49 : Int32) ≤ nI k from nI_ge (b := 49) (by omega) (by decide)), if_neg x0, low_eq, e5]
      rw [show fX2_across (gridOf n) (pt e) = xs n e from rfl, bc49 h (xs_sb h), bc49 h hxs]
      have i4 : (4 : Int32) ≤ nI (cn (xs n e) 49) ↔ 4 ≤ cn (xs n e) 49 :=
        ⟨fun q => Classical.byContradiction fun r => nI_ge (b := 4) (by omega) (by decide) q, fun q => nI_le (a := 4) q (by omega)⟩
      have i2 : nI (cn (xs n e &&& b) 49) < 2 ↔ cn (xs n e &&& b) 49 < 2 :=
        ⟨fun q => Classical.byContradiction fun r => nI_nlt (b := 2) (by omega) (by omega) q, fun q => nI_lt (b := 2) q (by decide)⟩
      have i1 : nI (cn (xs n e &&& b) 49) < 1 ↔ cn (xs n e &&& b) 49 < 1 :=
        ⟨fun q => Classical.byContradiction fun r => nI_nlt (b := 1) (by omega) (by omega) q, fun q => nI_lt (b := 1) q (by decide)⟩
      by_cases q4 : 4 ≤ cn (xs n e) 49
      · rw [if_pos (i4.mpr q4)]
        by_cases q2 : cn (xs n e &&& b) 49 < 2
        · rw [if_pos (i2.mpr q2)]
          exact hstep acc (hno (by unfold isF; rw [if_pos q4]; omega))
        · rw [if_neg (fun r => q2 (i2.mp r))]
          exact hstep _ (hyes (by unfold isF; rw [if_pos q4]; omega))
      · rw [if_neg (fun r => q4 (i4.mp r))]
        by_cases q2 : cn (xs n e &&& b) 49 < 1
        · rw [if_pos (i1.mpr q2)]
          exact hstep acc (hno (by unfold isF; rw [if_neg q4]; omega))
        · rw [if_neg (fun r => q2 (i1.mp r))]
          exact hstep _ (hyes (by unfold isF; rw [if_neg q4]; omega))
/-- the false eyes -/
def fE (n : Nat) (a b : Int64) : Int64 := match fX2_falseAmong (gridOf n) (eyS n a b) b with
  | some x => x
  | none => 0
theorem eyS_sb {a b : Int64} (h : okN n) : sb (eyS n a b) (mA n) := fun i q => fre_sb i ((m_eyS h).mp q).1
theorem fE_ex (h : okN n) (a b : Int64) : fX2_falseAmong (gridOf n) (eyS n a b) b = some (fE n a b) ∧ ∀ i, tb (fE n a b) i = true ↔ tb (eyS n a b) i = true ∧ isF n b i := by
  obtain ⟨F, F1, F2⟩ := false_loop h (ey := eyS n a b) (b := b) 49 5000 0 0 (eyS n a b) rfl (by omega) (eyS_sb h) (cn_le _ _)
  have e : fX2_falseAmong (gridOf n) (eyS n a b) b = some F := F1
  have e2 : fE n a b = F := by unfold fE; rw [e]
  rw [e2]
  refine ⟨e, ?_⟩
  intro i
  rw [F2 i, tb_zero]
  constructor
  · rintro (q | q)
    · cases q
    · exact q
  · exact .inr
end EYES
