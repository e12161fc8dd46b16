theorem b2i_dec {p : Prop} [inst : Decidable p] : b2i (decide p) = nI (if p then 1 else 0) := by
  by_cases h : p
  · rw [decide_eq_true h, if_pos h]
    rfl
  · rw [decide_eq_false h, if_neg h]
    rfl
section HOLD3
variable {s : OSt} {n rule mv ps pr c0 c1 : Nat} {u : Int32} {K : Int64 → Int64 → Int32 → Int32 → Int32 → Int32 → Int32 → Int32 → Int32 → Bool → Option Bool}
theorem low_k (h : NW s n rule mv ps pr c0 c1) {k c : Nat} (hk : k < n * n) (hc : c < 2) (q : tb (sOf (s.1 14).2.1 (s.1 14).2.2.1 mv c) k = true) :
    (tb (lowS n (sOf (s.1 14).2.1 (s.1 14).2.2.1 mv c)) k = true ↔ (cl n (sOf (s.1 14).2.1 (s.1 14).2.2.1 mv c) (pt k)) &&& (pt k - 1) = 0) ∧ (tb (oneS n (sOf (s.1 14).2.1 (s.1 14).2.2.1 mv c) (sOf (s.1 14).2.1 (s.1 14).2.2.1 mv (1 - c))) k = true ↔ (cl n (sOf (s.1 14).2.1 (s.1 14).2.2.1 mv c) (pt k)) &&& (pt k - 1) = 0 ∧ cn (fvO n ((s.1 14).2.1 mv ||| (s.1 14).2.2.1 mv) (cl n (sOf (s.1 14).2.1 (s.1 14).2.2.1 mv c) (pt k))) 49 = 1) ∧ ¬ tb (sOf (s.1 14).2.1 (s.1 14).2.2.1 mv (1 - c)) k = true := by
  have hsq := okN_sq h.okn
  have a1 : tb (lowS n (sOf (s.1 14).2.1 (s.1 14).2.2.1 mv c)) k = true ↔ (cl n (sOf (s.1 14).2.1 (s.1 14).2.2.1 mv c) (pt k)) &&& (pt k - 1) = 0 := by
    rw [m_lowS]
    exact ⟨fun z => z.2.2, fun z => ⟨by omega, q, z⟩⟩
  have a2 : lbs n (sOf (s.1 14).2.1 (s.1 14).2.2.1 mv c) (sOf (s.1 14).2.1 (s.1 14).2.2.1 mv (1 - c)) (cl n (sOf (s.1 14).2.1 (s.1 14).2.2.1 mv c) (pt k)) = (fvO n ((s.1 14).2.1 mv ||| (s.1 14).2.2.1 mv) (cl n (sOf (s.1 14).2.1 (s.1 14).2.2.1 mv c) (pt k))) := by
    unfold lbs fvO
    rw [sOf_or' hc]
  refine ⟨a1, ?_, fun r => m_and0.mp (h.pos hc).2.2.1 k q r⟩
  rw [m_oneS, a1, a2]
theorem holds_loop (h : NW s n rule mv ps pr c0 c1) : ∀ (d fu k : Nat), k + d = n * n → d + 1 ≤ fu →
    fL_holds_89 s (nI n) (nI (n * n)) ((s.1 14).2.1 mv) ((s.1 14).2.2.1 mv) u K fu (nI (cn (lowS n ((s.1 14).2.1 mv)) k + cn (lowS n ((s.1 14).2.2.1 mv)) k)) (nI (cn (oneS n ((s.1 14).2.1 mv) ((s.1 14).2.2.1 mv)) k + cn (oneS n ((s.1 14).2.2.1 mv) ((s.1 14).2.1 mv)) k)) (nI (chN n rule mv (s.1 14).2.1 (s.1 14).2.2.1 k)) (nI (cn (eyX n ((s.1 14).2.1 mv) ((s.1 14).2.2.1 mv) 2) k + cn (eyX n ((s.1 14).2.2.1 mv) ((s.1 14).2.1 mv) 2) k)) (nI (cn (fE n ((s.1 14).2.1 mv) ((s.1 14).2.2.1 mv)) k + cn (fE n ((s.1 14).2.2.1 mv) ((s.1 14).2.1 mv)) k)) (bst n rule mv (s.1 14).2.1 (s.1 14).2.2.1 k).1 (nI (bst n rule mv (s.1 14).2.1 (s.1 14).2.2.1 k).2) true (nI k) = K ((s.1 14).2.1 mv) ((s.1 14).2.2.1 mv) (nI (cn (lowS n ((s.1 14).2.1 mv)) (n * n) + cn (lowS n ((s.1 14).2.2.1 mv)) (n * n))) (nI (cn (oneS n ((s.1 14).2.1 mv) ((s.1 14).2.2.1 mv)) (n * n) + cn (oneS n ((s.1 14).2.2.1 mv) ((s.1 14).2.1 mv)) (n * n))) (nI (chN n rule mv (s.1 14).2.1 (s.1 14).2.2.1 (n * n))) (nI (cn (eyX n ((s.1 14).2.1 mv) ((s.1 14).2.2.1 mv) 2) (n * n) + cn (eyX n ((s.1 14).2.2.1 mv) ((s.1 14).2.1 mv) 2) (n * n))) (nI (cn (fE n ((s.1 14).2.1 mv) ((s.1 14).2.2.1 mv)) (n * n) + cn (fE n ((s.1 14).2.2.1 mv) ((s.1 14).2.1 mv)) (n * n))) (bst n rule mv (s.1 14).2.1 (s.1 14).2.2.1 (n * n)).1 u true := by
  have hsq := okN_sq h.okn
  intro d
  induction d with
  | zero =>
    intro fu k hk hf
    obtain ⟨fu, rfl⟩ : ∃ f, fu = f + 1 := ⟨fu - 1, by omega⟩
    have : k = n * n := by omega
    subst this
    unfold fL_holds_89
    rw [if_pos (nI_le (Nat.le_refl _) (by omega))]
  | succ d ih =>
    intro fu k hd hf
    obtain ⟨fu, rfl⟩ : ∃ f, fu = f + 1 := ⟨fu - 1, by omega⟩
    have hk : k < n * n := by omega
    have ih' := ih fu (k + 1) (by omega) (by omega)
    rw [nI_succ k] at ih'
    have hb49 := bst_le (n := n) (rule := rule) (mv := mv) (b0 := (s.1 14).2.1) (b1 := (s.1 14).2.2.1) k
    have eC : (chN n rule mv (s.1 14).2.1 (s.1 14).2.2.1 (k + 1)) = (chN n rule mv (s.1 14).2.1 (s.1 14).2.2.1 k) + (if whyS s n rule mv k = 0 then 1 else 0) := rfl
    have eB : (bst n rule mv (s.1 14).2.1 (s.1 14).2.2.1 (k + 1)) = if whyS s n rule mv k = 0 ∧ (bst n rule mv (s.1 14).2.1 (s.1 14).2.2.1 k).2 < cn (nT n (s.1 14).2.1 (s.1 14).2.2.1 mv k) 49 then (nI k, cn (nT n (s.1 14).2.1 (s.1 14).2.2.1 mv k) 49) else (bst n rule mv (s.1 14).2.1 (s.1 14).2.2.1 k) := rfl
    have hp0 : posOK n ((s.1 14).2.1 mv) ((s.1 14).2.2.1 mv) := h.pos (c := 0) (by omega)
    rcases stone_or h k with ⟨c, hc, q⟩ | q
    · have hw := st_why h hk hc q
      obtain ⟨l1, l2, l3⟩ := low_k h hk hc q
      obtain ⟨y0, y1, y2⟩ := st_noeye h hk hc q
      have n1 : ¬ tb (eyX n ((s.1 14).2.1 mv) ((s.1 14).2.2.1 mv) 2) k = true := fun z => y1 (m_eyX2.mp z).1
      have n2 : ¬ tb (eyX n ((s.1 14).2.2.1 mv) ((s.1 14).2.1 mv) 2) k = true := fun z => y2 (m_eyX2.mp z).1
      have n3 : ¬ tb (fE n ((s.1 14).2.1 mv) ((s.1 14).2.2.1 mv)) k = true := fun z => y1 (fE_eyS h.okn z)
      have n4 : ¬ tb (fE n ((s.1 14).2.2.1 mv) ((s.1 14).2.1 mv)) k = true := fun z => y2 (fE_eyS h.okn z)
      have m1 : ¬ tb (lowS n (sOf (s.1 14).2.1 (s.1 14).2.2.1 mv (1 - c))) k = true := fun z => l3 (lowS_sb k z)
      have m2 : ¬ tb (oneS n (sOf (s.1 14).2.1 (s.1 14).2.2.1 mv (1 - c)) (sOf (s.1 14).2.1 (s.1 14).2.2.1 mv c)) k = true := fun z => l3 (oneS_sb k z)
      rw [step_stone h hk hc q]
      have e1 : nI (cn (lowS n ((s.1 14).2.1 mv)) k + cn (lowS n ((s.1 14).2.2.1 mv)) k) + b2i (decide ((cl n (sOf (s.1 14).2.1 (s.1 14).2.2.1 mv c) (pt k)) &&& (pt k - 1) = 0)) = nI (cn (lowS n ((s.1 14).2.1 mv)) (k + 1) + cn (lowS n ((s.1 14).2.2.1 mv)) (k + 1)) := by
        rw [b2i_dec, nI_add, cn_next (lowS n ((s.1 14).2.1 mv)) k, cn_next (lowS n ((s.1 14).2.2.1 mv)) k]
        congr 1
        rcases (show c = 0 ∨ c = 1 by omega) with e | e
        · subst e
          have l1' : tb (lowS n ((s.1 14).2.1 mv)) k = true ↔ cl n (sOf (s.1 14).2.1 (s.1 14).2.2.1 mv 0) (pt k) &&& (pt k - 1) = 0 := l1
          have m1' : ¬ tb (lowS n ((s.1 14).2.2.1 mv)) k = true := m1
          rw [if_neg m1']
          simp only [l1']
          omega
        · subst e
          have l1' : tb (lowS n ((s.1 14).2.2.1 mv)) k = true ↔ cl n (sOf (s.1 14).2.1 (s.1 14).2.2.1 mv 1) (pt k) &&& (pt k - 1) = 0 := l1
          have m1' : ¬ tb (lowS n ((s.1 14).2.1 mv)) k = true := m1
          rw [if_neg m1']
          simp only [l1']
          omega
      have e2 : nI (cn (oneS n ((s.1 14).2.1 mv) ((s.1 14).2.2.1 mv)) k + cn (oneS n ((s.1 14).2.2.1 mv) ((s.1 14).2.1 mv)) k) + b2i (decide ((cl n (sOf (s.1 14).2.1 (s.1 14).2.2.1 mv c) (pt k)) &&& (pt k - 1) = 0) && decide (cn (fvO n ((s.1 14).2.1 mv ||| (s.1 14).2.2.1 mv) (cl n (sOf (s.1 14).2.1 (s.1 14).2.2.1 mv c) (pt k))) 49 = 1)) = nI (cn (oneS n ((s.1 14).2.1 mv) ((s.1 14).2.2.1 mv)) (k + 1) + cn (oneS n ((s.1 14).2.2.1 mv) ((s.1 14).2.1 mv)) (k + 1)) := by
        have : (decide ((cl n (sOf (s.1 14).2.1 (s.1 14).2.2.1 mv c) (pt k)) &&& (pt k - 1) = 0) && decide (cn (fvO n ((s.1 14).2.1 mv ||| (s.1 14).2.2.1 mv) (cl n (sOf (s.1 14).2.1 (s.1 14).2.2.1 mv c) (pt k))) 49 = 1)) = decide ((cl n (sOf (s.1 14).2.1 (s.1 14).2.2.1 mv c) (pt k)) &&& (pt k - 1) = 0 ∧ cn (fvO n ((s.1 14).2.1 mv ||| (s.1 14).2.2.1 mv) (cl n (sOf (s.1 14).2.1 (s.1 14).2.2.1 mv c) (pt k))) 49 = 1) := by
          rw [Bool.decide_and]
        rw [this, b2i_dec, nI_add, cn_next (oneS n ((s.1 14).2.1 mv) ((s.1 14).2.2.1 mv)) k, cn_next (oneS n ((s.1 14).2.2.1 mv) ((s.1 14).2.1 mv)) k]
        congr 1
        rcases (show c = 0 ∨ c = 1 by omega) with e | e
        · subst e
          have l2' : tb (oneS n ((s.1 14).2.1 mv) ((s.1 14).2.2.1 mv)) k = true ↔ cl n (sOf (s.1 14).2.1 (s.1 14).2.2.1 mv 0) (pt k) &&& (pt k - 1) = 0 ∧ cn (fvO n ((s.1 14).2.1 mv ||| (s.1 14).2.2.1 mv) (cl n (sOf (s.1 14).2.1 (s.1 14).2.2.1 mv 0) (pt k))) 49 = 1 := l2
          have m2' : ¬ tb (oneS n ((s.1 14).2.2.1 mv) ((s.1 14).2.1 mv)) k = true := m2
          rw [if_neg m2']
          simp only [l2']
          omega
        · subst e
          have l2' : tb (oneS n ((s.1 14).2.2.1 mv) ((s.1 14).2.1 mv)) k = true ↔ cl n (sOf (s.1 14).2.1 (s.1 14).2.2.1 mv 1) (pt k) &&& (pt k - 1) = 0 ∧ cn (fvO n ((s.1 14).2.1 mv ||| (s.1 14).2.2.1 mv) (cl n (sOf (s.1 14).2.1 (s.1 14).2.2.1 mv 1) (pt k))) 49 = 1 := l2
          have m2' : ¬ tb (oneS n ((s.1 14).2.1 mv) ((s.1 14).2.2.1 mv)) k = true := m2
          rw [if_neg m2']
          simp only [l2']
          omega
      have e3 : nI (chN n rule mv (s.1 14).2.1 (s.1 14).2.2.1 k) + b2i false = nI (chN n rule mv (s.1 14).2.1 (s.1 14).2.2.1 (k + 1)) := by
        rw [eC, if_neg (by omega)]
        exact nI_add _ 0
      have e4 : nI (cn (eyX n ((s.1 14).2.1 mv) ((s.1 14).2.2.1 mv) 2) k + cn (eyX n ((s.1 14).2.2.1 mv) ((s.1 14).2.1 mv) 2) k) = nI (cn (eyX n ((s.1 14).2.1 mv) ((s.1 14).2.2.1 mv) 2) (k + 1) + cn (eyX n ((s.1 14).2.2.1 mv) ((s.1 14).2.1 mv) 2) (k + 1)) := by
        rw [cn_next (eyX n ((s.1 14).2.1 mv) ((s.1 14).2.2.1 mv) 2) k, cn_next (eyX n ((s.1 14).2.2.1 mv) ((s.1 14).2.1 mv) 2) k, if_neg n1, if_neg n2]
        rfl
      have e5 : nI (cn (fE n ((s.1 14).2.1 mv) ((s.1 14).2.2.1 mv)) k + cn (fE n ((s.1 14).2.2.1 mv) ((s.1 14).2.1 mv)) k) = nI (cn (fE n ((s.1 14).2.1 mv) ((s.1 14).2.2.1 mv)) (k + 1) + cn (fE n ((s.1 14).2.2.1 mv) ((s.1 14).2.1 mv)) (k + 1)) := by
        rw [cn_next (fE n ((s.1 14).2.1 mv) ((s.1 14).2.2.1 mv)) k, cn_next (fE n ((s.1 14).2.2.1 mv) ((s.1 14).2.1 mv)) k, if_neg n3, if_neg n4]
        rfl
      have hm1 : (-1 : Int32) ≤ nI (bst n rule mv (s.1 14).2.1 (s.1 14).2.2.1 k).2 := by
        rw [Int32.le_iff_toInt_le, m1i, nI_toInt (by omega)]
        omega
      have e6 : (bst n rule mv (s.1 14).2.1 (s.1 14).2.2.1 (k + 1)) = (bst n rule mv (s.1 14).2.1 (s.1 14).2.2.1 k) := by rw [eB, if_neg (fun z => by have := z.1; omega)]
      rw [e1, e2, e3, e4, e5, if_pos hm1, if_pos hm1, ← e6]
      exact ih'
    · have m1 : ¬ tb (lowS n ((s.1 14).2.1 mv)) k = true := fun z => q (m_or.mpr (.inl (lowS_sb k z)))
      have m2 : ¬ tb (lowS n ((s.1 14).2.2.1 mv)) k = true := fun z => q (m_or.mpr (.inr (lowS_sb k z)))
      have m3 : ¬ tb (oneS n ((s.1 14).2.1 mv) ((s.1 14).2.2.1 mv)) k = true := fun z => q (m_or.mpr (.inl (oneS_sb k z)))
      have m4 : ¬ tb (oneS n ((s.1 14).2.2.1 mv) ((s.1 14).2.1 mv)) k = true := fun z => q (m_or.mpr (.inr (oneS_sb k z)))
      obtain ⟨s1, s2, -⟩ := eye_sum h.okn hp0.2.2.1 k
      rw [step_free h hk q]
      have e1 : nI (cn (lowS n ((s.1 14).2.1 mv)) k + cn (lowS n ((s.1 14).2.2.1 mv)) k) = nI (cn (lowS n ((s.1 14).2.1 mv)) (k + 1) + cn (lowS n ((s.1 14).2.2.1 mv)) (k + 1)) := by
        rw [cn_next (lowS n ((s.1 14).2.1 mv)) k, cn_next (lowS n ((s.1 14).2.2.1 mv)) k, if_neg m1, if_neg m2]
        rfl
      have e2 : nI (cn (oneS n ((s.1 14).2.1 mv) ((s.1 14).2.2.1 mv)) k + cn (oneS n ((s.1 14).2.2.1 mv) ((s.1 14).2.1 mv)) k) = nI (cn (oneS n ((s.1 14).2.1 mv) ((s.1 14).2.2.1 mv)) (k + 1) + cn (oneS n ((s.1 14).2.2.1 mv) ((s.1 14).2.1 mv)) (k + 1)) := by
        rw [cn_next (oneS n ((s.1 14).2.1 mv) ((s.1 14).2.2.1 mv)) k, cn_next (oneS n ((s.1 14).2.2.1 mv) ((s.1 14).2.1 mv)) k, if_neg m3, if_neg m4]
        rfl
      have e3 : nI (chN n rule mv (s.1 14).2.1 (s.1 14).2.2.1 k) + b2i (decide (whyS s n rule mv k = 0)) = nI (chN n rule mv (s.1 14).2.1 (s.1 14).2.2.1 (k + 1)) := by
        rw [b2i_dec, nI_add, eC]
      have e4 : nI (cn (eyX n ((s.1 14).2.1 mv) ((s.1 14).2.2.1 mv) 2) k + cn (eyX n ((s.1 14).2.2.1 mv) ((s.1 14).2.1 mv) 2) k) + b2i (decide (eyeE n ((s.1 14).2.1 mv) ((s.1 14).2.2.1 mv) k = 2)) = nI (cn (eyX n ((s.1 14).2.1 mv) ((s.1 14).2.2.1 mv) 2) (k + 1) + cn (eyX n ((s.1 14).2.2.1 mv) ((s.1 14).2.1 mv) 2) (k + 1)) := by
        rw [b2i_dec, nI_add, cn_next (eyX n ((s.1 14).2.1 mv) ((s.1 14).2.2.1 mv) 2) k, cn_next (eyX n ((s.1 14).2.2.1 mv) ((s.1 14).2.1 mv) 2) k, s1]
        congr 1
        omega
      have e5 : nI (cn (fE n ((s.1 14).2.1 mv) ((s.1 14).2.2.1 mv)) k + cn (fE n ((s.1 14).2.2.1 mv) ((s.1 14).2.1 mv)) k) + b2i (decide (eyeE n ((s.1 14).2.1 mv) ((s.1 14).2.2.1 mv) k = 1)) = nI (cn (fE n ((s.1 14).2.1 mv) ((s.1 14).2.2.1 mv)) (k + 1) + cn (fE n ((s.1 14).2.2.1 mv) ((s.1 14).2.1 mv)) (k + 1)) := by
        rw [b2i_dec, nI_add, cn_next (fE n ((s.1 14).2.1 mv) ((s.1 14).2.2.1 mv)) k, cn_next (fE n ((s.1 14).2.2.1 mv) ((s.1 14).2.1 mv)) k, s2]
        congr 1
        omega
      have hT := cn_le (nT n (s.1 14).2.1 (s.1 14).2.2.1 mv k) 49
      have e6 : ((if (if whyS s n rule mv k = 0 then nI (cn (nT n (s.1 14).2.1 (s.1 14).2.2.1 mv k) 49) else -1) ≤ nI (bst n rule mv (s.1 14).2.1 (s.1 14).2.2.1 k).2 then (bst n rule mv (s.1 14).2.1 (s.1 14).2.2.1 k).1 else nI k) = (bst n rule mv (s.1 14).2.1 (s.1 14).2.2.1 (k + 1)).1) ∧ ((if (if whyS s n rule mv k = 0 then nI (cn (nT n (s.1 14).2.1 (s.1 14).2.2.1 mv k) 49) else -1) ≤ nI (bst n rule mv (s.1 14).2.1 (s.1 14).2.2.1 k).2 then nI (bst n rule mv (s.1 14).2.1 (s.1 14).2.2.1 k).2 else (if whyS s n rule mv k = 0 then nI (cn (nT n (s.1 14).2.1 (s.1 14).2.2.1 mv k) 49) else -1)) = nI (bst n rule mv (s.1 14).2.1 (s.1 14).2.2.1 (k + 1)).2) := by
        by_cases z : whyS s n rule mv k = 0
        · rw [if_pos z]
          have e : nI (cn (nT n (s.1 14).2.1 (s.1 14).2.2.1 mv k) 49) ≤ nI (bst n rule mv (s.1 14).2.1 (s.1 14).2.2.1 k).2 ↔ cn (nT n (s.1 14).2.1 (s.1 14).2.2.1 mv k) 49 ≤ (bst n rule mv (s.1 14).2.1 (s.1 14).2.2.1 k).2 := nI_le_iff (by omega) (by omega)
          by_cases y : (bst n rule mv (s.1 14).2.1 (s.1 14).2.2.1 k).2 < cn (nT n (s.1 14).2.1 (s.1 14).2.2.1 mv k) 49
          · rw [if_neg (fun x => by have := e.mp x; omega), if_neg (fun x => by have := e.mp x; omega), eB, if_pos ⟨z, y⟩]
            exact ⟨rfl, rfl⟩
          · rw [if_pos (e.mpr (by omega)), if_pos (e.mpr (by omega)), eB, if_neg (fun x => y x.2)]
            exact ⟨rfl, rfl⟩
        · have hm1 : (-1 : Int32) ≤ nI (bst n rule mv (s.1 14).2.1 (s.1 14).2.2.1 k).2 := by
            rw [Int32.le_iff_toInt_le, m1i, nI_toInt (by omega)]
            omega
          rw [if_neg z, if_pos hm1, if_pos hm1, eB, if_neg (fun x => z x.1)]
          exact ⟨rfl, rfl⟩
      rw [e3, e4, e5, e6.1, e6.2, e1, e2]
      exact ih'
theorem area_loop0 (h : NW s n rule mv ps pr c0 c1) {K2 : Int32 → Int32 → Int32 → Int32 → Int32 → Int32 → Int32 → Bool → Option Bool} {a1 a2 a3 a4 a5 a6 : Int32} :
    fL_holds_734 s ((s.1 14).2.1 mv) ((s.1 14).2.2.1 mv) a1 a2 a3 a4 a5 a6 K2 60 (nI (cn ((s.1 14).2.1 mv) 49) - nI (cn ((s.1 14).2.2.1 mv) 49)) true 0 = K2 a1 a2 a3 a4 a5 a6 (nI (arN n ((s.1 14).2.1 mv) ((s.1 14).2.2.1 mv)) - nI (arN n ((s.1 14).2.2.1 mv) ((s.1 14).2.1 mv))) true := by
  have hp : posOK n ((s.1 14).2.1 mv) ((s.1 14).2.2.1 mv) := h.pos (c := 0) (by omega)
  have hZ : fL_count ((s.1 14).2.1 mv) = some (nI (cn ((s.1 14).2.1 mv) 49)) := count49 h.okn hp.1
  have hO : fL_count ((s.1 14).2.2.1 mv) = some (nI (cn ((s.1 14).2.2.1 mv) 49)) := count49 h.okn hp.2.1
  have l1 := cn_le ((s.1 14).2.1 mv) 49
  have l2 := cn_le ((s.1 14).2.2.1 mv) 49
  have g1 : gN n ((s.1 14).2.1 mv) ≤ cn ((s.1 14).2.1 mv) 49 := by
    rw [gN_low h.okn hp.1]
    exact cn_mono lowS_sb 49
  have g2 : gN n ((s.1 14).2.2.1 mv) ≤ cn ((s.1 14).2.2.1 mv) 49 := by
    rw [gN_low h.okn hp.2.1]
    exact cn_mono lowS_sb 49
  have A0 : fL_call_3 s 0 0 0 = some (nI (cn ((s.1 14).2.1 mv) 49)) := colour_0 (b := 0) h (c := 0) (by omega)
  have A1 : fL_call_3 s 1 0 0 = some (nI (cn ((s.1 14).2.2.1 mv) 49)) := colour_0 (b := 0) h (c := 1) (by omega)
  have B0 : fL_call_3 s 0 2 0 = some (nI (arN n ((s.1 14).2.1 mv) ((s.1 14).2.2.1 mv))) := colour_2 (b := 0) h (c := 0) (by omega)
  have B1 : fL_call_3 s 1 2 0 = some (nI (arN n ((s.1 14).2.2.1 mv) ((s.1 14).2.1 mv))) := colour_2 (b := 0) h (c := 1) (by omega)
  have C0 : fL_call_3 s 0 5 0 = some (nI (gN n ((s.1 14).2.1 mv))) := colour_5 (b := 0) h (c := 0) (by omega)
  have C1 : fL_call_3 s 1 5 0 = some (nI (gN n ((s.1 14).2.2.1 mv))) := colour_5 (b := 0) h (c := 1) (by omega)
  have ln1 : arN n ((s.1 14).2.1 mv) ((s.1 14).2.2.1 mv) ≤ 98 := by
    have := cn_le (enc n ((s.1 14).2.1 mv) ((s.1 14).2.2.1 mv)) 49
    unfold arN
    omega
  have ln2 : arN n ((s.1 14).2.2.1 mv) ((s.1 14).2.1 mv) ≤ 98 := by
    have := cn_le (enc n ((s.1 14).2.2.1 mv) ((s.1 14).2.1 mv)) 49
    unfold arN
    omega
  have lt0 : ¬ nI (arN n ((s.1 14).2.1 mv) ((s.1 14).2.2.1 mv)) < nI (cn ((s.1 14).2.1 mv) 49) := fun z => by
    have := (nI_lt_iff (by omega) (by omega)).mp z
    unfold arN at this
    omega
  have lt1 : ¬ nI (arN n ((s.1 14).2.2.1 mv) ((s.1 14).2.1 mv)) < nI (cn ((s.1 14).2.2.1 mv) 49) := fun z => by
    have := (nI_lt_iff (by omega) (by omega)).mp z
    unfold arN at this
    omega
  have gt0 : ¬ nI (cn ((s.1 14).2.1 mv) 49) < nI (gN n ((s.1 14).2.1 mv)) := fun z => by
    have := (nI_lt_iff (by omega) (by omega)).mp z
    omega
  have gt1 : ¬ nI (cn ((s.1 14).2.2.1 mv) 49) < nI (gN n ((s.1 14).2.2.1 mv)) := fun z => by
    have := (nI_lt_iff (by omega) (by omega)).mp z
    omega
  have e0 : (0 : Int32) + 1 = 1 := by decide
  have e1 : (1 : Int32) + 1 = 2 := by decide
  rw [show (60 : Nat) = 57 + 1 + 1 + 1 from rfl]
  unfold fL_holds_734
  rw [if_neg (show ¬ (2 : Int32) ≤ 0 by decide), if_pos rfl]
  refine bnd_elim (fun k89 hk89 => ?_)
  rw [if_pos rfl, B0, Option.bind_some, hZ, Option.bind_some, hk89]
  dsimp only
  rw [A0, Option.bind_some]
  refine bnd_elim (fun k94 hk94 => ?_)
  rw [if_pos rfl, hk94]
  dsimp only
  rw [hZ, Option.bind_some]
  refine bnd_elim (fun k96 hk96 => ?_)
  rw [if_pos rfl, B0, Option.bind_some, Option.bind_some, if_neg lt0, C0, Option.bind_some, Option.bind_some, if_neg gt0, hk96, e0]
  dsimp only
  unfold fL_holds_734
  rw [if_neg (show ¬ (2 : Int32) ≤ 1 by decide), if_pos rfl]
  refine bnd_elim (fun k89 hk89 => ?_)
  rw [if_neg (show ¬ (1 : Int32) = 0 by decide), hO, Option.bind_some, B1, Option.bind_some, hk89]
  dsimp only
  rw [A1, Option.bind_some]
  refine bnd_elim (fun k94 hk94 => ?_)
  rw [if_neg (show ¬ (1 : Int32) = 0 by decide), hk94]
  dsimp only
  rw [hO, Option.bind_some]
  refine bnd_elim (fun k96 hk96 => ?_)
  rw [if_pos rfl, B1, Option.bind_some, Option.bind_some, if_neg lt1, C1, Option.bind_some, Option.bind_some, if_neg gt1, hk96, e1]
  dsimp only
  unfold fL_holds_734
  rw [if_pos (show (2 : Int32) ≤ 2 by decide)]
  congr 1
  generalize nI (cn ((s.1 14).2.1 mv) 49) = z
  generalize nI (cn ((s.1 14).2.2.1 mv) 49) = o
  generalize nI (arN n ((s.1 14).2.1 mv) ((s.1 14).2.2.1 mv)) = a
  generalize nI (arN n ((s.1 14).2.2.1 mv) ((s.1 14).2.1 mv)) = b
  refine Int32.toBitVec_inj.mp ?_
  simp only [Int32.toBitVec_add, Int32.toBitVec_sub]
  generalize z.toBitVec = z'
  generalize o.toBitVec = o'
  generalize a.toBitVec = a'
  generalize b.toBitVec = b'
  simp only [BitVec.sub_eq_add_neg]
  rw [show z' + -o' + (a' + -z') + (o' + -b') = a' + -b' + ((z' + -z') + (o' + -o')) by ac_rfl, BitVec.add_right_neg, BitVec.add_right_neg]
  simp
end HOLD3
