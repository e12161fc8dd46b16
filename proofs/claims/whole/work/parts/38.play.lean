theorem updL_at (f : Nat → Int64) (k : Nat) (x : Int64) : vp_updL f k x k = x := by unfold vp_updL; rw [if_pos rfl]
theorem updL_ne {f : Nat → Int64} {k j : Nat} {x : Int64} (h : ¬ j = k) : vp_updL f k x j = f j := by unfold vp_updL; rw [if_neg h]
theorem nL_sub {a b : Nat} (h : b ≤ a) : nL a - nL b = nL (a - b) := by
  have : nL a = nL (a - b) + nL b := by rw [nL_add]; congr 1; omega
  rw [this, Int64.add_sub_cancel]
section PLAY
variable {n rule mv ps pr c0 c1 k : Nat} {w : GSt} {b0 b1 : Nat → Int64} {g : RSt} {f : Nat → Int64}
theorem keep_eq {w : GSt} {m : Nat} (b0 b1 : Nat → Int64) (hw : w.2.1 = nI m) (hm : m ≤ 120) : fX0_keepPosition w b0 b1 = some (vp_updL b0 m w.2.2.2.2.1, vp_updL b1 m w.2.2.2.2.2.1) := by
  have h121 : ¬ (121 : Int32) ≤ nI m := nI_ge (a := m) (b := 121) (by omega) (by decide)
  unfold fX0_keepPosition
  rw [hw, if_neg (nI_pos (by omega)), if_neg h121, if_neg h121, if_pos (inB_nI (by omega) (by decide)), if_pos (inB_nI (by omega) (by decide)), nI_clamp (by omega)]
theorem comes_eq {t mv : Nat} (p q : Int64) (h2 : f 2 = nL t) (ht : t < 2) (h3 : f 3 = nL mv) (hm : mv < 120) :
    ∃ f', fX8_comes f p q = some f' ∧ f' 2 = nL (1 - t) ∧ f' 3 = nL (mv + 1) ∧ f' (8 + 2 * (mv + 1)) = p ∧ f' (9 + 2 * (mv + 1)) = q ∧ ∀ j, ¬ j = 2 → ¬ j = 3 → ¬ j = 8 + 2 * (mv + 1) → ¬ j = 9 + 2 * (mv + 1) → f' j = f j := by
  have e1 : f 3 + 1 = nL (mv + 1) := by rw [h3, show (1 : Int64) = nL 1 from rfl, nL_add]
  have e2 : (8 : Int32) + 2 * nI (mv + 1) = nI (8 + 2 * (mv + 1)) := by
    rw [show (8 : Int32) = nI 8 from rfl, show (2 : Int32) = nI 2 from rfl, nI_mul, nI_add]
  have e3 : ((8 : Int32) + 2 * nI (mv + 1)) + 1 = nI (9 + 2 * (mv + 1)) := by
    rw [e2, show (1 : Int32) = nI 1 from rfl, nI_add]
    congr 1
    omega
  have m1 : fX8_moves (vp_updL f 3 (nL (mv + 1))) = some (nI (mv + 1)) := moves_eq (updL_at f 3 _)
  have m2 : fX8_moves (vp_updL (vp_updL f 3 (nL (mv + 1))) (8 + 2 * (mv + 1)) p) = some (nI (mv + 1)) := moves_eq (by rw [updL_ne (by omega), updL_at])
  refine ⟨vp_updL (vp_updL (vp_updL (vp_updL f 3 (nL (mv + 1))) (8 + 2 * (mv + 1)) p) (9 + 2 * (mv + 1)) q) 2 (nL (1 - t)), ?_, ?_, ?_, ?_, ?_, ?_⟩
  · unfold fX8_comes
    rw [if_pos (by decide), if_pos (by decide), c3n, e1, m1, Option.bind_some, e2, if_pos (inB_nI (by omega) (by decide)), nI_clamp (by omega), m2, Option.bind_some, e3, if_pos (inB_nI (by omega) (by decide)), if_pos (by decide), if_pos (by decide), nI_clamp (by omega), c2n]
    rw [updL_ne (by omega), updL_ne (by omega), updL_ne (by omega), h2, show (1 : Int64) = nL 1 from rfl, nL_sub (by omega)]
  · rw [updL_at]
  · rw [updL_ne (by omega), updL_ne (by omega), updL_ne (by omega), updL_at]
  · rw [updL_ne (by omega), updL_ne (by omega), updL_at]
  · rw [updL_ne (by omega), updL_at]
  · intro j j2 j3 j8 j9
    rw [updL_ne j2, updL_ne j9, updL_ne j8, updL_ne j3]
theorem play_GR (h : GR n rule mv ps pr c0 c1 w b0 b1 g f) (hk : k < n * n) (hc : ¬ tb (b0 mv ||| b1 mv) k = true) (hf : ¬ nF n b0 b1 mv k = 0) (hmv : mv < 120) {y : MSt} (y1 : y.2.2.2.1 = nA b0 b1 mv k) (y2 : y.2.2.2.2.1 = nB n b0 b1 mv k) (y3 : y.2.2.2.2.2.1 = nI (cn (nT n b0 b1 mv k) 49)) :
    ∃ c0' c1' w' b0' b1' f', fX0_lay w b0 b1 g (nI k) = some (nI (cn (nT n b0 b1 mv k) 49), w', b0', b1') ∧ fX8_playOn y f = some (nI (cn (nT n b0 b1 mv k) 49), f') ∧ GR n rule (mv + 1) ps 0 c0' c1' w' b0' b1' g f' := by
  have hnp := new_pos h hk hc hf
  have ht := h.turn
  have h2 : mv % 2 < 2 := by omega
  have hp := h.pos h2
  have hw1 := h.wc h2
  have hw2 := h.wc (c := 1 - mv % 2) (by omega)
  obtain ⟨hn, hg, hr, hm, hps, hpr, hc0, hc1, hw, f0, f1, f2, f3, f4, f5, f6, f7, hb, hpp⟩ := h
  have hk64 : k < 64 := by have := (okN_sq hn).2; omega
  have hA : sb (nA b0 b1 mv k) (mA n) := sb_or hp.1 (pt_mA hn hk)
  have hT : sb (nT n b0 b1 mv k) (mA n) := sb_trans (sb_andl _ _) hp.2.1
  have hcn : cn (nT n b0 b1 mv k) 49 ≤ 49 := cn_le _ _
  have htk := taken_eq (a := sOf b0 b1 mv (mv % 2)) (p := pt k) hn hp.2.1
  have hbc := bc49 hn hT
  have e5 : ∀ t, t < 2 → (5 : Int32) + nI t = nI (5 + t) := by
    intro t _
    rw [show (5 : Int32) = nI 5 from rfl, nI_add]
  have hL : (nI (cn (nT n b0 b1 mv k) 49)).toInt64 = nL (cn (nT n b0 b1 mv k) 49) := nI_L (by omega)
  have hi1 : nI mv + 1 = nI (mv + 1) := (nI_succ mv).symm
  rcases (show mv % 2 = 0 ∨ mv % 2 = 1 by omega) with e | e
  · have p0 : nP0 n b0 b1 mv k = nA b0 b1 mv k := by unfold nP0; rw [if_pos e]
    have p1 : nP1 n b0 b1 mv k = nB n b0 b1 mv k := by unfold nP1; rw [if_pos e]
    rw [p0, p1] at hnp
    have g2 : (vp_updL (vp_updL f 5 (f 5 + nL (cn (nT n b0 b1 mv k) 49))) 7 0) 2 = nL (mv % 2) := by
      rw [updL_ne (by omega), updL_ne (by omega), f2]
    have g3 : (vp_updL (vp_updL f 5 (f 5 + nL (cn (nT n b0 b1 mv k) 49))) 7 0) 3 = nL mv := by
      rw [updL_ne (by omega), updL_ne (by omega), f3]
    obtain ⟨f', F1, F2, F3, F4, F5, F6⟩ := comes_eq (nA b0 b1 mv k) (nB n b0 b1 mv k) g2 h2 g3 hmv
    refine ⟨c0 + cn (nT n b0 b1 mv k) 49, c1, (nI rule, nI (mv + 1), nI ps, nI 0, nA b0 b1 mv k, nB n b0 b1 mv k, nI (c0 + cn (nT n b0 b1 mv k) 49), nI c1), vp_updL b0 (mv + 1) (nA b0 b1 mv k), vp_updL b1 (mv + 1) (nB n b0 b1 mv k), f', ?_, ?_, ?_⟩
    · unfold fX0_lay
      rw [ht.1, other_nI h2, hw1, hw2, shl_pt, hg, htk, Option.bind_some, if_pos (show nI (mv % 2) = 0 by rw [e]; rfl)]
      rw [keep_eq (m := mv + 1) b0 b1 (by rw [hw]; exact hi1) (by omega), Option.bind_some]
      rw [hw]
      show some (fJ13_bitCount_95d88 (nT n b0 b1 mv k), (nI rule, nI mv + 1, nI ps, 0, b0 mv ||| pt k, b1 mv &&& (nT n b0 b1 mv k ^^^ (-1)), nI c0 + fJ13_bitCount_95d88 (nT n b0 b1 mv k), nI c1), vp_updL b0 (mv + 1) (b0 mv ||| pt k), vp_updL b1 (mv + 1) (b1 mv &&& (nT n b0 b1 mv k ^^^ (-1)))) = _
      rw [hbc, hi1, nI_add]
      have ea : b0 mv ||| pt k = nA b0 b1 mv k := by
        unfold nA sOf
        rw [if_pos e]
      have eb : b1 mv &&& (nT n b0 b1 mv k ^^^ (-1)) = nB n b0 b1 mv k := by
        unfold nB sOf
        rw [if_neg (by omega)]
      rw [ea, eb]
      rfl
    · unfold fX8_playOn
      rw [ht.2, Option.bind_some, if_pos (show nI (mv % 2) = 0 by rw [e]; rfl), if_pos (show nI (mv % 2) = 0 by rw [e]; rfl), e5 _ h2, if_pos (inB_nI (by omega) (by decide)), if_pos (inB_nI (by omega) (by decide)), if_pos (by decide), nI_clamp (by omega), c7n, y1, y2, y3, hL, e]
      rw [show 5 + 0 = 5 from rfl, F1]
      rfl
    · refine ⟨hn, hg, hr, by omega, by omega, by omega, by omega, by omega, ?_, ?_, ?_, ?_, ?_, ?_, ?_, ?_, ?_, ?_, ?_⟩
      · rw [updL_at, updL_at]
      · rw [F6 0 (by omega) (by omega) (by omega) (by omega), updL_ne (by omega), updL_ne (by omega), f0]
      · rw [F6 1 (by omega) (by omega) (by omega) (by omega), updL_ne (by omega), updL_ne (by omega), f1]
      · rw [F2]; congr 1; omega
      · rw [F3]
      · rw [F6 4 (by omega) (by omega) (by omega) (by omega), updL_ne (by omega), updL_ne (by omega), f4]
      · rw [F6 5 (by omega) (by omega) (by omega) (by omega), updL_ne (by omega), updL_at, f5, nL_add]
      · rw [F6 6 (by omega) (by omega) (by omega) (by omega), updL_ne (by omega), updL_ne (by omega), f6]
      · rw [F6 7 (by omega) (by omega) (by omega) (by omega), updL_at]; rfl
      · intro i hi
        by_cases c : i = mv + 1
        · subst c
          rw [updL_at, updL_at, F4, F5]
          exact ⟨rfl, rfl⟩
        · rw [updL_ne c, updL_ne c, F6 _ (by omega) (by omega) (by omega) (by omega), F6 _ (by omega) (by omega) (by omega) (by omega), updL_ne (by omega), updL_ne (by omega), updL_ne (by omega), updL_ne (by omega)]
          exact hb i (by omega)
      · rw [updL_at, updL_at]
        exact hnp
  · have e' : ¬ mv % 2 = 0 := by omega
    have p0 : nP0 n b0 b1 mv k = nB n b0 b1 mv k := by unfold nP0; rw [if_neg e']
    have p1 : nP1 n b0 b1 mv k = nA b0 b1 mv k := by unfold nP1; rw [if_neg e']
    rw [p0, p1] at hnp
    have g2 : (vp_updL (vp_updL f 6 (f 6 + nL (cn (nT n b0 b1 mv k) 49))) 7 0) 2 = nL (mv % 2) := by
      rw [updL_ne (by omega), updL_ne (by omega), f2]
    have g3 : (vp_updL (vp_updL f 6 (f 6 + nL (cn (nT n b0 b1 mv k) 49))) 7 0) 3 = nL mv := by
      rw [updL_ne (by omega), updL_ne (by omega), f3]
    obtain ⟨f', F1, F2, F3, F4, F5, F6⟩ := comes_eq (nB n b0 b1 mv k) (nA b0 b1 mv k) g2 h2 g3 hmv
    refine ⟨c0, c1 + cn (nT n b0 b1 mv k) 49, (nI rule, nI (mv + 1), nI ps, nI 0, nB n b0 b1 mv k, nA b0 b1 mv k, nI c0, nI (c1 + cn (nT n b0 b1 mv k) 49)), vp_updL b0 (mv + 1) (nB n b0 b1 mv k), vp_updL b1 (mv + 1) (nA b0 b1 mv k), f', ?_, ?_, ?_⟩
    · unfold fX0_lay
      rw [ht.1, other_nI h2, hw1, hw2, shl_pt, hg, htk, Option.bind_some, if_neg (show ¬ nI (mv % 2) = 0 by rw [e]; decide)]
      rw [keep_eq (m := mv + 1) b0 b1 (by rw [hw]; exact hi1) (by omega), Option.bind_some]
      rw [hw]
      show some (fJ13_bitCount_95d88 (nT n b0 b1 mv k), (nI rule, nI mv + 1, nI ps, 0, b0 mv &&& (nT n b0 b1 mv k ^^^ (-1)), b1 mv ||| pt k, nI c0, nI c1 + fJ13_bitCount_95d88 (nT n b0 b1 mv k)), vp_updL b0 (mv + 1) (b0 mv &&& (nT n b0 b1 mv k ^^^ (-1))), vp_updL b1 (mv + 1) (b1 mv ||| pt k)) = _
      rw [hbc, hi1, nI_add]
      have ea : b1 mv ||| pt k = nA b0 b1 mv k := by
        unfold nA sOf
        rw [if_neg e']
      have eb : b0 mv &&& (nT n b0 b1 mv k ^^^ (-1)) = nB n b0 b1 mv k := by
        unfold nB sOf
        rw [if_pos (by omega)]
      rw [ea, eb]
      rfl
    · unfold fX8_playOn
      rw [ht.2, Option.bind_some, if_neg (show ¬ nI (mv % 2) = 0 by rw [e]; decide), if_neg (show ¬ nI (mv % 2) = 0 by rw [e]; decide), e5 _ h2, if_pos (inB_nI (by omega) (by decide)), if_pos (inB_nI (by omega) (by decide)), if_pos (by decide), nI_clamp (by omega), c7n, y1, y2, y3, hL, e]
      rw [show 5 + 1 = 6 from rfl, F1]
      rfl
    · refine ⟨hn, hg, hr, by omega, by omega, by omega, by omega, by omega, ?_, ?_, ?_, ?_, ?_, ?_, ?_, ?_, ?_, ?_, ?_⟩
      · rw [updL_at, updL_at]
      · rw [F6 0 (by omega) (by omega) (by omega) (by omega), updL_ne (by omega), updL_ne (by omega), f0]
      · rw [F6 1 (by omega) (by omega) (by omega) (by omega), updL_ne (by omega), updL_ne (by omega), f1]
      · rw [F2]; congr 1; omega
      · rw [F3]
      · rw [F6 4 (by omega) (by omega) (by omega) (by omega), updL_ne (by omega), updL_ne (by omega), f4]
      · rw [F6 5 (by omega) (by omega) (by omega) (by omega), updL_ne (by omega), updL_ne (by omega), f5]
      · rw [F6 6 (by omega) (by omega) (by omega) (by omega), updL_ne (by omega), updL_at, f6, nL_add]
      · rw [F6 7 (by omega) (by omega) (by omega) (by omega), updL_at]; rfl
      · intro i hi
        by_cases c : i = mv + 1
        · subst c
          rw [updL_at, updL_at, F4, F5]
          exact ⟨rfl, rfl⟩
        · rw [updL_ne c, updL_ne c, F6 _ (by omega) (by omega) (by omega) (by omega), F6 _ (by omega) (by omega) (by omega) (by omega), updL_ne (by omega), updL_ne (by omega), updL_ne (by omega), updL_ne (by omega)]
          exact hb i (by omega)
      · rw [updL_at, updL_at]
        exact hnp
/-- a pass -/
theorem pass_GR (h : GR n rule mv ps pr c0 c1 w b0 b1 g f) (hmv : mv < 120) :
    ∃ w' b0' b1' f', fX0_passIfAllowed w b0 b1 = some (true, w', b0', b1') ∧ w'.2.2.1 = nI (ps + 1) ∧ fX8_passOn f = some (nI (ps + 1), f') ∧ GR n rule (mv + 1) (ps + 1) (pr + 1) c0 c1 w' b0' b1' g f' := by
  have hs0 : ∀ f' : Nat → Int64, f' 3 = nL mv → f' (8 + 2 * mv) = b0 mv → fX8_stonesOf f' 0 = some (b0 mv) := by
    intro f' h3 h8
    rw [show (0 : Int32) = nI 0 from rfl, stones_eq h3 (by omega) (by decide)]
    rw [Nat.add_zero, h8]
  have hs1 : ∀ f' : Nat → Int64, f' 3 = nL mv → f' (9 + 2 * mv) = b1 mv → fX8_stonesOf f' 1 = some (b1 mv) := by
    intro f' h3 h8
    rw [show (1 : Int32) = nI 1 from rfl, stones_eq h3 (by omega) (by decide), show 8 + 2 * mv + 1 = 9 + 2 * mv by omega, h8]
  obtain ⟨hn, hg, hr, hm, hps, hpr, hc0, hc1, hw, f0, f1, f2, f3, f4, f5, f6, f7, hb, hpp⟩ := h
  have hbm := hb mv (Nat.le_refl _)
  have hi1 : nI mv + 1 = nI (mv + 1) := (nI_succ mv).symm
  have e4 : f 4 + 1 = nL (ps + 1) := by rw [f4, show (1 : Int64) = nL 1 from rfl, nL_add]
  have e7 : f 7 + 1 = nL (pr + 1) := by rw [f7, show (1 : Int64) = nL 1 from rfl, nL_add]
  have g2 : (vp_updL (vp_updL f 4 (nL (ps + 1))) 7 (nL (pr + 1))) 2 = nL (mv % 2) := by
    rw [updL_ne (by omega), updL_ne (by omega), f2]
  have g3 : (vp_updL (vp_updL f 4 (nL (ps + 1))) 7 (nL (pr + 1))) 3 = nL mv := by
    rw [updL_ne (by omega), updL_ne (by omega), f3]
  obtain ⟨f', F1, F2, F3, F4, F5, F6⟩ := comes_eq (b0 mv) (b1 mv) g2 (by omega) g3 hmv
  refine ⟨(nI rule, nI (mv + 1), nI (ps + 1), nI (pr + 1), b0 mv, b1 mv, nI c0, nI c1), vp_updL b0 (mv + 1) (b0 mv), vp_updL b1 (mv + 1) (b1 mv), f', ?_, rfl, ?_, ?_⟩
  · unfold fX0_passIfAllowed
    rw [if_pos (show w.2.1 < 120 by rw [hw]; exact nI_lt (b := 120) hmv (by decide)), keep_eq (m := mv + 1) b0 b1 (by rw [hw]; exact hi1) (by omega), Option.bind_some, hw]
    show some (true, (nI rule, nI mv + 1, nI ps + 1, nI pr + 1, b0 mv, b1 mv, nI c0, nI c1), vp_updL b0 (mv + 1) (b0 mv), vp_updL b1 (mv + 1) (b1 mv)) = _
    rw [hi1, ← nI_succ, ← nI_succ]
  · unfold fX8_passOn
    rw [if_pos (by decide), if_pos (by decide), if_pos (by decide), if_pos (by decide), c4n, c7n, e4, updL_ne (f := f) (k := 4) (j := 7) (by omega), e7, hs0 _ g3 (by rw [updL_ne (by omega), updL_ne (by omega)]; exact hbm.1.symm), Option.bind_some, hs1 _ g3 (by rw [updL_ne (by omega), updL_ne (by omega)]; exact hbm.2.symm), Option.bind_some, F1, Option.bind_some, if_pos (by decide), F6 4 (by omega) (by omega) (by omega) (by omega), updL_ne (by omega), updL_at, nL_I]
  · refine ⟨hn, hg, hr, by omega, by omega, by omega, by omega, by omega, ?_, ?_, ?_, ?_, ?_, ?_, ?_, ?_, ?_, ?_, ?_⟩
    · rw [updL_at, updL_at]
    · rw [F6 0 (by omega) (by omega) (by omega) (by omega), updL_ne (by omega), updL_ne (by omega), f0]
    · rw [F6 1 (by omega) (by omega) (by omega) (by omega), updL_ne (by omega), updL_ne (by omega), f1]
    · rw [F2]; congr 1; omega
    · rw [F3]
    · rw [F6 4 (by omega) (by omega) (by omega) (by omega), updL_ne (by omega), updL_at]
    · rw [F6 5 (by omega) (by omega) (by omega) (by omega), updL_ne (by omega), updL_ne (by omega), f5]
    · rw [F6 6 (by omega) (by omega) (by omega) (by omega), updL_ne (by omega), updL_ne (by omega), f6]
    · rw [F6 7 (by omega) (by omega) (by omega) (by omega), updL_at]
    · intro i hi
      by_cases c : i = mv + 1
      · subst c
        rw [updL_at, updL_at, F4, F5]
        exact ⟨rfl, rfl⟩
      · rw [updL_ne c, updL_ne c, F6 _ (by omega) (by omega) (by omega) (by omega), F6 _ (by omega) (by omega) (by omega) (by omega), updL_ne (by omega), updL_ne (by omega), updL_ne (by omega), updL_ne (by omega)]
        exact hb i (by omega)
    · rw [updL_at, updL_at]
      exact hpp
theorem pass_no (h : GR n rule mv ps pr c0 c1 w b0 b1 g f) (hmv : ¬ mv < 120) : fX0_passIfAllowed w b0 b1 = some (false, w, b0, b1) := by
  obtain ⟨hn, hg, hr, hm, hps, hpr, hc0, hc1, hw, f0, f1, f2, f3, f4, f5, f6, f7, hb, hpp⟩ := h
  unfold fX0_passIfAllowed
  have e : mv = 120 := by omega
  subst e
  rw [if_neg (show ¬ w.2.1 < 120 by rw [hw]; show ¬ nI 120 < 120; decide)]
end PLAY
