theorem updL_at (f : Nat → Int64) (k : Nat) (x : Int64) : vp_updL f k x k = x := by unfold vp_updL; rw [if_pos rfl]
theorem updL_ne {f : Nat → Int64} {k j : Nat} {x : Int64} (h : ¬ j = k) : vp_updL f k x j = f j := by unfold vp_updL; rw [if_neg h]
theorem nL_sub {a b : Nat} (h : b ≤ a) : nL a - nL b = nL (a - b) := by
  have : nL a = nL (a - b) + nL b := by rw [nL_add]; congr 1; omega
  rw [this, Int64.add_sub_cancel]
section PLAY
variable {n rule mv ps pr c0 c1 k : Nat} {w : GSt} {b0 b1 : Nat → Int64} {g : RSt}
theorem keep_eq {w : GSt} {m : Nat} (b0 b1 : Nat → Int64) (hw : w.2.1 = nI m) (hm : m ≤ 120) : fX0_keepPosition w b0 b1 = some (vp_updL b0 m w.2.2.2.2.1, vp_updL b1 m w.2.2.2.2.2.1) := by
  have h121 : ¬ (121 : Int32) ≤ nI m := nI_ge (a := m) (b := 121) (by omega) (by decide)
  unfold fX0_keepPosition
  rw [hw, if_neg (nI_pos (by omega)), if_neg h121, if_neg h121, if_pos (inB_nI (by omega) (by decide)), if_pos (inB_nI (by omega) (by decide)), nI_clamp (by omega)]
theorem cn_pt {k : Nat} (hk : k < 64) (m : Nat) : cn (pt k) m = if k < m then 1 else 0 := by
  induction m with
  | zero => rfl
  | succ m ih =>
    unfold cn
    rw [ih, tb_pt hk]
    by_cases c : m = k
    · subst c
      rw [if_neg (by omega), if_pos (decide_eq_true rfl), if_pos (by omega)]
    · rw [if_neg (show ¬ decide (m = k) = true from fun z => c (of_decide_eq_true z))]
      by_cases d : k < m
      · rw [if_pos d, if_pos (by omega)]
      · rw [if_neg d, if_neg (by omega)]
theorem cn_lay {k : Nat} (hk : k < 49) {a : Int64} (ha : ¬ tb a k = true) : cn (a ||| pt k) 49 = cn a 49 + 1 := by
  rw [cn_or (m_and0.mpr (fun i h1 h2 => by rw [(m_pt (show k < 64 by omega)).mp h2] at h1; exact ha h1)), cn_pt (by omega), if_pos hk]
theorem cn_off {b T : Int64} (h : sb T b) : cn (b &&& (T ^^^ (-1))) 49 + cn T 49 = cn b 49 := by
  rw [← cn_or (m_and0.mpr (fun i h1 h2 => (m_dif.mp h1).2 h2))]
  congr 1
  refine m_ext (fun i => ?_)
  rw [m_or, m_dif]
  constructor
  · rintro (q | q)
    · exact q.1
    · exact h i q
  · intro q
    by_cases t : tb T i = true
    · exact .inr t
    · exact .inl ⟨q, t⟩
theorem sum_lay {b0 b1 : Nat → Int64} {n mv k : Nat} (hk : k < 49) (hc : ¬ tb (b0 mv ||| b1 mv) k = true) : cn (nP0 n b0 b1 mv k) 49 + cn (nP1 n b0 b1 mv k) 49 + cn (nT n b0 b1 mv k) 49 = cn (b0 mv) 49 + cn (b1 mv) 49 + 1 := by
  have hA : cn (nA b0 b1 mv k) 49 = cn (sOf b0 b1 mv (mv % 2)) 49 + 1 := cn_lay hk (sOf_free hc _)
  have hB : cn (nB n b0 b1 mv k) 49 + cn (nT n b0 b1 mv k) 49 = cn (sOf b0 b1 mv (1 - mv % 2)) 49 := cn_off (sb_andl _ _)
  unfold nP0 nP1
  rcases (show mv % 2 = 0 ∨ mv % 2 = 1 by omega) with e | e
  · rw [if_pos e, if_pos e]
    rw [e] at hA hB
    have s0 : sOf b0 b1 mv 0 = b0 mv := rfl
    have s1 : sOf b0 b1 mv (1 - 0) = b1 mv := rfl
    rw [s0] at hA
    rw [s1] at hB
    omega
  · have e' : ¬ mv % 2 = 0 := by omega
    rw [if_neg e', if_neg e']
    rw [e] at hA hB
    have s0 : sOf b0 b1 mv 1 = b1 mv := rfl
    have s1 : sOf b0 b1 mv (1 - 1) = b0 mv := rfl
    rw [s0] at hA
    rw [s1] at hB
    omega
/-- a stone is laid -/
theorem play_GR (h : GR n rule mv ps pr c0 c1 w b0 b1 g) (hk : k < n * n) (hc : ¬ tb (b0 mv ||| b1 mv) k = true) (hf : ¬ nF n b0 b1 mv k = 0) (hmv : mv < 120) :
    ∃ w' b0' b1', fX0_lay w b0 b1 g (nI k) = some (nI (cn (nT n b0 b1 mv k) 49), w', b0', b1') ∧ GR n rule (mv + 1) ps 0 (if mv % 2 = 0 then c0 + cn (nT n b0 b1 mv k) 49 else c0) (if mv % 2 = 0 then c1 else c1 + cn (nT n b0 b1 mv k) 49) w' b0' b1' g ∧ b0' (mv + 1) = nP0 n b0 b1 mv k ∧ b1' (mv + 1) = nP1 n b0 b1 mv k ∧ ∀ i, i ≤ mv → b0' i = b0 i ∧ b1' i = b1 i := by
  have hnp := new_pos h hk hc hf
  have ht := h.turn
  have h2 : mv % 2 < 2 := by omega
  have hp := h.pos h2
  have hw1 := h.wc h2
  have hw2 := h.wc (c := 1 - mv % 2) (by omega)
  obtain ⟨hn, hg, hr, hm, hps, hpr, hc0, hc1, hw, hct, hpp⟩ := h
  have hk49 : k < 49 := by have := (okN_sq hn).2; omega
  have hk64 : k < 64 := by omega
  have hsum := sum_lay (n := n) hk49 hc
  have hA : sb (nA b0 b1 mv k) (mA n) := sb_or hp.1 (pt_mA hn hk)
  have hT : sb (nT n b0 b1 mv k) (mA n) := sb_trans (sb_andl _ _) hp.2.1
  have hcn : cn (nT n b0 b1 mv k) 49 ≤ 49 := cn_le _ _
  have htk := taken_eq (a := sOf b0 b1 mv (mv % 2)) (p := pt k) hn hp.2.1
  have hbc := bc49 hn hT
  have hi1 : nI mv + 1 = nI (mv + 1) := (nI_succ mv).symm
  rcases (show mv % 2 = 0 ∨ mv % 2 = 1 by omega) with e | e
  · have p0 : nP0 n b0 b1 mv k = nA b0 b1 mv k := by unfold nP0; rw [if_pos e]
    have p1 : nP1 n b0 b1 mv k = nB n b0 b1 mv k := by unfold nP1; rw [if_pos e]
    rw [p0, p1] at hnp hsum
    rw [if_pos e, if_pos e, p0, p1]
    refine ⟨(nI rule, nI (mv + 1), nI ps, nI 0, nA b0 b1 mv k, nB n b0 b1 mv k, nI (c0 + cn (nT n b0 b1 mv k) 49), nI c1), vp_updL b0 (mv + 1) (nA b0 b1 mv k), vp_updL b1 (mv + 1) (nB n b0 b1 mv k), ?_, ?_, updL_at _ _ _, updL_at _ _ _, fun i hi => ⟨updL_ne (by omega), updL_ne (by omega)⟩⟩
    · unfold fX0_lay
      rw [ht.1, other_nI h2, hw1, hw2, shl_pt, hg, htk, Option.bind_some, if_pos (show nI (mv % 2) = 0 by rw [e]; rfl)]
      rw [keep_eq (m := mv + 1) b0 b1 (by rw [hw]; exact hi1) (by omega), Option.bind_some]
      rw [hw]
      show some (fJ13_bitCount_95d88 (nT n b0 b1 mv k), (nI rule, nI mv + 1, nI ps, 0, b0 mv ||| pt k, b1 mv &&& (nT n b0 b1 mv k ^^^ (-1)), nI c0 + fJ13_bitCount_95d88 (nT n b0 b1 mv k), nI c1), vp_updL b0 (mv + 1) (b0 mv ||| pt k), vp_updL b1 (mv + 1) (b1 mv &&& (nT n b0 b1 mv k ^^^ (-1)))) = _
      rw [hbc, hi1, nI_add]
      have ea : b0 mv ||| pt k = nA b0 b1 mv k := by
        unfold nA sOf
        rw [if_pos e]
      have eb : b1 mv &&& (nT n b0 b1 mv k ^^^ (-1)) = nB n b0 b1 mv k := by
        unfold nB sOf
        rw [if_neg (by omega)]
      rw [ea, eb]
      rfl
    · refine ⟨hn, hg, hr, by omega, by omega, by omega, by omega, by omega, ?_, ?_, ?_⟩
      · rw [updL_at, updL_at]
      · rw [updL_at, updL_at]
        omega
      · rw [updL_at, updL_at]
        exact hnp
  · have e' : ¬ mv % 2 = 0 := by omega
    have p0 : nP0 n b0 b1 mv k = nB n b0 b1 mv k := by unfold nP0; rw [if_neg e']
    have p1 : nP1 n b0 b1 mv k = nA b0 b1 mv k := by unfold nP1; rw [if_neg e']
    rw [p0, p1] at hnp hsum
    rw [if_neg e', if_neg e', p0, p1]
    refine ⟨(nI rule, nI (mv + 1), nI ps, nI 0, nB n b0 b1 mv k, nA b0 b1 mv k, nI c0, nI (c1 + cn (nT n b0 b1 mv k) 49)), vp_updL b0 (mv + 1) (nB n b0 b1 mv k), vp_updL b1 (mv + 1) (nA b0 b1 mv k), ?_, ?_, updL_at _ _ _, updL_at _ _ _, fun i hi => ⟨updL_ne (by omega), updL_ne (by omega)⟩⟩
    · unfold fX0_lay
      rw [ht.1, other_nI h2, hw1, hw2, shl_pt, hg, htk, Option.bind_some, if_neg (show ¬ nI (mv % 2) = 0 by rw [e]; decide)]
      rw [keep_eq (m := mv + 1) b0 b1 (by rw [hw]; exact hi1) (by omega), Option.bind_some]
      rw [hw]
      show some (fJ13_bitCount_95d88 (nT n b0 b1 mv k), (nI rule, nI mv + 1, nI ps, 0, b0 mv &&& (nT n b0 b1 mv k ^^^ (-1)), b1 mv ||| pt k, nI c0, nI c1 + fJ13_bitCount_95d88 (nT n b0 b1 mv k)), vp_updL b0 (mv + 1) (b0 mv &&& (nT n b0 b1 mv k ^^^ (-1))), vp_updL b1 (mv + 1) (b1 mv ||| pt k)) = _
      rw [hbc, hi1, nI_add]
      have ea : b1 mv ||| pt k = nA b0 b1 mv k := by
        unfold nA sOf
        rw [if_neg e']
      have eb : b0 mv &&& (nT n b0 b1 mv k ^^^ (-1)) = nB n b0 b1 mv k := by
        unfold nB sOf
        rw [if_pos (by omega)]
      rw [ea, eb]
      rfl
    · refine ⟨hn, hg, hr, by omega, by omega, by omega, by omega, by omega, ?_, ?_, ?_⟩
      · rw [updL_at, updL_at]
      · rw [updL_at, updL_at]
        omega
      · rw [updL_at, updL_at]
        exact hnp
/-- a pass -/
theorem pass_GR (h : GR n rule mv ps pr c0 c1 w b0 b1 g) (hmv : mv < 120) :
    ∃ w' b0' b1', fX0_passIfAllowed w b0 b1 = some (true, w', b0', b1') ∧ w'.2.2.1 = nI (ps + 1) ∧ GR n rule (mv + 1) (ps + 1) (pr + 1) c0 c1 w' b0' b1' g := by
  obtain ⟨hn, hg, hr, hm, hps, hpr, hc0, hc1, hw, hct, hpp⟩ := h
  have hi1 : nI mv + 1 = nI (mv + 1) := (nI_succ mv).symm
  refine ⟨(nI rule, nI (mv + 1), nI (ps + 1), nI (pr + 1), b0 mv, b1 mv, nI c0, nI c1), vp_updL b0 (mv + 1) (b0 mv), vp_updL b1 (mv + 1) (b1 mv), ?_, rfl, ?_⟩
  · unfold fX0_passIfAllowed
    rw [if_pos (show w.2.1 < 120 by rw [hw]; exact nI_lt (b := 120) hmv (by decide)), keep_eq (m := mv + 1) b0 b1 (by rw [hw]; exact hi1) (by omega), Option.bind_some, hw]
    show some (true, (nI rule, nI mv + 1, nI ps + 1, nI pr + 1, b0 mv, b1 mv, nI c0, nI c1), vp_updL b0 (mv + 1) (b0 mv), vp_updL b1 (mv + 1) (b1 mv)) = _
    rw [hi1, ← nI_succ, ← nI_succ]
  · refine ⟨hn, hg, hr, by omega, by omega, by omega, by omega, by omega, ?_, ?_, ?_⟩
    · rw [updL_at, updL_at]
    · rw [updL_at, updL_at]
      omega
    · rw [updL_at, updL_at]
      exact hpp
theorem pass_no (h : GR n rule mv ps pr c0 c1 w b0 b1 g) (hmv : ¬ mv < 120) : fX0_passIfAllowed w b0 b1 = some (false, w, b0, b1) := by
  obtain ⟨hn, hg, hr, hm, hps, hpr, hc0, hc1, hw, hct, hpp⟩ := h
  unfold fX0_passIfAllowed
  have e : mv = 120 := by omega
  subst e
  rw [if_neg (show ¬ w.2.1 < 120 by rw [hw]; show ¬ nI 120 < 120; decide)]
end PLAY
