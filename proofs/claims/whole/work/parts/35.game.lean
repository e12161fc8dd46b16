abbrev GSt : Type := Int32 × Int32 × Int32 × Int32 × Int64 × Int64 × Int32 × Int32
def nL (n : Nat) : Int64 := Int64.ofNat n
theorem nL_I (k : Nat) : (nL k).toInt32 = nI k := by
  apply Int32.toBitVec_inj.mp
  apply BitVec.eq_of_toNat_eq
  rw [Int64.toBitVec_toInt32, BitVec.signExtend_eq_setWidth_of_le _ (by omega), BitVec.toNat_setWidth]
  show (BitVec.ofNat 64 k).toNat % 4294967296 = (BitVec.ofNat 32 k).toNat
  rw [BitVec.toNat_ofNat, BitVec.toNat_ofNat]
  omega
theorem nL_toInt {k : Nat} (h : k < 9223372036854775808) : (nL k).toInt = (k : Int) := by
  unfold nL
  exact Int64.toInt_ofNat_of_lt h
theorem nI_L {k : Nat} (h : k < 2147483648) : (nI k).toInt64 = nL k := by
  apply Int64.toInt_inj.mp
  rw [Int32.toInt_toInt64, nI_toInt h, nL_toInt (by omega)]
theorem nL_add (a b : Nat) : nL a + nL b = nL (a + b) := by
  unfold nL
  exact (Int64.ofNat_add a b).symm
theorem nL_mul (a b : Nat) : nL a * nL b = nL (a * b) := by
  unfold nL
  exact (Int64.ofNat_mul a b).symm
theorem nI_mul (a b : Nat) : nI a * nI b = nI (a * b) := by
  unfold nI
  exact (Int32.ofNat_mul a b).symm
theorem nI_inj {a b : Nat} (ha : a < 2147483648) (hb : b < 2147483648) (h : nI a = nI b) : a = b := by
  have := congrArg Int32.toInt h
  rw [nI_toInt ha, nI_toInt hb] at this
  omega
theorem nL_inj {a b : Nat} (ha : a < 9223372036854775808) (hb : b < 9223372036854775808) (h : nL a = nL b) : a = b := by
  have := congrArg Int64.toInt h
  rw [nL_toInt ha, nL_toInt hb] at this
  omega
theorem nI_sub {a b : Nat} (h : b ≤ a) : nI a - nI b = nI (a - b) := by
  have : nI a = nI (a - b) + nI b := by rw [nI_add]; congr 1; omega
  rw [this, Int32.add_sub_cancel]
theorem inB_nI {k N : Nat} (h : k < N) (hN : N < 2147483648) : inB (nI k) N = true := by
  unfold inB
  rw [nI_clamp (by omega), decide_eq_false (nI_pos (by omega)), decide_eq_false (by omega)]
  rfl
theorem of_toInt {p : Int32} (h : 0 ≤ p.toInt) : p = nI p.toInt.toNat ∧ p.toInt.toNat < 2147483648 := by
  have h2 : p.toInt < 2147483648 := by
    have := Int32.toInt_lt p
    omega
  have h3 : p.toInt.toNat < 2147483648 := by omega
  refine ⟨?_, h3⟩
  apply Int32.toInt_inj.mp
  rw [nI_toInt h3]
  omega
theorem in_eq (p : Int32) (lo hi : Nat) (hl : lo < 9223372036854775808) (hh : hi < 9223372036854775808) : fX8_in p.toInt64 (nL lo) (nL hi) = decide ((lo : Int) ≤ p.toInt ∧ p.toInt ≤ hi) := by
  unfold fX8_in
  have a1 : p.toInt64 < nL lo ↔ p.toInt < (lo : Int) := by rw [Int64.lt_iff_toInt_lt, Int32.toInt_toInt64, nL_toInt hl]
  have a2 : nL hi < p.toInt64 ↔ (hi : Int) < p.toInt := by rw [Int64.lt_iff_toInt_lt, Int32.toInt_toInt64, nL_toInt hh]
  by_cases c : p.toInt < (lo : Int)
  · rw [if_pos (a1.mpr c), decide_eq_false (by omega)]
  · rw [if_neg (fun z => c (a1.mp z))]
    by_cases d : (hi : Int) < p.toInt
    · rw [if_pos (a2.mpr d), decide_eq_false (by omega)]
    · rw [if_neg (fun z => d (a2.mp z)), decide_eq_true (by omega)]
theorem hasG {n : Nat} (h : okN n) (p : Int32) : fX2_has (gridOf n) p = decide (0 ≤ p.toInt ∧ p.toInt < ((n * n : Nat) : Int)) := by
  have hs := okN_sq h
  unfold fX2_has
  rw [grid_points h]
  have a1 : p < 0 ↔ p.toInt < 0 := by rw [Int32.lt_iff_toInt_lt, Int32.toInt_zero]
  have a2 : nI (n * n) ≤ p ↔ ((n * n : Nat) : Int) ≤ p.toInt := by rw [Int32.le_iff_toInt_le, nI_toInt (by omega)]
  by_cases c : p.toInt < 0
  · rw [if_pos (a1.mpr c), decide_eq_false (by omega)]
  · rw [if_neg (fun z => c (a1.mp z))]
    by_cases d : ((n * n : Nat) : Int) ≤ p.toInt
    · rw [if_pos (a2.mpr d), decide_eq_false (by omega)]
    · rw [if_neg (fun z => d (a2.mp z)), decide_eq_true (by omega)]
theorem hasG_pt {n : Nat} (h : okN n) {p : Int32} (q : fX2_has (gridOf n) p = true) : ∃ k, k < n * n ∧ p = nI k := by
  rw [hasG h] at q
  have q := of_decide_eq_true q
  have := of_toInt q.1
  exact ⟨p.toInt.toNat, by omega, this.1⟩
theorem hasG_nI {n k : Nat} (h : okN n) (hk : k < n * n) : fX2_has (gridOf n) (nI k) = true := by
  have hs := okN_sq h
  rw [hasG h, nI_toInt (by omega)]
  exact decide_eq_true (by omega)
/-- the game of the class and the game of the reference: alike -/
def GR (n rule mv ps pr c0 c1 : Nat) (w : GSt) (b0 b1 : Nat → Int64) (g : RSt) (f : Nat → Int64) : Prop :=
  okN n ∧ g = gridOf n ∧ rule < 2 ∧ mv ≤ 120 ∧ ps ≤ mv ∧ pr ≤ mv ∧ c0 ≤ 49 * mv ∧ c1 ≤ 49 * mv ∧ w = (nI rule, nI mv, nI ps, nI pr, b0 mv, b1 mv, nI c0, nI c1) ∧
  f 0 = nL n ∧ f 1 = nL rule ∧ f 2 = nL (mv % 2) ∧ f 3 = nL mv ∧ f 4 = nL ps ∧ f 5 = nL c0 ∧ f 6 = nL c1 ∧ f 7 = nL pr ∧
  (∀ i, i ≤ mv → b0 i = f (8 + 2 * i) ∧ b1 i = f (9 + 2 * i)) ∧ posOK n (b0 mv) (b1 mv)
section GRM
variable {f : Nat → Int64}
theorem c0n : (0 : Int32).toNatClampNeg = 0 := by decide
theorem c1n : (1 : Int32).toNatClampNeg = 1 := by decide
theorem c2n : (2 : Int32).toNatClampNeg = 2 := by decide
theorem c3n : (3 : Int32).toNatClampNeg = 3 := by decide
theorem c4n : (4 : Int32).toNatClampNeg = 4 := by decide
theorem c5n : (5 : Int32).toNatClampNeg = 5 := by decide
theorem c6n : (6 : Int32).toNatClampNeg = 6 := by decide
theorem c7n : (7 : Int32).toNatClampNeg = 7 := by decide
theorem moves_eq {mv : Nat} (h : f 3 = nL mv) : fX8_moves f = some (nI mv) := by
  unfold fX8_moves
  rw [if_pos (by decide), c3n, h, nL_I]
theorem turn_eq {t : Nat} (h : f 2 = nL t) : fX8_turnOf f = some (nI t) := by
  unfold fX8_turnOf
  rw [if_pos (by decide), c2n, h, nL_I]
theorem rows_eq {n : Nat} (h : f 0 = nL n) : (f (0 : Int32).toNatClampNeg).toInt32 = nI n := by rw [c0n, h, nL_I]
theorem points_eq {n : Nat} (h : f 0 = nL n) : fX8_points f = some (nI (n * n)) := by
  unfold fX8_points
  rw [if_pos (by decide), if_pos (by decide), c0n, h, nL_mul, nL_I]
theorem sidx (mv c : Nat) : (8 + 2 * nI mv) + nI c = nI (8 + 2 * mv + c) := by
  rw [show (8 : Int32) = nI 8 from rfl, show (2 : Int32) = nI 2 from rfl, nI_mul, nI_add, nI_add]
theorem stones_eq {mv c : Nat} (h : f 3 = nL mv) (hm : mv ≤ 120) (hc : c < 2) : fX8_stonesOf f (nI c) = some (f (8 + 2 * mv + c)) := by
  unfold fX8_stonesOf
  rw [moves_eq h, Option.bind_some, sidx, if_pos (inB_nI (by omega) (by decide)), nI_clamp (by omega)]
theorem isPoint_eq {n : Nat} (h : okN n) (h0 : f 0 = nL n) (p : Int32) : fX8_isPoint f p = some (fX2_has (gridOf n) p) := by
  have hs := okN_sq h
  unfold fX8_isPoint
  rw [points_eq h0, Option.bind_some, show (1 : Int32) = nI 1 from rfl, nI_sub (by omega), nI_L (by omega), hasG h]
  show some (fX8_in p.toInt64 (nL 0) _) = _
  rw [in_eq p 0 _ (by decide) (by omega)]
  congr 2
  apply propext
  omega
end GRM
section GRG
variable {n rule mv ps pr c0 c1 : Nat} {w : GSt} {b0 b1 : Nat → Int64} {g : RSt} {f : Nat → Int64}
theorem GR.s0 (h : GR n rule mv ps pr c0 c1 w b0 b1 g f) : fX8_stonesOf f 0 = some (b0 mv) := by
  obtain ⟨hn, hg, hr, hm, hps, hpr, hc0, hc1, hw, f0, f1, f2, f3, f4, f5, f6, f7, hb, hp⟩ := h
  rw [show (0 : Int32) = nI 0 from rfl, stones_eq f3 hm (by decide), (hb mv (Nat.le_refl _)).1]
  rfl
theorem GR.s1 (h : GR n rule mv ps pr c0 c1 w b0 b1 g f) : fX8_stonesOf f 1 = some (b1 mv) := by
  obtain ⟨hn, hg, hr, hm, hps, hpr, hc0, hc1, hw, f0, f1, f2, f3, f4, f5, f6, f7, hb, hp⟩ := h
  rw [show (1 : Int32) = nI 1 from rfl, stones_eq f3 hm (by decide), (hb mv (Nat.le_refl _)).2]
  congr 2
  omega
/-- black's stones and white's, by colour -/
def sOf (b0 b1 : Nat → Int64) (mv c : Nat) : Int64 := if c = 0 then b0 mv else b1 mv
theorem GR.sc (h : GR n rule mv ps pr c0 c1 w b0 b1 g f) {c : Nat} (hc : c < 2) : fX8_stonesOf f (nI c) = some (sOf b0 b1 mv c) := by
  rcases (show c = 0 ∨ c = 1 by omega) with e | e
  · subst e; exact h.s0
  · subst e; exact h.s1
theorem GR.wc (h : GR n rule mv ps pr c0 c1 w b0 b1 g f) {c : Nat} (hc : c < 2) : fX0_stonesOf w (nI c) = sOf b0 b1 mv c := by
  obtain ⟨hn, hg, hr, hm, hps, hpr, hc0, hc1, hw, f0, f1, f2, f3, f4, f5, f6, f7, hb, hp⟩ := h
  rcases (show c = 0 ∨ c = 1 by omega) with e | e
  · subst e; rw [hw]; rfl
  · subst e; rw [hw]; rfl
theorem and1_nI {m : Nat} (h : m < 2147483648) : nI m &&& 1 = nI (m % 2) := by
  apply Int32.toBitVec_inj.mp
  apply BitVec.eq_of_toNat_eq
  rw [Int32.toBitVec_and, BitVec.toNat_and]
  show (BitVec.ofNat 32 m).toNat &&& 1 = (BitVec.ofNat 32 (m % 2)).toNat
  rw [BitVec.toNat_ofNat, BitVec.toNat_ofNat, Nat.and_one_is_mod]
  omega
theorem GR.turn (h : GR n rule mv ps pr c0 c1 w b0 b1 g f) : fX0_turn w = nI (mv % 2) ∧ fX8_turnOf f = some (nI (mv % 2)) := by
  obtain ⟨hn, hg, hr, hm, hps, hpr, hc0, hc1, hw, f0, f1, f2, f3, f4, f5, f6, f7, hb, hp⟩ := h
  refine ⟨?_, turn_eq f2⟩
  rw [hw]
  show nI mv &&& 1 = _
  exact and1_nI (by omega)
theorem other_nI {c : Nat} (hc : c < 2) : 1 - nI c = nI (1 - c) := nI_sub (a := 1) (by omega)
theorem GR.pos (h : GR n rule mv ps pr c0 c1 w b0 b1 g f) {c : Nat} (hc : c < 2) : posOK n (sOf b0 b1 mv c) (sOf b0 b1 mv (1 - c)) := by
  obtain ⟨hn, hg, hr, hm, hps, hpr, hc0, hc1, hw, f0, f1, f2, f3, f4, f5, f6, f7, hb, hp⟩ := h
  rcases (show c = 0 ∨ c = 1 by omega) with e | e
  · subst e; exact hp
  · subst e; exact posOK_sym hp
end GRG
