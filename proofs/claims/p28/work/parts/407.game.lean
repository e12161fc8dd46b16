abbrev GSt : Type := Int32 × Int32 × Int32 × Int32 × Int64 × Int64 × Int32 × Int32
def nL (n : Nat) : Int64 := Int64.ofNat n
theorem nL_I (k : Nat) : (nL k).toInt32 = nI k := by
  apply Int32.toBitVec_inj.mp
  apply BitVec.eq_of_toNat_eq
  rw [Int64.toBitVec_toInt32, BitVec.signExtend_eq_setWidth_of_le _ (by omega), BitVec.toNat_setWidth]
  show (BitVec.ofNat 64 k).toNat % 4294967296 = (BitVec.ofNat 32 k).toNat
  rw [BitVec.toNat_ofNat, BitVec.toNat_ofNat]
  omega
theorem nL_toInt {k : Nat} (h : k < 9223372036854775808) : (nL k).toInt = (k : Int) := by
  unfold nL
  exact Int64.toInt_ofNat_of_lt h
theorem nI_L {k : Nat} (h : k < 2147483648) : (nI k).toInt64 = nL k := by
  apply Int64.toInt_inj.mp
  rw [Int32.toInt_toInt64, nI_toInt h, nL_toInt (by omega)]
theorem nL_add (a b : Nat) : nL a + nL b = nL (a + b) := by
  unfold nL
  exact (Int64.ofNat_add a b).symm
theorem nL_mul (a b : Nat) : nL a * nL b = nL (a * b) := by
  unfold nL
  exact (Int64.ofNat_mul a b).symm
theorem nI_mul (a b : Nat) : nI a * nI b = nI (a * b) := by
  unfold nI
  exact (Int32.ofNat_mul a b).symm
theorem nI_inj {a b : Nat} (ha : a < 2147483648) (hb : b < 2147483648) (h : nI a = nI b) : a = b := by
  have := congrArg Int32.toInt h
  rw [nI_toInt ha, nI_toInt hb] at this
  omega
theorem nL_inj {a b : Nat} (ha : a < 9223372036854775808) (hb : b < 9223372036854775808) (h : nL a = nL b) : a = b := by
  have := congrArg Int64.toInt h
  rw [nL_toInt ha, nL_toInt hb] at this
  omega
theorem nI_sub {a b : Nat} (h : b ≤ a) : nI a - nI b = nI (a - b) := by
  have : nI a = nI (a - b) + nI b := by rw [nI_add]; congr 1; omega
  rw [this, Int32.add_sub_cancel]
theorem inB_nI {k N : Nat} (h : k < N) (hN : N < 2147483648) : inB (nI k) N = true := by
  unfold inB
  rw [nI_clamp (by omega), decide_eq_false (nI_pos (by omega)), decide_eq_false (by omega)]
  rfl
theorem of_toInt {p : Int32} (h : 0 ≤ p.toInt) : p = nI p.toInt.toNat ∧ p.toInt.toNat < 2147483648 := by
  have h2 : p.toInt < 2147483648 := by
    have := Int32.toInt_lt p
    omega
  have h3 : p.toInt.toNat < 2147483648 := by omega
  refine ⟨?_, h3⟩
  apply Int32.toInt_inj.mp
  rw [nI_toInt h3]
  omega
theorem hasG {n : Nat} (h : okN n) (p : Int32) : fX2_has (gridOf n) p = decide (0 ≤ p.toInt ∧ p.toInt < ((n * n : Nat) : Int)) := by
  have hs := okN_sq h
  unfold fX2_has
  rw [grid_points h]
  have a1 : p < 0 ↔ p.toInt < 0 := by rw [Int32.lt_iff_toInt_lt, Int32.toInt_zero]
  have a2 : nI (n * n) ≤ p ↔ ((n * n : Nat) : Int) ≤ p.toInt := by rw [Int32.le_iff_toInt_le, nI_toInt (by omega)]
  by_cases c : p.toInt < 0
  · rw [if_pos (a1.mpr c), decide_eq_false (by omega)]
  · rw [if_neg (fun z => c (a1.mp z))]
    by_cases d : ((n * n : Nat) : Int) ≤ p.toInt
    · rw [if_pos (a2.mpr d), decide_eq_false (by omega)]
    · rw [if_neg (fun z => d (a2.mp z)), decide_eq_true (by omega)]
theorem hasG_pt {n : Nat} (h : okN n) {p : Int32} (q : fX2_has (gridOf n) p = true) : ∃ k, k < n * n ∧ p = nI k := by
  rw [hasG h] at q
  have q := of_decide_eq_true q
  have := of_toInt q.1
  exact ⟨p.toInt.toNat, by omega, this.1⟩
theorem hasG_nI {n k : Nat} (h : okN n) (hk : k < n * n) : fX2_has (gridOf n) (nI k) = true := by
  have hs := okN_sq h
  rw [hasG h, nI_toInt (by omega)]
  exact decide_eq_true (by omega)
/-- the game of the class, in numbers -/
def GR (n rule mv ps pr c0 c1 : Nat) (w : GSt) (b0 b1 : Nat → Int64) (g : RSt) : Prop :=
  okN n ∧ g = gridOf n ∧ rule < 2 ∧ mv ≤ 120 ∧ ps ≤ mv ∧ pr ≤ mv ∧ c0 ≤ 49 * mv ∧ c1 ≤ 49 * mv ∧ w = (nI rule, nI mv, nI ps, nI pr, b0 mv, b1 mv, nI c0, nI c1) ∧
  cn (b0 mv) 49 + cn (b1 mv) 49 + c0 + c1 + ps = mv ∧ posOK n (b0 mv) (b1 mv)
section GRM

theorem c0n : (0 : Int32).toNatClampNeg = 0 := by decide
theorem c1n : (1 : Int32).toNatClampNeg = 1 := by decide
theorem c2n : (2 : Int32).toNatClampNeg = 2 := by decide
theorem c3n : (3 : Int32).toNatClampNeg = 3 := by decide
theorem c4n : (4 : Int32).toNatClampNeg = 4 := by decide
theorem c5n : (5 : Int32).toNatClampNeg = 5 := by decide
theorem c6n : (6 : Int32).toNatClampNeg = 6 := by decide
theorem c7n : (7 : Int32).toNatClampNeg = 7 := by decide
theorem sidx (mv c : Nat) : (8 + 2 * nI mv) + nI c = nI (8 + 2 * mv + c) := by
  rw [show (8 : Int32) = nI 8 from rfl, show (2 : Int32) = nI 2 from rfl, nI_mul, nI_add, nI_add]
end GRM
section GRG
variable {n rule mv ps pr c0 c1 : Nat} {w : GSt} {b0 b1 : Nat → Int64} {g : RSt}
/-- black's stones and white's, by colour -/
def sOf (b0 b1 : Nat → Int64) (mv c : Nat) : Int64 := if c = 0 then b0 mv else b1 mv
theorem GR.wc (h : GR n rule mv ps pr c0 c1 w b0 b1 g) {c : Nat} (hc : c < 2) : fX0_stonesOf w (nI c) = sOf b0 b1 mv c := by
  obtain ⟨hn, hg, hr, hm, hps, hpr, hc0, hc1, hw, hct, hp⟩ := h
  rcases (show c = 0 ∨ c = 1 by omega) with e | e
  · subst e; rw [hw]; rfl
  · subst e; rw [hw]; rfl
theorem and1_nI {m : Nat} (h : m < 2147483648) : nI m &&& 1 = nI (m % 2) := by
  apply Int32.toBitVec_inj.mp
  apply BitVec.eq_of_toNat_eq
  rw [Int32.toBitVec_and, BitVec.toNat_and]
  show (BitVec.ofNat 32 m).toNat &&& 1 = (BitVec.ofNat 32 (m % 2)).toNat
  rw [BitVec.toNat_ofNat, BitVec.toNat_ofNat, Nat.and_one_is_mod]
  omega
theorem GR.turn (h : GR n rule mv ps pr c0 c1 w b0 b1 g) : fX0_turn w = nI (mv % 2) ∧ True := by
  obtain ⟨hn, hg, hr, hm, hps, hpr, hc0, hc1, hw, hct, hp⟩ := h
  refine ⟨?_, trivial⟩
  rw [hw]
  show nI mv &&& 1 = _
  exact and1_nI (by omega)
theorem other_nI {c : Nat} (hc : c < 2) : 1 - nI c = nI (1 - c) := nI_sub (a := 1) (by omega)
theorem GR.pos (h : GR n rule mv ps pr c0 c1 w b0 b1 g) {c : Nat} (hc : c < 2) : posOK n (sOf b0 b1 mv c) (sOf b0 b1 mv (1 - c)) := by
  obtain ⟨hn, hg, hr, hm, hps, hpr, hc0, hc1, hw, hct, hp⟩ := h
  rcases (show c = 0 ∨ c = 1 by omega) with e | e
  · subst e; exact hp
  · subst e; exact posOK_sym hp
end GRG
