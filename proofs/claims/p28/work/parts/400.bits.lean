def tb (x : Int64) (i : Nat) : Bool := x.toBitVec.getLsbD i
theorem tb_ge {x : Int64} {i : Nat} (h : 64 ≤ i) : tb x i = false := BitVec.getLsbD_of_ge _ _ h
theorem tb_lt {x : Int64} {i : Nat} (h : tb x i = true) : i < 64 := by
  apply Decidable.byContradiction
  intro q
  rw [tb_ge (by omega)] at h
  cases h
theorem tb_ext {a b : Int64} (h : ∀ i, i < 64 → tb a i = tb b i) : a = b := by
  apply Int64.toBitVec_inj.mp
  exact BitVec.eq_of_getLsbD_eq h
theorem tb_and (a b : Int64) (i : Nat) : tb (a &&& b) i = (tb a i && tb b i) := by
  unfold tb
  rw [Int64.toBitVec_and, BitVec.getLsbD_and]
theorem tb_or (a b : Int64) (i : Nat) : tb (a ||| b) i = (tb a i || tb b i) := by
  unfold tb
  rw [Int64.toBitVec_or, BitVec.getLsbD_or]
theorem tb_xor (a b : Int64) (i : Nat) : tb (a ^^^ b) i = (tb a i ^^ tb b i) := by
  unfold tb
  rw [Int64.toBitVec_xor, BitVec.getLsbD_xor]
theorem m1_bv : (-1 : Int64).toBitVec = BitVec.allOnes 64 := by decide +kernel
theorem tb_m1 {i : Nat} (h : i < 64) : tb (-1) i = true := by
  unfold tb
  rw [m1_bv, BitVec.getLsbD_allOnes, decide_eq_true h]
theorem tb_not (a : Int64) {i : Nat} (h : i < 64) : tb (a ^^^ (-1)) i = !tb a i := by
  rw [tb_xor, tb_m1 h, Bool.xor_true]
theorem tb_zero (i : Nat) : tb 0 i = false := by
  unfold tb
  exact BitVec.getLsbD_zero
theorem tb_eq0 {a : Int64} : a = 0 ↔ ∀ i, tb a i = false := by
  constructor
  · intro h i
    rw [h, tb_zero]
  · intro h
    apply tb_ext
    intro i _
    rw [h i, tb_zero]
theorem tb_ne0 {a : Int64} (h : ¬ a = 0) : ∃ i, i < 64 ∧ tb a i = true := by
  apply Classical.byContradiction
  intro q
  apply h
  apply tb_eq0.mpr
  intro i
  cases e : tb a i with
  | false => rfl
  | true => exact absurd ⟨i, tb_lt e, e⟩ q
theorem sh_amt : ∀ k, k < 64 → ((nI k).toInt64 &&& 63).toBitVec.smod 64 = BitVec.ofNat 64 k := by decide +kernel
theorem ush_amt : ∀ k, k < 64 → ((nI k).toInt64.toUInt64 &&& Int64.toUInt64 63).toBitVec % 64 = BitVec.ofNat 64 k := by decide +kernel
theorem tb_shl (x : Int64) {y : Int32} {k : Nat} (hk : k < 64) (hy : y = nI k) (i : Nat) : tb (shlL x y) i = (decide (i < 64) && (decide (k ≤ i) && tb x (i - k))) := by
  subst hy
  unfold tb shlL
  rw [Int64.toBitVec_shiftLeft, sh_amt k hk, BitVec.shiftLeft_eq', BitVec.getLsbD_shiftLeft, BitVec.toNat_ofNat, Nat.mod_eq_of_lt (by omega)]
  by_cases c : i < k
  · have c' : ¬ k ≤ i := by omega
    simp [c, c']
  · have c' : k ≤ i := by omega
    simp [c, c']
theorem tb_ushr (x : Int64) {y : Int32} {k : Nat} (hk : k < 64) (hy : y = nI k) (i : Nat) : tb (ushrL x y) i = tb x (i + k) := by
  subst hy
  unfold tb ushrL
  rw [UInt64.toBitVec_toInt64, UInt64.toBitVec_shiftRight, ush_amt k hk, BitVec.ushiftRight_eq', BitVec.getLsbD_ushiftRight, BitVec.toNat_ofNat, Nat.mod_eq_of_lt (by omega), Nat.add_comm]
  rfl
theorem tb_neg (x : Int64) {i : Nat} (h : i < 64) : tb (-x) i = (tb x i ^^ decide (∃ j, j < i ∧ tb x j = true)) := by
  unfold tb
  rw [Int64.toBitVec_neg, BitVec.getLsbD_neg]
  simp [h]
theorem tb_pred (x : Int64) {i : Nat} (h : i < 64) : tb (x - 1) i = !(tb (-x) i) := by
  have e : x - 1 = (-x) ^^^ (-1) := by
    apply Int64.toBitVec_inj.mp
    rw [Int64.toBitVec_xor, m1_bv, BitVec.xor_allOnes, Int64.toBitVec_sub, Int64.toBitVec_neg, BitVec.not_neg]
    rfl
  rw [e, tb_not _ h]
/-- a is a part of b -/
def sb (a b : Int64) : Prop := ∀ i, tb a i = true → tb b i = true
theorem sb_refl (a : Int64) : sb a a := fun _ h => h
theorem sb_trans {a b c : Int64} (h : sb a b) (g : sb b c) : sb a c := fun i q => g i (h i q)
theorem sb_anti {a b : Int64} (h : sb a b) (g : sb b a) : a = b := by
  apply tb_ext
  intro i _
  have h1 := h i
  have h2 := g i
  cases e1 : tb a i <;> cases e2 : tb b i <;> simp_all
theorem sb_zero (a : Int64) : sb 0 a := fun i h => by rw [tb_zero] at h; cases h
theorem sb_to0 {a : Int64} (h : sb a 0) : a = 0 := sb_anti h (sb_zero a)
theorem sb_andl (a b : Int64) : sb (a &&& b) a := fun i h => by rw [tb_and] at h; exact (Bool.and_eq_true_iff.mp h).1
theorem sb_andr (a b : Int64) : sb (a &&& b) b := fun i h => by rw [tb_and] at h; exact (Bool.and_eq_true_iff.mp h).2
theorem sb_and {a b c : Int64} (h : sb a b) (g : sb a c) : sb a (b &&& c) := fun i q => by rw [tb_and, h i q, g i q]; rfl
theorem sb_orl (a b : Int64) : sb a (a ||| b) := fun i h => by rw [tb_or, h]; rfl
theorem sb_orr (a b : Int64) : sb b (a ||| b) := fun i h => by rw [tb_or, h, Bool.or_true]
theorem sb_or {a b c : Int64} (h : sb a c) (g : sb b c) : sb (a ||| b) c := fun i q => by
  rw [tb_or] at q
  rcases Bool.or_eq_true_iff.mp q with q | q
  · exact h i q
  · exact g i q
theorem sb_eq {a b : Int64} (h : sb a b) : a &&& b = a := sb_anti (sb_andl a b) (sb_and (sb_refl a) h)
theorem and0 {a b : Int64} : a &&& b = 0 ↔ ∀ i, tb a i = true → tb b i = false := by
  rw [tb_eq0]
  constructor
  · intro h i q
    have := h i
    rw [tb_and, q] at this
    simpa using this
  · intro h i
    rw [tb_and]
    cases e : tb a i with
    | false => rfl
    | true => rw [h i e]; rfl
theorem and0_comm {a b : Int64} : a &&& b = 0 ↔ b &&& a = 0 := by
  rw [Int64.and_comm]
theorem and0_sb {a b c d : Int64} (h : c &&& d = 0) (h1 : sb a c) (h2 : sb b d) : a &&& b = 0 := by
  rw [and0] at h ⊢
  intro i q
  cases e : tb b i with
  | false => rfl
  | true =>
    have := h i (h1 i q)
    rw [h2 i e] at this
    cases this
/-! a single point -/
def pt (k : Nat) : Int64 := shlL 1 (nI k)
theorem one_bv : (1 : Int64).toBitVec = BitVec.ofNat 64 1 := rfl
theorem tb_one (i : Nat) : tb 1 i = decide (i = 0) := by
  unfold tb
  rw [one_bv, BitVec.getLsbD_ofNat]
  cases i with
  | zero => rfl
  | succ i => simp [Nat.testBit_succ]
theorem tb_pt {k : Nat} (hk : k < 64) (i : Nat) : tb (pt k) i = decide (i = k) := by
  unfold pt
  rw [tb_shl 1 hk rfl, tb_one]
  by_cases c : i = k
  · subst c
    simp [hk]
  · by_cases d : k ≤ i
    · have : ¬ i - k = 0 := by omega
      simp [c, this]
    · simp [c, d]
theorem pt_self {k : Nat} (hk : k < 64) : tb (pt k) k = true := by
  rw [tb_pt hk, decide_eq_true rfl]
theorem pt_sb {k : Nat} (hk : k < 64) {a : Int64} : sb (pt k) a ↔ tb a k = true := by
  constructor
  · intro h
    exact h k (pt_self hk)
  · intro h i q
    rw [tb_pt hk] at q
    rw [of_decide_eq_true q]
    exact h
theorem pt_ne0 {k : Nat} (hk : k < 64) : ¬ pt k = 0 := by
  intro h
  have := pt_self hk
  rw [h, tb_zero] at this
  cases this
theorem and_pt {k : Nat} (hk : k < 64) (a : Int64) : a &&& pt k = 0 ↔ tb a k = false := by
  rw [and0_comm, and0]
  constructor
  · intro h
    exact h k (pt_self hk)
  · intro h i q
    rw [tb_pt hk] at q
    rw [of_decide_eq_true q]
    exact h
/-! the lowest point of a set -/
def low (x : Int64) : Int64 := x &&& (-x)
theorem tb_low (x : Int64) {i : Nat} (h : i < 64) : tb (low x) i = (tb x i && !decide (∃ j, j < i ∧ tb x j = true)) := by
  unfold low
  rw [tb_and, tb_neg x h]
  cases tb x i <;> simp
theorem low_pt {x : Int64} (h : ¬ x = 0) : ∃ k, k < 64 ∧ tb x k = true ∧ (∀ j, j < k → tb x j = false) ∧ low x = pt k := by
  have hm : ∀ n, (∃ i, i < n ∧ tb x i = true) → ∃ k, k < n ∧ tb x k = true ∧ ∀ j, j < k → tb x j = false := by
    intro n
    induction n with
    | zero => intro ⟨i, q, _⟩; omega
    | succ n ih =>
      intro ⟨i, q, r⟩
      by_cases c : ∃ i, i < n ∧ tb x i = true
      · obtain ⟨k, k1, k2⟩ := ih c
        exact ⟨k, by omega, k2⟩
      · have e : i = n := by
          apply Decidable.byContradiction
          intro g
          exact c ⟨i, by omega, r⟩
        subst e
        refine ⟨i, q, r, ?_⟩
        intro j hj
        cases e : tb x j with
        | false => rfl
        | true => exact absurd ⟨j, hj, e⟩ c
  obtain ⟨k, k1, k2, k3⟩ := hm 64 (tb_ne0 h)
  refine ⟨k, k1, k2, k3, ?_⟩
  apply tb_ext
  intro i hi
  rw [tb_low x hi, tb_pt k1]
  by_cases c : i = k
  · subst c
    have : ¬ ∃ j, j < i ∧ tb x j = true := by
      intro ⟨j, j1, j2⟩
      rw [k3 j j1] at j2
      cases j2
    simp [k2, this]
  · rw [decide_eq_false c]
    by_cases d : i < k
    · rw [k3 i d]; rfl
    · have : ∃ j, j < i ∧ tb x j = true := ⟨k, by omega, k2⟩
      simp [this]
theorem tb_drop (x : Int64) {i : Nat} (h : i < 64) : tb (x &&& (x - 1)) i = (tb x i && !tb (low x) i) := by
  rw [tb_low x h, tb_and, tb_pred x h, tb_neg x h]
  cases tb x i <;> simp
theorem drop_low (x : Int64) : x &&& (x - 1) = x ^^^ low x := by
  apply tb_ext
  intro i hi
  rw [tb_drop x hi, tb_xor, tb_low x hi]
  cases tb x i <;> simp
theorem low_sb (x : Int64) : sb (low x) x := sb_andl _ _
/-! counting -/
def cn (x : Int64) : Nat → Nat
  | 0 => 0
  | k + 1 => cn x k + (if tb x k = true then 1 else 0)
theorem cn_le (x : Int64) (k : Nat) : cn x k ≤ k := by
  induction k with
  | zero => exact Nat.le_refl _
  | succ k ih => unfold cn; split <;> omega
theorem cn_mono {x y : Int64} (h : sb x y) (k : Nat) : cn x k ≤ cn y k := by
  induction k with
  | zero => exact Nat.le_refl _
  | succ k ih =>
    unfold cn
    by_cases c : tb x k = true
    · rw [if_pos c, if_pos (h k c)]; omega
    · rw [if_neg c]; omega
theorem cn_strict {x y : Int64} (h : sb x y) {i : Nat} (h1 : tb y i = true) (h2 : tb x i = false) : ∀ k, i < k → cn x k < cn y k := by
  intro k
  induction k with
  | zero => intro q; omega
  | succ k ih =>
    intro q
    have hm := cn_mono h k
    unfold cn
    by_cases c : i = k
    · subst c
      rw [if_pos h1, h2, if_neg (by decide)]; omega
    · have := ih (by omega)
      by_cases d : tb x k = true
      · rw [if_pos d, if_pos (h k d)]; omega
      · rw [if_neg d]; omega
theorem cn_or {x y : Int64} (h : x &&& y = 0) (k : Nat) : cn (x ||| y) k = cn x k + cn y k := by
  induction k with
  | zero => rfl
  | succ k ih =>
    unfold cn
    rw [ih, tb_or]
    have := and0.mp h k
    cases e : tb x k with
    | false => simp; omega
    | true => rw [this e]; simp; omega
theorem cn_zero (k : Nat) : cn 0 k = 0 := by
  induction k with
  | zero => rfl
  | succ k ih => unfold cn; rw [ih, tb_zero]; rfl
theorem cn_top {x : Int64} {m : Nat} (h : ∀ i, tb x i = true → i < m) (d : Nat) : cn x (m + d) = cn x m := by
  induction d with
  | zero => rfl
  | succ d ih =>
    show cn x (m + d) + (if tb x (m + d) = true then 1 else 0) = _
    rw [ih]
    have : ¬ tb x (m + d) = true := by intro q; have := h _ q; omega
    rw [if_neg this, Nat.add_zero]
theorem cn_ne0 {x : Int64} (h : ¬ x = 0) : 0 < cn x 64 := by
  obtain ⟨i, i1, i2⟩ := tb_ne0 h
  have := cn_strict (sb_zero x) i2 (tb_zero i) 64 i1
  rw [cn_zero] at this
  exact this
