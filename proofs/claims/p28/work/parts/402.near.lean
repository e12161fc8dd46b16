abbrev RSt : Type := Int32 × Int32 × Int64 × Int64 × Int64
def gridOf (n : Nat) : RSt := match fX2_init (nI n) with
  | some g => g
  | none => (0, 0, 0, 0, 0)
abbrev mA (n : Nat) : Int64 := (gridOf n).2.2.1
def okN (n : Nat) : Prop := n = 3 ∨ n = 4 ∨ n = 5 ∨ n = 6 ∨ n = 7
theorem okN_of {n : Nat} (h : 3 ≤ n) (g : n ≤ 7) : okN n := by unfold okN; omega
theorem okN_le {n : Nat} (h : okN n) : 3 ≤ n ∧ n ≤ 7 := by unfold okN at h; omega
theorem okN_sq {n : Nat} (h : okN n) : 9 ≤ n * n ∧ n * n ≤ 49 := by
  rcases h with h | h | h | h | h <;> subst h <;> decide
theorem init_grid {n : Nat} (h : okN n) : fX2_init (nI n) = some (gridOf n) := by
  rcases h with h | h | h | h | h <;> subst h <;> decide +kernel
theorem grid_rows {n : Nat} (h : okN n) : (gridOf n).1 = nI n := by
  rcases h with h | h | h | h | h <;> subst h <;> decide +kernel
theorem grid_points {n : Nat} (h : okN n) : (gridOf n).2.1 = nI (n * n) := by
  rcases h with h | h | h | h | h <;> subst h <;> decide +kernel
theorem tb_mA0 : ∀ i, i < 64 → (tb (mA 3) i = decide (i < 3 * 3) ∧ tb (mA 4) i = decide (i < 4 * 4) ∧ tb (mA 5) i = decide (i < 5 * 5) ∧ tb (mA 6) i = decide (i < 6 * 6) ∧ tb (mA 7) i = decide (i < 7 * 7)) := by decide +kernel
theorem tb_nF0 : ∀ i, i < 64 → (tb (gridOf 3).2.2.2.1 i = decide (i < 3 * 3 ∧ ¬ i % 3 = 0) ∧ tb (gridOf 4).2.2.2.1 i = decide (i < 4 * 4 ∧ ¬ i % 4 = 0) ∧ tb (gridOf 5).2.2.2.1 i = decide (i < 5 * 5 ∧ ¬ i % 5 = 0) ∧ tb (gridOf 6).2.2.2.1 i = decide (i < 6 * 6 ∧ ¬ i % 6 = 0) ∧ tb (gridOf 7).2.2.2.1 i = decide (i < 7 * 7 ∧ ¬ i % 7 = 0)) := by decide +kernel
theorem tb_nL0 : ∀ i, i < 64 → (tb (gridOf 3).2.2.2.2 i = decide (i < 3 * 3 ∧ ¬ i % 3 = 2) ∧ tb (gridOf 4).2.2.2.2 i = decide (i < 4 * 4 ∧ ¬ i % 4 = 3) ∧ tb (gridOf 5).2.2.2.2 i = decide (i < 5 * 5 ∧ ¬ i % 5 = 4) ∧ tb (gridOf 6).2.2.2.2 i = decide (i < 6 * 6 ∧ ¬ i % 6 = 5) ∧ tb (gridOf 7).2.2.2.2 i = decide (i < 7 * 7 ∧ ¬ i % 7 = 6)) := by decide +kernel
theorem tb_mA {n : Nat} (h : okN n) (i : Nat) : tb (mA n) i = decide (i < n * n) := by
  have hs := okN_sq h
  by_cases c : i < 64
  · have := tb_mA0 i c
    rcases h with h | h | h | h | h <;> subst h
    · exact this.1
    · exact this.2.1
    · exact this.2.2.1
    · exact this.2.2.2.1
    · exact this.2.2.2.2
  · rw [tb_ge (by omega), decide_eq_false (by omega)]
theorem tb_nF {n : Nat} (h : okN n) (i : Nat) : tb (gridOf n).2.2.2.1 i = decide (i < n * n ∧ ¬ i % n = 0) := by
  have hs := okN_sq h
  by_cases c : i < 64
  · have := tb_nF0 i c
    rcases h with h | h | h | h | h <;> subst h
    · exact this.1
    · exact this.2.1
    · exact this.2.2.1
    · exact this.2.2.2.1
    · exact this.2.2.2.2
  · rw [tb_ge (by omega), decide_eq_false (by omega)]
theorem tb_nL {n : Nat} (h : okN n) (i : Nat) : tb (gridOf n).2.2.2.2 i = decide (i < n * n ∧ ¬ i % n = n - 1) := by
  have hs := okN_sq h
  by_cases c : i < 64
  · have := tb_nL0 i c
    rcases h with h | h | h | h | h <;> subst h
    · exact this.1
    · exact this.2.1
    · exact this.2.2.1
    · exact this.2.2.2.1
    · exact this.2.2.2.2
  · rw [tb_ge (by omega), decide_eq_false (by omega)]
theorem sbA {n : Nat} (h : okN n) {a : Int64} : sb a (mA n) ↔ ∀ i, tb a i = true → i < n * n := by
  constructor
  · intro q i r
    have := q i r
    rw [tb_mA h] at this
    exact of_decide_eq_true this
  · intro q i r
    rw [tb_mA h]
    exact decide_eq_true (q i r)
/-- the points beside a set -/
def ar (n : Nat) (p : Int64) : Int64 := fX2_around (gridOf n) p
/-- i has the neighbour j -/
def adj (n i j : Nat) : Prop := i < n * n ∧ j < n * n ∧ ((i = j + 1 ∧ ¬ i % n = 0) ∨ (j = i + 1 ∧ ¬ j % n = 0) ∨ i = j + n ∨ j = i + n)
theorem adj_comm {n i j : Nat} : adj n i j ↔ adj n j i := by
  unfold adj
  constructor
  · intro ⟨a, b, c⟩
    refine ⟨b, a, ?_⟩
    rcases c with c | c | c | c
    · exact .inr (.inl c)
    · exact .inl c
    · exact .inr (.inr (.inr c))
    · exact .inr (.inr (.inl c))
  · intro ⟨a, b, c⟩
    refine ⟨b, a, ?_⟩
    rcases c with c | c | c | c
    · exact .inr (.inl c)
    · exact .inl c
    · exact .inr (.inr (.inr c))
    · exact .inr (.inr (.inl c))
theorem last_next {n : Nat} (h : okN n) (i : Nat) : i % n = n - 1 ↔ (i + 1) % n = 0 := by
  rcases h with h | h | h | h | h <;> subst h <;> omega
theorem tb_ar0 {n : Nat} (h : okN n) (p : Int64) (i : Nat) (hi : i < 64) : tb (ar n p) i = ((decide (1 ≤ i) && tb p (i - 1) && decide (i < n * n ∧ ¬ i % n = 0)) || (tb p (i + 1) && decide (i < n * n ∧ ¬ i % n = n - 1)) || ((decide (n ≤ i) && tb p (i - n) || tb p (i + n)) && decide (i < n * n))) := by
  have hn := okN_le h
  unfold ar fX2_around
  rw [grid_rows h, tb_or, tb_or, tb_and, tb_and, tb_and, tb_or, tb_nF h, tb_nL h, tb_mA h]
  rw [tb_shl p (y := 1) (k := 1) (by omega) rfl, tb_ushr p (y := 1) (k := 1) (by omega) rfl, tb_shl p (k := n) (by omega) rfl, tb_ushr p (k := n) (by omega) rfl]
  rw [decide_eq_true hi, Bool.true_and, Bool.true_and]
theorem tb_ar {n : Nat} (h : okN n) {p : Int64} (hp : sb p (mA n)) (i : Nat) : tb (ar n p) i = true ↔ ∃ j, adj n i j ∧ tb p j = true := by
  have hs := okN_sq h
  have hn := okN_le h
  rw [sbA h] at hp
  constructor
  · intro q
    rw [tb_ar0 h p i (tb_lt q)] at q
    simp only [Bool.or_eq_true, Bool.and_eq_true, decide_eq_true_eq] at q
    rcases q with ((⟨⟨q1, q2⟩, q3, q4⟩ | ⟨q1, q2, q3⟩) | ⟨⟨q1, q2⟩ | q2, q3⟩)
    · exact ⟨i - 1, ⟨q3, hp _ q2, .inl ⟨by omega, q4⟩⟩, q2⟩
    · exact ⟨i + 1, ⟨q2, hp _ q1, .inr (.inl ⟨rfl, fun e => q3 ((last_next h i).mpr e)⟩)⟩, q1⟩
    · exact ⟨i - n, ⟨q3, hp _ q2, .inr (.inr (.inl (by omega)))⟩, q2⟩
    · exact ⟨i + n, ⟨q3, hp _ q2, .inr (.inr (.inr rfl))⟩, q2⟩
  · intro ⟨j, ⟨j1, j2, j3⟩, j4⟩
    rw [tb_ar0 h p i (by omega)]
    simp only [Bool.or_eq_true, Bool.and_eq_true, decide_eq_true_eq]
    rcases j3 with ⟨e, f⟩ | ⟨e, f⟩ | e | e
    · refine .inl (.inl ⟨⟨by omega, ?_⟩, j1, f⟩)
      have : i - 1 = j := by omega
      rw [this]; exact j4
    · refine .inl (.inr ⟨?_, j1, ?_⟩)
      · rw [← e]; exact j4
      · intro g
        apply f
        rw [e]
        exact (last_next h i).mp g
    · refine .inr ⟨.inl ⟨by omega, ?_⟩, j1⟩
      have : i - n = j := by omega
      rw [this]; exact j4
    · refine .inr ⟨.inr ?_, j1⟩
      rw [← e]; exact j4
theorem ar_all {n : Nat} (h : okN n) (p : Int64) : sb (ar n p) (mA n) := by
  rw [sbA h]
  intro i q
  rw [tb_ar0 h p i (tb_lt q)] at q
  simp only [Bool.or_eq_true, Bool.and_eq_true, decide_eq_true_eq] at q
  rcases q with ((⟨⟨q1, q2⟩, q3, q4⟩ | ⟨q1, q2, q3⟩) | ⟨q2, q3⟩)
  · exact q3
  · exact q2
  · exact q3
theorem ar_mono {n : Nat} (h : okN n) {p q : Int64} (hpq : sb p q) (hq : sb q (mA n)) : sb (ar n p) (ar n q) := by
  intro i r
  rw [tb_ar h (sb_trans hpq hq)] at r
  rw [tb_ar h hq]
  obtain ⟨j, j1, j2⟩ := r
  exact ⟨j, j1, hpq j j2⟩
theorem ar_or {n : Nat} (h : okN n) {p q : Int64} (hp : sb p (mA n)) (hq : sb q (mA n)) : ar n (p ||| q) = ar n p ||| ar n q := by
  apply sb_anti
  · intro i r
    rw [tb_ar h (sb_or hp hq)] at r
    rw [tb_or, Bool.or_eq_true, tb_ar h hp, tb_ar h hq]
    obtain ⟨j, j1, j2⟩ := r
    rw [tb_or, Bool.or_eq_true] at j2
    rcases j2 with j2 | j2
    · exact .inl ⟨j, j1, j2⟩
    · exact .inr ⟨j, j1, j2⟩
  · exact sb_or (ar_mono h (sb_orl p q) (sb_or hp hq)) (ar_mono h (sb_orr p q) (sb_or hp hq))
theorem ar_sym {n : Nat} (h : okN n) {a b : Int64} (ha : sb a (mA n)) (hb : sb b (mA n)) (q : a &&& ar n b = 0) : ar n a &&& b = 0 := by
  rw [and0] at q ⊢
  intro i hi
  rw [tb_ar h ha] at hi
  obtain ⟨j, j1, j2⟩ := hi
  cases e : tb b i with
  | false => rfl
  | true =>
    have h1 := q j j2
    have h2 : tb (ar n b) j = true := (tb_ar h hb j).mpr ⟨i, adj_comm.mp j1, e⟩
    rw [h2] at h1
    cases h1
theorem ar_zero {n : Nat} (h : okN n) : ar n 0 = 0 := by
  apply tb_eq0.mpr
  intro i
  cases e : tb (ar n 0) i with
  | false => rfl
  | true =>
    rw [tb_ar h (sb_zero _)] at e
    obtain ⟨j, _, j2⟩ := e
    rw [tb_zero] at j2
    cases j2
/-! the reference's neighbours -/
theorem all_eq {n : Nat} (h : okN n) : shlL 1 (nI n * nI n) - 1 = mA n := by
  rcases h with h | h | h | h | h <;> subst h <;> decide +kernel
/-! across -/
