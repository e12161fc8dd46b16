abbrev RSt : Type := Int32 × Int32 × Int64 × Int64 × Int64
def gridOf (n : Nat) : RSt := match fX2_init (nI n) with
  | some g => g
  | none => (0, 0, 0, 0, 0)
abbrev mA (n : Nat) : Int64 := (gridOf n).2.2.1
def okN (n : Nat) : Prop := n = 3 ∨ n = 4 ∨ n = 5 ∨ n = 6 ∨ n = 7
theorem okN_of {n : Nat} (h : 3 ≤ n) (g : n ≤ 7) : okN n := by unfold okN; omega
theorem okN_le {n : Nat} (h : okN n) : 3 ≤ n ∧ n ≤ 7 := by unfold okN at h; omega
theorem okN_sq {n : Nat} (h : okN n) : 9 ≤ n * n ∧ n * n ≤ 49 := by
  rcases h with h | h | h | h | h <;> subst h <;> decide
theorem init_grid {n : Nat} (h : okN n) : fX2_init (nI n) = some (gridOf n) := by
  rcases h with h | h | h | h | h <;> subst h <;> decide +kernel
theorem grid_rows {n : Nat} (h : okN n) : (gridOf n).1 = nI n := by
  rcases h with h | h | h | h | h <;> subst h <;> decide +kernel
theorem grid_points {n : Nat} (h : okN n) : (gridOf n).2.1 = nI (n * n) := by
  rcases h with h | h | h | h | h <;> subst h <;> decide +kernel
theorem tb_mA0 : ∀ i, i < 64 → (tb (mA 3) i = decide (i < 3 * 3) ∧ tb (mA 4) i = decide (i < 4 * 4) ∧ tb (mA 5) i = decide (i < 5 * 5) ∧ tb (mA 6) i = decide (i < 6 * 6) ∧ tb (mA 7) i = decide (i < 7 * 7)) := by decide +kernel
theorem tb_nF0 : ∀ i, i < 64 → (tb (gridOf 3).2.2.2.1 i = decide (i < 3 * 3 ∧ ¬ i % 3 = 0) ∧ tb (gridOf 4).2.2.2.1 i = decide (i < 4 * 4 ∧ ¬ i % 4 = 0) ∧ tb (gridOf 5).2.2.2.1 i = decide (i < 5 * 5 ∧ ¬ i % 5 = 0) ∧ tb (gridOf 6).2.2.2.1 i = decide (i < 6 * 6 ∧ ¬ i % 6 = 0) ∧ tb (gridOf 7).2.2.2.1 i = decide (i < 7 * 7 ∧ ¬ i % 7 = 0)) := by decide +kernel
theorem tb_nL0 : ∀ i, i < 64 → (tb (gridOf 3).2.2.2.2 i = decide (i < 3 * 3 ∧ ¬ i % 3 = 2) ∧ tb (gridOf 4).2.2.2.2 i = decide (i < 4 * 4 ∧ ¬ i % 4 = 3) ∧ tb (gridOf 5).2.2.2.2 i = decide (i < 5 * 5 ∧ ¬ i % 5 = 4) ∧ tb (gridOf 6).2.2.2.2 i = decide (i < 6 * 6 ∧ ¬ i % 6 = 5) ∧ tb (gridOf 7).2.2.2.2 i = decide (i < 7 * 7 ∧ ¬ i % 7 = 6)) := by decide +kernel
theorem tb_mA {n : Nat} (h : okN n) (i : Nat) : tb (mA n) i = decide (i < n * n) := by
  have hs := okN_sq h
  by_cases c : i < 64
  · have := tb_mA0 i c
    rcases h with h | h | h | h | h <;> subst h
    · exact this.1
    · exact this.2.1
    · exact this.2.2.1
    · exact this.2.2.2.1
    · exact this.2.2.2.2
  · rw [tb_ge (by omega), decide_eq_false (by omega)]
theorem tb_nF {n : Nat} (h : okN n) (i : Nat) : tb (gridOf n).2.2.2.1 i = decide (i < n * n ∧ ¬ i % n = 0) := by
  have hs := okN_sq h
  by_cases c : i < 64
  · have := tb_nF0 i c
    rcases h with h | h | h | h | h <;> subst h
    · exact this.1
    · exact this.2.1
    · exact this.2.2.1
    · exact this.2.2.2.1
    · exact this.2.2.2.2
  · rw [tb_ge (by omega), decide_eq_false (by omega)]
theorem tb_nL {n : Nat} (h : okN n) (i : Nat) : tb (gridOf n).2.2.2.2 i = decide (i < n * n ∧ ¬ i % n = n - 1) := by
  have hs := okN_sq h
  by_cases c : i < 64
  · have := tb_nL0 i c
    rcases h with h | h | h | h | h <;> subst h
    · exact this.1
    · exact this.2.1
    · exact this.2.2.1
    · exact this.2.2.2.1
    · exact this.2.2.2.2
  · rw [tb_ge (by omega), decide_eq_false (by omega)]
theorem sbA {n : Nat} (h : okN n) {a : Int64} : sb a (mA n) ↔ ∀ i, tb a i = true → i < n * n := by
  constructor
  · intro q i r
    have := q i r
    rw [tb_mA h] at this
    exact of_decide_eq_true this
  · intro q i r
    rw [tb_mA h]
    exact decide_eq_true (q i r)
/-- the points beside a set -/
def ar (n : Nat) (p : Int64) : Int64 := fX2_around (gridOf n) p
/-- i has the neighbour j -/
def adj (n i j : Nat) : Prop := i < n * n ∧ j < n * n ∧ ((i = j + 1 ∧ ¬ i % n = 0) ∨ (j = i + 1 ∧ ¬ j % n = 0) ∨ i = j + n ∨ j = i + n)
theorem adj_comm {n i j : Nat} : adj n i j ↔ adj n j i := by
  unfold adj
  constructor
  · intro ⟨a, b, c⟩
    refine ⟨b, a, ?_⟩
    rcases c with c | c | c | c
    · exact .inr (.inl c)
    · exact .inl c
    · exact .inr (.inr (.inr c))
    · exact .inr (.inr (.inl c))
  · intro ⟨a, b, c⟩
    refine ⟨b, a, ?_⟩
    rcases c with c | c | c | c
    · exact .inr (.inl c)
    · exact .inl c
    · exact .inr (.inr (.inr c))
    · exact .inr (.inr (.inl c))
theorem last_next {n : Nat} (h : okN n) (i : Nat) : i % n = n - 1 ↔ (i + 1) % n = 0 := by
  rcases h with h | h | h | h | h <;> subst h <;> omega
theorem tb_ar0 {n : Nat} (h : okN n) (p : Int64) (i : Nat) (hi : i < 64) : tb (ar n p) i = ((decide (1 ≤ i) && tb p (i - 1) && decide (i < n * n ∧ ¬ i % n = 0)) || (tb p (i + 1) && decide (i < n * n ∧ ¬ i % n = n - 1)) || ((decide (n ≤ i) && tb p (i - n) || tb p (i + n)) && decide (i < n * n))) := by
  have hn := okN_le h
  unfold ar fX2_around
  rw [grid_rows h, tb_or, tb_or, tb_and, tb_and, tb_and, tb_or, tb_nF h, tb_nL h, tb_mA h]
  rw [tb_shl p (y := 1) (k := 1) (by omega) rfl, tb_ushr p (y := 1) (k := 1) (by omega) rfl, tb_shl p (k := n) (by omega) rfl, tb_ushr p (k := n) (by omega) rfl]
  rw [decide_eq_true hi, Bool.true_and, Bool.true_and]
theorem tb_ar {n : Nat} (h : okN n) {p : Int64} (hp : sb p (mA n)) (i : Nat) : tb (ar n p) i = true ↔ ∃ j, adj n i j ∧ tb p j = true := by
  have hs := okN_sq h
  have hn := okN_le h
  rw [sbA h] at hp
  constructor
  · intro q
    rw [tb_ar0 h p i (tb_lt q)] at q
    simp only [Bool.or_eq_true, Bool.and_eq_true, decide_eq_true_eq] at q
    rcases q with ((⟨⟨q1, q2⟩, q3, q4⟩ | ⟨q1, q2, q3⟩) | ⟨⟨q1, q2⟩ | q2, q3⟩)
    · exact ⟨i - 1, ⟨q3, hp _ q2, .inl ⟨by omega, q4⟩⟩, q2⟩
    · exact ⟨i + 1, ⟨q2, hp _ q1, .inr (.inl ⟨rfl, fun e => q3 ((last_next h i).mpr e)⟩)⟩, q1⟩
    · exact ⟨i - n, ⟨q3, hp _ q2, .inr (.inr (.inl (by omega)))⟩, q2⟩
    · exact ⟨i + n, ⟨q3, hp _ q2, .inr (.inr (.inr rfl))⟩, q2⟩
  · intro ⟨j, ⟨j1, j2, j3⟩, j4⟩
    rw [tb_ar0 h p i (by omega)]
    simp only [Bool.or_eq_true, Bool.and_eq_true, decide_eq_true_eq]
    rcases j3 with ⟨e, f⟩ | ⟨e, f⟩ | e | e
    · refine .inl (.inl ⟨⟨by omega, ?_⟩, j1, f⟩)
      have : i - 1 = j := by omega
      rw [this]; exact j4
    · refine .inl (.inr ⟨?_, j1, ?_⟩)
      · rw [← e]; exact j4
      · intro g
        apply f
        rw [e]
        exact (last_next h i).mp g
    · refine .inr ⟨.inl ⟨by omega, ?_⟩, j1⟩
      have : i - n = j := by omega
      rw [this]; exact j4
    · refine .inr ⟨.inr ?_, j1⟩
      rw [← e]; exact j4
theorem ar_all {n : Nat} (h : okN n) (p : Int64) : sb (ar n p) (mA n) := by
  rw [sbA h]
  intro i q
  rw [tb_ar0 h p i (tb_lt q)] at q
  simp only [Bool.or_eq_true, Bool.and_eq_true, decide_eq_true_eq] at q
  rcases q with ((⟨⟨q1, q2⟩, q3, q4⟩ | ⟨q1, q2, q3⟩) | ⟨q2, q3⟩)
  · exact q3
  · exact q2
  · exact q3
theorem ar_mono {n : Nat} (h : okN n) {p q : Int64} (hpq : sb p q) (hq : sb q (mA n)) : sb (ar n p) (ar n q) := by
  intro i r
  rw [tb_ar h (sb_trans hpq hq)] at r
  rw [tb_ar h hq]
  obtain ⟨j, j1, j2⟩ := r
  exact ⟨j, j1, hpq j j2⟩
theorem ar_or {n : Nat} (h : okN n) {p q : Int64} (hp : sb p (mA n)) (hq : sb q (mA n)) : ar n (p ||| q) = ar n p ||| ar n q := by
  apply sb_anti
  · intro i r
    rw [tb_ar h (sb_or hp hq)] at r
    rw [tb_or, Bool.or_eq_true, tb_ar h hp, tb_ar h hq]
    obtain ⟨j, j1, j2⟩ := r
    rw [tb_or, Bool.or_eq_true] at j2
    rcases j2 with j2 | j2
    · exact .inl ⟨j, j1, j2⟩
    · exact .inr ⟨j, j1, j2⟩
  · exact sb_or (ar_mono h (sb_orl p q) (sb_or hp hq)) (ar_mono h (sb_orr p q) (sb_or hp hq))
theorem ar_sym {n : Nat} (h : okN n) {a b : Int64} (ha : sb a (mA n)) (hb : sb b (mA n)) (q : a &&& ar n b = 0) : ar n a &&& b = 0 := by
  rw [and0] at q ⊢
  intro i hi
  rw [tb_ar h ha] at hi
  obtain ⟨j, j1, j2⟩ := hi
  cases e : tb b i with
  | false => rfl
  | true =>
    have h1 := q j j2
    have h2 : tb (ar n b) j = true := (tb_ar h hb j).mpr ⟨i, adj_comm.mp j1, e⟩
    rw [h2] at h1
    cases h1
theorem ar_zero {n : Nat} (h : okN n) : ar n 0 = 0 := by
  apply tb_eq0.mpr
  intro i
  cases e : tb (ar n 0) i with
  | false => rfl
  | true =>
    rw [tb_ar h (sb_zero _)] at e
    obtain ⟨j, _, j2⟩ := e
    rw [tb_zero] at j2
    cases j2
/-! the reference's neighbours -/
def colOf (n c : Nat) : Int64 := match fX8_column (nI n) (nI c) with
  | some x => x
  | none => 0
theorem col_first {n : Nat} (h : okN n) : fX8_column (nI n) 0 = some (colOf n 0) := by
  rcases h with h | h | h | h | h <;> subst h <;> decide +kernel
theorem col_last {n : Nat} (h : okN n) : fX8_column (nI n) (nI n - 1) = some (colOf n (n - 1)) := by
  rcases h with h | h | h | h | h <;> subst h <;> decide +kernel
theorem tb_c00 : ∀ i, i < 64 → (tb (colOf 3 0) i = decide (i < 3 * 3 ∧ i % 3 = 0) ∧ tb (colOf 4 0) i = decide (i < 4 * 4 ∧ i % 4 = 0) ∧ tb (colOf 5 0) i = decide (i < 5 * 5 ∧ i % 5 = 0) ∧ tb (colOf 6 0) i = decide (i < 6 * 6 ∧ i % 6 = 0) ∧ tb (colOf 7 0) i = decide (i < 7 * 7 ∧ i % 7 = 0)) := by decide +kernel
theorem tb_cL0 : ∀ i, i < 64 → (tb (colOf 3 2) i = decide (i < 3 * 3 ∧ i % 3 = 2) ∧ tb (colOf 4 3) i = decide (i < 4 * 4 ∧ i % 4 = 3) ∧ tb (colOf 5 4) i = decide (i < 5 * 5 ∧ i % 5 = 4) ∧ tb (colOf 6 5) i = decide (i < 6 * 6 ∧ i % 6 = 5) ∧ tb (colOf 7 6) i = decide (i < 7 * 7 ∧ i % 7 = 6)) := by decide +kernel
theorem tb_c0 {n : Nat} (h : okN n) (i : Nat) : tb (colOf n 0) i = decide (i < n * n ∧ i % n = 0) := by
  have hs := okN_sq h
  by_cases c : i < 64
  · have := tb_c00 i c
    rcases h with h | h | h | h | h <;> subst h
    · exact this.1
    · exact this.2.1
    · exact this.2.2.1
    · exact this.2.2.2.1
    · exact this.2.2.2.2
  · rw [tb_ge (by omega), decide_eq_false (by omega)]
theorem tb_cL {n : Nat} (h : okN n) (i : Nat) : tb (colOf n (n - 1)) i = decide (i < n * n ∧ i % n = n - 1) := by
  have hs := okN_sq h
  by_cases c : i < 64
  · have := tb_cL0 i c
    rcases h with h | h | h | h | h <;> subst h
    · exact this.1
    · exact this.2.1
    · exact this.2.2.1
    · exact this.2.2.2.1
    · exact this.2.2.2.2
  · rw [tb_ge (by omega), decide_eq_false (by omega)]
theorem all_eq {n : Nat} (h : okN n) : shlL 1 (nI n * nI n) - 1 = mA n := by
  rcases h with h | h | h | h | h <;> subst h <;> decide +kernel
/-- the reference's beside -/
def bes (n : Nat) (p : Int64) : Int64 := shlL (p &&& (colOf n (n - 1) ^^^ (-1))) 1 ||| ushrL (p &&& (colOf n 0 ^^^ (-1))) 1
theorem beside_eq {n : Nat} (h : okN n) (p : Int64) : fX8_beside (nI n) p = some (bes n p) := by
  unfold fX8_beside
  rw [col_last h, Option.bind_some, col_first h, Option.bind_some]
  rfl
theorem tb_bes {n : Nat} (h : okN n) {p : Int64} (hp : sb p (mA n)) (i : Nat) : tb (bes n p) i = true ↔ ∃ j, j < n * n ∧ i < n * n ∧ ((i = j + 1 ∧ ¬ i % n = 0) ∨ (j = i + 1 ∧ ¬ j % n = 0)) ∧ tb p j = true := by
  have hs := okN_sq h
  rw [sbA h] at hp
  have hl : ∀ j, j < n * n → ¬ j % n = n - 1 → j + 1 < n * n := by
    intro j
    rcases h with h | h | h | h | h <;> subst h <;> omega
  constructor
  · intro q
    have hi := tb_lt q
    unfold bes at q
    rw [tb_or, tb_shl _ (y := 1) (k := 1) (by omega) rfl, tb_ushr _ (y := 1) (k := 1) (by omega) rfl, decide_eq_true hi, Bool.true_and, tb_and, tb_and] at q
    simp only [Bool.or_eq_true, Bool.and_eq_true, decide_eq_true_eq] at q
    rcases q with ⟨q1, q2, q3⟩ | ⟨q1, q2⟩
    · have h1 := hp _ q2
      rw [tb_not _ (by omega), tb_cL h] at q3
      have q4 : ¬ (i - 1) % n = n - 1 := by
        intro e
        rw [decide_eq_true ⟨h1, e⟩] at q3
        cases q3
      have h2 := hl _ h1 q4
      refine ⟨i - 1, h1, by omega, .inl ⟨by omega, ?_⟩, q2⟩
      intro e
      apply q4
      rw [last_next h]
      rw [show i - 1 + 1 = i by omega]
      exact e
    · have h1 := hp _ q1
      rw [tb_not _ (by omega), tb_c0 h] at q2
      refine ⟨i + 1, h1, by omega, .inr ⟨rfl, ?_⟩, q1⟩
      intro e
      rw [decide_eq_true ⟨h1, e⟩] at q2
      cases q2
  · intro ⟨j, j1, j2, j3, j4⟩
    unfold bes
    rw [tb_or, tb_shl _ (y := 1) (k := 1) (by omega) rfl, tb_ushr _ (y := 1) (k := 1) (by omega) rfl, decide_eq_true (show i < 64 by omega), Bool.true_and, tb_and, tb_and]
    simp only [Bool.or_eq_true, Bool.and_eq_true, decide_eq_true_eq]
    rcases j3 with ⟨e, f⟩ | ⟨e, f⟩
    · refine .inl ⟨by omega, ?_, ?_⟩
      · rw [show i - 1 = j by omega]; exact j4
      · rw [show i - 1 = j by omega, tb_not _ (by omega), tb_cL h]
        rw [decide_eq_false]
        · rfl
        · intro ⟨_, g⟩
          apply f
          rw [e]
          exact (last_next h j).mp g
    · refine .inr ⟨by rw [← e]; exact j4, ?_⟩
      rw [← e, tb_not _ (by omega), tb_c0 h]
      rw [decide_eq_false]
      · rfl
      · intro ⟨_, g⟩
        exact f g
theorem tb_ab {n : Nat} (h : okN n) {p : Int64} (hp : sb p (mA n)) (i : Nat) : tb (fX8_aboveAndBelow (nI n) p) i = true ↔ ∃ j, j < n * n ∧ i < n * n ∧ (i = j + n ∨ j = i + n) ∧ tb p j = true := by
  have hs := okN_sq h
  have hn := okN_le h
  rw [sbA h] at hp
  unfold fX8_aboveAndBelow
  rw [all_eq h, tb_and, tb_or, tb_mA h, tb_ushr p (k := n) (by omega) rfl, tb_shl p (k := n) (by omega) rfl]
  simp only [Bool.or_eq_true, Bool.and_eq_true, decide_eq_true_eq]
  constructor
  · intro ⟨q, r⟩
    rcases q with ⟨q1, q2, q3⟩ | q
    · exact ⟨i - n, hp _ q3, r, .inl (by omega), q3⟩
    · exact ⟨i + n, hp _ q, r, .inr rfl, q⟩
  · intro ⟨j, j1, j2, j3, j4⟩
    refine ⟨?_, j2⟩
    rcases j3 with e | e
    · refine .inl ⟨by omega, by omega, ?_⟩
      rw [show i - n = j by omega]; exact j4
    · refine .inr ?_
      rw [← e]; exact j4
theorem near_eq {n : Nat} (h : okN n) {p : Int64} (hp : sb p (mA n)) : fX8_near (nI n) p = some (ar n p) := by
  unfold fX8_near
  rw [beside_eq h, Option.bind_some]
  congr 1
  have key : ∀ i, tb (bes n p ||| fX8_aboveAndBelow (nI n) p) i = true ↔ tb (ar n p) i = true := by
    intro i
    rw [tb_or, Bool.or_eq_true, tb_bes h hp, tb_ab h hp, tb_ar h hp]
    constructor
    · intro q
      rcases q with ⟨j, j1, j2, j3, j4⟩ | ⟨j, j1, j2, j3, j4⟩
      · refine ⟨j, ⟨j2, j1, ?_⟩, j4⟩
        rcases j3 with e | e
        · exact .inl e
        · exact .inr (.inl e)
      · refine ⟨j, ⟨j2, j1, ?_⟩, j4⟩
        rcases j3 with e | e
        · exact .inr (.inr (.inl e))
        · exact .inr (.inr (.inr e))
    · intro ⟨j, ⟨j1, j2, j3⟩, j4⟩
      rcases j3 with e | e | e | e
      · exact .inl ⟨j, j2, j1, .inl e, j4⟩
      · exact .inl ⟨j, j2, j1, .inr e, j4⟩
      · exact .inr ⟨j, j2, j1, .inl e, j4⟩
      · exact .inr ⟨j, j2, j1, .inr e, j4⟩
  exact sb_anti (fun i => (key i).mp) (fun i => (key i).mpr)
/-! across -/
theorem corners_eq {n : Nat} (h : okN n) {p : Int64} (hp : sb p (mA n)) {y : Int32} {x : Int64} (hx : shlL 1 y = p) (hxe : x = fX2_across (gridOf n) p) : fX8_corners (nI n) y = some x := by
  have hs := okN_sq h
  have hn := okN_le h
  unfold fX8_corners
  rw [hx, beside_eq h, Option.bind_some]
  congr 1
  subst hxe
  have hb : sb (bes n p) (mA n) := by
    rw [sbA h]
    intro i q
    rw [tb_bes h hp] at q
    obtain ⟨j, _, j2, _⟩ := q
    exact j2
  have hv : ∀ i, tb (((shlL p (nI n)) ||| (ushrL p (nI n))) &&& mA n) i = true ↔ ∃ j, j < n * n ∧ i < n * n ∧ (i = j + n ∨ j = i + n) ∧ tb p j = true := by
    intro i
    have := tb_ab h hp i
    unfold fX8_aboveAndBelow at this
    rw [all_eq h] at this
    exact this
  have hva : sb (((shlL p (nI n)) ||| (ushrL p (nI n))) &&& mA n) (mA n) := sb_andr _ _
  have hm : ∀ a b, a < n * n → b < n * n → (a = b + n → a % n = b % n) := by
    intro a b _ _ e
    rw [e, Nat.add_mod_right]
  have key : ∀ i, tb (fX8_aboveAndBelow (nI n) (bes n p)) i = true ↔ tb (fX2_across (gridOf n) p) i = true := by
    intro i
    rw [tb_ab h hb]
    have e : fX2_across (gridOf n) p = ((shlL (((shlL p (nI n)) ||| (ushrL p (nI n))) &&& mA n) 1) &&& (gridOf n).2.2.2.1) ||| ((ushrL (((shlL p (nI n)) ||| (ushrL p (nI n))) &&& mA n) 1) &&& (gridOf n).2.2.2.2) := by
      unfold fX2_across bnd
      rw [grid_rows h]
    rw [e, tb_or, tb_and, tb_and, tb_nF h, tb_nL h, tb_shl _ (y := 1) (k := 1) (by omega) rfl, tb_ushr _ (y := 1) (k := 1) (by omega) rfl]
    simp only [Bool.or_eq_true, Bool.and_eq_true, decide_eq_true_eq]
    rw [hv, hv]
    constructor
    · intro ⟨j, j1, j2, j3, j4⟩
      rw [tb_bes h hp] at j4
      obtain ⟨k, k1, k2, k3, k4⟩ := j4
      have hij : i % n = j % n := by
        rcases j3 with e | e
        · exact hm i j j2 j1 e
        · exact (hm j i j1 j2 e).symm
      rcases k3 with ⟨e, f⟩ | ⟨e, f⟩
      · have g : ¬ i % n = 0 := by rw [hij]; exact f
        have i0 : 1 ≤ i := by
          apply Decidable.byContradiction
          intro q
          rw [show i = 0 by omega, Nat.zero_mod] at g
          exact g rfl
        refine .inl ⟨⟨by omega, by omega, k, k1, by omega, ?_, k4⟩, j2, g⟩
        rcases j3 with e1 | e1
        · exact .inl (by omega)
        · exact .inr (by omega)
      · have g : ¬ (i + 1) % n = 0 := by
          rw [← last_next h, hij, last_next h, ← e]
          exact f
        refine .inr ⟨⟨k, k1, ?_, ?_, k4⟩, j2, ?_⟩
        · have : ∀ i, i < n * n → ¬ (i + 1) % n = 0 → i + 1 < n * n := by
            intro i
            rcases h with h | h | h | h | h <;> subst h <;> omega
          exact this i j2 g
        · rcases j3 with e1 | e1
          · exact .inl (by omega)
          · exact .inr (by omega)
        · rw [last_next h]; exact g
    · intro q
      rcases q with ⟨⟨q0, q1, k, k1, k2, k3, k4⟩, q2, q3⟩ | ⟨⟨k, k1, k2, k3, k4⟩, q2, q3⟩
      · have hik : (i - 1) % n = k % n := by
          rcases k3 with e | e
          · exact hm _ _ k2 k1 e
          · exact (hm _ _ k1 k2 e).symm
        have g : ¬ (k + 1) % n = 0 := by
          rw [← last_next h, ← hik, last_next h, show i - 1 + 1 = i by omega]
          exact q3
        have hk : k + 1 < n * n := by
          have : ∀ i, i < n * n → ¬ (i + 1) % n = 0 → i + 1 < n * n := by
            intro i
            rcases h with h | h | h | h | h <;> subst h <;> omega
          exact this k k1 g
        refine ⟨k + 1, hk, q2, ?_, ?_⟩
        · rcases k3 with e | e
          · exact .inl (by omega)
          · exact .inr (by omega)
        · rw [tb_bes h hp]
          exact ⟨k, k1, hk, .inl ⟨rfl, g⟩, k4⟩
      · have hik : (i + 1) % n = k % n := by
          rcases k3 with e | e
          · exact hm _ _ k2 k1 e
          · exact (hm _ _ k1 k2 e).symm
        have g : ¬ k % n = 0 := by
          rw [← hik, ← last_next h]
          exact q3
        have k0 : 1 ≤ k := by
          apply Decidable.byContradiction
          intro q
          rw [show k = 0 by omega, Nat.zero_mod] at g
          exact g rfl
        refine ⟨k - 1, by omega, q2, ?_, ?_⟩
        · rcases k3 with e | e
          · exact .inl (by omega)
          · exact .inr (by omega)
        · rw [tb_bes h hp]
          exact ⟨k, k1, by omega, .inr ⟨by omega, g⟩, k4⟩
  exact sb_anti (fun i => (key i).mp) (fun i => (key i).mpr)
