/-! sets by their points; the lowest stones of the groups -/
def mkS (f : Nat → Bool) : Nat → Int64
  | 0 => 0
  | m + 1 => if f m = true then mkS f m ||| pt m else mkS f m
theorem m_mkS (f : Nat → Bool) : ∀ m, m ≤ 64 → ∀ i, tb (mkS f m) i = true ↔ i < m ∧ f i = true := by
  intro m
  induction m with
  | zero =>
    intro _ i
    show tb 0 i = true ↔ _
    rw [tb_zero]
    exact ⟨fun z => absurd z (by decide), fun z => absurd z.1 (by omega)⟩
  | succ m ih =>
    intro hm i
    have ih' := ih (by omega) i
    unfold mkS
    by_cases q : f m = true
    · rw [if_pos q, m_or, ih', m_pt (by omega)]
      constructor
      · rintro (r | r)
        · exact ⟨by omega, r.2⟩
        · exact ⟨by omega, by rw [r]; exact q⟩
      · rintro ⟨r1, r2⟩
        by_cases c : i = m
        · exact .inr c
        · exact .inl ⟨by omega, r2⟩
    · rw [if_neg q, ih']
      constructor
      · rintro ⟨r1, r2⟩
        exact ⟨by omega, r2⟩
      · rintro ⟨r1, r2⟩
        by_cases c : i = m
        · rw [c] at r2
          exact absurd r2 q
        · exact ⟨by omega, r2⟩
theorem tb_below {p : Nat} (hp : p < 64) {i : Nat} (hi : i < 64) : tb (pt p - 1) i = true ↔ i < p := by
  rw [tb_pred _ hi, tb_neg _ hi, tb_pt hp]
  have : (∃ j, j < i ∧ tb (pt p) j = true) ↔ p < i := by
    constructor
    · rintro ⟨j, j1, j2⟩
      have := (m_pt hp).mp j2
      omega
    · intro q
      exact ⟨p, q, pt_self hp⟩
  by_cases c : i < p
  · rw [decide_eq_false (show ¬ i = p by omega), decide_eq_false (fun z => by have := this.mp z; omega)]
    exact ⟨fun _ => c, fun _ => rfl⟩
  · by_cases d : i = p
    · rw [decide_eq_true d, decide_eq_false (fun z => by have := this.mp z; omega)]
      exact ⟨fun z => absurd z (by decide), fun z => absurd z c⟩
    · rw [decide_eq_false d, decide_eq_true (this.mpr (by omega))]
      exact ⟨fun z => absurd z (by decide), fun z => absurd z c⟩
theorem below0 {p : Nat} (hp : p < 64) {x : Int64} : x &&& (pt p - 1) = 0 ↔ ∀ j, j < p → ¬ tb x j = true := by
  rw [m_and0]
  constructor
  · intro h j hj q
    exact h j q ((tb_below hp (by omega)).mpr hj)
  · intro h i q r
    exact h i ((tb_below hp (tb_lt q)).mp r) q
/-- the lowest stones, one of each group -/
def lowS (n : Nat) (S : Int64) : Int64 := mkS (fun i => tb S i && decide (cl n S (pt i) &&& (pt i - 1) = 0)) 49
theorem m_lowS {n : Nat} {S : Int64} {i : Nat} : tb (lowS n S) i = true ↔ i < 49 ∧ tb S i = true ∧ cl n S (pt i) &&& (pt i - 1) = 0 := by
  unfold lowS
  rw [m_mkS _ 49 (by omega), Bool.and_eq_true, decide_eq_true_eq]
/-- those of groups with one liberty -/
def oneS (n : Nat) (S O : Int64) : Int64 := mkS (fun i => tb (lowS n S) i && decide (cn (lbs n S O (cl n S (pt i))) 49 = 1)) 49
theorem m_oneS {n : Nat} {S O : Int64} {i : Nat} : tb (oneS n S O) i = true ↔ tb (lowS n S) i = true ∧ cn (lbs n S O (cl n S (pt i))) 49 = 1 := by
  unfold oneS
  rw [m_mkS _ 49 (by omega), Bool.and_eq_true, decide_eq_true_eq]
  exact ⟨fun z => z.2, fun z => ⟨(m_lowS.mp z.1).1, z⟩⟩
section LOW
variable {n : Nat} {S O : Int64}
theorem lowS_sb : sb (lowS n S) S := fun i q => (m_lowS.mp q).2.1
theorem oneS_sb : sb (oneS n S O) S := fun i q => lowS_sb i (m_oneS.mp q).1
/-- the one lowest stone of a group -/
theorem low_of (h : okN n) (hS : sb S (mA n)) {e : Nat} (he : tb S e = true) : ∃ k, k < 49 ∧ tb (cl n S (pt e)) k = true ∧ cl n S (pt k) = cl n S (pt e) ∧ tb (lowS n S) k = true ∧ ∀ i, tb (cl n S (pt e)) i = true → tb (lowS n S) i = true → i = k := by
  have hsq := okN_sq h
  have x0 : ¬ cl n S (pt e) = 0 := by
    intro z
    have := atom_self h hS he
    rw [z, tb_zero] at this
    exact absurd this (by decide)
  obtain ⟨k, k1, k2, k3, -⟩ := low_pt x0
  have hkS := cl_sb h hS k k2
  have hkn := (sbA h).mp hS k hkS
  have hat := atom_eq h hS he k2
  have hlow : tb (lowS n S) k = true := m_lowS.mpr ⟨by omega, hkS, (below0 k1).mpr (fun j hj q => by
    rw [hat] at q
    rw [k3 j hj] at q
    exact absurd q (by decide))⟩
  refine ⟨k, by omega, k2, hat, hlow, fun i i1 i2 => ?_⟩
  have hiS := cl_sb h hS i i1
  have hia := atom_eq h hS he i1
  obtain ⟨q1, q2, q3⟩ := m_lowS.mp i2
  have q4 := (below0 (show i < 64 by omega)).mp q3
  rw [hia] at q4
  rcases Nat.lt_trichotomy i k with z | z | z
  · rw [k3 i z] at i1
    exact absurd i1 (by decide)
  · exact z
  · exact absurd k2 (q4 k z)
theorem gN_low (h : okN n) (hS : sb S (mA n)) : gN n S = cn (lowS n S) 49 := by
  have := gsum_cn h (E := lowS n S) hS (fun _ => 1) (fun e he => by
    obtain ⟨k, k1, k2, k3, k4, k5⟩ := low_of h hS he
    have : cl n S (pt e) &&& lowS n S = pt k := by
      refine m_ext (fun i => ?_)
      rw [m_and, m_pt (by omega)]
      exact ⟨fun z => k5 i z.1 z.2, fun z => by rw [z]; exact ⟨k2, k4⟩⟩
    rw [this, cn_pt (by omega), if_pos k1]) 49 S clo_self (cn_le _ _)
  unfold gN
  rw [this]
  congr 1
  refine m_ext (fun i => ?_)
  rw [m_and]
  exact ⟨fun z => z.2, fun z => ⟨lowS_sb i z, z⟩⟩
theorem gO_one (h : okN n) (hS : sb S (mA n)) : gO n S O = cn (oneS n S O) 49 := by
  have := gsum_cn h (E := oneS n S O) hS (oneL n S O) (fun e he => by
    obtain ⟨k, k1, k2, k3, k4, k5⟩ := low_of h hS he
    unfold oneL
    by_cases q : cn (lbs n S O (cl n S (pt e))) 49 = 1
    · rw [if_pos q]
      have : cl n S (pt e) &&& oneS n S O = pt k := by
        refine m_ext (fun i => ?_)
        rw [m_and, m_pt (by omega), m_oneS]
        exact ⟨fun z => k5 i z.1 z.2.1, fun z => by rw [z]; exact ⟨k2, k4, by rw [k3]; exact q⟩⟩
      rw [this, cn_pt (by omega), if_pos k1]
    · rw [if_neg q]
      have : cl n S (pt e) &&& oneS n S O = 0 := by
        refine m_and0.mpr (fun i i1 i2 => ?_)
        obtain ⟨i3, i4⟩ := m_oneS.mp i2
        rw [k5 i i1 i3, k3] at i4
        exact q i4
      rw [this, cn_zero]) 49 S clo_self (cn_le _ _)
  unfold gO
  rw [this]
  congr 1
  refine m_ext (fun i => ?_)
  rw [m_and]
  exact ⟨fun z => z.2, fun z => ⟨oneS_sb i z, z⟩⟩
end LOW
/-! the law's own neighbours -/
theorem beside_eq {n k : Nat} (h : okN n) (hk : k < n * n) : fL_beside (nI n) (nI k) = some (ar n (pt k)) := by
  have hsq := okN_sq h
  have hn7 := okN_le h
  have hmod : nI k - nI k / nI n * nI n = nI (k % n) := nI_mod (by omega) (by omega)
  have hnn : nI n * nI n - nI n = nI (n * n - n) := by rw [nI_mul, nI_sub (by omega)]
  have hn1 : nI n - 1 = nI (n - 1) := nI_sub (a := n) (b := 1) (by omega)
  have hlt : k % n < n := Nat.mod_lt _ (by omega)
  have hle := Nat.mod_le k n
  have hne : ¬ nI n = 0 := nIne (b := 0) (by omega) (by omega) (by omega)
  unfold fL_beside
  rw [bnd_if, bnd_if, if_neg hne, bnd_if, if_neg hne, bnd_if, hmod, hnn, hn1]
  congr 1
  refine m_ext (fun i => ?_)
  have c1 : tb (if nI k < nI n then (0 : Int64) else shlL 1 (nI k - nI n)) i = true ↔ n ≤ k ∧ i = k - n := by
    by_cases q : k < n
    · rw [if_pos ((nI_lt_iff (by omega) (by omega)).mpr q), tb_zero]
      exact ⟨fun z => absurd z (by decide), fun z => absurd z.1 (by omega)⟩
    · rw [if_neg (fun z => q ((nI_lt_iff (by omega) (by omega)).mp z)), nI_sub (by omega), shl_pt, m_pt (by omega)]
      exact ⟨fun z => ⟨by omega, z⟩, fun z => z.2⟩
  have c2 : tb (if nI (n * n - n) ≤ nI k then (0 : Int64) else shlL 1 (nI k + nI n)) i = true ↔ k < n * n - n ∧ i = k + n := by
    by_cases q : n * n - n ≤ k
    · rw [if_pos ((nI_le_iff (by omega) (by omega)).mpr q), tb_zero]
      exact ⟨fun z => absurd z (by decide), fun z => absurd z.1 (by omega)⟩
    · rw [if_neg (fun z => q ((nI_le_iff (by omega) (by omega)).mp z)), nI_add, shl_pt, m_pt (by omega)]
      exact ⟨fun z => ⟨by omega, z⟩, fun z => z.2⟩
  have e0 : nI (k % n) ≤ 0 ↔ k % n ≤ 0 := nI_le_iff (a := k % n) (b := 0) (by omega) (by omega)
  have c3 : tb (if nI (k % n) ≤ 0 then (0 : Int64) else shlL 1 (nI k - 1)) i = true ↔ 0 < k % n ∧ i = k - 1 := by
    by_cases q : k % n ≤ 0
    · rw [if_pos (e0.mpr q), tb_zero]
      exact ⟨fun z => absurd z (by decide), fun z => absurd z.1 (by omega)⟩
    · rw [if_neg (fun z => q (e0.mp z)), show (1 : Int32) = nI 1 from rfl, nI_sub (by omega), shl_pt, m_pt (by omega)]
      exact ⟨fun z => ⟨by omega, z⟩, fun z => z.2⟩
  have c4 : tb (if nI (n - 1) ≤ nI (k % n) then (0 : Int64) else shlL 1 (nI k + 1)) i = true ↔ k % n < n - 1 ∧ i = k + 1 := by
    by_cases q : n - 1 ≤ k % n
    · rw [if_pos ((nI_le_iff (by omega) (by omega)).mpr q), tb_zero]
      exact ⟨fun z => absurd z (by decide), fun z => absurd z.1 (by omega)⟩
    · rw [if_neg (fun z => q ((nI_le_iff (by omega) (by omega)).mp z)), show (1 : Int32) = nI 1 from rfl, nI_add, shl_pt, m_pt (by omega)]
      exact ⟨fun z => ⟨by omega, z⟩, fun z => z.2⟩
  rw [m_or, m_or, m_or, c1, c2, c3, c4, tb_arpt h hk]
  have hl := last_next h k
  have hmm : (n * n) % n = 0 := Nat.mul_mod_left n n
  unfold adj
  constructor
  · rintro (((⟨a1, a2⟩ | ⟨a1, a2⟩) | ⟨a1, a2⟩) | ⟨a1, a2⟩)
    · exact ⟨by omega, hk, .inr (.inr (.inr (by omega)))⟩
    · exact ⟨by omega, hk, .inr (.inr (.inl a2))⟩
    · exact ⟨by omega, hk, .inr (.inl ⟨by omega, by omega⟩)⟩
    · have h1 : ¬ (k + 1) % n = 0 := fun z => by have := hl.mpr z; omega
      have h2 : ¬ k + 1 = n * n := fun z => by rw [z] at h1; exact h1 hmm
      exact ⟨by omega, hk, .inl ⟨a2, by rw [a2]; exact h1⟩⟩
  · rintro ⟨a1, -, (⟨a2, a3⟩ | ⟨a2, a3⟩ | a2 | a2)⟩
    · refine .inr ⟨?_, a2⟩
      have h1 : ¬ k % n = n - 1 := fun z => a3 (by rw [a2]; exact hl.mp z)
      omega
    · exact .inl (.inr ⟨by omega, by omega⟩)
    · exact .inl (.inl (.inr ⟨by omega, a2⟩))
    · exact .inl (.inl (.inl ⟨by omega, by omega⟩))
