theorem tb_shr0 (x : Int64) {k : Nat} (hk : k < 64) : tb (shrL x (nI k)) 0 = tb x k := by
  unfold tb shrL
  rw [Int64.toBitVec_shiftRight, sh_amt k hk, BitVec.getLsbD_sshiftRight', BitVec.toNat_ofNat, Nat.mod_eq_of_lt (by omega)]
  simp [hk]
theorem and_one (x : Int64) : x &&& 1 = if tb x 0 = true then 1 else 0 := by
  refine tb_ext (fun i hi => ?_)
  rw [tb_and, tb_one]
  by_cases c : i = 0
  · subst c
    by_cases q : tb x 0 = true
    · rw [if_pos q, q, tb_one]
      rfl
    · rw [if_neg q, tb_zero]
      rw [Bool.not_eq_true] at q
      rw [q]
      rfl
  · rw [decide_eq_false c, Bool.and_false]
    split
    · rw [tb_one, decide_eq_false c]
    · rw [tb_zero]
theorem shr_has (x : Int64) {k : Nat} (hk : k < 64) : (shrL x (nI k) &&& 1 = 1) ↔ tb x k = true := by
  rw [and_one, tb_shr0 x hk]
  by_cases q : tb x k = true
  · rw [if_pos q]
    exact ⟨fun _ => q, fun _ => rfl⟩
  · rw [if_neg q]
    exact ⟨fun z => absurd z (by decide), fun z => absurd z q⟩
theorem shr_not (x : Int64) {k : Nat} (hk : k < 64) : (shrL x (nI k) &&& 1 = 0) ↔ ¬ tb x k = true := by
  rw [and_one, tb_shr0 x hk]
  by_cases q : tb x k = true
  · rw [if_pos q]
    exact ⟨fun z => absurd z (by decide), fun z => absurd q z⟩
  · rw [if_neg q]
    exact ⟨fun _ => q, fun _ => rfl⟩
theorem low_zero : low 0 = 0 := by decide
theorem ladS_zero (ok : Int64 → Bool) : ∀ c, ladS ok c 0 = 0 := by
  intro c
  induction c with
  | zero => rfl
  | succ c ih =>
    unfold ladS
    rw [low_zero]
    split
    · rfl
    · exact ih
/-- the chosen one is a point of the set, and it is ok -/
theorem ladS_spec {ok : Int64 → Bool} : ∀ (c : Nat) (x : Int64), ¬ ladS ok c x = 0 → ∃ p, p < 64 ∧ tb x p = true ∧ ladS ok c x = pt p ∧ ok (pt p) = true := by
  intro c
  induction c with
  | zero => intro x h; exact absurd rfl h
  | succ c ih =>
    intro x h
    have x0 : ¬ x = 0 := fun q => h (by rw [q]; exact ladS_zero ok _)
    obtain ⟨p, p1, p2, p3, p4⟩ := low_pt x0
    unfold ladS at h ⊢
    rw [p4] at h ⊢
    by_cases q : ok (pt p) = true
    · rw [if_pos q]
      exact ⟨p, p1, p2, rfl, q⟩
    · rw [if_neg q] at h ⊢
      obtain ⟨j, j1, j2, j3, j4⟩ := ih _ h
      exact ⟨j, j1, ((m_xlow p1 p2).mp j2).1, j3, j4⟩
theorem ladS_mono {ok ok' : Int64 → Bool} (hm : ∀ a, ok a = true → ok' a = true) : ∀ (c : Nat) (x : Int64), ¬ ladS ok c x = 0 → ¬ ladS ok' c x = 0 := by
  intro c
  induction c with
  | zero => intro x h; exact absurd rfl h
  | succ c ih =>
    intro x h
    have x0 : ¬ x = 0 := fun q => h (by rw [q]; exact ladS_zero ok _)
    obtain ⟨p, p1, p2, p3, p4⟩ := low_pt x0
    unfold ladS at h ⊢
    rw [p4] at h ⊢
    by_cases q' : ok' (pt p) = true
    · rw [if_pos q']
      exact pt_ne0 p1
    · rw [if_neg q']
      rw [if_neg (fun q => q' (hm _ q))] at h
      exact ih _ h
theorem ladO_mono {n k : Nat} {F F' : Int64 → Int64 → Int64} (hm : ∀ a b, ¬ F a b = 0 → ¬ F' a b = 0) (ow ch : Int64) (h : ladO n k F ow ch = true) : ladO n k F' ow ch = true := by
  unfold ladO at h ⊢
  by_cases q : cn (lb n ow ch (pt k)) 49 = 1
  · rw [if_pos q] at h ⊢
    by_cases r : lb n (ow ||| lb n ow ch (pt k)) (ch &&& (tk n ow ch (lb n ow ch (pt k)) ^^^ (-1))) (lb n ow ch (pt k)) = 0
    · rw [if_pos r]
    · rw [if_neg r] at h ⊢
      have : ¬ F (ow ||| lb n ow ch (pt k)) (ch &&& (tk n ow ch (lb n ow ch (pt k)) ^^^ (-1))) = 0 := by
        intro z
        rw [z] at h
        exact absurd h (by decide)
      have := hm _ _ this
      rw [decide_eq_false this]
      rfl
  · rw [if_neg q] at h
    exact absurd h (by decide)
/-- with more stones to lay the ladder goes on working -/
theorem ladF_mono {n k : Nat} : ∀ (d : Nat) (ow ch : Int64), ¬ ladF n k d ow ch = 0 → ¬ ladF n k (d + 1) ow ch = 0 := by
  intro d
  induction d with
  | zero => intro ow ch h; exact absurd rfl h
  | succ d ih =>
    intro ow ch h
    have e1 : ladF n k (d + 1) ow ch = if cn (lb n ow ch (pt k)) 49 ≤ 2 then ladS (okF n (ladO n k (ladF n k d)) ow ch (decide (cn (lb n ow ch (pt k)) 49 = 1))) (cn (lb n ow ch (pt k)) 49) (lb n ow ch (pt k)) else 0 := rfl
    have e2 : ladF n k (d + 1 + 1) ow ch = if cn (lb n ow ch (pt k)) 49 ≤ 2 then ladS (okF n (ladO n k (ladF n k (d + 1))) ow ch (decide (cn (lb n ow ch (pt k)) 49 = 1))) (cn (lb n ow ch (pt k)) 49) (lb n ow ch (pt k)) else 0 := rfl
    rw [e1] at h
    rw [e2]
    by_cases q : cn (lb n ow ch (pt k)) 49 ≤ 2
    · rw [if_pos q] at h ⊢
      refine ladS_mono (fun a ha => ?_) _ _ h
      unfold okF at ha ⊢
      by_cases r : lb n (ch ||| a) (ow &&& (tk n ch ow a ^^^ (-1))) a = 0
      · rw [if_pos r] at ha
        exact absurd ha (by decide)
      · rw [if_neg r] at ha ⊢
        by_cases t : (decide (cn (lb n ow ch (pt k)) 49 = 1)) = true
        · rw [if_pos t]
        · rw [if_neg t] at ha ⊢
          exact ladO_mono ih _ _ ha
    · rw [if_neg q] at h
      exact absurd rfl h
theorem ladF_spec {n k d : Nat} {ow ch : Int64} (h : ¬ ladF n k (d + 1) ow ch = 0) : cn (lb n ow ch (pt k)) 49 ≤ 2 ∧ ∃ p, p < 64 ∧ tb (lb n ow ch (pt k)) p = true ∧ ladF n k (d + 1) ow ch = pt p ∧ okF n (ladO n k (ladF n k d)) ow ch (decide (cn (lb n ow ch (pt k)) 49 = 1)) (pt p) = true := by
  have e1 : ladF n k (d + 1) ow ch = if cn (lb n ow ch (pt k)) 49 ≤ 2 then ladS (okF n (ladO n k (ladF n k d)) ow ch (decide (cn (lb n ow ch (pt k)) 49 = 1))) (cn (lb n ow ch (pt k)) 49) (lb n ow ch (pt k)) else 0 := rfl
  rw [e1] at h ⊢
  by_cases q : cn (lb n ow ch (pt k)) 49 ≤ 2
  · rw [if_pos q] at h ⊢
    exact ⟨q, ladS_spec _ _ h⟩
  · rw [if_neg q] at h
    exact absurd rfl h
theorem lb_fvO {n : Nat} {ow ch s : Int64} {k : Nat} (h : ow ||| ch = s) : lb n ow ch (pt k) = fvO n s (cl n ow (pt k)) := by
  unfold lb fvO
  rw [h]
/-- a group of one liberty is taken by a stone there -/
theorem one_taken {n k p : Nat} (hn : okN n) {ow ch : Int64} (hp : posOK n ow ch) (hk : tb ow k = true) (hpl : tb (lb n ow ch (pt k)) p = true) (h1 : cn (lb n ow ch (pt k)) 49 = 1) : ¬ tb (ow &&& (tk n ch ow (pt p) ^^^ (-1))) k = true := by
  intro z
  have hkn := (sbA hn).mp hp.1 k hk
  have hk64 : k < 64 := by have := (okN_sq hn).2; omega
  have hpn : p < n * n := (sbA hn).mp lb_sb p hpl
  have hp64 : p < 64 := by have := (okN_sq hn).2; omega
  have hlb := one_pt hn lb_sb hpl h1
  have hself := atom_self hn hp.1 hk (k := k)
  have q0 : cl n ow (pt k) &&& ar n (fre n ((ch ||| ow) ||| pt p)) = 0 := by
    refine (ar_and0 hn (sb_trans (cl_sb hn hp.1) hp.1) fre_sb).mp ?_
    refine m_and0.mpr (fun i h1 h2 => ?_)
    obtain ⟨f1, f2⟩ := m_fre.mp h2
    have : tb (lb n ow ch (pt k)) i = true := m_lb.mpr ⟨h1, f1, fun q => f2 (m_or.mpr (.inl (m_or.mpr (.inr q)))), fun q => f2 (m_or.mpr (.inl (m_or.mpr (.inl q))))⟩
    rw [hlb] at this
    exact f2 (m_or.mpr (.inr this))
  have q1 := clo_free hn hp.1 fre_sb (cl_clo hn hp.1 (S := pt k)) q0
  have hz := (m_dif.mp z).2
  refine hz ?_
  unfold tk
  exact m_dif.mpr ⟨hk, fun r => m_and0.mp q1 k hself r⟩
theorem two_other {n k p : Nat} (hn : okN n) {ow ch : Int64} (h2 : ¬ cn (lb n ow ch (pt k)) 49 = 1) (hpl : tb (lb n ow ch (pt k)) p = true) : ∃ q, tb (lb n ow ch (pt k)) q = true ∧ ¬ q = p := by
  have hp64 : p < 64 := tb_lt hpl
  have hd := cn_drop1 hn lb_sb hpl
  have x0 : ¬ (lb n ow ch (pt k) ^^^ pt p) = 0 := by
    intro z
    rw [z, cn_zero] at hd
    omega
  obtain ⟨q, q1, q2, -⟩ := low_pt x0
  have := (m_xlow hp64 hpl).mp q2
  exact ⟨q, this.1, this.2⟩
