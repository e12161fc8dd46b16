section POINTS
variable {n rule mv ps pr c0 c1 : Nat} {w : GSt} {b0 b1 : Nat → Int64} {g : RSt}
theorem GR.cols (h : GR n rule mv ps pr c0 c1 w b0 b1 g) (p : Int32) : fX0_colourAt w p = if (b0 mv &&& shlL 1 p) = 0 then (if (b1 mv &&& shlL 1 p) = 0 then -1 else 1) else 0 := by
  obtain ⟨hn, hg, hr, hm, hps, hpr, hc0, hc1, hw, hct, hp⟩ := h
  unfold fX0_colourAt
  rw [hw]
theorem ptne {a : Int64} {k : Nat} (hk : k < 64) (q : tb a k = true) : ¬ (a &&& pt k) = 0 := by
  intro r
  rw [and_pt hk] at r
  rw [r] at q
  cases q
theorem ptz {a : Int64} {k : Nat} (hk : k < 64) (q : ¬ tb a k = true) : (a &&& pt k) = 0 := by
  rw [and_pt hk]
  cases e : tb a k with
  | false => rfl
  | true => exact absurd e q
theorem col_stone (h : GR n rule mv ps pr c0 c1 w b0 b1 g) {k c : Nat} (hk : k < 64) (hc : c < 2) (q : tb (sOf b0 b1 mv c) k = true) : fX0_colourAt w (nI k) = nI c := by
  have hp := h.pos hc
  rw [h.cols, shl_pt]
  rcases (show c = 0 ∨ c = 1 by omega) with e | e
  · subst e
    rw [if_neg (ptne (a := b0 mv) hk q)]
    rfl
  · subst e
    have : ¬ tb (b0 mv) k = true := m_and0.mp hp.2.2.1 k q
    rw [if_pos (ptz hk this), if_neg (ptne (a := b1 mv) hk q)]
    rfl
theorem col_free (h : GR n rule mv ps pr c0 c1 w b0 b1 g) {k : Nat} (hk : k < 64) (q : ¬ tb (b0 mv ||| b1 mv) k = true) : fX0_colourAt w (nI k) = -1 := by
  rw [h.cols, shl_pt]
  rw [m_or] at q
  rw [if_pos (ptz hk (fun r => q (.inl r))), if_pos (ptz hk (fun r => q (.inr r)))]
theorem stone_or_free (b0 b1 : Nat → Int64) (mv k : Nat) : (∃ c, c < 2 ∧ tb (sOf b0 b1 mv c) k = true) ∨ ¬ tb (b0 mv ||| b1 mv) k = true := by
  by_cases q : tb (b0 mv) k = true
  · exact .inl ⟨0, by decide, q⟩
  · by_cases r : tb (b1 mv) k = true
    · exact .inl ⟨1, by decide, r⟩
    · right
      rw [m_or]
      rintro (s | s)
      · exact q s
      · exact r s
theorem nI_ne_m1 {c : Nat} (hc : c < 2147483648) : ¬ nI c = -1 := by
  intro q
  have := congrArg Int32.toInt q
  rw [nI_toInt hc] at this
  have h2 : (-1 : Int32).toInt = -1 := by decide
  rw [h2] at this
  omega
/-- the liberties of a group r -/
def fvO (n : Nat) (s : Int64) (r : Int64) : Int64 := (ar n r &&& mA n) &&& (s ^^^ (-1))
theorem fvO_sb {s r : Int64} : sb (fvO n s r) (mA n) := sb_trans (sb_andl _ _) (sb_andr _ _)
theorem groupAt_c (h : GR n rule mv ps pr c0 c1 w b0 b1 g) {k c : Nat} (hk : k < n * n) (hc : c < 2) (q : tb (sOf b0 b1 mv c) k = true) : fX0_groupAt w g (nI k) = some (cl n (sOf b0 b1 mv c) (pt k)) := by
  have hk64 : k < 64 := by have := (okN_sq h.okn).2; omega
  unfold fX0_groupAt
  rw [col_stone h hk64 hc q, if_neg (nI_ne_m1 (by omega)), h.wc hc, shl_pt, h.grid, conn_eq h.okn (h.pos hc).1, Option.bind_some]
theorem libertiesAt_c (h : GR n rule mv ps pr c0 c1 w b0 b1 g) {k c : Nat} (hk : k < n * n) (hc : c < 2) (q : tb (sOf b0 b1 mv c) k = true) : fX0_libertiesAt w g (nI k) = some (fvO n (b0 mv ||| b1 mv) (cl n (sOf b0 b1 mv c) (pt k))) := by
  have hk64 : k < 64 := by have := (okN_sq h.okn).2; omega
  unfold fX0_libertiesAt
  rw [col_stone h hk64 hc q, if_neg (nI_ne_m1 (by omega)), other_nI hc, h.wc hc, h.wc (c := 1 - c) (by omega), shl_pt, h.grid, lib_eq h.okn (h.pos hc).1, Option.bind_some]
  unfold lb fvO
  rw [sOf_or' hc]
theorem group_ne (h : GR n rule mv ps pr c0 c1 w b0 b1 g) {k c : Nat} (hc : c < 2) (q : tb (sOf b0 b1 mv c) k = true) : ¬ cl n (sOf b0 b1 mv c) (pt k) = 0 := by
  intro r
  have := atom_self h.okn (h.pos hc).1 q
  rw [r, tb_zero] at this
  cases this
theorem at_free (h : GR n rule mv ps pr c0 c1 w b0 b1 g) {k : Nat} (hk : k < n * n) (q : ¬ tb (b0 mv ||| b1 mv) k = true) : fX0_groupAt w g (nI k) = some 0 ∧ fX0_libertiesAt w g (nI k) = some 0 := by
  have hk64 : k < 64 := by have := (okN_sq h.okn).2; omega
  refine ⟨?_, ?_⟩
  · unfold fX0_groupAt
    rw [col_free h hk64 q, if_pos rfl]
  · unfold fX0_libertiesAt
    rw [col_free h hk64 q, if_pos rfl]
theorem partAt_c (h : GR n rule mv ps pr c0 c1 w b0 b1 g) (k : Nat) : fX0_partAt w g (nI k) = some (cl n (fre n (b0 mv ||| b1 mv)) (pt k)) := by
  have h0 := h.wc (c := 0) (by decide)
  obtain ⟨hn, hg, hr, hm, hps, hpr, hc0, hc1, hw, hct, hp⟩ := h
  unfold fX0_partAt
  rw [hg, hw]
  show (fX2_connected (gridOf n) (fre n (b0 mv ||| b1 mv)) (pt k)).bind _ = _
  rw [conn_eq hn fre_sb, Option.bind_some]
theorem part_stone (h : okN n) {s : Int64} {k : Nat} (hk : k < 64) (q : tb s k = true) : cl n (fre n s) (pt k) = 0 := by
  apply sb_to0
  apply cl_least h fre_sb (clo_zero h)
  intro i hi
  rw [m_and, m_pt hk, m_fre] at hi
  obtain ⟨e, r⟩ := hi
  subst e
  exact absurd q r.2
def eyeE (n : Nat) (s0 s1 : Int64) (k : Nat) : Nat := if 0 < eyeV n s0 s1 k then eyeV n s0 s1 k else eyeV n s1 s0 k
theorem eyeV_of (n : Nat) (a o : Int64) (k : Nat) : (tb (fE n a o) k = true ∧ eyeV n a o k = 1) ∨ (¬ tb (fE n a o) k = true ∧ tb (eyX n a o 2) k = true ∧ eyeV n a o k = 2) ∨ (¬ tb (fE n a o) k = true ∧ ¬ tb (eyX n a o 2) k = true ∧ eyeV n a o k = 0) := by
  have hx := eyX_iff (n := n) (a := a) (o := o) (k := k) (v := 2) (.inr rfl)
  by_cases q : tb (fE n a o) k = true
  · left
    refine ⟨q, ?_⟩
    unfold eyeV
    rw [if_pos q]
  · right
    by_cases r : tb (eyX n a o 2) k = true
    · exact .inl ⟨q, r, hx.mp r⟩
    · right
      refine ⟨q, r, ?_⟩
      have h2 : ¬ eyeV n a o k = 2 := fun z => r (hx.mpr z)
      unfold eyeV at h2 ⊢
      rw [if_neg q] at h2 ⊢
      by_cases s : tb (eyS n a o) k = true
      · rw [if_pos s] at h2
        exact absurd rfl h2
      · rw [if_neg s]
theorem eyeAt_eq (h : GR n rule mv ps pr c0 c1 w b0 b1 g) {k : Nat} (hk : k < n * n) : fX0_eyeAt w g (nI k) = some (nI (eyeE n (b0 mv) (b1 mv) k)) := by
  have hk64 : k < 64 := by have := (okN_sq h.okn).2; omega
  have hd := (h.pos (c := 0) (by decide)).2.2.1
  have F0 : fX0_falseEyes w g 0 = some (fE n (b0 mv) (b1 mv)) := falseEyes_eq h (c := 0) (by decide)
  have F1 : fX0_falseEyes w g 1 = some (fE n (b1 mv) (b0 mv)) := falseEyes_eq h (c := 1) (by decide)
  have T0 : fX0_trueEyes w g 0 = some (eyX n (b0 mv) (b1 mv) 2) := trueEyes_eq h (c := 0) (by decide)
  have T1 : fX0_trueEyes w g 1 = some (eyX n (b1 mv) (b0 mv) 2) := trueEyes_eq h (c := 1) (by decide)
  have ex : ∀ v v', eyeV n (b0 mv) (b1 mv) k = v → eyeV n (b1 mv) (b0 mv) k = v' → 0 < v → 0 < v' → False := by
    intro v v' h1 h2 p1 p2
    have g1 : tb (eyS n (b0 mv) (b1 mv)) k = true := by
      apply Classical.byContradiction
      intro r
      unfold eyeV at h1
      rw [if_neg (fun z => r (((fE_ex h.okn _ _).2 k).mp z).1), if_neg r] at h1
      omega
    have g2 : tb (eyS n (b1 mv) (b0 mv)) k = true := by
      apply Classical.byContradiction
      intro r
      unfold eyeV at h2
      rw [if_neg (fun z => r (((fE_ex h.okn _ _).2 k).mp z).1), if_neg r] at h2
      omega
    exact eye_one h.okn hd g1 g2
  have v0 := eyeV_of n (b0 mv) (b1 mv) k
  have v1 := eyeV_of n (b1 mv) (b0 mv) k
  unfold fX0_eyeAt eyeE
  rw [F0, Option.bind_some, F1, Option.bind_some, shl_pt, T0, Option.bind_some, T1, Option.bind_some]
  rcases v0 with ⟨a1, a2⟩ | ⟨a1, a2, a3⟩ | ⟨a1, a2, a3⟩
  · rw [if_neg (ptne hk64 (m_or.mpr (.inl a1))), a2]
    rfl
  · rcases v1 with ⟨d1, d2⟩ | ⟨d1, d2, d3⟩ | ⟨d1, d2, d3⟩
    · exact absurd (ex 2 1 a3 d2 (by decide) (by decide)) (fun z => z)
    · exact absurd (ex 2 2 a3 d3 (by decide) (by decide)) (fun z => z)
    · rw [if_pos (ptz hk64 (fun z => (m_or.mp z).elim a1 d1)), if_neg (ptne hk64 (m_or.mpr (.inl a2))), a3]
      rfl
  · rcases v1 with ⟨d1, d2⟩ | ⟨d1, d2, d3⟩ | ⟨d1, d2, d3⟩
    · rw [if_neg (ptne hk64 (m_or.mpr (.inr d1))), a3, d2]
      rfl
    · rw [if_pos (ptz hk64 (fun z => (m_or.mp z).elim a1 d1)), if_neg (ptne hk64 (m_or.mpr (.inr d2))), a3, d3]
      rfl
    · rw [if_pos (ptz hk64 (fun z => (m_or.mp z).elim a1 d1)), if_pos (ptz hk64 (fun z => (m_or.mp z).elim a2 d2)), a3, d3]
      rfl
end POINTS
