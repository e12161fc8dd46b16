
theorem m_xlow {x : Int64} {p i : Nat} (hp : p < 64) (hx : tb x p = true) : tb (x ^^^ pt p) i = true ↔ tb x i = true ∧ ¬ i = p := by
  rw [tb_xor, tb_pt hp]
  by_cases c : i = p
  · subst c
    rw [hx, decide_eq_true rfl]
    exact ⟨fun z => absurd z (by decide), fun z => absurd rfl z.2⟩
  · rw [decide_eq_false c, Bool.xor_false]
    exact ⟨fun z => ⟨z, c⟩, fun z => z.1⟩
theorem cn_drop1 {n : Nat} (h : okN n) {x : Int64} {p : Nat} (hx : sb x (mA n)) (hp : tb x p = true) : cn x 49 = cn (x ^^^ pt p) 49 + 1 := by
  have hp2 := (sbA h).mp hx p hp
  have hs := okN_sq h
  have hp64 : p < 64 := by omega
  have e : x = (x ^^^ pt p) ||| pt p := by
    apply m_ext
    intro i
    rw [m_or, m_xlow hp64 hp, m_pt hp64]
    constructor
    · intro q
      by_cases c : i = p
      · exact .inr c
      · exact .inl ⟨q, c⟩
    · rintro (q | q)
      · exact q.1
      · subst q; exact hp
  have d : (x ^^^ pt p) &&& pt p = 0 := m_and0.mpr (fun i q r => ((m_xlow hp64 hp).mp q).2 ((m_pt hp64).mp r))
  have := cn_or d 49
  rw [← e, cn_pt hp64, if_pos (by omega)] at this
  exact this
theorem cn_eq0 {n : Nat} (h : okN n) {x : Int64} (hx : sb x (mA n)) (q : cn x 49 = 0) : x = 0 := by
  apply Classical.byContradiction
  intro r
  have := cn_pos h hx r
  omega
theorem one_pt {n : Nat} (h : okN n) {x : Int64} {p : Nat} (hx : sb x (mA n)) (hp : tb x p = true) (q : cn x 49 = 1) : x = pt p := by
  have hp2 := (sbA h).mp hx p hp
  have hs := okN_sq h
  have hp64 : p < 64 := by omega
  have d := cn_drop1 h hx hp
  have hy : sb (x ^^^ pt p) (mA n) := fun i r => hx i ((m_xlow hp64 hp).mp r).1
  have z := cn_eq0 h hy (by omega)
  apply m_ext
  intro i
  rw [m_pt hp64]
  constructor
  · intro r
    apply Classical.byContradiction
    intro c
    have := (m_xlow (i := i) hp64 hp).mpr ⟨r, c⟩
    rw [z, tb_zero] at this
    cases this
  · intro r
    subst r
    exact hp
/-- the lowest point of a set -/
theorem lowest_ex {n : Nat} (h : okN n) {x : Int64} (hx : sb x (mA n)) (x0 : ¬ x = 0) : ∃ p, p < n * n ∧ p < 64 ∧ tb x p = true ∧ low x = pt p ∧ True := by
  obtain ⟨p, p1, p2, p3, p4⟩ := low_pt x0
  exact ⟨p, (sbA h).mp hx p p2, p1, p2, p4, trivial⟩
section LADW
variable {n : Nat} {W W' S : Int64}
theorem atom_eq {i j : Nat} (h : okN n) (hW : sb W (mA n)) (hi : tb W i = true) (hj : tb (cl n W (pt i)) j = true) : cl n W (pt j) = cl n W (pt i) := by
  have hjW : tb W j = true := cl_sb h hW j hj
  have i64 := tb_lt hi
  have j64 := tb_lt hj
  refine sb_anti (atom_in h hW (cl_clo h hW) j64 hj) ?_
  cases q : tb (cl n W (pt j)) i with
  | true => exact atom_in h hW (cl_clo h hW) i64 q
  | false =>
    have := atom_out h hW (cl_clo (S := pt j) h hW) i64 q
    exact absurd (atom_self h hW hjW) (m_and0.mp this j hj)
theorem cl_sub (h : okN n) (hW : sb W (mA n)) (hs : sb W' W) (hc : sb (cl n W S) W') (hS : ∀ i, tb S i = true → tb W i = true → tb W' i = true) : cl n W' S = cl n W S := by
  have hW' := sb_trans hs hW
  refine sb_anti ?_ ?_
  · refine cl_least h hW' ⟨hc, ?_⟩ ?_
    · intro i q
      rw [m_and] at q
      exact (cl_clo h hW).2 i (m_and.mpr ⟨q.1, hs i q.2⟩)
    · intro i q
      rw [m_and] at q
      exact cl_seed h hW i (m_and.mpr ⟨q.1, hs i q.2⟩)
  · have hX := cl_clo (S := S) h hW'
    have hXC : sb (cl n W' S) (cl n W S) := by
      refine cl_least h hW' ⟨hc, ?_⟩ ?_
      · intro i q
        rw [m_and] at q
        exact (cl_clo h hW).2 i (m_and.mpr ⟨q.1, hs i q.2⟩)
      · intro i q
        rw [m_and] at q
        exact cl_seed h hW i (m_and.mpr ⟨q.1, hs i q.2⟩)
    refine cl_least h hW ⟨sb_trans hX.1 hs, ?_⟩ ?_
    · intro i q
      rw [m_and] at q
      have h1 : tb (ar n (cl n W S)) i = true := ar_mono h hXC (sb_trans (cl_sb h hW) hW) i q.1
      have h2 := (cl_clo h hW).2 i (m_and.mpr ⟨h1, q.2⟩)
      exact hX.2 i (m_and.mpr ⟨q.1, hc i h2⟩)
    · intro i q
      rw [m_and] at q
      exact cl_seed h hW' i (m_and.mpr ⟨q.1, hS i q.1 q.2⟩)
/-- a closed set that meets a group holds it -/
theorem atom_meets {k j : Nat} {X : Int64} (h : okN n) (hW : sb W (mA n)) (hX : clo n W X) (hk : k < 64) (hj : tb (cl n W (pt k)) j = true) (hx : tb X j = true) : sb (cl n W (pt k)) X := by
  cases q : tb X k with
  | true => exact atom_in h hW hX hk q
  | false => exact absurd hx (m_and0.mp (atom_out h hW hX hk q) j hj)
end LADW
section LADP
variable {n k p : Nat} {ow ch : Int64}
theorem m_lb {S : Int64} {i : Nat} : tb (lb n ow ch S) i = true ↔ tb (ar n (cl n ow S)) i = true ∧ tb (mA n) i = true ∧ ¬ tb ow i = true ∧ ¬ tb ch i = true := by
  unfold lb
  rw [m_dif, m_and, m_or]
  constructor
  · intro ⟨⟨a, b⟩, c⟩
    exact ⟨a, b, fun z => c (.inl z), fun z => c (.inr z)⟩
  · intro ⟨a, b, c, d⟩
    exact ⟨⟨a, b⟩, fun z => z.elim c d⟩
theorem lb_sb {S : Int64} : sb (lb n ow ch S) (mA n) := fun i q => (m_lb.mp q).2.1
/-- a group with a liberty beside the point p is not taken by a stone at p -/
theorem keeps (h : okN n) (hp : posOK n ow ch) (hk : tb ow k = true) (hpn : p < 64) {q : Nat} (hq : tb (lb n ow ch (pt k)) q = true) (hne : ¬ q = p) : sb (cl n ow (pt k)) (ow &&& (tk n ch ow (pt p) ^^^ (-1))) := by
  have hW := hp.1
  obtain ⟨q1, q2, q3, q4⟩ := m_lb.mp hq
  obtain ⟨j, j1, j2⟩ := (tb_ar h (sb_trans (cl_sb h hW) hW) q).mp q1
  have hF : sb (fre n ((ch ||| ow) ||| pt p)) (mA n) := fre_sb
  have hqF : tb (fre n ((ch ||| ow) ||| pt p)) q = true := by
    rw [m_fre, m_or, m_or, m_pt hpn]
    exact ⟨q2, fun z => z.elim (fun z => z.elim q4 q3) hne⟩
  have hjF : tb (ar n (fre n ((ch ||| ow) ||| pt p))) j = true := (tb_ar h hF j).mpr ⟨q, adj_comm.mp j1, hqF⟩
  have hjo : tb ow j = true := cl_sb h hW j j2
  have hX := cl_clo (W := ow) (S := ar n (fre n ((ch ||| ow) ||| pt p))) h hW
  have hjX : tb (cl n ow (ar n (fre n ((ch ||| ow) ||| pt p)))) j = true := cl_seed h hW j (m_and.mpr ⟨hjF, hjo⟩)
  have hC := atom_meets h hW hX (tb_lt hk) j2 hjX
  intro i hi
  have hio : tb ow i = true := cl_sb h hW i hi
  rw [m_dif]
  refine ⟨hio, fun z => ?_⟩
  unfold tk at z
  rw [m_dif] at z
  exact z.2 (hC i hi)
theorem keeps_k (h : okN n) (hp : posOK n ow ch) (hk : tb ow k = true) (hc : sb (cl n ow (pt k)) (ow &&& (tk n ch ow (pt p) ^^^ (-1)))) : tb (ow &&& (tk n ch ow (pt p) ^^^ (-1))) k = true := hc k (atom_self h hp.1 hk)
theorem keeps_cl (h : okN n) (hp : posOK n ow ch) {S : Int64} (hS : cl n ow S = cl n ow (pt k)) (hc : sb (cl n ow (pt k)) (ow &&& (tk n ch ow (pt p) ^^^ (-1)))) : cl n (ow &&& (tk n ch ow (pt p) ^^^ (-1))) S = cl n ow (pt k) := by
  rw [← hS] at hc ⊢
  refine cl_sub h hp.1 (sb_andl _ _) hc ?_
  intro i i1 i2
  exact hc i (cl_seed h hp.1 i (m_and.mpr ⟨i1, i2⟩))
/-- the owner's stone at a liberty of the group joins it -/
theorem joins (h : okN n) (hp : posOK n ow ch) (hk : tb ow k = true) (hq : tb (lb n ow ch (pt k)) p = true) : cl n (ow ||| pt p) (pt p) = cl n (ow ||| pt p) (pt k) := by
  have hW := hp.1
  obtain ⟨q1, q2, q3, q4⟩ := m_lb.mp hq
  have p64 := tb_lt hq
  have k64 := tb_lt hk
  obtain ⟨j, j1, j2⟩ := (tb_ar h (sb_trans (cl_sb h hW) hW) p).mp q1
  have hpp : sb (pt p) (mA n) := (pt_sb p64).mpr q2
  have hW2 : sb (ow ||| pt p) (mA n) := sb_or hW hpp
  have hjo : tb ow j = true := cl_sb h hW j j2
  have hX := cl_clo (W := ow ||| pt p) (S := pt p) h hW2
  have hps : tb (cl n (ow ||| pt p) (pt p)) p = true := atom_self h hW2 (m_or.mpr (.inr (pt_self p64)))
  have hjX : tb (cl n (ow ||| pt p) (pt p)) j = true := by
    refine hX.2 j (m_and.mpr ⟨?_, m_or.mpr (.inl hjo)⟩)
    exact (tb_ar h (sb_trans hX.1 hW2) j).mpr ⟨p, adj_comm.mp j1, hps⟩
  have hY : clo n ow (cl n (ow ||| pt p) (pt p) &&& ow) := by
    refine ⟨sb_andr _ _, ?_⟩
    intro i q
    rw [m_and] at q
    have h1 : tb (ar n (cl n (ow ||| pt p) (pt p))) i = true := ar_mono h (sb_andl _ _) (sb_trans hX.1 hW2) i q.1
    exact m_and.mpr ⟨hX.2 i (m_and.mpr ⟨h1, m_or.mpr (.inl q.2)⟩), q.2⟩
  have hC := atom_meets h hW hY k64 j2 (m_and.mpr ⟨hjX, hjo⟩)
  have hkX : tb (cl n (ow ||| pt p) (pt p)) k = true := (m_and.mp (hC k (atom_self h hW hk))).1
  exact (atom_eq h hW2 (m_or.mpr (.inr (pt_self p64))) hkX).symm
end LADP
