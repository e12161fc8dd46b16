theorem cn_next (x : Int64) (k : Nat) : cn x (k + 1) = cn x k + (if tb x k = true then 1 else 0) := rfl
theorem m_eyX2 {n : Nat} {a b : Int64} {k : Nat} : tb (eyX n a b 2) k = true ↔ tb (eyS n a b) k = true ∧ ¬ tb (fE n a b) k = true := by
  unfold eyX
  rw [if_neg (by decide), m_dif]
theorem fE_eyS {n : Nat} (h : okN n) {a b : Int64} {k : Nat} (q : tb (fE n a b) k = true) : tb (eyS n a b) k = true := (((fE_ex h a b).2 k).mp q).1
/-- a point is an eye of one colour at most -/
theorem eye_sum {n : Nat} (h : okN n) {a b : Int64} (hd : a &&& b = 0) (k : Nat) :
    ((if eyeE n a b k = 2 then 1 else 0) = (if tb (eyX n a b 2) k = true then 1 else 0) + (if tb (eyX n b a 2) k = true then 1 else 0)) ∧ ((if eyeE n a b k = 1 then 1 else 0) = (if tb (fE n a b) k = true then 1 else 0) + (if tb (fE n b a) k = true then 1 else 0)) ∧ (0 < eyeE n a b k ↔ tb (eyS n a b) k = true ∨ tb (eyS n b a) k = true) := by
  have one : ∀ {p : Prop}, tb (eyS n a b) k = true → tb (eyS n b a) k = true → p := fun q1 q2 => (eye_one h hd q1 q2).elim
  have ha : tb (eyS n a b) k = true ↔ tb (fE n a b) k = true ∨ tb (eyX n a b 2) k = true := by
    rw [m_eyX2]
    constructor
    · intro q
      by_cases r : tb (fE n a b) k = true
      · exact .inl r
      · exact .inr ⟨q, r⟩
    · rintro (q | q)
      · exact fE_eyS h q
      · exact q.1
  have hb : tb (eyS n b a) k = true ↔ tb (fE n b a) k = true ∨ tb (eyX n b a 2) k = true := by
    rw [m_eyX2]
    constructor
    · intro q
      by_cases r : tb (fE n b a) k = true
      · exact .inl r
      · exact .inr ⟨q, r⟩
    · rintro (q | q)
      · exact fE_eyS h q
      · exact q.1
  unfold eyeE
  rcases eyeV_of n a b k with ⟨a1, a2⟩ | ⟨a1, a2, a3⟩ | ⟨a1, a2, a3⟩
  · have ea := ha.mpr (.inl a1)
    have a4 : ¬ tb (eyX n a b 2) k = true := fun q => (m_eyX2.mp q).2 a1
    rcases eyeV_of n b a k with ⟨b1, b2⟩ | ⟨b1, b2, b3⟩ | ⟨b1, b2, b3⟩
    · exact one ea (hb.mpr (.inl b1))
    · exact one ea (hb.mpr (.inr b2))
    · rw [a2, if_pos (show 0 < 1 by omega), if_neg (show ¬ 1 = 2 by omega), if_pos (show 1 = 1 from rfl), if_neg a4, if_neg b2, if_pos a1, if_neg b1]
      exact ⟨rfl, rfl, ⟨fun _ => .inl ea, fun _ => by omega⟩⟩
  · have ea := ha.mpr (.inr a2)
    rcases eyeV_of n b a k with ⟨b1, b2⟩ | ⟨b1, b2, b3⟩ | ⟨b1, b2, b3⟩
    · exact one ea (hb.mpr (.inl b1))
    · exact one ea (hb.mpr (.inr b2))
    · rw [a3, if_pos (show 0 < 2 by omega), if_pos (show 2 = 2 from rfl), if_neg (show ¬ 2 = 1 by omega), if_pos a2, if_neg b2, if_neg a1, if_neg b1]
      exact ⟨rfl, rfl, ⟨fun _ => .inl ea, fun _ => by omega⟩⟩
  · have na : ¬ tb (eyS n a b) k = true := fun q => (ha.mp q).elim a1 a2
    rw [a3, if_neg (show ¬ 0 < 0 by omega)]
    rcases eyeV_of n b a k with ⟨b1, b2⟩ | ⟨b1, b2, b3⟩ | ⟨b1, b2, b3⟩
    · have b4 : ¬ tb (eyX n b a 2) k = true := fun q => (m_eyX2.mp q).2 b1
      rw [b2, if_neg (show ¬ 1 = 2 by omega), if_pos (show 1 = 1 from rfl), if_neg a2, if_neg b4, if_neg a1, if_pos b1]
      exact ⟨rfl, rfl, ⟨fun _ => .inr (hb.mpr (.inl b1)), fun _ => by omega⟩⟩
    · rw [b3, if_pos (show 2 = 2 from rfl), if_neg (show ¬ 2 = 1 by omega), if_neg a2, if_pos b2, if_neg a1, if_neg b1]
      exact ⟨rfl, rfl, ⟨fun _ => .inr (hb.mpr (.inr b2)), fun _ => by omega⟩⟩
    · rw [b3, if_neg (show ¬ 0 = 2 by omega), if_neg (show ¬ 0 = 1 by omega), if_neg a2, if_neg b2, if_neg a1, if_neg b1]
      exact ⟨rfl, rfl, ⟨fun z => absurd z (by omega), fun z => (z.elim na (fun q => (hb.mp q).elim b1 b2)).elim⟩⟩
theorem not_sub {x y : Int64} : x &&& (y ^^^ (-1)) = 0 ↔ sb x y := by
  rw [m_and0]
  constructor
  · intro h i q
    by_cases r : tb y i = true
    · exact r
    · exact absurd (m_not.mpr ⟨tb_lt q, r⟩) (h i q)
  · intro h i q r
    exact (m_not.mp r).2 (h i q)
section HOLD1
variable {s : OSt} {n rule mv ps pr c0 c1 k c : Nat}
/-! a free point -/
theorem fr_part (h : NW s n rule mv ps pr c0 c1) (hk : k < n * n) (q : ¬ tb ((s.1 14).2.1 mv ||| (s.1 14).2.2.1 mv) k = true) : ¬ nI (cn (cl n (fre n ((s.1 14).2.1 mv ||| (s.1 14).2.2.1 mv)) (pt k)) 49) ≤ 0 := by
  intro z
  have hle := cn_le (cl n (fre n ((s.1 14).2.1 mv ||| (s.1 14).2.2.1 mv)) (pt k)) 49
  have := (nI_le_iff (b := 0) (by omega) (by omega)).mp z
  have hf : tb (fre n ((s.1 14).2.1 mv ||| (s.1 14).2.2.1 mv)) k = true := m_fre.mpr ⟨by rw [tb_mA h.okn, decide_eq_true hk], q⟩
  have hself := atom_self h.okn fre_sb hf
  have h0 := cn_eq0 h.okn (sb_trans (cl_sb h.okn fre_sb) fre_sb) (show cn (cl n (fre n ((s.1 14).2.1 mv ||| (s.1 14).2.2.1 mv)) (pt k)) 49 = 0 by omega)
  rw [h0, tb_zero] at hself
  exact absurd hself (by decide)
theorem fr_eye (h : NW s n rule mv ps pr c0 c1) (hk : k < n * n) (q : ¬ tb ((s.1 14).2.1 mv ||| (s.1 14).2.2.1 mv) k = true) : 0 < eyeE n ((s.1 14).2.1 mv) ((s.1 14).2.2.1 mv) k ↔ (ar n (pt k) &&& ((s.1 14).2.1 mv ^^^ (-1)) = 0 ∨ ar n (pt k) &&& ((s.1 14).2.2.1 mv ^^^ (-1)) = 0) := by
  have hf : tb (fre n ((s.1 14).2.1 mv ||| (s.1 14).2.2.1 mv)) k = true := m_fre.mpr ⟨by rw [tb_mA h.okn, decide_eq_true hk], q⟩
  have hf' : tb (fre n ((s.1 14).2.2.1 mv ||| (s.1 14).2.1 mv)) k = true := by rw [Int64.or_comm]; exact hf
  have hp : posOK n ((s.1 14).2.1 mv) ((s.1 14).2.2.1 mv) := h.pos (c := 0) (by omega)
  rw [(eye_sum h.okn hp.2.2.1 k).2.2, m_eyS h.okn, m_eyS h.okn, not_sub, not_sub]
  exact ⟨fun z => z.elim (fun y => .inl y.2) (fun y => .inr y.2), fun z => z.elim (fun y => .inl ⟨hf, y⟩) (fun y => .inr ⟨hf', y⟩)⟩
theorem fr_why (q : ¬ tb ((s.1 14).2.1 mv ||| (s.1 14).2.2.1 mv) k = true) : ¬ whyS s n rule mv k = 1 := by
  show ¬ why n rule mv (s.1 14).2.1 (s.1 14).2.2.1 k = 1
  unfold why
  rw [if_neg q]
  split
  · omega
  · split
    · omega
    · split <;> omega
theorem eff1_pos (h : NW s n rule mv ps pr c0 c1) (hw : whyS s n rule mv k = 0) : ¬ nI (cn (nF n (s.1 14).2.1 (s.1 14).2.2.1 mv k) 49) ≤ 0 := by
  intro z
  have hle := cn_le (nF n (s.1 14).2.1 (s.1 14).2.2.1 mv k) 49
  have := (nI_le_iff (b := 0) (by omega) (by omega)).mp z
  exact (why_0 hw).2.1 (cn_eq0 h.okn lb_sb (by show cn (nF n (s.1 14).2.1 (s.1 14).2.2.1 mv k) 49 = 0; omega))
/-! a stone -/
theorem st_self (h : NW s n rule mv ps pr c0 c1) (hk : k < n * n) (hc : c < 2) (q : tb (sOf (s.1 14).2.1 (s.1 14).2.2.1 mv c) k = true) : tb (cl n (sOf (s.1 14).2.1 (s.1 14).2.2.1 mv c) (pt k)) k = true := atom_self h.okn (h.pos hc).1 q
theorem st_own (h : NW s n rule mv ps pr c0 c1) (hk : k < n * n) (hc : c < 2) (q : tb (sOf (s.1 14).2.1 (s.1 14).2.2.1 mv c) k = true) : (cl n (sOf (s.1 14).2.1 (s.1 14).2.2.1 mv c) (pt k)) &&& ((sOf (s.1 14).2.1 (s.1 14).2.2.1 mv c) ^^^ (-1)) = 0 := not_sub.mpr (cl_sb h.okn (h.pos hc).1)
theorem st_ar (h : NW s n rule mv ps pr c0 c1) (hk : k < n * n) (hc : c < 2) (q : tb (sOf (s.1 14).2.1 (s.1 14).2.2.1 mv c) k = true) {i : Nat} (r : tb (ar n (pt k)) i = true) : tb (ar n (cl n (sOf (s.1 14).2.1 (s.1 14).2.2.1 mv c) (pt k))) i = true :=
  ar_mono h.okn ((pt_sb (pt64 h hk)).mpr (st_self h hk hc q)) (sb_trans (cl_sb h.okn (h.pos hc).1) (h.pos hc).1) i r
theorem st_near (h : NW s n rule mv ps pr c0 c1) (hk : k < n * n) (hc : c < 2) (q : tb (sOf (s.1 14).2.1 (s.1 14).2.2.1 mv c) k = true) : (ar n (pt k) &&& (sOf (s.1 14).2.1 (s.1 14).2.2.1 mv c)) &&& ((cl n (sOf (s.1 14).2.1 (s.1 14).2.2.1 mv c) (pt k)) ^^^ (-1)) = 0 := not_sub.mpr (fun i r => by
  obtain ⟨r1, r2⟩ := m_and.mp r
  exact (cl_clo h.okn (h.pos hc).1).2 i (m_and.mpr ⟨st_ar h hk hc q r1, r2⟩))
theorem st_free (h : NW s n rule mv ps pr c0 c1) (hk : k < n * n) (hc : c < 2) (q : tb (sOf (s.1 14).2.1 (s.1 14).2.2.1 mv c) k = true) : (ar n (pt k) &&& (((s.1 14).2.1 mv ||| (s.1 14).2.2.1 mv) ^^^ (-1))) &&& ((fvO n ((s.1 14).2.1 mv ||| (s.1 14).2.2.1 mv) (cl n (sOf (s.1 14).2.1 (s.1 14).2.2.1 mv c) (pt k))) ^^^ (-1)) = 0 := not_sub.mpr (fun i r => by
  obtain ⟨r1, r2⟩ := m_and.mp r
  have := st_ar h hk hc q r1
  unfold fvO
  exact m_and.mpr ⟨m_and.mpr ⟨this, ar_all h.okn _ i this⟩, r2⟩)
theorem st_lib (h : NW s n rule mv ps pr c0 c1) (hk : k < n * n) (hc : c < 2) (q : tb (sOf (s.1 14).2.1 (s.1 14).2.2.1 mv c) k = true) : (fvO n ((s.1 14).2.1 mv ||| (s.1 14).2.2.1 mv) (cl n (sOf (s.1 14).2.1 (s.1 14).2.2.1 mv c) (pt k))) &&& ((s.1 14).2.1 mv ||| (s.1 14).2.2.1 mv) = 0 := m_and0.mpr (fun i r1 r2 => by
  unfold fvO at r1
  exact (m_not.mp (m_and.mp r1).2).2 r2)
theorem st_live (h : NW s n rule mv ps pr c0 c1) (hk : k < n * n) (hc : c < 2) (q : tb (sOf (s.1 14).2.1 (s.1 14).2.2.1 mv c) k = true) : ¬ (fvO n ((s.1 14).2.1 mv ||| (s.1 14).2.2.1 mv) (cl n (sOf (s.1 14).2.1 (s.1 14).2.2.1 mv c) (pt k))) = 0 := by
  intro z
  have hp := h.pos hc
  have hR := cl_clo h.okn hp.1 (S := pt k)
  have hG : sb (cl n (sOf (s.1 14).2.1 (s.1 14).2.2.1 mv c) (pt k)) (mA n) := sb_trans (cl_sb h.okn hp.1) hp.1
  have q0 : (cl n (sOf (s.1 14).2.1 (s.1 14).2.2.1 mv c) (pt k)) &&& ar n (fre n ((sOf (s.1 14).2.1 (s.1 14).2.2.1 mv c) ||| sOf (s.1 14).2.1 (s.1 14).2.2.1 mv (1 - c))) = 0 := by
    refine (ar_and0 h.okn hG fre_sb).mp ?_
    refine m_and0.mpr (fun i r1 r2 => ?_)
    rw [sOf_or' hc] at r2
    obtain ⟨r3, r4⟩ := m_fre.mp r2
    have : tb (fvO n ((s.1 14).2.1 mv ||| (s.1 14).2.2.1 mv) (cl n (sOf (s.1 14).2.1 (s.1 14).2.2.1 mv c) (pt k))) i = true := by
      unfold fvO
      exact m_and.mpr ⟨m_and.mpr ⟨r1, r3⟩, m_not.mpr ⟨tb_lt r1, r4⟩⟩
    rw [z, tb_zero] at this
    exact absurd this (by decide)
  have := live_free h.okn hp.1 hp.2.2.2.1 hR q0
  have hs := st_self h hk hc q
  rw [this, tb_zero] at hs
  exact absurd hs (by decide)
theorem st_occ (h : NW s n rule mv ps pr c0 c1) (hk : k < n * n) (hc : c < 2) (q : tb (sOf (s.1 14).2.1 (s.1 14).2.2.1 mv c) k = true) : tb ((s.1 14).2.1 mv ||| (s.1 14).2.2.1 mv) k = true := by
  rw [← sOf_or' hc, m_or]
  exact .inl q
theorem st_part (h : NW s n rule mv ps pr c0 c1) (hk : k < n * n) (hc : c < 2) (q : tb (sOf (s.1 14).2.1 (s.1 14).2.2.1 mv c) k = true) : cn (cl n (fre n ((s.1 14).2.1 mv ||| (s.1 14).2.2.1 mv)) (pt k)) 49 = 0 := by
  rw [part_stone h.okn (pt64 h hk) (st_occ h hk hc q), cn_zero]
theorem st_noeye (h : NW s n rule mv ps pr c0 c1) (hk : k < n * n) (hc : c < 2) (q : tb (sOf (s.1 14).2.1 (s.1 14).2.2.1 mv c) k = true) : eyeE n ((s.1 14).2.1 mv) ((s.1 14).2.2.1 mv) k = 0 ∧ ¬ tb (eyS n ((s.1 14).2.1 mv) ((s.1 14).2.2.1 mv)) k = true ∧ ¬ tb (eyS n ((s.1 14).2.2.1 mv) ((s.1 14).2.1 mv)) k = true := by
  have hp : posOK n ((s.1 14).2.1 mv) ((s.1 14).2.2.1 mv) := h.pos (c := 0) (by omega)
  have ho := st_occ h hk hc q
  have n1 : ¬ tb (eyS n ((s.1 14).2.1 mv) ((s.1 14).2.2.1 mv)) k = true := fun z => (m_fre.mp ((m_eyS h.okn).mp z).1).2 ho
  have n2 : ¬ tb (eyS n ((s.1 14).2.2.1 mv) ((s.1 14).2.1 mv)) k = true := fun z => (m_fre.mp ((m_eyS h.okn).mp z).1).2 (by rw [Int64.or_comm]; exact ho)
  have := (eye_sum h.okn hp.2.2.1 k).2.2
  refine ⟨?_, n1, n2⟩
  by_cases z : 0 < eyeE n ((s.1 14).2.1 mv) ((s.1 14).2.2.1 mv) k
  · exact ((this.mp z).elim n1 n2).elim
  · omega
theorem st_why (h : NW s n rule mv ps pr c0 c1) (hk : k < n * n) (hc : c < 2) (q : tb (sOf (s.1 14).2.1 (s.1 14).2.2.1 mv c) k = true) : whyS s n rule mv k = 1 := why_stone (st_occ h hk hc q)
theorem st_eyes (h : NW s n rule mv ps pr c0 c1) (hk : k < n * n) (hc : c < 2) (q : tb (sOf (s.1 14).2.1 (s.1 14).2.2.1 mv c) k = true) : ¬ nI (cn (eyX n (sOf (s.1 14).2.1 (s.1 14).2.2.1 mv c) (sOf (s.1 14).2.1 (s.1 14).2.2.1 mv (1 - c)) 2) 49) < nI (cn ((fvO n ((s.1 14).2.1 mv ||| (s.1 14).2.2.1 mv) (cl n (sOf (s.1 14).2.1 (s.1 14).2.2.1 mv c) (pt k))) &&& eyX n (sOf (s.1 14).2.1 (s.1 14).2.2.1 mv c) (sOf (s.1 14).2.1 (s.1 14).2.2.1 mv (1 - c)) 2) 49) := by
  intro z
  have l1 := cn_le (eyX n (sOf (s.1 14).2.1 (s.1 14).2.2.1 mv c) (sOf (s.1 14).2.1 (s.1 14).2.2.1 mv (1 - c)) 2) 49
  have l2 := cn_le ((fvO n ((s.1 14).2.1 mv ||| (s.1 14).2.2.1 mv) (cl n (sOf (s.1 14).2.1 (s.1 14).2.2.1 mv c) (pt k))) &&& eyX n (sOf (s.1 14).2.1 (s.1 14).2.2.1 mv c) (sOf (s.1 14).2.1 (s.1 14).2.2.1 mv (1 - c)) 2) 49
  have := (nI_lt_iff (by omega) (by omega)).mp z
  have := cn_mono (sb_andr (fvO n ((s.1 14).2.1 mv ||| (s.1 14).2.2.1 mv) (cl n (sOf (s.1 14).2.1 (s.1 14).2.2.1 mv c) (pt k))) (eyX n (sOf (s.1 14).2.1 (s.1 14).2.2.1 mv c) (sOf (s.1 14).2.1 (s.1 14).2.2.1 mv (1 - c)) 2)) 49
  omega
theorem st_lad1 (h : NW s n rule mv ps pr c0 c1) (hk : k < n * n) (hc : c < 2) (q : tb (sOf (s.1 14).2.1 (s.1 14).2.2.1 mv c) k = true) (hm : ¬ cn (fvO n ((s.1 14).2.1 mv ||| (s.1 14).2.2.1 mv) (cl n (sOf (s.1 14).2.1 (s.1 14).2.2.1 mv c) (pt k))) 49 = 1) : fL_call_12 s (nI k) 1 0 = some 0 := by
  have := lad_c (b := 0) h hk hc q (v := 1) (by omega)
  rw [ladV1, if_neg] at this
  · exact this
  · unfold ladO
    rw [lb_fvO (sOf_or' hc), if_neg hm]
    decide
theorem st_lad3 (h : NW s n rule mv ps pr c0 c1) (hk : k < n * n) (hc : c < 2) (q : tb (sOf (s.1 14).2.1 (s.1 14).2.2.1 mv c) k = true) (hm : ¬ cn (fvO n ((s.1 14).2.1 mv ||| (s.1 14).2.2.1 mv) (cl n (sOf (s.1 14).2.1 (s.1 14).2.2.1 mv c) (pt k))) 49 < 3) : ladF n k 12 (sOf (s.1 14).2.1 (s.1 14).2.2.1 mv c) (sOf (s.1 14).2.1 (s.1 14).2.2.1 mv (1 - c)) = 0 := by
  refine Decidable.byContradiction (fun z => ?_)
  have := (ladF_spec z).1
  rw [lb_fvO (sOf_or' hc)] at this
  omega
end HOLD1
