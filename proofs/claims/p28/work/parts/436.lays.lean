/-! the law's count -/
theorem cn_split (x y : Int64) (h : x &&& y = 0) (k : Nat) : cn (x ||| y) k = cn x k + cn y k := cn_or h k
theorem cn_drop64 {x : Int64} {p : Nat} (hp : p < 64) (hx : tb x p = true) : cn x 64 = cn (x ^^^ pt p) 64 + 1 := by
  have e : (x ^^^ pt p) ||| pt p = x := by
    refine m_ext (fun i => ?_)
    rw [m_or, m_xlow hp hx, m_pt hp]
    constructor
    · rintro (q | q)
      · exact q.1
      · rw [q]; exact hx
    · intro q
      by_cases c : i = p
      · exact .inr c
      · exact .inl ⟨q, c⟩
  have d : (x ^^^ pt p) &&& pt p = 0 := m_and0.mpr (fun i h1 h2 => ((m_xlow hp hx).mp h1).2 ((m_pt hp).mp h2))
  have := cn_or d 64
  rw [e, cn_pt hp, if_pos hp] at this
  exact this
theorem count_loop (p : Int64) (K : Int32 → Option Int32) : ∀ (d fu k : Nat) (x : Int64), cn x 64 = d → d + 1 ≤ fu → fL_count_4 p K fu (nI k) x = K (nI (k + d)) := by
  intro d
  induction d with
  | zero =>
    intro fu k x hd hf
    obtain ⟨fu, rfl⟩ : ∃ f, fu = f + 1 := ⟨fu - 1, by omega⟩
    have x0 : x = 0 := Decidable.byContradiction (fun q => by have := cn_ne0 q; omega)
    unfold fL_count_4
    rw [if_pos x0]
    rfl
  | succ d ih =>
    intro fu k x hd hf
    obtain ⟨fu, rfl⟩ : ∃ f, fu = f + 1 := ⟨fu - 1, by omega⟩
    have x0 : ¬ x = 0 := by
      intro q
      rw [q, cn_zero] at hd
      omega
    obtain ⟨j, j1, j2, j3, j4⟩ := low_pt x0
    have hj := cn_drop64 j1 j2
    have := ih fu (k + 1) (x ^^^ pt j) (by omega) (by omega)
    rw [nI_succ] at this
    unfold fL_count_4
    rw [if_neg x0, drop_low, j4, this, show k + 1 + d = k + (d + 1) by omega]
theorem count_eq (p : Int64) : fL_count p = some (nI (cn p 64)) := by
  have hc := cn_le p 64
  unfold fL_count
  refine bnd_elim (fun K hK => ?_)
  refine (count_loop p K (cn p 64) 70 0 p rfl (by omega)).trans ?_
  rw [hK, Nat.zero_add]
theorem count49 {n : Nat} (h : okN n) {x : Int64} (hx : sb x (mA n)) : fL_count x = some (nI (cn x 49)) := by rw [count_eq, cn49 h hx]
theorem thrown_no {m : Nat} (hm : m < 1000) : fL_thrown (nI m) = some false := by
  have h1 : ¬ nI m = -9999001 := fun z => by
    have := congrArg Int32.toInt z
    rw [nI_toInt (by omega), show (-9999001 : Int32).toInt = -9999001 by decide] at this
    omega
  have h2 : ¬ nI m = -9999002 := fun z => by
    have := congrArg Int32.toInt z
    rw [nI_toInt (by omega), show (-9999002 : Int32).toInt = -9999002 by decide] at this
    omega
  have h3 : ¬ nI m = -9999003 := fun z => by
    have := congrArg Int32.toInt z
    rw [nI_toInt (by omega), show (-9999003 : Int32).toInt = -9999003 by decide] at this
    omega
  unfold fL_thrown
  refine bnd_elim (fun K hK => ?_)
  rw [if_neg h1, if_neg h2, if_neg h3, hK]
section LAYSOK
variable {s : OSt} {n rule mv ps pr c0 c1 : Nat} {a b : Int32}
/-- the board behind a stone, by colours -/
theorem new_own {t : OSt} {k : Nat} (h3 : (t.1 14).2.1 (mv + 1) = nP0 n (s.1 14).2.1 (s.1 14).2.2.1 mv k) (h4 : (t.1 14).2.2.1 (mv + 1) = nP1 n (s.1 14).2.1 (s.1 14).2.2.1 mv k) :
    sOf (t.1 14).2.1 (t.1 14).2.2.1 (mv + 1) (mv % 2) = nA (s.1 14).2.1 (s.1 14).2.2.1 mv k ∧ sOf (t.1 14).2.1 (t.1 14).2.2.1 (mv + 1) (1 - mv % 2) = nB n (s.1 14).2.1 (s.1 14).2.2.1 mv k ∧ (t.1 14).2.1 (mv + 1) ||| (t.1 14).2.2.1 (mv + 1) = nA (s.1 14).2.1 (s.1 14).2.2.1 mv k ||| nB n (s.1 14).2.1 (s.1 14).2.2.1 mv k := by
  rw [h3, h4]
  unfold sOf nP0 nP1
  rw [h3, h4]
  unfold nP0 nP1
  rcases (show mv % 2 = 0 ∨ mv % 2 = 1 by omega) with e | e
  · rw [e]
    exact ⟨rfl, rfl, rfl⟩
  · rw [e]
    exact ⟨rfl, rfl, Int64.or_comm _ _⟩
theorem why_stone {b0 b1 : Nat → Int64} {m k : Nat} (q : tb (b0 m ||| b1 m) k = true) : why n rule m b0 b1 k = 1 := by
  unfold why
  rw [if_pos q]
theorem eff0 (b0 b1 : Nat → Int64) (k : Nat) : eff n b0 b1 mv k 0 = cn (nT n b0 b1 mv k) 49 := rfl
theorem eff1 (b0 b1 : Nat → Int64) (k : Nat) : eff n b0 b1 mv k 1 = cn (nF n b0 b1 mv k) 49 := rfl
theorem eff2 (b0 b1 : Nat → Int64) (k : Nat) : eff n b0 b1 mv k 2 = cn (cl n (nA b0 b1 mv k) (pt k)) 49 := rfl
/-- a stone as it was told, and its undo -/
theorem lays_ok (hI : INV s) {x : Nat} (hx : x < 2147483648) : ∃ t, fL_lays s s (nI x) = some (true, t, t) ∧ INV t := by
  obtain ⟨n, rule, mv, ps, pr, c0, c1, h⟩ := hI.nw
  have hsq := okN_sq h.okn
  have hall : nI n * nI n = nI (n * n) := nI_mul n n
  have ma : nI x - nI x / nI (n * n) * nI (n * n) = nI (x % (n * n)) := nI_mod (by omega) (by omega)
  have hne : ¬ nI (n * n) = 0 := nIne (b := 0) (by omega) (by omega) (by omega)
  have hk : x % (n * n) < n * n := Nat.mod_lt _ (by omega)
  generalize x % (n * n) = k at ma hk
  have hk64 := pt64 h hk
  have hl : whyS s n rule mv k ≤ 4 := why_le k
  have hc2 : mv % 2 < 2 := by omega
  unfold fL_lays
  rw [about_0 h, Option.bind_some, Option.bind_some, hall, if_neg hne, ma]
  unfold bnd
  dsimp only
  rw [why_k h hk, Option.bind_some]
  by_cases hw : whyS s n rule mv k = 0
  · have i0 : fL_call_11 s (nI k) 0 0 = some (nI (cn (nT n (s.1 14).2.1 (s.1 14).2.2.1 mv k) 49)) := if_k h hk (v := 0) (by omega) hw
    have i1 : fL_call_11 s (nI k) 1 0 = some (nI (cn (nF n (s.1 14).2.1 (s.1 14).2.2.1 mv k) 49)) := if_k h hk (v := 1) (by omega) hw
    have i2 : fL_call_11 s (nI k) 2 0 = some (nI (cn (cl n (nA (s.1 14).2.1 (s.1 14).2.2.1 mv k) (pt k)) 49)) := if_k h hk (v := 2) (by omega) hw
    obtain ⟨t, t1, t2, t3, t4, t5, m, u, hm, u1, u2, u3⟩ := play_ok (a := 0) (b := 0) hI h hk hw
    obtain ⟨o1, o2, o3⟩ := new_own (n := n) t4 t5
    have hu := u3.nw h
    have hq : tb (sOf (t.1 14).2.1 (t.1 14).2.2.1 (mv + 1) (mv % 2)) k = true := by
      rw [o1, m_or]
      exact .inr (pt_self hk64)
    have hq2 : tb ((t.1 14).2.1 (mv + 1) ||| (t.1 14).2.2.1 (mv + 1)) k = true := by
      rw [o3, m_or, m_or]
      exact .inl (.inr (pt_self hk64))
    have p0 : fL_call_4 t (nI k) 0 0 = some (nI (mv % 2)) := pt0_c t3 hk hc2 hq
    have p1 := pt1_c (b := 0) t3 hk hc2 hq
    have p2 := pt2_c (b := 0) t3 hk hc2 hq
    rw [o1] at p1 p2
    rw [o3] at p2
    have hF : fvO n (nA (s.1 14).2.1 (s.1 14).2.2.1 mv k ||| nB n (s.1 14).2.1 (s.1 14).2.2.1 mv k) (cl n (nA (s.1 14).2.1 (s.1 14).2.2.1 mv k) (pt k)) = nF n (s.1 14).2.1 (s.1 14).2.2.1 mv k := rfl
    rw [hF] at p2
    have hT := cn_off (sb_andl (sOf (s.1 14).2.1 (s.1 14).2.2.1 mv (1 - mv % 2)) (cl n (sOf (s.1 14).2.1 (s.1 14).2.2.1 mv (1 - mv % 2)) (ar n (fre n ((sOf (s.1 14).2.1 (s.1 14).2.2.1 mv (mv % 2) ||| sOf (s.1 14).2.1 (s.1 14).2.2.1 mv (1 - mv % 2)) ||| pt k))) ^^^ (-1)))
    have hT' : cn (nB n (s.1 14).2.1 (s.1 14).2.2.1 mv k) 49 + cn (nT n (s.1 14).2.1 (s.1 14).2.2.1 mv k) 49 = cn (sOf (s.1 14).2.1 (s.1 14).2.2.1 mv (1 - mv % 2)) 49 := hT
    have g1 := colour_1 (b := 0) t3 hc2
    have g0 := colour_1 (b := 0) h hc2
    have gB := colour_0 (b := 0) t3 (c := 1 - mv % 2) (by omega)
    rw [o2] at gB
    have hcap : cap (if mv % 2 = 0 then c0 + cn (nT n (s.1 14).2.1 (s.1 14).2.2.1 mv k) 49 else c0) (if mv % 2 = 0 then c1 else c1 + cn (nT n (s.1 14).2.1 (s.1 14).2.2.1 mv k) 49) (mv % 2) = cap c0 c1 (mv % 2) + cn (nT n (s.1 14).2.1 (s.1 14).2.2.1 mv k) 49 := by
      unfold cap
      by_cases e : mv % 2 = 0
      · rw [if_pos e, if_pos e, if_pos e]
      · rw [if_neg e, if_neg e, if_neg e]
    have hw1 : fL_call_5 t (nI k) 0 0 = some 1 := by
      rw [why_k t3 hk, show whyS t n rule (mv + 1) k = 1 from why_stone hq2]
      rfl
    have hcnt : fL_count (sOf (s.1 14).2.1 (s.1 14).2.2.1 mv (1 - mv % 2)) = some (nI (cn (sOf (s.1 14).2.1 (s.1 14).2.2.1 mv (1 - mv % 2)) 49)) := count49 h.okn (h.pos (c := 1 - mv % 2) (by omega)).1
    have hsub : nI (cn (nB n (s.1 14).2.1 (s.1 14).2.2.1 mv k) 49) = nI (cn (sOf (s.1 14).2.1 (s.1 14).2.2.1 mv (1 - mv % 2)) 49) - nI (cn (nT n (s.1 14).2.1 (s.1 14).2.2.1 mv k) 49) := by
      rw [nI_sub (by omega)]
      congr 1
      omega
    have v0 : fL_has u 0 = some ((s.1 14).2.1 mv) := by
      rw [has_0 hu, (u3.2.2 mv (Nat.le_refl _)).1]
    have v1 : fL_has u 1 = some ((s.1 14).2.2.1 mv) := by
      rw [has_1 hu, (u3.2.2 mv (Nat.le_refl _)).2]
    have vw : fL_call_5 u (nI k) 0 0 = some 0 := by
      rw [why_k hu hk, show whyS u n rule mv k = whyS s n rule mv k from why_congr n rule k u3.2.2, hw]
      rfl
    refine ⟨u, ?_, u2⟩
    rw [i0, Option.bind_some, i1, Option.bind_some, i2, Option.bind_some, about_2 h, Option.bind_some, g0, Option.bind_some, has_0 h, Option.bind_some, has_1 h, Option.bind_some, if_pos (show nI (whyS s n rule mv k) ≤ 0 by rw [hw]; decide), t1, Option.bind_some]
    dsimp only
    rw [if_pos rfl, Option.bind_some]
    dsimp only
    rw [if_pos rfl, p0, Option.bind_some, if_pos rfl, p1, Option.bind_some, if_pos rfl, p2, Option.bind_some, if_pos rfl, g1, Option.bind_some, if_pos (by rw [hcap, nI_add]), other_nI hc2, gB, Option.bind_some]
    rcases (show mv % 2 = 0 ∨ mv % 2 = 1 by omega) with e | e
    · have ex : sOf (s.1 14).2.1 (s.1 14).2.2.1 mv (1 - mv % 2) = (s.1 14).2.2.1 mv := by rw [e]; rfl
      rw [ex] at hcnt hsub
      rw [if_pos (show nI (mv % 2) = 0 by rw [e]; rfl), hcnt, Option.bind_some, if_pos hsub, hw1, Option.bind_some, if_pos rfl, if_pos rfl, u1, Option.bind_some]
      dsimp only
      rw [thrown_no (by omega), Option.bind_some, if_neg (by decide), Option.bind_some]
      dsimp only
      rw [thrown_no (by omega), Option.bind_some, if_neg (by decide), v0, Option.bind_some, if_pos rfl, v1, Option.bind_some, if_pos rfl, vw, Option.bind_some, if_pos rfl]
    · have ex : sOf (s.1 14).2.1 (s.1 14).2.2.1 mv (1 - mv % 2) = (s.1 14).2.1 mv := by rw [e]; rfl
      rw [ex] at hcnt hsub
      rw [if_neg (show ¬ nI (mv % 2) = 0 by rw [e]; decide), hcnt, Option.bind_some, if_pos hsub, hw1, Option.bind_some, if_pos rfl, if_pos rfl, u1, Option.bind_some]
      dsimp only
      rw [thrown_no (by omega), Option.bind_some, if_neg (by decide), Option.bind_some]
      dsimp only
      rw [thrown_no (by omega), Option.bind_some, if_neg (by decide), v0, Option.bind_some, if_pos rfl, v1, Option.bind_some, if_pos rfl, vw, Option.bind_some, if_pos rfl]
  · have i0 : fL_call_11 s (nI k) 0 0 = some (-1) := if_n h hk (v := 0) (by omega) hw
    have i1 : fL_call_11 s (nI k) 1 0 = some (-1) := if_n h hk (v := 1) (by omega) hw
    have i2 : fL_call_11 s (nI k) 2 0 = some (-1) := if_n h hk (v := 2) (by omega) hw
    refine ⟨s, ?_, hI⟩
    rw [i0, Option.bind_some, i1, Option.bind_some, i2, Option.bind_some, about_2 h, Option.bind_some, colour_1 h hc2, Option.bind_some, has_0 h, Option.bind_some, has_1 h, Option.bind_some, if_neg (show ¬ nI (whyS s n rule mv k) ≤ 0 from fun z => by have := (nI_le_iff (a := whyS s n rule mv k) (b := 0) (by omega) (by omega)).mp z; omega), if_pos rfl, play_no h hk hw, Option.bind_some]
    dsimp only
    rw [if_pos rfl, Option.bind_some]
    dsimp only
    rw [if_pos rfl]
end LAYSOK
