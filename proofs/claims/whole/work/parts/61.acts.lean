theorem ne1 : ¬ (1 : Int32) = 0 := by decide
theorem ne2 : ¬ (2 : Int32) = 0 := by decide
/-- what an action leaves: the answers agree, and so do the two memories and the two games -/
def postA (R : Nat → GG) (x : Nat) (y y' : MSt) (k : Int32) (out : Nat → Int64) (a : Int32) (mm : Int32 × Int32) (G N : GG) (f' dy' : Nat → Int64) : Prop :=
  y'.1 = k ∧ (k = 0 → out 0 = a.toInt64) ∧ y'.2.1 = y.2.1 ∧ (∃ o' a', mm = (nI o', nI a') ∧ y'.2.2.1 = nI a' ∧ memR o' a' (putR R x G) dy') ∧ gameR N f'
section ACTS
variable {n rule mv ps pr c0 c1 : Nat} {w : GSt} {b0 b1 : Nat → Int64} {g : RSt} {f : Nat → Int64} {o a : Nat} {R : Nat → GG} {dy : Nat → Int64} {ring : Nat → Option Nat} {ag : Nat → Nat} {y : MSt}
theorem postA_ex (hm : memR o a R dy) (h : GR n rule mv ps pr c0 c1 w b0 b1 g f) (hy : y.2.2.1 = nI a) {x : Nat} {y' : MSt} {k : Int32} {out : Nat → Int64} {v : Int32} {gx : RSt} (hk : ¬ k = 0) (h1 : y'.1 = k) (h2 : sameM y y') (hx : gx = (R x).2.2.2) :
    postA R x y y' k out v (nI o, nI a) ((R x).1, (R x).2.1, (R x).2.2.1, gx) (w, b0, b1, g) f dy := by
  subst hx
  refine ⟨h1, fun z => absurd z hk, h2.1, ⟨o, a, rfl, h2.2.trans hy, ?_⟩, ⟨n, rule, mv, ps, pr, c0, c1, h⟩⟩
  show memR o a (putR R x (R x)) dy
  rw [putR_self]
  exact hm
theorem board_act (hm : memR o a R dy) (h : GR n rule mv ps pr c0 c1 w b0 b1 g f) (hr : ∀ i, i < 14 → ring i = some (ag i)) (hy : y.2.2.1 = nI a) (out : Nat → Int64) (p : Int32) :
    ∃ x, x < 14 ∧ ∃ v s, fL_board (ag x) out (R x).1 w (nI o, nI a) (R x).2.1 (R x).2.2.1 ring b0 b1 g p = some v ∧ fX8_board y f dy p = some s ∧ postA R x y s.2.1 v.1 v.2.1 s.1 v.2.2.2.2.1 (v.2.2.1, v.2.2.2.2.2.1, v.2.2.2.2.2.2.1, if v.1 = 0 then g else (R x).2.2.2) (v.2.2.2.1, v.2.2.2.2.2.2.2.1, v.2.2.2.2.2.2.2.2.1, v.2.2.2.2.2.2.2.2.2) s.2.2.1 s.2.2.2 := by
  have hin := in_eq p 3 7 (by decide) (by decide)
  by_cases q : (3 : Int) ≤ p.toInt ∧ p.toInt ≤ 7
  · have q' : fX8_in p.toInt64 3 7 = true := by
      show fX8_in p.toInt64 (nL 3) (nL 7) = true
      rw [hin]
      exact decide_eq_true q
    have hp := of_toInt (p := p) (by omega)
    obtain ⟨m, hm3, hm7, e⟩ : ∃ m, 3 ≤ m ∧ m ≤ 7 ∧ p = nI m := ⟨p.toInt.toNat, by omega, by omega, hp.1⟩
    subst e
    have hk := okN_of hm3 hm7
    obtain ⟨x, o', a', x1, x2⟩ := remember_GR (ag := ag) hm h hr
    obtain ⟨H0, H1, dy', r1, r2, r3⟩ := x2 (R x).1 (R x).2.1 (R x).2.2.1 (setM y 0) hy
    obtain ⟨w', d0, d1, f', l1, l2, l3⟩ := board_GR h hk b0 b1
    refine ⟨x, x1, (0, vp_updL out 0 (nI (m * m)).toInt64, w, w', (nI o', nI a'), H0, H1, d0, d1, gridOf m), (nI (m * m), setA (setM y 0) (nI a'), f', dy'), ?_, ?_, ?_⟩
    · unfold fL_board fX7_board
      rw [if_neg (show ¬ nI m < 3 from fun z => by have := (nI_lt_iff (a := m) (b := 3) (by omega) (by omega)).mp z; omega), if_pos (show nI m ≤ 7 from nI_le (b := 7) hm7 (by omega)), r1, Option.bind_some, l1, Option.bind_some]
      dsimp only [rsum, Option.bind_some]
      rw [if_pos (by decide), grid_points hk]
      rfl
    · unfold fX8_board bnd
      rw [if_pos q', refused0]
      dsimp only
      rw [if_neg (by decide), r2, Option.bind_some, l2, Option.bind_some, nI_mul]
    · refine ⟨rfl, fun _ => updL_at out 0 _, rfl, ⟨o', a', rfl, rfl, ?_⟩, ⟨m, rule, 0, 0, 0, 0, 0, l3⟩⟩
      rw [if_pos rfl]
      exact r3
  · refine ⟨0, by omega, (1, out, (R 0).1, w, (nI o, nI a), (R 0).2.1, (R 0).2.2.1, b0, b1, g), (0, setM y 1, f, dy), ?_, ?_, ?_⟩
    · unfold fL_board fX7_board
      by_cases c : p < 3
      · rw [if_pos c]
        rfl
      · rw [if_neg c, if_neg (show ¬ p ≤ 7 from fun z => ?_)]
        · rfl
        · apply q
          rw [Int32.lt_iff_toInt_lt] at c
          rw [Int32.le_iff_toInt_le] at z
          have e3 : (3 : Int32).toInt = 3 := by decide
          have e7 : (7 : Int32).toInt = 7 := by decide
          rw [e3] at c
          rw [e7] at z
          omega
    · have q' : ¬ fX8_in p.toInt64 3 7 = true := by
        show ¬ fX8_in p.toInt64 (nL 3) (nL 7) = true
        rw [hin]
        intro z
        exact q (of_decide_eq_true z)
      unfold fX8_board bnd
      rw [if_neg q', refused1]
      dsimp only
      rw [if_pos rfl]
    · exact postA_ex hm h hy ne1 rfl (setM_same y 1) (if_neg ne1)
theorem play_act (hm : memR o a R dy) (h : GR n rule mv ps pr c0 c1 w b0 b1 g f) (hr : ∀ i, i < 14 → ring i = some (ag i)) (hy : y.2.2.1 = nI a) (out : Nat → Int64) (p : Int32) :
    ∃ x, x < 14 ∧ ∃ v s, fL_play (ag x) out (R x).1 w (nI o, nI a) (R x).2.1 (R x).2.2.1 b0 b1 g ring p = some v ∧ fX8_play y f dy p = some s ∧ postA R x y s.2.1 v.1 v.2.1 s.1 v.2.2.2.2.1 (v.2.2.1, v.2.2.2.2.2.1, v.2.2.2.2.2.2.1, if v.1 = 0 then g else (R x).2.2.2) (v.2.2.2.1, v.2.2.2.2.2.2.2.1, v.2.2.2.2.2.2.2.2, g) s.2.2.1 s.2.2.2 := by
  have hn := h.okn
  by_cases q : fX2_has g p = true
  · have q' : fX2_has (gridOf n) p = true := by rw [← h.grid]; exact q
    obtain ⟨k, k1, k2⟩ := hasG_pt hn q'
    subst k2
    have hre := reason_eq h k1
    have hl := why_le (n := n) (rule := rule) (mv := mv) (b0 := b0) (b1 := b1) k
    by_cases z : why n rule mv b0 b1 k = 0
    · obtain ⟨z1, z2, z3⟩ := why_0 z
      have e2 : tried n b0 b1 mv k y = laid n b0 b1 mv k y := by
        unfold tried
        rw [if_neg z1]
      obtain ⟨x, o', a', x1, x2⟩ := remember_GR (ag := ag) hm h hr
      obtain ⟨H0, H1, dy', r1, r2, r3⟩ := x2 (R x).1 (R x).2.1 (R x).2.2.1 (setM (laid n b0 b1 mv k y) 0) hy
      obtain ⟨c0', c1', w', b0', b1', f', l1, l2, l3⟩ := play_GR h k1 z1 z2 z3 (y := setA (setM (laid n b0 b1 mv k y) 0) (nI a')) rfl rfl rfl
      refine ⟨x, x1, (0, vp_updL out 0 (nI (cn (nT n b0 b1 mv k) 49)).toInt64, w, w', (nI o', nI a'), H0, H1, b0', b1'), (nI (cn (nT n b0 b1 mv k) 49), setA (setM (laid n b0 b1 mv k y) 0) (nI a'), f', dy'), ?_, ?_, ?_⟩
      · unfold fL_play fX7_play
        rw [if_pos q, hre, Option.bind_some, if_pos ((nI_eq0 (by omega)).mpr z), r1, Option.bind_some, l1]
        rfl
      · unfold fX8_play bnd
        rw [isPoint_eq hn h.f0, Option.bind_some, if_pos q', whyNot_eq h k1, Option.bind_some, e2]
        dsimp only
        rw [if_pos ((nI_eq0 (by omega)).mpr z), refused0]
        dsimp only
        rw [if_neg (by decide), r2, Option.bind_some, l2, Option.bind_some]
      · refine ⟨rfl, fun _ => updL_at out 0 _, rfl, ⟨o', a', rfl, rfl, ?_⟩, ⟨n, rule, mv + 1, ps, 0, c0', c1', l3⟩⟩
        rw [if_pos rfl]
        exact r3
    · refine ⟨0, by omega, (2, out, (R 0).1, w, (nI o, nI a), (R 0).2.1, (R 0).2.2.1, b0, b1), (0, setM (tried n b0 b1 mv k y) 2, f, dy), ?_, ?_, ?_⟩
      · unfold fL_play fX7_play
        rw [if_pos q, hre, Option.bind_some, if_neg (fun r => z ((nI_eq0 (by omega)).mp r))]
        rfl
      · unfold fX8_play bnd
        rw [isPoint_eq hn h.f0, Option.bind_some, if_pos q', whyNot_eq h k1, Option.bind_some]
        dsimp only
        rw [if_neg (fun r => z ((nI_eq0 (by omega)).mp r)), refused2]
        dsimp only
        rw [if_pos rfl]
      · exact postA_ex hm h hy ne2 rfl (keepM_tried n b0 b1 mv k y).2 (if_neg ne2)
  · have q' : ¬ fX2_has (gridOf n) p = true := by rw [← h.grid]; exact q
    refine ⟨0, by omega, (1, out, (R 0).1, w, (nI o, nI a), (R 0).2.1, (R 0).2.2.1, b0, b1), (0, setM y 1, f, dy), ?_, ?_, ?_⟩
    · unfold fL_play fX7_play
      rw [if_neg q]
      rfl
    · unfold fX8_play bnd
      rw [isPoint_eq hn h.f0, Option.bind_some, if_neg q', refused1]
      dsimp only
      rw [if_pos rfl]
    · exact postA_ex hm h hy ne1 rfl (setM_same y 1) (if_neg ne1)
theorem pass_act (hm : memR o a R dy) (h : GR n rule mv ps pr c0 c1 w b0 b1 g f) (hr : ∀ i, i < 14 → ring i = some (ag i)) (hy : y.2.2.1 = nI a) (out : Nat → Int64) :
    ∃ x, x < 14 ∧ ∃ v s, fL_pass (ag x) out (R x).1 w (nI o, nI a) (R x).2.1 (R x).2.2.1 b0 b1 ring = some v ∧ fX8_pass y f dy = some s ∧ postA R x y s.2.1 v.1 v.2.1 s.1 v.2.2.2.2.1 (v.2.2.1, v.2.2.2.2.2.1, v.2.2.2.2.2.2.1, if v.1 = 0 then g else (R x).2.2.2) (v.2.2.2.1, v.2.2.2.2.2.2.2.1, v.2.2.2.2.2.2.2.2, g) s.2.2.1 s.2.2.2 := by
  have hmv := h.mvl
  have w2 : w.2.1 = nI mv := by rw [h.weq]
  have i1 : w.2.1 < 120 ↔ mv < 120 := by rw [w2]; exact nI_lt_iff (a := mv) (b := 120) (by omega) (by omega)
  have i2 : (120 : Int32) ≤ nI mv ↔ 120 ≤ mv := nI_le_iff (a := 120) (b := mv) (by omega) (by omega)
  by_cases z : mv < 120
  · obtain ⟨x, o', a', x1, x2⟩ := remember_GR (ag := ag) hm h hr
    obtain ⟨H0, H1, dy', r1, r2, r3⟩ := x2 (R x).1 (R x).2.1 (R x).2.2.1 (setM y 0) hy
    obtain ⟨w', b0', b1', f', l1, l2, l3, l4⟩ := pass_GR h z
    refine ⟨x, x1, (0, vp_updL out 0 (nI (ps + 1)).toInt64, w, w', (nI o', nI a'), H0, H1, b0', b1'), (nI (ps + 1), setA (setM y 0) (nI a'), f', dy'), ?_, ?_, ?_⟩
    · unfold fL_pass fX7_pass
      rw [if_pos (i1.mpr z), r1, Option.bind_some, l1, Option.bind_some]
      dsimp only
      rw [l2]
      rfl
    · unfold fX8_pass bnd
      rw [moves_eq h.f3, Option.bind_some, if_neg (fun r => by have := i2.mp r; omega), refused0]
      dsimp only
      rw [if_neg (by decide), r2, Option.bind_some, l3, Option.bind_some]
    · refine ⟨rfl, fun _ => updL_at out 0 _, rfl, ⟨o', a', rfl, rfl, ?_⟩, ⟨n, rule, mv + 1, ps + 1, pr + 1, c0, c1, l4⟩⟩
      rw [if_pos rfl]
      exact r3
  · refine ⟨0, by omega, (1, out, (R 0).1, w, (nI o, nI a), (R 0).2.1, (R 0).2.2.1, b0, b1), (0, setM y 1, f, dy), ?_, ?_, ?_⟩
    · unfold fL_pass fX7_pass
      rw [if_neg (fun r => z (i1.mp r))]
      rfl
    · unfold fX8_pass bnd
      rw [moves_eq h.f3, Option.bind_some, if_pos (i2.mpr (by omega)), refused1]
      dsimp only
      rw [if_pos rfl]
    · exact postA_ex hm h hy ne1 rfl (setM_same y 1) (if_neg ne1)
theorem set_act (hm : memR o a R dy) (h : GR n rule mv ps pr c0 c1 w b0 b1 g f) (hr : ∀ i, i < 14 → ring i = some (ag i)) (hy : y.2.2.1 = nI a) (out : Nat → Int64) (p : Int32) :
    ∃ x, x < 14 ∧ ∃ v s, fL_set (ag x) out (R x).1 w (nI o, nI a) (R x).2.1 (R x).2.2.1 ring b0 b1 p = some v ∧ fX8_set y f dy p = some s ∧ postA R x y s.2.1 v.1 v.2.1 s.1 v.2.2.2.2.1 (v.2.2.1, v.2.2.2.2.2.1, v.2.2.2.2.2.2, if v.1 = 0 then g else (R x).2.2.2) (v.2.2.2.1, b0, b1, g) s.2.2.1 s.2.2.2 := by
  have hin := in0_iff p (m := 1) (by omega)
  by_cases q : fX8_in p.toInt64 0 (nL 1) = true
  · have q' : fX8_in p.toInt64 0 1 = true := q
    obtain ⟨r, r1, e⟩ := hin.mp q
    obtain ⟨x, o', a', x1, x2⟩ := remember_GR (ag := ag) hm h hr
    obtain ⟨H0, H1, dy', r1, r2, r3⟩ := x2 (R x).1 (R x).2.1 (R x).2.2.1 (setM y 0) hy
    obtain ⟨f', l1, l2⟩ := set_GR h (r := r) (by omega)
    have hw := h.rul
    refine ⟨x, x1, (0, vp_updL out 0 (nI rule).toInt64, w, (nI r, w.2.1, w.2.2.1, w.2.2.2.1, w.2.2.2.2.1, w.2.2.2.2.2.1, w.2.2.2.2.2.2.1, w.2.2.2.2.2.2.2), (nI o', nI a'), H0, H1), (nI rule, setA (setM y 0) (nI a'), f', dy'), ?_, ?_, ?_⟩
    · unfold fL_set fX7_set
      by_cases d : p = 0
      · rw [if_pos d, r1, Option.bind_some, hw, e]
        rfl
      · rw [if_neg d, if_pos (show p = 1 by
          rcases (show r = 0 ∨ r = 1 by omega) with c | c
          · subst c; exact absurd e d
          · subst c; exact e), r1, Option.bind_some, hw, e]
        rfl
    · unfold fX8_set bnd
      rw [if_pos q', refused0]
      dsimp only
      rw [if_neg (by decide), r2, Option.bind_some, e, l1, Option.bind_some]
    · refine ⟨rfl, fun _ => updL_at out 0 _, rfl, ⟨o', a', rfl, rfl, ?_⟩, ⟨n, r, mv, ps, pr, c0, c1, l2⟩⟩
      rw [if_pos rfl]
      exact r3
  · have z : ∀ v, v ≤ 1 → ¬ p = nI v := fun v hv e => q (hin.mpr ⟨v, hv, e⟩)
    refine ⟨0, by omega, (1, out, (R 0).1, w, (nI o, nI a), (R 0).2.1, (R 0).2.2.1), (0, setM y 1, f, dy), ?_, ?_, ?_⟩
    · unfold fL_set fX7_set
      rw [if_neg (show ¬ p = 0 from z 0 (by omega)), if_neg (show ¬ p = 1 from z 1 (by omega))]
      rfl
    · unfold fX8_set bnd
      rw [if_neg (show ¬ fX8_in p.toInt64 0 1 = true from q), refused1]
      dsimp only
      rw [if_pos rfl]
    · exact postA_ex hm h hy ne1 rfl (setM_same y 1) (if_neg ne1)
theorem undo_act (hm : memR o a R dy) (h : GR n rule mv ps pr c0 c1 w b0 b1 g f) (hr : ∀ i, i < 14 → ring i = some (ag i)) (hy : y.2.2.1 = nI a) (out : Nat → Int64) :
    ∃ x, x < 14 ∧ ∃ v s, fL_undo (ag x) out (R x).1 w (nI o, nI a) (R x).2.1 (R x).2.2.1 ring b0 b1 = some v ∧ fX8_undo y f dy = some s ∧ postA R x y s.2.1 v.1 v.2.1 s.1 v.2.2.2.1 (R x) (v.2.2.1, v.2.2.2.2.1, v.2.2.2.2.2, if v.1 = 0 then (R x).2.2.2 else g) s.2.2 dy := by
  have ha := hm.2.1
  by_cases z : a = 0
  · subst z
    refine ⟨0, by omega, (1, out, w, (nI o, nI 0), b0, b1), (0, setM y 1, f), ?_, ?_, ?_⟩
    · unfold fL_undo fX7_undo
      rw [if_neg (show ¬ (0 : Int32) < nI 0 by decide)]
      rfl
    · unfold fX8_undo bnd
      rw [if_pos (show y.2.2.1 = 0 from hy), refused1]
      dsimp only
      rw [if_pos rfl]
    · have := postA_ex (x := 0) (gx := (R 0).2.2.2) (out := out) (v := 0) hm h hy (show ¬ (1 : Int32) = 0 by decide) (y' := setM y 1) rfl (setM_same y 1) rfl
      rw [if_neg (show ¬ (1 : Int32) = 0 by decide)]
      exact this
  · obtain ⟨w', b0', b1', f', t1, t2, t3, t4, t5⟩ := takeBack_GR (ag := ag) hm (by omega) hr w b0 b1 f
    refine ⟨(o + (a - 1)) % 14, by omega, (0, vp_updL out 0 (nI (a - 1)).toInt64, w', (nI o, nI (a - 1)), b0', b1'), (nI (a - 1), setA (setM y 0) (nI (a - 1)), f'), ?_, ?_, ?_⟩
    · unfold fL_undo fX7_undo
      rw [if_pos (show (0 : Int32) < nI a from nI_lt (a := 0) (b := a) (by omega) (by omega)), t1]
      rfl
    · unfold fX8_undo bnd
      rw [if_neg (show ¬ y.2.2.1 = 0 from fun r => z ((nI_eq0 (by omega)).mp (hy.symm.trans r))), refused0]
      dsimp only
      rw [if_neg (by decide), show (setM y 0).2.2.1 = nI a from hy, t2, Option.bind_some, t3]
      rfl
    · refine ⟨rfl, fun _ => updL_at out 0 _, rfl, ⟨o, a - 1, rfl, rfl, ?_⟩, ?_⟩
      · rw [putR_self]
        exact t4
      · rw [if_pos rfl]
        exact t5
end ACTS
