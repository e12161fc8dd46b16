/-! the actions -/
theorem GX.of {G : GG} {n rule mv ps pr c0 c1 : Nat} (h : GR n rule mv ps pr c0 c1 G.1 G.2.1 G.2.2.1 G.2.2.2) : GX G := ⟨n, rule, mv, ps, pr, c0, c1, h⟩
theorem mem_act {R : Nat → GG} {o a o' a' x : Nat} {N O : GG} (hm : memK o a R) (hx : x < 14) (ho : o' < 14) (ha : a' ≤ 14) (h0 : 0 < a') (hl : (o' + (a' - 1)) % 14 = x) (hj : ∀ j, j + 1 < a' → ∃ j', j' < a ∧ (o' + j) % 14 = (o + j') % 14 ∧ ¬ (o' + j) % 14 = x) (hO : GX O) : memK o' a' (putR (putR R 14 N) x O) := by
  refine ⟨ho, ha, fun j hja => ?_⟩
  by_cases e : j + 1 < a'
  · obtain ⟨j', j1, j2, j3⟩ := hj j e
    rw [putR_ne j3, putR_ne (by omega), j2]
    exact hm.2.2 j' j1
  · rw [show j = a' - 1 by omega, hl, putR_at]
    exact hO
theorem INV_act {s : OSt} {o a o' a' x : Nat} {N O : GG} (hI : INV s) (hm : memK o a s.1) (hx : x < 14) (ho : o' < 14) (ha : a' ≤ 14) (h0 : 0 < a') (hl : (o' + (a' - 1)) % 14 = x) (hj : ∀ j, j + 1 < a' → ∃ j', j' < a ∧ (o' + j) % 14 = (o + j') % 14 ∧ ¬ (o' + j) % 14 = x) (hO : GX O) (hN : GX N) : INV (putR (putR s.1 14 N) x O, (nI o', nI a'), s.2.2) := by
  refine ⟨⟨o', a', rfl, mem_act hm hx ho ha h0 hl hj hO⟩, ?_, ?_, ?_⟩
  · show GX ((putR (putR s.1 14 N) x O) 14)
    rw [putR_ne (by omega), putR_at]
    exact hN
  · intro q
    show GX ((putR (putR s.1 14 N) x O) 16)
    rw [putR_ne (by omega), putR_ne (by omega)]
    exact hI.2.2.1 q
  · intro q
    show GX ((putR (putR s.1 14 N) x O) 17)
    rw [putR_ne (by omega), putR_ne (by omega)]
    exact hI.2.2.2 q
/-- what is as before: the game now, as far as it goes -/
def LIVE (s u : OSt) (mv : Nat) : Prop := (u.1 14).1 = (s.1 14).1 ∧ (u.1 14).2.2.2 = (s.1 14).2.2.2 ∧ ∀ i, i ≤ mv → (u.1 14).2.1 i = (s.1 14).2.1 i ∧ (u.1 14).2.2.1 i = (s.1 14).2.2.1 i
theorem LIVE.nw {s u : OSt} {n rule mv ps pr c0 c1 : Nat} (hl : LIVE s u mv) (h : NW s n rule mv ps pr c0 c1) : NW u n rule mv ps pr c0 c1 := by
  obtain ⟨l1, l2, l3⟩ := hl
  have := GR_hist h l3
  show GR n rule mv ps pr c0 c1 (u.1 14).1 (u.1 14).2.1 (u.1 14).2.2.1 (u.1 14).2.2.2
  rw [l1, l2]
  exact this
theorem seen_congr {b0 b1 d0 d1 : Nat → Int64} {m : Nat} (hq : ∀ i, i ≤ m → d0 i = b0 i ∧ d1 i = b1 i) (p q : Int64) : ∀ c s, s + c ≤ m + 1 → seen d0 d1 p q s c = seen b0 b1 p q s c := by
  intro c
  induction c with
  | zero => intro s _; rfl
  | succ c ih =>
    intro s hs
    unfold seen
    rw [(hq s (by omega)).1, (hq s (by omega)).2, ih (s + 1) (by omega)]
theorem why_congr {b0 b1 d0 d1 : Nat → Int64} {mv : Nat} (n rule k : Nat) (hq : ∀ i, i ≤ mv → d0 i = b0 i ∧ d1 i = b1 i) : why n rule mv d0 d1 k = why n rule mv b0 b1 k := by
  have h0 := (hq mv (Nat.le_refl _)).1
  have h1 := (hq mv (Nat.le_refl _)).2
  have hs : ∀ c, sOf d0 d1 mv c = sOf b0 b1 mv c := by
    intro c
    unfold sOf
    rw [h0, h1]
  have hb : ∀ p q, bad rule mv d0 d1 p q = bad rule mv b0 b1 p q := by
    intro p q
    unfold bad
    rw [seen_congr hq p q (mv + 1) 0 (by omega)]
    by_cases z : mv = 0
    · rw [if_pos z]
      split <;> rfl
    · rw [seen_congr hq p q 1 (mv - 1) (by omega)]
  unfold why nF nP0 nP1 nB nA nT
  rw [h0, h1, hs, hs, hb]
section ACTS
variable {s : OSt} {n rule mv ps pr c0 c1 : Nat} {a b : Int32}
theorem INV.nw (hI : INV s) : ∃ n rule mv ps pr c0 c1, NW s n rule mv ps pr c0 c1 := hI.2.1
/-- what a game's being remembered gives -/
theorem rem_s (hI : INV s) (h : NW s n rule mv ps pr c0 c1) : ∃ o' a' H0 H1, fX4_remember (nxtX s.2.1) s.2.1 (s.1 14).1 (s.1 (nxtX s.2.1)).1 rgC (s.1 14).2.1 (s.1 14).2.2.1 (s.1 (nxtX s.2.1)).2.1 (s.1 (nxtX s.2.1)).2.2.1 = some ((nI o', nI a'), (s.1 14).1, H0, H1) ∧ (∀ i, i ≤ mv → H0 i = (s.1 14).2.1 i ∧ H1 i = (s.1 14).2.2.1 i) ∧ GR n rule mv ps pr c0 c1 (s.1 14).1 H0 H1 (s.1 14).2.2.2 ∧ o' < 14 ∧ a' ≤ 14 ∧ 0 < a' ∧ (o' + (a' - 1)) % 14 = nxtX s.2.1 ∧ ∀ N, GX N → INV (putR (putR s.1 14 N) (nxtX s.2.1) ((s.1 14).1, H0, H1, (s.1 14).2.2.2), (nI o', nI a'), s.2.2) := by
  obtain ⟨o, a, hm, hk⟩ := hI.1
  obtain ⟨o', a', H0, H1, e1, e2, e3, e4, e5, e6, e7, e8⟩ := remember_GR hk.1 hk.2.1 h (s.1 (nxtX s.2.1)).1 (s.1 (nxtX s.2.1)).2.1 (s.1 (nxtX s.2.1)).2.2.1
  refine ⟨o', a', H0, H1, ?_, e2, e3, e4, e5, e6, ?_, fun N hN => ?_⟩
  · rw [← hm] at e1
    exact e1
  · rw [hm]; exact e7
  · exact INV_act hI hk (nxtX_lt _) e4 e5 e6 (by rw [hm]; exact e7) (by rw [hm]; exact e8) ⟨n, rule, mv, ps, pr, c0, c1, e3⟩ hN
/-- the latest state is taken back -/
theorem undo_ok {t : OSt} {o a : Nat} (hI : INV t) (hm : t.2.1 = (nI o, nI a)) (ho : o < 14) (ha : a ≤ 14) (h0 : 0 < a) (hk : memK o a t.1) {n rule mv ps pr c0 c1 : Nat} (h : GR n rule mv ps pr c0 c1 (t.1 ((o + (a - 1)) % 14)).1 (t.1 ((o + (a - 1)) % 14)).2.1 (t.1 ((o + (a - 1)) % 14)).2.2.1 (t.1 ((o + (a - 1)) % 14)).2.2.2) :
    ∃ u, aUndo t = some (Sum.inr (nI (a - 1), u)) ∧ INV u ∧ (u.1 14).1 = (t.1 ((o + (a - 1)) % 14)).1 ∧ (u.1 14).2.2.2 = (t.1 ((o + (a - 1)) % 14)).2.2.2 ∧ ∀ i, i ≤ mv → (u.1 14).2.1 i = (t.1 ((o + (a - 1)) % 14)).2.1 i ∧ (u.1 14).2.2.1 i = (t.1 ((o + (a - 1)) % 14)).2.2.1 i := by
  obtain ⟨H0, H1, e1, e2, e3⟩ := takeBack_GR ho ha h0 h (t.1 14).1 (t.1 14).2.1 (t.1 14).2.2.1
  have hx : lstX t.2.1 = (o + (a - 1)) % 14 := by rw [hm]; exact lst_at ho ha h0
  rw [lst_at ho ha h0] at e1
  have e : fX7_undo (lstX t.2.1) (t.1 (lstX t.2.1)).1 (t.1 14).1 t.2.1 (t.1 (lstX t.2.1)).2.1 (t.1 (lstX t.2.1)).2.2.1 rgC (t.1 14).2.1 (t.1 14).2.2.1 = some (Sum.inr (nI (a - 1), (t.1 ((o + (a - 1)) % 14)).1, (nI o, nI (a - 1)), H0, H1)) := by
    rw [hx, hm]
    unfold fX7_undo
    dsimp only
    rw [if_pos (show 0 < nI a from (nI_lt_iff (a := 0) (b := a) (by omega) (by omega)).mpr h0), e1, Option.bind_some]
  obtain ⟨N, hN⟩ : ∃ N, N = putR t.1 14 ((t.1 ((o + (a - 1)) % 14)).1, H0, H1, (t.1 ((o + (a - 1)) % 14)).2.2.2) := ⟨_, rfl⟩
  have n14 : N 14 = ((t.1 ((o + (a - 1)) % 14)).1, H0, H1, (t.1 ((o + (a - 1)) % 14)).2.2.2) := by rw [hN, putR_at]
  have nne : ∀ q, ¬ q = 14 → N q = t.1 q := fun q hq => by rw [hN, putR_ne hq]
  refine ⟨(N, (nI o, nI (a - 1)), t.2.2), ?_, ?_, ?_, ?_, ?_⟩
  · unfold aUndo aUndox
    rw [e]
    show some (Sum.inr (naUndo t (lstX t.2.1) _)) = _
    unfold naUndo
    rw [hx, hN]
  · refine ⟨⟨o, a - 1, rfl, hk.1, by omega, fun j hj => ?_⟩, ?_, ?_, ?_⟩
    · show GX (N ((o + j) % 14))
      rw [nne _ (by omega)]
      exact hk.2.2 j (by omega)
    · show GX (N 14)
      rw [n14]
      exact ⟨n, rule, mv, ps, pr, c0, c1, e3⟩
    · intro q
      show GX (N 16)
      rw [nne _ (by omega)]
      exact hI.2.2.1 q
    · intro q
      show GX (N 17)
      rw [nne _ (by omega)]
      exact hI.2.2.2 q
  · show (N 14).1 = _
    rw [n14]
  · show (N 14).2.2.2 = _
    rw [n14]
  · intro i hi
    show (N 14).2.1 i = _ ∧ (N 14).2.2.1 i = _
    rw [n14]
    exact e2 i hi
theorem undo_any (hI : INV s) : ∃ r t, fL_call_10 s 0 a b = some (r, t) ∧ INV t := by
  obtain ⟨o, m, hm, hk⟩ := hI.1
  by_cases h0 : 0 < m
  · obtain ⟨n, rule, mv, ps, pr, c0, c1, h⟩ := hk.2.2 (m - 1) (by omega)
    obtain ⟨u, u1, u2, -⟩ := undo_ok hI hm hk.1 hk.2.1 h0 hk h
    exact ⟨_, u, call_10_v u1, u2⟩
  · refine ⟨_, s, call_10_S ?_, hI⟩
    unfold aUndo aUndox fX7_undo
    rw [if_neg]
    · rfl
    · rw [hm]
      show ¬ (0 : Int32) < nI m
      rw [show m = 0 by omega]
      decide
/-- a stone that may be laid: what stands behind it, and its being taken back -/
theorem play_ok (hI : INV s) (h : NW s n rule mv ps pr c0 c1) {k : Nat} (hk : k < n * n) (hw : whyS s n rule mv k = 0) :
    ∃ t, fL_call_7 s (nI k) a b = some (nI (cn (nT n (s.1 14).2.1 (s.1 14).2.2.1 mv k) 49), t) ∧ INV t ∧ NW t n rule (mv + 1) ps 0 (if mv % 2 = 0 then c0 + cn (nT n (s.1 14).2.1 (s.1 14).2.2.1 mv k) 49 else c0) (if mv % 2 = 0 then c1 else c1 + cn (nT n (s.1 14).2.1 (s.1 14).2.2.1 mv k) 49) ∧ (t.1 14).2.1 (mv + 1) = nP0 n (s.1 14).2.1 (s.1 14).2.2.1 mv k ∧ (t.1 14).2.2.1 (mv + 1) = nP1 n (s.1 14).2.1 (s.1 14).2.2.1 mv k ∧ ∃ m u, m < 14 ∧ fL_call_10 t 0 0 0 = some (nI m, u) ∧ INV u ∧ LIVE s u mv := by
  obtain ⟨z1, z2, z3⟩ := why_0 hw
  obtain ⟨w', b0', b1', l1, l2, l3, l4, l5⟩ := play_GR h hk z1 z2 z3
  obtain ⟨o', a', H0, H1, e1, e2, e3, e4, e5, e6, e7, e8⟩ := rem_s hI h
  have e : fX7_play (nxtX s.2.1) (s.1 (nxtX s.2.1)).1 (s.1 14).1 s.2.1 (s.1 (nxtX s.2.1)).2.1 (s.1 (nxtX s.2.1)).2.2.1 (s.1 14).2.1 (s.1 14).2.2.1 (s.1 14).2.2.2 rgC (nI k) = some (Sum.inr (nI (cn (nT n (s.1 14).2.1 (s.1 14).2.2.1 mv k) 49), (s.1 14).1, w', (nI o', nI a'), H0, H1, b0', b1')) := by
    unfold fX7_play
    rw [if_pos (hasK h hk), reason_eq h hk, Option.bind_some, if_pos (by rw [show why n rule mv (s.1 14).2.1 (s.1 14).2.2.1 k = 0 from hw]; rfl), e1, Option.bind_some, l1, Option.bind_some]
  have hx := nxtX_lt s.2.1
  have hg := hI
  have t14 : (putR (putR s.1 14 (w', b0', b1', (s.1 14).2.2.2)) (nxtX s.2.1) ((s.1 14).1, H0, H1, (s.1 14).2.2.2)) 14 = (w', b0', b1', (s.1 14).2.2.2) := by rw [putR_ne (by omega), putR_at]
  have tx : (putR (putR s.1 14 (w', b0', b1', (s.1 14).2.2.2)) (nxtX s.2.1) ((s.1 14).1, H0, H1, (s.1 14).2.2.2)) (nxtX s.2.1) = ((s.1 14).1, H0, H1, (s.1 14).2.2.2) := putR_at _ _ _
  have hIt := e8 (w', b0', b1', (s.1 14).2.2.2) ⟨_, _, _, _, _, _, _, l2⟩
  obtain ⟨N, hN⟩ : ∃ N, N = (putR (putR s.1 14 (w', b0', b1', (s.1 14).2.2.2)) (nxtX s.2.1) ((s.1 14).1, H0, H1, (s.1 14).2.2.2)) := ⟨_, rfl⟩
  rw [← hN] at t14 tx hIt
  refine ⟨(N, (nI o', nI a'), s.2.2), call_7_v ?_, hIt, ?_, ?_, ?_, a' - 1, ?_⟩
  · unfold aPlay aPlayx
    rw [e]
    show some (Sum.inr (naPlay s (nxtX s.2.1) _ _)) = _
    unfold naPlay
    rw [hN]
  · show GR _ _ _ _ _ _ _ (N 14).1 (N 14).2.1 (N 14).2.2.1 (N 14).2.2.2
    rw [t14]
    exact l2
  · show (N 14).2.1 _ = _
    rw [t14]
    exact l3
  · show (N 14).2.2.1 _ = _
    rw [t14]
    exact l4
  · obtain ⟨o, m, hm, hmk⟩ := hIt.1
    have hm' : (nI o', nI a') = (nI o, nI m) := hm
    have ho : o' = o := nI_inj (by omega) (by have := hmk.1; omega) (Prod.mk.inj hm').1
    have ha : a' = m := nI_inj (by omega) (by have := hmk.2.1; omega) (Prod.mk.inj hm').2
    subst ho
    subst ha
    have hh : GR n rule mv ps pr c0 c1 (N ((o' + (a' - 1)) % 14)).1 (N ((o' + (a' - 1)) % 14)).2.1 (N ((o' + (a' - 1)) % 14)).2.2.1 (N ((o' + (a' - 1)) % 14)).2.2.2 := by
      rw [e7, tx]
      exact e3
    obtain ⟨u, u1, u2, u3, u4, u5⟩ := undo_ok hIt rfl hmk.1 hmk.2.1 e6 hmk hh
    refine ⟨u, by omega, call_10_v u1, u2, ?_, ?_, ?_⟩
    · refine u3.trans ?_
      show (N ((o' + (a' - 1)) % 14)).1 = _
      rw [e7, tx]
    · refine u4.trans ?_
      show (N ((o' + (a' - 1)) % 14)).2.2.2 = _
      rw [e7, tx]
    · intro i hi
      have q1 := (u5 i hi).1
      have q2 := (u5 i hi).2
      have r1 : (N ((o' + (a' - 1)) % 14)).2.1 i = H0 i := by rw [e7, tx]
      have r2 : (N ((o' + (a' - 1)) % 14)).2.2.1 i = H1 i := by rw [e7, tx]
      exact ⟨(q1.trans r1).trans (e2 i hi).1, (q2.trans r2).trans (e2 i hi).2⟩
theorem play_no (h : NW s n rule mv ps pr c0 c1) {k : Nat} (hk : k < n * n) (hw : ¬ whyS s n rule mv k = 0) : fL_call_7 s (nI k) a b = some (-9999003, s) := call_7_S (by
  have hl : whyS s n rule mv k ≤ 4 := why_le k
  unfold aPlay aPlayx fX7_play
  rw [if_pos (hasK h hk), reason_eq h hk, Option.bind_some, if_neg (show ¬ nI (whyS s n rule mv k) = 0 from fun z => hw ((nI_eq0 (by omega)).mp z))]
  rfl)
theorem play_bad {p : Int32} (hp : fX2_has (s.1 14).2.2.2 p = false) : fL_call_7 s p a b = some (-9999001, s) := call_7_O (by
  unfold aPlay aPlayx fX7_play
  rw [if_neg (by rw [hp]; decide)]
  rfl)
theorem has_or (g : RS) (p : Int32) : fX2_has g p = true ∨ fX2_has g p = false := by cases fX2_has g p <;> simp
theorem play_any (hI : INV s) (p : Int32) : ∃ r t, fL_call_7 s p a b = some (r, t) ∧ INV t := by
  obtain ⟨n, rule, mv, ps, pr, c0, c1, h⟩ := hI.nw
  rcases has_or (s.1 14).2.2.2 p with q | q
  · have q' := q
    rw [h.grid] at q'
    obtain ⟨k, hk, rfl⟩ := hasG_pt h.okn q'
    by_cases z : whyS s n rule mv k = 0
    · obtain ⟨t, t1, t2, -⟩ := play_ok (a := a) (b := b) hI h hk z
      exact ⟨_, t, t1, t2⟩
    · exact ⟨_, s, play_no h hk z, hI⟩
  · exact ⟨_, s, play_bad q, hI⟩
theorem pass_any (hI : INV s) : ∃ r t, fL_call_8 s 0 a b = some (r, t) ∧ INV t := by
  obtain ⟨n, rule, mv, ps, pr, c0, c1, h⟩ := hI.nw
  have hmv := h.mvl
  have hw2 : (s.1 14).1.2.1 = nI mv := by rw [h.weq]
  by_cases z : mv < 120
  · obtain ⟨w', b0', b1', l1, l2, l3⟩ := pass_GR h z
    obtain ⟨o', a', H0, H1, e1, e2, e3, e4, e5, e6, e7, e8⟩ := rem_s hI h
    have e : fX7_pass (nxtX s.2.1) (s.1 (nxtX s.2.1)).1 (s.1 14).1 s.2.1 (s.1 (nxtX s.2.1)).2.1 (s.1 (nxtX s.2.1)).2.2.1 (s.1 14).2.1 (s.1 14).2.2.1 rgC = some (Sum.inr (w'.2.2.1, (s.1 14).1, w', (nI o', nI a'), H0, H1, b0', b1')) := by
      unfold fX7_pass
      rw [if_pos (show (s.1 14).1.2.1 < 120 by rw [hw2]; exact nI_lt (b := 120) z (by decide)), e1, Option.bind_some, l1, Option.bind_some]
    refine ⟨_, _, call_8_v (t := (putR (putR s.1 14 (w', b0', b1', (s.1 14).2.2.2)) (nxtX s.2.1) ((s.1 14).1, H0, H1, (s.1 14).2.2.2), (nI o', nI a'), s.2.2)) (r := w'.2.2.1) ?_, e8 _ ⟨_, _, _, _, _, _, _, l3⟩⟩
    unfold aPass aPassx
    rw [e]
    rfl
  · refine ⟨_, s, call_8_S ?_, hI⟩
    unfold aPass aPassx fX7_pass
    rw [if_neg (show ¬ (s.1 14).1.2.1 < 120 by rw [hw2, show mv = 120 by omega]; decide)]
    rfl
theorem set_bad {p : Int32} (hp : ¬ p = 0 ∧ ¬ p = 1) : fL_call_9 s p a b = some (-9999002, s) := call_9_A (by
  unfold aSet aSetx fX7_set
  rw [if_neg hp.1, if_neg hp.2]
  rfl)
theorem set_any (hI : INV s) (p : Int32) : ∃ r t, fL_call_9 s p a b = some (r, t) ∧ INV t := by
  obtain ⟨n, rule, mv, ps, pr, c0, c1, h⟩ := hI.nw
  by_cases hp : ¬ p = 0 ∧ ¬ p = 1
  · exact ⟨_, s, set_bad hp, hI⟩
  obtain ⟨c, hc, rfl⟩ : ∃ c, c < 2 ∧ p = nI c := by
    by_cases e : p = 0
    · exact ⟨0, by omega, e⟩
    · by_cases e1 : p = 1
      · exact ⟨1, by omega, e1⟩
      · exact absurd ⟨e, e1⟩ hp
  obtain ⟨o', a', H0, H1, e1, e2, e3, e4, e5, e6, e7, e8⟩ := rem_s hI h
  have e : fX7_set (nxtX s.2.1) (s.1 (nxtX s.2.1)).1 (s.1 14).1 s.2.1 (s.1 (nxtX s.2.1)).2.1 (s.1 (nxtX s.2.1)).2.2.1 rgC (s.1 14).2.1 (s.1 14).2.2.1 (nI c) = some (Sum.inr ((s.1 14).1.1, (s.1 14).1, (nI c, (s.1 14).1.2.1, (s.1 14).1.2.2.1, (s.1 14).1.2.2.2.1, (s.1 14).1.2.2.2.2.1, (s.1 14).1.2.2.2.2.2.1, (s.1 14).1.2.2.2.2.2.2.1, (s.1 14).1.2.2.2.2.2.2.2), (nI o', nI a'), H0, H1)) := by
    unfold fX7_set
    rcases (show c = 0 ∨ c = 1 by omega) with q | q
    · subst q
      rw [if_pos (show nI 0 = 0 from rfl), e1, Option.bind_some]
    · subst q
      rw [if_neg (show ¬ nI 1 = 0 by decide), if_pos (show nI 1 = 1 from rfl), e1, Option.bind_some]
  refine ⟨_, _, call_9_v (t := (putR (putR s.1 14 ((nI c, (s.1 14).1.2.1, (s.1 14).1.2.2.1, (s.1 14).1.2.2.2.1, (s.1 14).1.2.2.2.2.1, (s.1 14).1.2.2.2.2.2.1, (s.1 14).1.2.2.2.2.2.2.1, (s.1 14).1.2.2.2.2.2.2.2), (s.1 14).2.1, (s.1 14).2.2.1, (s.1 14).2.2.2)) (nxtX s.2.1) ((s.1 14).1, H0, H1, (s.1 14).2.2.2), (nI o', nI a'), s.2.2)) (r := (s.1 14).1.1) ?_, e8 _ ⟨_, _, _, _, _, _, _, set_GR h hc⟩⟩
  unfold aSet aSetx
  rw [e]
  rfl
theorem board_bad {p : Int32} (hp : p < 3 ∨ ¬ p ≤ 7) : fL_call_6 s p a b = some (-9999002, s) := call_6_A (by
  unfold aBoard aBoardx fX7_board
  by_cases q : p < 3
  · rw [if_pos q]
    rfl
  · rw [if_neg q, if_neg (hp.resolve_left q)]
    rfl)
theorem board_any (hI : INV s) (p : Int32) : ∃ r t, fL_call_6 s p a b = some (r, t) ∧ INV t := by
  obtain ⟨n, rule, mv, ps, pr, c0, c1, h⟩ := hI.nw
  by_cases hp : p < 3 ∨ ¬ p ≤ 7
  · exact ⟨_, s, board_bad hp, hI⟩
  have h3 : ¬ p < 3 := fun q => hp (.inl q)
  have h7 : p ≤ 7 := Decidable.byContradiction fun q => hp (.inr q)
  obtain ⟨m, m1, m2, rfl⟩ : ∃ m, 3 ≤ m ∧ m ≤ 7 ∧ p = nI m := by
    have h3' := h3
    have h7' := h7
    rw [Int32.lt_iff_toInt_lt, show (3 : Int32).toInt = 3 by decide] at h3'
    rw [Int32.le_iff_toInt_le, show (7 : Int32).toInt = 7 by decide] at h7'
    have := of_toInt (p := p) (by omega)
    exact ⟨p.toInt.toNat, by omega, by omega, this.1⟩
  obtain ⟨w', d0, d1, l1, l2⟩ := board_GR h (okN_of m1 m2) (s.1 14).2.1 (s.1 14).2.2.1
  obtain ⟨o', a', H0, H1, e1, e2, e3, e4, e5, e6, e7, e8⟩ := rem_s hI h
  have e : fX7_board (nxtX s.2.1) (s.1 (nxtX s.2.1)).1 (s.1 14).1 s.2.1 (s.1 (nxtX s.2.1)).2.1 (s.1 (nxtX s.2.1)).2.2.1 rgC (s.1 14).2.1 (s.1 14).2.2.1 (nI m) = some (Sum.inr ((gridOf m).2.1, (s.1 14).1, w', (nI o', nI a'), H0, H1, d0, d1, gridOf m)) := by
    unfold fX7_board
    rw [if_neg h3, if_pos h7, e1, Option.bind_some, l1, Option.bind_some]
  refine ⟨_, _, call_6_v (t := (putR (putR s.1 14 (w', d0, d1, gridOf m)) (nxtX s.2.1) ((s.1 14).1, H0, H1, (s.1 14).2.2.2), (nI o', nI a'), s.2.2)) (r := (gridOf m).2.1) ?_, e8 _ ⟨_, _, _, _, _, _, _, l2⟩⟩
  unfold aBoard aBoardx
  rw [e]
  rfl
end ACTS
