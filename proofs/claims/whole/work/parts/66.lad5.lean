abbrev zeroG (y : MSt) : MSt := (y.1, y.2.1, y.2.2.1, y.2.2.2.1, y.2.2.2.2.1, y.2.2.2.2.2.1, y.2.2.2.2.2.2.1, (0 : Int32), y.2.2.2.2.2.2.2.2.1, y.2.2.2.2.2.2.2.2.2)
def ladV (n k v : Nat) (ow ch : Int64) : Nat := if v = 0 then (if ladF n k 12 ow ch = 0 then 0 else 1) else if ladO n k (ladF n k 12) ow ch = true then 1 else 0
theorem ladV0 (n k : Nat) (ow ch : Int64) : ladV n k 0 ow ch = if ladF n k 12 ow ch = 0 then 0 else 1 := rfl
theorem ladV1 (n k : Nat) (ow ch : Int64) : ladV n k 1 ow ch = if ladO n k (ladF n k 12) ow ch = true then 1 else 0 := rfl
/-- the same for answers that leave the heap of games behind -/
def agrH (y : MSt) (r : Option (Int32 × (Nat → Int64))) (s : Option (Int32 × MSt × (Nat → Int64) × (Nat → Int64) × (Nat → Int32))) : Prop := ∃ k o a y' fo fc fl, r = some (k, o) ∧ s = some (a, y', fo, fc, fl) ∧ y'.1 = k ∧ (k = 0 → o 0 = a.toInt64) ∧ sameM y y'
theorem cn_below {x : Int64} {p : Nat} (h : ∀ i, i < 64 → tb x i = decide (i < p)) : ∀ m, m ≤ 64 → cn x m = if m ≤ p then m else p := by
  intro m
  induction m with
  | zero => intro _; rw [if_pos (by omega)]; rfl
  | succ m ih =>
    intro hm
    unfold cn
    rw [ih (by omega), h m (by omega)]
    by_cases c : m < p
    · rw [if_pos (by omega), if_pos (decide_eq_true c), if_pos (by omega)]
    · rw [if_neg (show ¬ decide (m < p) = true from fun z => c (of_decide_eq_true z))]
      by_cases d : m ≤ p
      · rw [if_pos d, if_neg (by omega)]
        omega
      · rw [if_neg d, if_neg (by omega), Nat.add_zero]
theorem bc_pred {p : Nat} (hp : p < 64) : fJ13_bitCount_95d88 (pt p - 1) = nI p := by
  rw [bc_eq, cn_below (p := p) ?_ 64 (by omega), if_neg (by omega)]
  intro i hi
  rw [tb_pred _ hi, tb_neg _ hi, tb_pt hp]
  have : (∃ j, j < i ∧ tb (pt p) j = true) ↔ p < i := by
    constructor
    · rintro ⟨j, j1, j2⟩
      have := (m_pt hp).mp j2
      omega
    · intro q
      exact ⟨p, q, pt_self hp⟩
  by_cases c : i < p
  · rw [decide_eq_false (show ¬ i = p by omega), decide_eq_false (fun z => by have := this.mp z; omega), decide_eq_true c]
    rfl
  · rw [decide_eq_false c]
    by_cases d : i = p
    · rw [decide_eq_true d, decide_eq_false (fun z => by have := this.mp z; omega)]
      rfl
    · rw [decide_eq_false d, decide_eq_true (this.mpr (by omega))]
      rfl
section LADL
variable {n rule mv ps pr c0 c1 : Nat} {w : GSt} {b0 b1 : Nat → Int64} {g : RSt} {f : Nat → Int64}
theorem ladderOn_in (hn : okN n) {k : Nat} (hk : k < n * n) {ow ch : Int64} (hp : posOK n ow ch) (hko : tb ow k = true) (y : MSt) (fo fc : Nat → Int64) (fl : Nat → Int32) :
    (∃ y1 g1 g2 g3, (fX8_put (zeroG y) fo fc fl ow ch 12) = some (y1, g1, g2, g3) ∧ ∃ y' fo' fc' fl', fX8_works y1 g1 g2 g3 (nI n) (nI k) = some (!decide (ladF n k 12 ow ch = 0), y', fo', fc', fl') ∧ keepM y y') ∧
    (∃ r y1 g1 g2 g3, (fX8_ownerTurn (zeroG y) fo fc fl (nI n) (nI k) ow ch 12) = some (r, y1, g1, g2, g3) ∧ keepM y y1 ∧ ((¬ r = -1 ∧ r = nI (ladV n k 1 ow ch)) ∨ (r = -1 ∧ ∃ y' fo' fc' fl', fX8_works y1 g1 g2 g3 (nI n) (nI k) = some (ladO n k (ladF n k 12) ow ch, y', fo', fc', fl') ∧ keepM y y'))) := by
  have hz : keepM y (zeroG y) := ⟨rfl, rfl, rfl⟩
  constructor
  · obtain ⟨y1, t1, t2, t3⟩ := put_eq (y := zeroG y) (G := 0) rfl (by omega) fo fc fl ow ch 12
    obtain ⟨y', fo', fc', fl', r1, r2⟩ := works_one hn hk hp hko (d := 12) (by omega) t3 (updL_at fo 0 ow) (updL_at fc 0 ch) (updI_at fl 0 12)
    exact ⟨y1, _, _, _, t1, y', fo', fc', fl', r1, keepM_trans hz (keepM_trans t2 r2)⟩
  · have hm := owner_m hn hk hp hko (G := 0) 12 (by omega) (y := zeroG y) rfl fo fc fl
    have hm' : ladOut n k 12 0 (ladO n k (ladF n k 12) ow ch) (zeroG y) fo fc fl (fX8_ownerTurn (zeroG y) fo fc fl (nI n) (nI k) ow ch 12) := hm
    rcases hm' with ⟨m1, y1, m2, m3, m4⟩ | ⟨m1, y1, m2, m3, m4⟩ | ⟨y1, a', b', m2, m3, m4, m5, m6, m7⟩
    · refine ⟨0, y1, fo, fc, fl, m2, keepM_trans hz m3, .inl ⟨by decide, ?_⟩⟩
      rw [ladV1, m1, if_neg Bool.false_ne_true]
      rfl
    · refine ⟨1, y1, fo, fc, fl, m2, keepM_trans hz m3, .inl ⟨by decide, ?_⟩⟩
      rw [ladV1, m1, if_pos rfl]
      rfl
    · obtain ⟨y', fo', fc', fl', r1, r2⟩ := works_one hn hk m5 m6 (d := 12) (by omega) m4 (updL_at fo 0 a') (updL_at fc 0 b') (updI_at fl 0 (nI 12))
      refine ⟨-1, y1, _, _, _, m2, keepM_trans hz m3, .inr ⟨rfl, y', fo', fc', fl', ?_, keepM_trans hz (keepM_trans m3 r2)⟩⟩
      rw [r1, m7]
theorem ladderOn_stone (h : GR n rule mv ps pr c0 c1 w b0 b1 g f) {k c v : Nat} (hk : k < n * n) (hc : c < 2) (hv : v < 2) (s : tb (sOf b0 b1 mv c) k = true) (y : MSt) (fo fc : Nat → Int64) (fl : Nat → Int32) :
    ∃ y' fo' fc' fl', fX8_ladderOn y f fo fc fl (nI k) (nI v) = some (nI (ladV n k v (sOf b0 b1 mv c) (sOf b0 b1 mv (1 - c))), y', fo', fc', fl') ∧ keepM y y' := by
  have hn := h.okn
  have hk64 : k < 64 := by have := (okN_sq hn).2; omega
  obtain ⟨⟨y1, g1, g2, g3, a1, y2, go, gc, gl, a2, a3⟩, ⟨r, y3, g4, g5, g6, a4, a5, a6⟩⟩ := ladderOn_in hn hk (h.pos hc) s y fo fc fl
  have e0 : fX8_stonesOf f 0 = some (b0 mv) := h.s0
  have e1 : fX8_stonesOf f 1 = some (b1 mv) := h.s1
  have e10 : fX8_stonesOf f (1 - 0) = some (b1 mv) := h.s1
  have e11 : fX8_stonesOf f (1 - 1) = some (b0 mv) := h.s0
  rcases (show c = 0 ∨ c = 1 by omega) with ec | ec
  · subst ec
    have s' : tb (b0 mv) k = true := s
    have z0 : sOf b0 b1 mv 0 = b0 mv := rfl
    have z1 : sOf b0 b1 mv (1 - 0) = b1 mv := rfl
    rw [z0, z1] at a1 a2 a4 a6 ⊢
    unfold fX8_ladderOn bnd
    dsimp only
    rw [if_pos (by decide), e0, Option.bind_some, has_pt hk64, if_pos s', Option.bind_some, has_pt hk64, if_pos s', e10, rows_eq h.f0]
    rcases (show v = 0 ∨ v = 1 by omega) with ev | ev
    · subst ev
      rw [if_pos (show nI 0 = 0 from rfl), Option.bind_some, Option.bind_some, a1, Option.bind_some, if_pos rfl, a2, Option.bind_some]
      rw [ladV0]
      by_cases t : ladF n k 12 (b0 mv) (b1 mv) = 0
      · rw [if_pos t, decide_eq_true t]
        exact ⟨y2, go, gc, gl, rfl, a3⟩
      · rw [if_neg t, decide_eq_false t]
        exact ⟨y2, go, gc, gl, rfl, a3⟩
    · subst ev
      rw [if_neg (show ¬ nI 1 = 0 by decide), Option.bind_some, Option.bind_some, a4, Option.bind_some]
      rcases a6 with ⟨d1, d2⟩ | ⟨d1, y', fo', fc', fl', d2, d3⟩
      · rw [if_neg d1, d2]
        exact ⟨y3, g4, g5, g6, rfl, a5⟩
      · rw [if_pos d1, d2, Option.bind_some]
        rw [ladV1]
        dsimp only
        by_cases t : ladO n k (ladF n k 12) (b0 mv) (b1 mv) = true
        · rw [if_pos t, if_pos t]
          exact ⟨y', fo', fc', fl', rfl, d3⟩
        · rw [if_neg t, if_neg t]
          exact ⟨y', fo', fc', fl', rfl, d3⟩
  · subst ec
    have s' : tb (b1 mv) k = true := s
    have n0 : ¬ tb (b0 mv) k = true := fun z => (m_and0.mp (h.pos (c := 1) (by omega)).2.2.1 k s) z
    have z0 : sOf b0 b1 mv 1 = b1 mv := rfl
    have z1 : sOf b0 b1 mv (1 - 1) = b0 mv := rfl
    rw [z0, z1] at a1 a2 a4 a6 ⊢
    unfold fX8_ladderOn bnd
    dsimp only
    rw [if_pos (by decide), e0, Option.bind_some, has_pt hk64, if_neg n0, e1, Option.bind_some, has_pt hk64, if_pos s', e11, rows_eq h.f0]
    rcases (show v = 0 ∨ v = 1 by omega) with ev | ev
    · subst ev
      rw [if_pos (show nI 0 = 0 from rfl), Option.bind_some, Option.bind_some, a1, Option.bind_some, if_pos rfl, a2, Option.bind_some]
      rw [ladV0]
      by_cases t : ladF n k 12 (b1 mv) (b0 mv) = 0
      · rw [if_pos t, decide_eq_true t]
        exact ⟨y2, go, gc, gl, rfl, a3⟩
      · rw [if_neg t, decide_eq_false t]
        exact ⟨y2, go, gc, gl, rfl, a3⟩
    · subst ev
      rw [if_neg (show ¬ nI 1 = 0 by decide), Option.bind_some, Option.bind_some, a4, Option.bind_some]
      rcases a6 with ⟨d1, d2⟩ | ⟨d1, y', fo', fc', fl', d2, d3⟩
      · rw [if_neg d1, d2]
        exact ⟨y3, g4, g5, g6, rfl, a5⟩
      · rw [if_pos d1, d2, Option.bind_some]
        rw [ladV1]
        dsimp only
        by_cases t : ladO n k (ladF n k 12) (b1 mv) (b0 mv) = true
        · rw [if_pos t, if_pos t]
          exact ⟨y', fo', fc', fl', rfl, d3⟩
        · rw [if_neg t, if_neg t]
          exact ⟨y', fo', fc', fl', rfl, d3⟩
theorem ladderOn_free (h : GR n rule mv ps pr c0 c1 w b0 b1 g f) {k : Nat} {v : Int32} (hk : k < n * n) (s : ¬ tb (b0 mv ||| b1 mv) k = true) (y : MSt) (fo fc : Nat → Int64) (fl : Nat → Int32) :
    fX8_ladderOn y f fo fc fl (nI k) v = some (-1, y, fo, fc, fl) := by
  have hk64 : k < 64 := by have := (okN_sq h.okn).2; omega
  have e0 : fX8_stonesOf f 0 = some (b0 mv) := h.s0
  have e1 : fX8_stonesOf f 1 = some (b1 mv) := h.s1
  have n0 : ¬ tb (b0 mv) k = true := fun z => s (m_or.mpr (.inl z))
  have n1 : ¬ tb (b1 mv) k = true := fun z => s (m_or.mpr (.inr z))
  unfold fX8_ladderOn bnd
  dsimp only
  rw [if_pos (by decide), e0, Option.bind_some, has_pt hk64, if_neg n0, e1, Option.bind_some, has_pt hk64, if_neg n1]
theorem ladF_c (h : GR n rule mv ps pr c0 c1 w b0 b1 g f) {k c : Nat} (hk : k < n * n) (hc : c < 2) (s : tb (sOf b0 b1 mv c) k = true) : fLadF g (fX0_stonesOf w (1 - nI c)) (fX0_stonesOf w (nI c)) (shlL 1 (nI k)) 12 = some (ladF n k 12 (sOf b0 b1 mv c) (sOf b0 b1 mv (1 - c))) := by
  have hn := h.okn
  have hk64 : k < 64 := by have := (okN_sq hn).2; omega
  rw [other_nI hc, h.wc hc, h.wc (c := 1 - c) (by omega), h.grid]
  exact (lad_class hn hk64 12 (by omega)).1 60 (by omega) _ _ (pt k) (h.pos hc) s rfl
theorem ladO_c (h : GR n rule mv ps pr c0 c1 w b0 b1 g f) {k c : Nat} (hk : k < n * n) (hc : c < 2) (s : tb (sOf b0 b1 mv c) k = true) : fLadO g (fX0_stonesOf w (1 - nI c)) (fX0_stonesOf w (nI c)) (shlL 1 (nI k)) 12 = some (ladO n k (ladF n k 12) (sOf b0 b1 mv c) (sOf b0 b1 mv (1 - c))) := by
  have hn := h.okn
  have hk64 : k < 64 := by have := (okN_sq hn).2; omega
  rw [other_nI hc, h.wc hc, h.wc (c := 1 - c) (by omega), h.grid]
  exact (lad_class hn hk64 12 (by omega)).2 60 (by omega) _ _ (pt k) (h.pos hc) s rfl
theorem ladder_agr (h : GR n rule mv ps pr c0 c1 w b0 b1 g f) (p0 p1 : Int32) (y : MSt) (o : Nat → Int64) (fo fc : Nat → Int64) (fl : Nat → Int32) : agrH y (fL_ladder o w g p0 p1) (fX8_ladder y f fo fc fl p0 p1) := by
  have hn := h.okn
  have hin := in0_iff p1 (m := 1) (by omega)
  by_cases q : fX2_has g p0 = true
  · have q' : fX2_has (gridOf n) p0 = true := by rw [← h.grid]; exact q
    obtain ⟨k, k1, k2⟩ := hasG_pt hn q'
    subst k2
    have hk64 : k < 64 := by have := (okN_sq hn).2; omega
    by_cases q1 : fX8_in p1.toInt64 0 (nL 1) = true
    · obtain ⟨v, v1, v2⟩ := hin.mp q1
      subst v2
      have q2 : fX8_in (nI v).toInt64 0 1 = true := q1
      rcases stone_or_free b0 b1 mv k with ⟨c, hc, s⟩ | s
      · obtain ⟨y', fo', fc', fl', l1, l2⟩ := ladderOn_stone h k1 hc (v := v) (by omega) s (setM y 0) fo fc fl
        have hF := ladF_c h k1 hc s
        have hO := ladO_c h k1 hc s
        refine ⟨0, vp_updL o 0 (nI (ladV n k v (sOf b0 b1 mv c) (sOf b0 b1 mv (1 - c)))).toInt64, nI (ladV n k v (sOf b0 b1 mv c) (sOf b0 b1 mv (1 - c))), y', fo', fc', fl', ?_, ?_, l2.1, fun _ => updL_at o 0 _, l2.2⟩
        · unfold fL_ladder fX7_ladder bnd
          dsimp only
          rw [if_pos q, col_stone h hk64 hc s]
          rcases (show v = 0 ∨ v = 1 by omega) with ev | ev
          · subst ev
            rw [if_pos (show nI 0 = 0 from rfl), if_neg (nI_ne_m1 (by omega)), if_pos (show nI 0 = 0 from rfl), hF, Option.bind_some]
            rw [ladV0]
            by_cases t : ladF n k 12 (sOf b0 b1 mv c) (sOf b0 b1 mv (1 - c)) = 0
            · rw [if_pos t, if_pos t]
              rfl
            · rw [if_neg t, if_neg t]
              rfl
          · subst ev
            rw [if_neg (show ¬ nI 1 = 0 by decide), if_pos (show nI 1 = 1 from rfl), if_neg (nI_ne_m1 (by omega)), if_neg (show ¬ nI 1 = 0 by decide), hO, Option.bind_some]
            rw [ladV1]
            by_cases t : ladO n k (ladF n k 12) (sOf b0 b1 mv c) (sOf b0 b1 mv (1 - c)) = true
            · rw [if_pos t, if_pos t]
              rfl
            · rw [if_neg t, if_neg t]
              rfl
        · unfold fX8_ladder bnd
          rw [isPoint_eq hn h.f0, Option.bind_some, if_pos q', if_pos q2, refused0]
          dsimp only
          rw [if_neg (by decide), l1, Option.bind_some]
      · have l1 := ladderOn_free h (v := nI v) k1 s (setM y 0) fo fc fl
        refine ⟨0, vp_updL o 0 (-1 : Int32).toInt64, -1, setM y 0, fo, fc, fl, ?_, ?_, rfl, fun _ => updL_at o 0 _, setM_same y 0⟩
        · unfold fL_ladder fX7_ladder bnd
          dsimp only
          rw [if_pos q, col_free h hk64 s]
          rcases (show v = 0 ∨ v = 1 by omega) with ev | ev
          · subst ev
            rw [if_pos (show nI 0 = 0 from rfl), if_pos rfl]
            rfl
          · subst ev
            rw [if_neg (show ¬ nI 1 = 0 by decide), if_pos (show nI 1 = 1 from rfl), if_pos rfl]
            rfl
        · unfold fX8_ladder bnd
          rw [isPoint_eq hn h.f0, Option.bind_some, if_pos q', if_pos q2, refused0]
          dsimp only
          rw [if_neg (by decide), l1, Option.bind_some]
    · have z : ∀ v, v ≤ 1 → ¬ p1 = nI v := fun v hv e => q1 (hin.mpr ⟨v, hv, e⟩)
      refine ⟨2, o, 0, setM y 2, fo, fc, fl, ?_, ?_, rfl, fun z => absurd z ne2, setM_same y 2⟩
      · unfold fL_ladder fX7_ladder
        rw [if_pos q, if_neg (show ¬ p1 = 0 from z 0 (by omega)), if_neg (show ¬ p1 = 1 from z 1 (by omega))]
        rfl
      · unfold fX8_ladder bnd
        rw [isPoint_eq hn h.f0, Option.bind_some, if_pos q', if_neg (show ¬ fX8_in p1.toInt64 0 1 = true from q1), refused2]
        dsimp only
        rw [if_pos rfl]
  · have q' : ¬ fX2_has (gridOf n) p0 = true := by rw [← h.grid]; exact q
    refine ⟨1, o, 0, setM y 1, fo, fc, fl, ?_, ?_, rfl, fun z => absurd z ne1, setM_same y 1⟩
    · unfold fL_ladder fX7_ladder
      rw [if_neg q]
      rfl
    · unfold fX8_ladder bnd
      rw [isPoint_eq hn h.f0, Option.bind_some, if_neg q', refused1]
      dsimp only
      rw [if_pos rfl]
/-- the number of the first stone -/
def frst (z : Int64) : Int32 := if z = 0 then -1 else fJ13_bitCount_95d88 (z - 1)
theorem chase_loop (h : GR n rule mv ps pr c0 c1 w b0 b1 g f) {k c : Nat} (hk : k < n * n) (hc : c < 2) (s : tb (sOf b0 b1 mv c) k = true) {w0 : MSt} {a1 a2 : Nat → Int64} {a3 : Nat → Int32}
    (hm : cn (lb n (sOf b0 b1 mv c) (sOf b0 b1 mv (1 - c)) (pt k)) 49 ≤ 2) :
    ∀ (d fu i : Nat) (x : Int64) (y : MSt) (fo fc : Nat → Int64) (fl : Nat → Int32), i + d = cn (lb n (sOf b0 b1 mv c) (sOf b0 b1 mv (1 - c)) (pt k)) 49 → d + 1 ≤ fu → sb x (lb n (sOf b0 b1 mv c) (sOf b0 b1 mv (1 - c)) (pt k)) → cn x 49 = d →
    ∃ y' fo' fc' fl', fX8_chase_93 w0 f a1 a2 a3 (nI k) fu (nI n) (nI c) x (nI (cn (lb n (sOf b0 b1 mv c) (sOf b0 b1 mv (1 - c)) (pt k)) 49)) (nI i) y fo fc fl = some (frst (ladS (okC n k 12 (sOf b0 b1 mv c) (sOf b0 b1 mv (1 - c)) (decide (cn (lb n (sOf b0 b1 mv c) (sOf b0 b1 mv (1 - c)) (pt k)) 49 = 1))) d x), y', fo', fc', fl') ∧ keepM y y' := by
  have hn := h.okn
  have hp := h.pos hc
  have e1 := h.sc hc
  have e2 := h.sc (c := 1 - c) (by omega)
  generalize hcn : cn (lb n (sOf b0 b1 mv c) (sOf b0 b1 mv (1 - c)) (pt k)) 49 = cnt at hm
  generalize sOf b0 b1 mv c = ow at hcn s hp e1
  generalize sOf b0 b1 mv (1 - c) = ch at hcn hp e2
  intro d
  induction d with
  | zero =>
    intro fu i x y fo fc fl hi hf hx hd
    obtain ⟨fu, rfl⟩ : ∃ f, fu = f + 1 := ⟨fu - 1, by omega⟩
    have e : i = cnt := by omega
    subst e
    refine ⟨y, fo, fc, fl, ?_, keepM_refl y⟩
    unfold fX8_chase_93
    rw [if_pos (nI_le (Nat.le_refl _) (by omega))]
    rfl
  | succ d ih =>
    intro fu i x y fo fc fl hi hf hx hd
    obtain ⟨fu, rfl⟩ : ∃ f, fu = f + 1 := ⟨fu - 1, by omega⟩
    have hxA : sb x (mA n) := sb_trans hx lb_sb
    have x0 : ¬ x = 0 := by
      intro z
      rw [z, cn_zero] at hd
      omega
    obtain ⟨p, p1, p2, p3, p4, p5⟩ := lowest_ex hn hxA x0
    have hpl := hx p p3
    have hdr := cn_drop1 hn hxA p3
    have hx' : sb (x ^^^ pt p) (lb n ow ch (pt k)) := fun j q => hx j ((m_xlow p2 p3).mp q).1
    have o1 : (nI cnt = 1) ↔ cnt = 1 := nI_eq_iff (b := 1) (by omega) (by omega)
    have hm3 : ¬ (3 : Int32) ≤ nI cnt := fun z => by
      have := (nI_le_iff (a := 3) (by omega) (by omega)).mp z
      omega
    have hz : keepM y (zeroG y) := ⟨rfl, rfl, rfl⟩
    have hout := chaser_m hn hk hp s 12 (by omega) (G := 0) (by omega) (y := zeroG y) rfl fo fc fl hpl
    rw [hcn] at hout
    have hout' : ladOut n k 11 0 (okC n k 12 ow ch (decide (cnt = 1)) (pt p)) (zeroG y) fo fc fl (fX8_chaserLays (zeroG y) fo fc fl (nI n) (nI k) ow ch 12 (nI p) (decide (cnt = 1))) := hout
    have hun : fX8_chase_93 w0 f a1 a2 a3 (nI k) (fu + 1) (nI n) (nI c) x (nI cnt) (nI i) y fo fc fl = (fX8_chaserLays (zeroG y) fo fc fl (nI n) (nI k) ow ch 12 (nI p) (decide (cnt = 1))).bind (fun r => if r.1 = 1 then some (nI p, r.2.1, r.2.2.1, r.2.2.2.1, r.2.2.2.2) else if r.1 = -1 then (fX8_works r.2.1 r.2.2.1 r.2.2.2.1 r.2.2.2.2 (nI n) (nI k)).bind (fun q => if q.1 = true then some (nI p, q.2.1, q.2.2.1, q.2.2.2.1, q.2.2.2.2) else fX8_chase_93 w0 f a1 a2 a3 (nI k) fu (nI n) (nI c) (x ^^^ pt p) (nI cnt) (nI (i + 1)) q.2.1 q.2.2.1 q.2.2.2.1 q.2.2.2.2) else fX8_chase_93 w0 f a1 a2 a3 (nI k) fu (nI n) (nI c) (x ^^^ pt p) (nI cnt) (nI (i + 1)) r.2.1 r.2.2.1 r.2.2.2.1 r.2.2.2.2) := by
      rw [fX8_chase_93]
      rw [if_neg (nI_ge (by omega) (by omega)), if_neg hm3, p5, Option.bind_some, e1, Option.bind_some, other_nI hc, e2, Option.bind_some, drop_low, p4, ← nI_succ]
      by_cases o : cnt = 1
      · rw [if_pos (o1.mpr o), decide_eq_true o]
      · rw [if_neg (fun z => o (o1.mp z)), decide_eq_false o]
    rw [hun]
    have hS : ladS (okC n k 12 ow ch (decide (cnt = 1))) (d + 1) x = if okC n k 12 ow ch (decide (cnt = 1)) (pt p) = true then pt p else ladS (okC n k 12 ow ch (decide (cnt = 1))) d (x ^^^ pt p) := by
      rw [ladS, p4]
    have hfr : frst (pt p) = nI p := by
      unfold frst
      rw [if_neg (pt_ne0 p2), bc_pred p2]
    rw [hS]
    rcases hout' with ⟨m1, y1, m2, m3, m4⟩ | ⟨m1, y1, m2, m3, m4⟩ | ⟨y1, a', b', m2, m3, m4, m5, m6, m7⟩
    · rw [m2, Option.bind_some, m1, if_neg (show ¬ false = true by decide)]
      rw [if_neg (show ¬ (0 : Int32) = 1 by decide), if_neg (show ¬ (0 : Int32) = -1 by decide)]
      obtain ⟨y', fo', fc', fl', r1, r2⟩ := ih fu (i + 1) (x ^^^ pt p) y1 fo fc fl (by omega) (by omega) hx' (by omega)
      exact ⟨y', fo', fc', fl', r1, keepM_trans hz (keepM_trans m3 r2)⟩
    · rw [m2, Option.bind_some, m1, if_pos (show true = true from rfl), hfr]
      rw [if_pos (show (1 : Int32) = 1 from rfl)]
      exact ⟨y1, fo, fc, fl, rfl, keepM_trans hz m3⟩
    · obtain ⟨y2, go, gc, gl, r1, r2⟩ := works_one hn hk m5 m6 (d := 11) (by omega) m4 (updL_at fo 0 a') (updL_at fc 0 b') (updI_at fl 0 (nI 11))
      rw [m2, Option.bind_some]
      rw [if_neg (show ¬ (-1 : Int32) = 1 by decide), if_pos (show (-1 : Int32) = -1 from rfl), r1, Option.bind_some, ← m7]
      by_cases t : okC n k 12 ow ch (decide (cnt = 1)) (pt p) = true
      · rw [if_pos t, if_pos t, hfr]
        exact ⟨y2, go, gc, gl, rfl, keepM_trans hz (keepM_trans m3 r2)⟩
      · rw [if_neg t, if_neg t]
        obtain ⟨y', fo', fc', fl', s1, s2⟩ := ih fu (i + 1) (x ^^^ pt p) y2 go gc gl (by omega) (by omega) hx' (by omega)
        exact ⟨y', fo', fc', fl', s1, keepM_trans hz (keepM_trans m3 (keepM_trans r2 s2))⟩
theorem chase_agr (h : GR n rule mv ps pr c0 c1 w b0 b1 g f) (p0 : Int32) (y : MSt) (o : Nat → Int64) (fo fc : Nat → Int64) (fl : Nat → Int32) : agrH y (fL_chase o w g p0) (fX8_chase y f fo fc fl p0) := by
  have hn := h.okn
  by_cases q : fX2_has g p0 = true
  · have q' : fX2_has (gridOf n) p0 = true := by rw [← h.grid]; exact q
    obtain ⟨k, k1, k2⟩ := hasG_pt hn q'
    subst k2
    have hk64 : k < 64 := by have := (okN_sq hn).2; omega
    rcases stone_or_free b0 b1 mv k with ⟨c, hc, s⟩ | s
    · have hF := ladF_c h k1 hc s
      have e3 := groupAt_m h k1 hc s
      have e4 := freeOf_m (S := pt k) h hc
      have e5 := group_ne h hc s
      have hlb : fvO n (b0 mv ||| b1 mv) (cl n (sOf b0 b1 mv c) (pt k)) = lb n (sOf b0 b1 mv c) (sOf b0 b1 mv (1 - c)) (pt k) := by
        unfold fvO lb
        rw [sOf_or' hc]
      rw [hlb] at e4
      have es : fX8_stonesOf f 0 = some (b0 mv) := h.s0
      have hcc := cn_le (lb n (sOf b0 b1 mv c) (sOf b0 b1 mv (1 - c)) (pt k)) 49
      have hpos := h.pos hc
      have key : ∃ y' fo' fc' fl', fX8_chase_93 y f fo fc fl (nI k) 5000 (nI n) (nI c) (lb n (sOf b0 b1 mv c) (sOf b0 b1 mv (1 - c)) (pt k)) (nI (cn (lb n (sOf b0 b1 mv c) (sOf b0 b1 mv (1 - c)) (pt k)) 49)) 0 (setM y 0) fo fc fl = some (frst (ladF n k 12 (sOf b0 b1 mv c) (sOf b0 b1 mv (1 - c))), y', fo', fc', fl') ∧ keepM (setM y 0) y' := by
        rw [ladF_eq]
        by_cases t : cn (lb n (sOf b0 b1 mv c) (sOf b0 b1 mv (1 - c)) (pt k)) 49 ≤ 2
        · rw [if_pos t]
          exact chase_loop h k1 hc s t _ 5000 0 _ (setM y 0) fo fc fl (by omega) (by omega) (sb_refl _) rfl
        · rw [if_neg t]
          refine ⟨setM y 0, fo, fc, fl, ?_, keepM_refl _⟩
          rw [fX8_chase_93]
          rw [if_neg (show ¬ nI (cn (lb n (sOf b0 b1 mv c) (sOf b0 b1 mv (1 - c)) (pt k)) 49) ≤ 0 from fun z => by have := (nI_le_iff (b := 0) (by omega) (by omega)).mp z; omega), if_pos (show (3 : Int32) ≤ nI (cn (lb n (sOf b0 b1 mv c) (sOf b0 b1 mv (1 - c)) (pt k)) 49) from nI_le (a := 3) (by omega) (by omega))]
          rfl
      obtain ⟨y', fo', fc', fl', l1, l2⟩ := key
      refine ⟨0, vp_updL o 0 (frst (ladF n k 12 (sOf b0 b1 mv c) (sOf b0 b1 mv (1 - c)))).toInt64, frst (ladF n k 12 (sOf b0 b1 mv c) (sOf b0 b1 mv (1 - c))), y', fo', fc', fl', ?_, ?_, l2.1, fun _ => updL_at o 0 _, l2.2⟩
      · unfold fL_chase fX7_chase bnd
        dsimp only
        rw [if_pos q, col_stone h hk64 hc s, if_neg (nI_ne_m1 (by omega)), hF, Option.bind_some]
        unfold frst
        by_cases t : ladF n k 12 (sOf b0 b1 mv c) (sOf b0 b1 mv (1 - c)) = 0
        · rw [if_pos t, if_pos t]
          rfl
        · rw [if_neg t, if_neg t]
          rfl
      · unfold fX8_chase bnd
        rw [isPoint_eq hn h.f0, Option.bind_some, if_pos q', refused0]
        dsimp only
        rw [if_neg (by decide), e3, Option.bind_some, if_neg e5, if_pos (by decide), es, Option.bind_some, has_pt hk64, rows_eq h.f0, e4]
        rcases (show c = 0 ∨ c = 1 by omega) with ec | ec
        · subst ec
          rw [if_pos (show tb (b0 mv) k = true from s), Option.bind_some, bits_eq, Option.bind_some]
          exact l1
        · subst ec
          rw [if_neg (show ¬ tb (b0 mv) k = true from fun z => (m_and0.mp hpos.2.2.1 k s) z), Option.bind_some, bits_eq, Option.bind_some]
          exact l1
    · obtain ⟨_, _, e3⟩ := at_free h k1 s
      refine ⟨0, vp_updL o 0 (-1 : Int32).toInt64, -1, setM y 0, fo, fc, fl, ?_, ?_, rfl, fun _ => updL_at o 0 _, setM_same y 0⟩
      · unfold fL_chase fX7_chase bnd
        dsimp only
        rw [if_pos q, col_free h hk64 s, if_pos rfl]
        rfl
      · unfold fX8_chase bnd
        rw [isPoint_eq hn h.f0, Option.bind_some, if_pos q', refused0]
        dsimp only
        rw [if_neg (by decide), e3, Option.bind_some, if_pos rfl]
  · have q' : ¬ fX2_has (gridOf n) p0 = true := by rw [← h.grid]; exact q
    refine ⟨1, o, 0, setM y 1, fo, fc, fl, ?_, ?_, rfl, fun z => absurd z ne1, setM_same y 1⟩
    · unfold fL_chase fX7_chase
      rw [if_neg q]
      rfl
    · unfold fX8_chase bnd
      rw [isPoint_eq hn h.f0, Option.bind_some, if_neg q', refused1]
      dsimp only
      rw [if_pos rfl]
end LADL
