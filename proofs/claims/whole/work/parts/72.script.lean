section CMD
variable {n rule mv ps pr c0 c1 : Nat} {w : GSt} {b0 b1 : Nat → Int64} {g : RSt} {f : Nat → Int64}
/-- what a command gives on both sides -/
def cmdR (y : MSt) (g : RSt) (r1 : Option (Bool × GSt × (Nat → Int64) × (Nat → Int64))) (r2 : Option (Bool × MSt × (Nat → Int64) × (Nat → Int64) × (Nat → Int64) × (Nat → Int32))) : Prop :=
  ∃ r w' b0' b1' y' f' fo fc fl, r1 = some (r, w', b0', b1') ∧ r2 = some (r, y', f', fo, fc, fl) ∧ keepM y y' ∧ ∃ n rule' m' ps' pr' q0 q1, GR n rule' m' ps' pr' q0 q1 w' b0' b1' g f'
theorem cmdR_same (h : GR n rule mv ps pr c0 c1 w b0 b1 g f) {y y' : MSt} {fo fc : Nat → Int64} {fl : Nat → Int32} {r1 : Option (Bool × GSt × (Nat → Int64) × (Nat → Int64))} {r2 : Option (Bool × MSt × (Nat → Int64) × (Nat → Int64) × (Nat → Int64) × (Nat → Int32))} {r : Bool} (h1 : r1 = some (r, w, b0, b1)) (h2 : r2 = some (r, y', f, fo, fc, fl)) (h3 : keepM y y') : cmdR y g r1 r2 :=
  ⟨r, w, b0, b1, y', f, fo, fc, fl, h1, h2, h3, n, rule, mv, ps, pr, c0, c1, h⟩
theorem lt_dec {a b : Nat} (ha : a < 2147483648) (hb : b < 2147483648) {α : Type} (x z : α) : (if nI a < nI b then x else z) = if a < b then x else z := by
  by_cases c : a < b
  · rw [if_pos c, if_pos ((nI_lt_iff ha hb).mpr c)]
  · rw [if_neg c, if_neg (fun q => c ((nI_lt_iff ha hb).mp q))]
theorem cmd_eq (h : GR n rule mv ps pr c0 c1 w b0 b1 g f) {v : Nat} (hv : v < 10000) (y : MSt) (fo fc : Nat → Int64) (fl : Nat → Int32) :
    cmdR y g (fX5_succeeds w b0 b1 g (nI v)) (fX8_command y f fo fc fl (nI (v / 1000)) (nI (v % 1000))) := by
  have hn := h.okn
  have hsq := okN_sq hn
  have a1 : nI v / 1000 = nI (v / 1000) := nI_div (b := 1000) (by omega) (by omega)
  have a3 : nI v / 10 = nI (v / 10) := nI_div (b := 10) (by omega) (by omega)
  have a4 : nI (v / 10) - nI (v / 10) / 100 * 100 = nI (v / 10 % 100) := nI_mod (b := 100) (by omega) (by omega)
  have a5 : nI v / 100 = nI (v / 100) := nI_div (b := 100) (by omega) (by omega)
  have a6 : nI (v / 100) - nI (v / 100) / 10 * 10 = nI (v / 100 % 10) := nI_mod (b := 10) (by omega) (by omega)
  have b1' : nI (v % 1000) / 10 = nI (v / 10 % 100) := by
    have := nI_div (a := v % 1000) (b := 10) (by omega) (by omega)
    rw [show v % 1000 / 10 = v / 10 % 100 by omega] at this
    exact this
  have b2' : nI (v % 1000) - nI (v / 10 % 100) * 10 = nI (v % 10) := by
    have := nI_mod (a := v % 1000) (b := 10) (by omega) (by omega)
    rw [show v % 1000 % 10 = v % 10 by omega] at this
    rw [← b1']
    exact this
  have b3' : nI (v % 1000) / 100 = nI (v / 100 % 10) := by
    have := nI_div (a := v % 1000) (b := 100) (by omega) (by omega)
    rw [show v % 1000 / 100 = v / 100 % 10 by omega] at this
    exact this
  have b4' : nI (v % 1000) - nI (v / 100 % 10) * 100 = nI (v % 100) := by
    have := nI_mod (a := v % 1000) (b := 100) (by omega) (by omega)
    rw [show v % 1000 % 100 = v % 100 by omega] at this
    rw [← b3']
    exact this
  have a2 : nI v - nI (v / 10) * 10 = nI (v % 10) := by
    have := nI_mod (a := v) (b := 10) (by omega) (by omega)
    rw [← a3]
    exact this
  have a7 : nI v - nI (v / 100) * 100 = nI (v % 100) := by
    have := nI_mod (a := v) (b := 100) (by omega) (by omega)
    rw [← a5]
    exact this
  have hpt := isPoint_eq hn h.f0 (nI (v / 10 % 100))
  have hg := h.grid
  have l0 : (nI (v % 10) = 0) ↔ v % 10 = 0 := nI_eq0 (by omega)
  unfold fX5_succeeds fX8_command
  rw [a1, a3, a4, a2, a5, a6, a7, b1', b2', b3', b4', hpt, Option.bind_some]
  generalize hK : v / 10 % 100 = K
  generalize hl : v % 10 = l
  generalize hc : v / 100 % 10 = c
  generalize hm : v % 100 = m
  have hK100 : K < 100 := by omega
  have hl10 : l < 10 := by omega
  have hc10 : c < 10 := by omega
  have hm100 : m < 100 := by omega
  rw [hl] at l0
  have hasg : fX2_has g (nI K) = fX2_has (gridOf n) (nI K) := by rw [hg]
  have kk : v / 1000 = 0 ∨ v / 1000 = 1 ∨ v / 1000 = 2 ∨ v / 1000 = 3 ∨ v / 1000 = 4 ∨ v / 1000 = 5 ∨ v / 1000 = 6 ∨ v / 1000 = 7 ∨ v / 1000 = 8 ∨ v / 1000 = 9 := by omega
  have k1 : v / 1000 = 2 → ((nI v = 2000) ↔ (nI (v % 1000) = 0)) := by
    intro e
    have x1 : (nI v = 2000) ↔ v = 2000 := nI_eq_iff (b := 2000) (by omega) (by omega)
    have x2 : (nI (v % 1000) = 0) ↔ v % 1000 = 0 := nI_eq0 (by omega)
    rw [x1, x2]
    omega
  have pts : ∀ kd : Nat, (kd = 3 ∨ kd = 4 ∨ kd = 5 ∨ kd = 7 ∨ kd = 9) → ¬ fX2_has (gridOf n) (nI K) = true → (fX5_holdsForPoint w b0 b1 g (nI kd) (nI K) (nI l)) = some false := by
    intro kd _ q
    unfold fX5_holdsForPoint
    rw [hasg, if_neg q]
  rcases kk with e | e | e | e | e | e | e | e | e | e
  all_goals rw [e]
  · refine cmdR_same h (y' := y) (fo := fo) (fc := fc) (fl := fl) (r := false) ?_ ?_ (keepM_refl y)
    · rw [if_neg (show ¬ nI 0 = 1 by decide), if_neg (show ¬ nI 0 = 2 by decide), if_neg (show ¬ nI 0 = 3 by decide), if_neg (show ¬ nI 0 = 4 by decide), if_neg (show ¬ nI 0 = 5 by decide), if_neg (show ¬ nI 0 = 6 by decide), if_neg (show ¬ nI 0 = 7 by decide), if_neg (show ¬ nI 0 = 8 by decide)]
      unfold fX5_holdsForPoint
      by_cases q : fX2_has g (nI K) = true
      · rw [if_pos q, if_neg (show ¬ nI 0 = 3 by decide), if_neg (show ¬ nI 0 = 4 by decide), if_neg (show ¬ nI 0 = 5 by decide), if_neg (show ¬ nI 0 = 6 by decide), if_neg (show ¬ nI 0 = 7 by decide), if_neg (show ¬ nI 0 = 8 by decide), if_neg (show ¬ nI 0 = 9 by decide)]
        rfl
      · rw [if_neg q]
        rfl
    · rw [if_neg (show ¬ nI 0 = 1 by decide), if_neg (show ¬ nI 0 = 2 by decide), if_neg (show ¬ nI 0 = 3 by decide), if_neg (show ¬ nI 0 = 4 by decide), if_neg (show ¬ nI 0 = 5 by decide), if_neg (show ¬ nI 0 = 6 by decide), if_neg (show ¬ nI 0 = 7 by decide), if_neg (show ¬ nI 0 = 8 by decide), if_neg (show ¬ nI 0 = 9 by decide)]
  · rw [if_pos (show nI 1 = 1 from rfl), if_pos (show nI 1 = 1 from rfl)]
    by_cases z : l = 0
    · rw [if_pos (l0.mpr z), if_pos (l0.mpr z)]
      obtain ⟨r, y', f', w', d0, d1, p1, p2, p3, p4⟩ := plays_eq h (nI K) y
      rw [p1, p3, Option.bind_some, Option.bind_some]
      cases r with
      | true =>
        obtain ⟨rule', m', ps', pr', q0, q1, p5⟩ := p4
        exact ⟨true, w', d0, d1, y', f', fo, fc, fl, rfl, rfl, p2.1, n, rule', m', ps', pr', q0, q1, p5⟩
      | false =>
        obtain ⟨rule', m', ps', pr', q0, q1, p5⟩ := p4
        exact ⟨false, w', d0, d1, y', f', fo, fc, fl, rfl, rfl, p2.1, n, rule', m', ps', pr', q0, q1, p5⟩
    · rw [if_neg (fun q => z (l0.mp q)), if_neg (fun q => z (l0.mp q))]
      exact cmdR_same h rfl rfl (keepM_refl y)
  · rw [if_neg (show ¬ nI 2 = 1 by decide), if_neg (show ¬ nI 2 = 1 by decide), if_pos (show nI 2 = 2 from rfl), if_pos (show nI 2 = 2 from rfl)]
    by_cases z : nI (v % 1000) = 0
    · rw [if_pos ((k1 e).mpr z), if_pos z, moves_eq h.f3, Option.bind_some]
      have hmv := h.mvl
      by_cases q : mv < 120
      · obtain ⟨w', d0, d1, f', l1, l2, l3, l4⟩ := pass_GR h q
        rw [l1, Option.bind_some, if_neg (show ¬ (120 : Int32) ≤ nI mv from nI_ge (b := 120) q (by omega)), l3, Option.bind_some]
        dsimp only
        have hps : ps ≤ mv := h.2.2.2.2.1
        rw [if_pos rfl, if_neg (show ¬ nI (ps + 1) ≤ 0 from fun z => by have := (nI_le_iff (a := ps + 1) (b := 0) (by omega) (by omega)).mp z; omega)]
        exact ⟨true, w', d0, d1, y, f', fo, fc, fl, rfl, rfl, keepM_refl y, n, _, _, _, _, _, _, l4⟩
      · rw [pass_no h q, Option.bind_some, if_pos (show (120 : Int32) ≤ nI mv from nI_le (a := 120) (by omega) (by omega))]
        dsimp only
        rw [if_neg (by decide)]
        exact cmdR_same h rfl rfl (keepM_refl y)
    · rw [if_neg (fun q => z ((k1 e).mp q)), if_neg z]
      exact cmdR_same h rfl rfl (keepM_refl y)
  · rw [if_neg (show ¬ nI 3 = 1 by decide), if_neg (show ¬ nI 3 = 1 by decide), if_neg (show ¬ nI 3 = 2 by decide), if_neg (show ¬ nI 3 = 2 by decide), if_pos (show nI 3 = 3 from rfl), if_pos (show nI 3 = 3 from rfl)]
    by_cases q : fX2_has (gridOf n) (nI K) = true
    · rw [if_pos q]
      obtain ⟨k, hk, k2⟩ := hasG_pt hn q
      have k64 : k < 64 := by omega
      unfold fX5_holdsForPoint
      rw [hasg, if_pos q, if_pos (show nI 3 = 3 from rfl), k2]
      have i2 : ((2 : Int32) ≤ nI l) ↔ 2 ≤ l := nI_le_iff (a := 2) (by omega) (by omega)
      rcases stone_or_free b0 b1 mv k with ⟨cc, hcc, s⟩ | s
      · rw [col_stone h k64 hcc s, if_neg (nI_ne_m1 (by omega))]
        have dis := (h.pos hcc).2.2.1
        by_cases t : cc = l
        · subst t
          rw [if_pos rfl, if_neg (fun z => by have := i2.mp z; omega), h.sc hcc, Option.bind_some, Option.bind_some, has_pt k64, if_pos s]
          exact cmdR_same h rfl rfl (keepM_refl y)
        · rw [if_neg (fun z => t (nI_inj (by omega) (by omega) z))]
          by_cases t2 : 2 ≤ l
          · rw [if_pos (i2.mpr t2)]
            exact cmdR_same h rfl rfl (keepM_refl y)
          · have el : l = 1 - cc := by omega
            rw [if_neg (fun z => t2 (i2.mp z)), el, h.sc (c := 1 - cc) (by omega), Option.bind_some, Option.bind_some, has_pt k64, if_neg (m_and0.mp dis k s)]
            exact cmdR_same h rfl rfl (keepM_refl y)
      · rw [col_free h k64 s, if_pos rfl]
        by_cases t2 : 2 ≤ l
        · rw [if_pos (i2.mpr t2)]
          exact cmdR_same h rfl rfl (keepM_refl y)
        · rw [if_neg (fun z => t2 (i2.mp z)), h.sc (c := l) (by omega), Option.bind_some, Option.bind_some, has_pt k64, if_neg (sOf_free s l)]
          exact cmdR_same h rfl rfl (keepM_refl y)
    · rw [if_neg q, pts 3 (by omega) q, Option.bind_some]
      exact cmdR_same h rfl rfl (keepM_refl y)
  · rw [if_neg (show ¬ nI 4 = 1 by decide), if_neg (show ¬ nI 4 = 1 by decide), if_neg (show ¬ nI 4 = 2 by decide), if_neg (show ¬ nI 4 = 2 by decide), if_neg (show ¬ nI 4 = 3 by decide), if_neg (show ¬ nI 4 = 3 by decide), if_pos (show nI 4 = 4 from rfl), if_pos (show nI 4 = 4 from rfl)]
    by_cases q : fX2_has (gridOf n) (nI K) = true
    · rw [if_pos q]
      obtain ⟨k, hk, k2⟩ := hasG_pt hn q
      have k64 : k < 64 := by omega
      unfold fX5_holdsForPoint
      rw [hasg, if_pos q, if_neg (show ¬ nI 4 = 3 by decide), if_pos (show nI 4 = 4 from rfl), k2]
      rcases stone_or_free b0 b1 mv k with ⟨cc, hcc, s⟩ | s
      · have e2 := libertiesAt_c h hk hcc s
        have e3 := groupAt_m h hk hcc s
        have e4 := freeOf_m (S := pt k) h hcc
        have e5 := group_ne h hcc s
        have hcl := cn_le (fvO n (b0 mv ||| b1 mv) (cl n (sOf b0 b1 mv cc) (pt k))) 49
        rw [col_stone h k64 hcc s, if_neg (nI_ne_m1 (by omega)), e2, Option.bind_some, bc49 hn fvO_sb, e3, Option.bind_some, if_neg e5, Option.bind_some, e4, Option.bind_some, bits_eq, Option.bind_some, lt_dec (by omega) (by omega), lt_dec (by omega) (by omega)]
        by_cases t : cn (fvO n (b0 mv ||| b1 mv) (cl n (sOf b0 b1 mv cc) (pt k))) 49 < l
        · rw [if_pos t, if_pos t]
          exact cmdR_same h rfl rfl (keepM_refl y)
        · rw [if_neg t, if_neg t]
          exact cmdR_same h rfl rfl (keepM_refl y)
      · obtain ⟨_, _, e3⟩ := at_free h hk s
        rw [col_free h k64 s, if_pos rfl, e3, Option.bind_some, Option.bind_some, if_pos rfl]
        exact cmdR_same h rfl rfl (keepM_refl y)
    · rw [if_neg q, pts 4 (by omega) q, Option.bind_some]
      exact cmdR_same h rfl rfl (keepM_refl y)
  · rw [if_neg (show ¬ nI 5 = 1 by decide), if_neg (show ¬ nI 5 = 1 by decide), if_neg (show ¬ nI 5 = 2 by decide), if_neg (show ¬ nI 5 = 2 by decide), if_neg (show ¬ nI 5 = 3 by decide), if_neg (show ¬ nI 5 = 3 by decide), if_neg (show ¬ nI 5 = 4 by decide), if_neg (show ¬ nI 5 = 4 by decide), if_pos (show nI 5 = 5 from rfl), if_pos (show nI 5 = 5 from rfl)]
    by_cases q : fX2_has (gridOf n) (nI K) = true
    · rw [if_pos q]
      obtain ⟨k, hk, k2⟩ := hasG_pt hn q
      unfold fX5_holdsForPoint
      rw [hasg, if_pos q, if_neg (show ¬ nI 5 = 3 by decide), if_neg (show ¬ nI 5 = 4 by decide), if_pos (show nI 5 = 5 from rfl), k2, reason_eq h hk, Option.bind_some, whyNot_eq h hk, Option.bind_some]
      dsimp only
      by_cases t : nI (why n rule mv b0 b1 k) = nI l
      · rw [if_pos t, if_pos t]
        exact cmdR_same h rfl rfl (keepM_tried n b0 b1 mv k y)
      · rw [if_neg t, if_neg t]
        exact cmdR_same h rfl rfl (keepM_tried n b0 b1 mv k y)
    · rw [if_neg q, pts 5 (by omega) q, Option.bind_some]
      exact cmdR_same h rfl rfl (keepM_refl y)
  · rw [if_neg (show ¬ nI 6 = 1 by decide), if_neg (show ¬ nI 6 = 1 by decide), if_neg (show ¬ nI 6 = 2 by decide), if_neg (show ¬ nI 6 = 2 by decide), if_neg (show ¬ nI 6 = 3 by decide), if_neg (show ¬ nI 6 = 3 by decide), if_neg (show ¬ nI 6 = 4 by decide), if_neg (show ¬ nI 6 = 4 by decide), if_neg (show ¬ nI 6 = 5 by decide), if_neg (show ¬ nI 6 = 5 by decide), if_pos (show nI 6 = 6 from rfl), if_pos (show nI 6 = 6 from rfl)]
    have i2 : ((2 : Int32) ≤ nI c) ↔ 2 ≤ c := nI_le_iff (a := 2) (by omega) (by omega)
    unfold fX5_holdsForColour
    by_cases t2 : 2 ≤ c
    · rw [if_pos (i2.mpr t2), if_neg (fun z => by
        rcases (isCol_c _).mp z with z | z
        · have := (nI_eq0 (c := c) (by omega)).mp z
          omega
        · have := (nI_eq_iff (a := c) (b := 1) (by omega) (by omega)).mp z
          omega)]
      exact cmdR_same h rfl rfl (keepM_refl y)
    · have hc2 : c < 2 := by omega
      obtain ⟨t, t1, t3, t4⟩ := capt_eq h hc2
      have e5 : (5 : Int32) + nI c = nI (5 + c) := nI_add 5 c
      have hj : nL t < nL m ↔ t < m := nL_lt_iff (by omega) (by omega)
      rw [if_neg (fun z => t2 (i2.mp z)), if_pos (show fX7_isColour (nI c) = true from (isCol_c _).mpr (by
        rcases (show c = 0 ∨ c = 1 by omega) with x | x
        · subst x; exact .inl rfl
        · subst x; exact .inr rfl)), if_pos (show nI 6 = 6 from rfl), t3, e5, if_pos (inB_nI (by omega) (by decide)), nI_clamp (by omega), t4, nI_L (by omega), lt_dec (by omega) (by omega)]
      by_cases z : t < m
      · rw [if_pos z, if_pos (hj.mpr z)]
        exact cmdR_same h rfl rfl (keepM_refl y)
      · rw [if_neg z, if_neg (fun x => z (hj.mp x))]
        exact cmdR_same h rfl rfl (keepM_refl y)
  · rw [if_neg (show ¬ nI 7 = 1 by decide), if_neg (show ¬ nI 7 = 1 by decide), if_neg (show ¬ nI 7 = 2 by decide), if_neg (show ¬ nI 7 = 2 by decide), if_neg (show ¬ nI 7 = 3 by decide), if_neg (show ¬ nI 7 = 3 by decide), if_neg (show ¬ nI 7 = 4 by decide), if_neg (show ¬ nI 7 = 4 by decide), if_neg (show ¬ nI 7 = 5 by decide), if_neg (show ¬ nI 7 = 5 by decide), if_neg (show ¬ nI 7 = 6 by decide), if_neg (show ¬ nI 7 = 6 by decide), if_pos (show nI 7 = 7 from rfl), if_pos (show nI 7 = 7 from rfl)]
    by_cases q : fX2_has (gridOf n) (nI K) = true
    · rw [if_pos q]
      obtain ⟨k, hk, k2⟩ := hasG_pt hn q
      have k64 : k < 64 := by omega
      unfold fX5_holdsForPoint
      rw [hasg, if_pos q, if_neg (show ¬ nI 7 = 3 by decide), if_neg (show ¬ nI 7 = 4 by decide), if_neg (show ¬ nI 7 = 5 by decide), if_neg (show ¬ nI 7 = 6 by decide), if_pos (show nI 7 = 7 from rfl), k2]
      rcases stone_or_free b0 b1 mv k with ⟨cc, hcc, s⟩ | s
      · obtain ⟨y', fo', fc', fl', l1, l2⟩ := ladderOn_stone h hk hcc (v := 0) (by omega) s y fo fc fl
        have l1' : fX8_ladderOn y f fo fc fl (nI k) 0 = _ := l1
        rw [col_stone h k64 hcc s, if_neg (nI_ne_m1 (by omega)), ladF_c h hk hcc s, Option.bind_some, l1', Option.bind_some]
        dsimp only
        rw [ladV0]
        have i1 : (nI l = 1) ↔ l = 1 := nI_eq_iff (b := 1) (by omega) (by omega)
        by_cases t : ladF n k 12 (sOf b0 b1 mv cc) (sOf b0 b1 mv (1 - cc)) = 0
        · rw [if_pos t, if_pos t]
          by_cases z : l = 0
          · rw [if_pos (l0.mpr z), if_pos (show nI 0 = nI l from (l0.mpr z).symm)]
            exact cmdR_same h rfl rfl l2
          · rw [if_neg (fun x => z (l0.mp x)), if_neg (show ¬ nI 0 = nI l from fun x => z (l0.mp x.symm))]
            exact cmdR_same h rfl rfl l2
        · rw [if_neg t, if_neg t]
          by_cases z : l = 1
          · rw [if_pos (i1.mpr z), if_pos (show nI 1 = nI l from (i1.mpr z).symm)]
            exact cmdR_same h rfl rfl l2
          · rw [if_neg (fun x => z (i1.mp x)), if_neg (show ¬ nI 1 = nI l from fun x => z (i1.mp x.symm))]
            exact cmdR_same h rfl rfl l2
      · rw [col_free h k64 s, if_pos rfl, ladderOn_free h hk s, Option.bind_some, Option.bind_some]
        dsimp only
        rw [if_neg (show ¬ (-1 : Int32) = nI l from fun z => nI_ne_m1 (by omega) z.symm)]
        exact cmdR_same h rfl rfl (keepM_refl y)
    · rw [if_neg q, pts 7 (by omega) q, Option.bind_some]
      exact cmdR_same h rfl rfl (keepM_refl y)
  · rw [if_neg (show ¬ nI 8 = 1 by decide), if_neg (show ¬ nI 8 = 1 by decide), if_neg (show ¬ nI 8 = 2 by decide), if_neg (show ¬ nI 8 = 2 by decide), if_neg (show ¬ nI 8 = 3 by decide), if_neg (show ¬ nI 8 = 3 by decide), if_neg (show ¬ nI 8 = 4 by decide), if_neg (show ¬ nI 8 = 4 by decide), if_neg (show ¬ nI 8 = 5 by decide), if_neg (show ¬ nI 8 = 5 by decide), if_neg (show ¬ nI 8 = 6 by decide), if_neg (show ¬ nI 8 = 6 by decide), if_neg (show ¬ nI 8 = 7 by decide), if_neg (show ¬ nI 8 = 7 by decide), if_pos (show nI 8 = 8 from rfl), if_pos (show nI 8 = 8 from rfl)]
    have i2 : ((2 : Int32) ≤ nI c) ↔ 2 ≤ c := nI_le_iff (a := 2) (by omega) (by omega)
    unfold fX5_holdsForColour
    by_cases t2 : 2 ≤ c
    · rw [if_pos (i2.mpr t2), if_neg (fun z => by
        rcases (isCol_c _).mp z with z | z
        · have := (nI_eq0 (c := c) (by omega)).mp z
          omega
        · have := (nI_eq_iff (a := c) (b := 1) (by omega) (by omega)).mp z
          omega)]
      exact cmdR_same h rfl rfl (keepM_refl y)
    · have hc2 : c < 2 := by omega
      rw [if_neg (fun z => t2 (i2.mp z)), if_pos (show fX7_isColour (nI c) = true from (isCol_c _).mpr (by
        rcases (show c = 0 ∨ c = 1 by omega) with x | x
        · subst x; exact .inl rfl
        · subst x; exact .inr rfl)), if_neg (show ¬ nI 8 = 6 by decide), areaOf_eq h hc2, Option.bind_some, area_eq h hc2, Option.bind_some]
      generalize nI (cn (sOf b0 b1 mv c) 49 + cn (enc n (sOf b0 b1 mv c) (sOf b0 b1 mv (1 - c))) 49) = A
      by_cases z : A < nI m
      · rw [if_pos z, if_pos z]
        exact cmdR_same h rfl rfl (keepM_refl y)
      · rw [if_neg z, if_neg z]
        exact cmdR_same h rfl rfl (keepM_refl y)
  · rw [if_neg (show ¬ nI 9 = 1 by decide), if_neg (show ¬ nI 9 = 1 by decide), if_neg (show ¬ nI 9 = 2 by decide), if_neg (show ¬ nI 9 = 2 by decide), if_neg (show ¬ nI 9 = 3 by decide), if_neg (show ¬ nI 9 = 3 by decide), if_neg (show ¬ nI 9 = 4 by decide), if_neg (show ¬ nI 9 = 4 by decide), if_neg (show ¬ nI 9 = 5 by decide), if_neg (show ¬ nI 9 = 5 by decide), if_neg (show ¬ nI 9 = 6 by decide), if_neg (show ¬ nI 9 = 6 by decide), if_neg (show ¬ nI 9 = 7 by decide), if_neg (show ¬ nI 9 = 7 by decide), if_neg (show ¬ nI 9 = 8 by decide), if_neg (show ¬ nI 9 = 8 by decide), if_pos (show nI 9 = 9 from rfl)]
    by_cases q : fX2_has (gridOf n) (nI K) = true
    · rw [if_pos q]
      obtain ⟨k, hk, k2⟩ := hasG_pt hn q
      unfold fX5_holdsForPoint
      rw [hasg, if_pos q, if_neg (show ¬ nI 9 = 3 by decide), if_neg (show ¬ nI 9 = 4 by decide), if_neg (show ¬ nI 9 = 5 by decide), if_neg (show ¬ nI 9 = 6 by decide), if_neg (show ¬ nI 9 = 7 by decide), if_neg (show ¬ nI 9 = 8 by decide), if_pos (show nI 9 = 9 from rfl), k2, eyeAt_eq h hk, Option.bind_some, eyeOfAny_eq h hk, Option.bind_some]
      by_cases t : nI (eyeE n (b0 mv) (b1 mv) k) = nI l
      · rw [if_pos t, if_pos t]
        exact cmdR_same h rfl rfl (keepM_refl y)
      · rw [if_neg t, if_neg t]
        exact cmdR_same h rfl rfl (keepM_refl y)
    · rw [if_neg q, pts 9 (by omega) q, Option.bind_some]
      exact cmdR_same h rfl rfl (keepM_refl y)
end CMD
