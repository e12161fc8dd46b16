/-- the two text buffers: alike; cd: the codes -/
def textR (len : Nat) (cd : Nat → Nat) (ch tx : Nat → Int32) : Prop := len ≤ 120 ∧ ∀ i, i < len → ch i = nI (cd i) ∧ tx i = nI (cd i) ∧ cd i ≤ 255
def keepT (y y' : MSt) : Prop := keepM y y' ∧ y'.2.2.2.2.2.2.2.2.1 = y.2.2.2.2.2.2.2.2.1 ∧ y'.2.2.2.2.2.2.2.2.2 = y.2.2.2.2.2.2.2.2.2
theorem nar_chr : ∀ c, c < 256 → vp_nar .char ((nI c).toUInt32 % 65536).toInt32 = nI c := by decide +kernel
theorem dig_in : ∀ c, c < 256 → fX8_in (nI c - 48).toInt64 0 9 = decide (48 ≤ c ∧ c ≤ 57) := by decide +kernel
theorem dig_m1 : fX8_in ((-1).toInt64) 0 9 = false := by decide
theorem dig_a : ∀ c, c < 58 → 48 ≤ c → (((48 : Int32) < 0 + (nI c - 48) * 10) ↔ 53 ≤ c) ∧ (0 : Int32) ≤ ((0 + (nI c - 48) * 10) + 10) - 1 := by decide +kernel
theorem dig_b1 : ∀ c, c < 53 → ∀ e, e < 58 → 48 ≤ c → 48 ≤ e → decide ((48 : Int32) < (0 + (nI c - 48) * 10) + (nI e - 48) * 1) = decide (c = 52 ∧ 57 ≤ e) := by decide +kernel
theorem dig_b2 : ∀ c, c < 53 → ∀ e, e < 58 → 48 ≤ c → 48 ≤ e → (0 : Int32) ≤ (((0 + (nI c - 48) * 10) + (nI e - 48) * 1) + 1) - 1 := by decide +kernel
theorem dig_b3 : ∀ c, c < 53 → ∀ e, e < 58 → 48 ≤ c → 48 ≤ e → (0 + (nI c - 48) * 10) + (nI e - 48) * 1 = nI (10 * (c - 48) + (e - 48)) := by decide +kernel
theorem dig_b4 : ∀ c, c < 53 → ∀ e, e < 58 → 48 ≤ c → 48 ≤ e → ((10 * (nI c - 48)) + nI e) - 48 = nI (10 * (c - 48) + (e - 48)) := by decide +kernel
theorem dig_b (c : Nat) (h1 : c < 53) (h2 : 48 ≤ c) (e : Nat) (h3 : e < 58) (h4 : 48 ≤ e) : (((48 : Int32) < (0 + (nI c - 48) * 10) + (nI e - 48) * 1) ↔ c = 52 ∧ 57 ≤ e) ∧ (0 : Int32) ≤ (((0 + (nI c - 48) * 10) + (nI e - 48) * 1) + 1) - 1 ∧ (0 + (nI c - 48) * 10) + (nI e - 48) * 1 = nI (10 * (c - 48) + (e - 48)) ∧ ((10 * (nI c - 48)) + nI e) - 48 = nI (10 * (c - 48) + (e - 48)) :=
  ⟨decide_eq_decide.mp (dig_b1 c h1 e h3 h2 h4), dig_b2 c h1 e h3 h2 h4, dig_b3 c h1 e h3 h2 h4, dig_b4 c h1 e h3 h2 h4⟩
theorem dig_r : ∀ c, c < 58 → 48 ≤ c → (((7 : Int32) < 0 + (nI c - 48) * 1) ↔ 56 ≤ c) ∧ ((3 : Int32) ≤ ((0 + (nI c - 48) * 1) + 1) - 1 ↔ 51 ≤ c) ∧ 0 + (nI c - 48) * 1 = nI (c - 48) ∧ nI c - 48 = nI (c - 48) := by decide +kernel
section TEXT
variable {len : Nat} {cd : Nat → Nat} {ch tx : Nat → Int32}
theorem at_in (h : textR len cd ch tx) {i : Nat} (hi : i < len) : fX1_at (nI len) ch (nI i) = some (nI (cd i)) := by
  obtain ⟨h1, h2⟩ := h
  unfold fX1_at
  rw [if_neg (nI_pos (by omega)), if_neg (nI_ge hi (by omega)), if_pos (show nI i < 120 from nI_lt (b := 120) (by omega) (by decide)), if_pos (inB_nI (by omega) (by decide)), nI_clamp (by omega), (h2 i hi).1]
theorem at_out {i : Nat} (h : len ≤ i) (hi : i < 1000) : fX1_at (nI len) ch (nI i) = some (-1) := by
  unfold fX1_at
  rw [if_neg (nI_pos (by omega)), if_pos (nI_le h (by omega))]
theorem append_act (h : textR len cd ch tx) (p : Int32) (o : Nat → Int64) {y : MSt} (hy : y.2.1 = nI len) :
    ∃ v s, fL_append o (nI len) ch p = some v ∧ fX8_append y tx p = some s ∧ s.2.1.1 = v.1 ∧ (v.1 = 0 → v.2.1 0 = s.1.toInt64) ∧ s.2.1.2.2.1 = y.2.2.1 ∧ ∃ len' cd', v.2.2.1 = nI len' ∧ s.2.1.2.1 = nI len' ∧ textR len' cd' v.2.2.2 s.2.2 := by
  have hin := in0_iff p (m := 255) (by omega)
  have hin' := in0_lt p (m := 255) (by omega)
  obtain ⟨h1, h2⟩ := h
  by_cases q : fX8_in p.toInt64 0 (nL 255) = true
  · have q' : fX8_in p.toInt64 0 255 = true := q
    obtain ⟨c, c1, c2⟩ := hin.mp q
    subst c2
    have n1 : ¬ nI c < 0 := nI_pos (by omega)
    have n2 : nI c ≤ 255 := nI_le (b := 255) c1 (by omega)
    by_cases l : len < 120
    · have e1 : fX1_isFull (nI len) = false := by
        unfold fX1_isFull
        rw [if_pos (show nI len < 120 from nI_lt (b := 120) l (by decide))]
      have hne : ¬ y.2.1 = 120 := by
        rw [hy]
        intro z
        have := nI_inj (a := len) (b := 120) (by omega) (by omega) z
        omega
      refine ⟨(0, vp_updL o 0 (nI (len + 1)).toInt64, nI (len + 1), upd ch len (nI c)), (nI (len + 1), ((0 : Int32), nI (len + 1), y.2.2.1, y.2.2.2.1, y.2.2.2.2.1, y.2.2.2.2.2.1, y.2.2.2.2.2.2.1, y.2.2.2.2.2.2.2.1, y.2.2.2.2.2.2.2.2.1, y.2.2.2.2.2.2.2.2.2), upd tx len (nI c)), ?_, ?_, rfl, fun _ => updL_at o 0 _, rfl, len + 1, fun i => if i = len then c else cd i, rfl, rfl, by omega, ?_⟩
      · unfold fL_append fX7_append fX1_add
        rw [if_neg n1, if_pos n2, e1, if_neg (by decide), if_neg (nI_pos (by omega)), if_neg (show ¬ (120 : Int32) ≤ nI len from nI_ge (a := len) (b := 120) l (by decide)), if_pos (inB_nI (by omega) (by decide)), nI_clamp (by omega), nar_chr c (by omega), ← nI_succ]
        rfl
      · unfold fX8_append bnd
        rw [if_pos q', if_neg hne, refused0]
        dsimp only
        rw [if_neg (by decide), show (setM y 0).2.1 = nI len from hy, if_pos (inB_nI (by omega) (by decide)), nI_clamp (by omega), ← nI_succ]
        rfl
      · intro i hi
        show upd ch len (nI c) i = nI (if i = len then c else cd i) ∧ upd tx len (nI c) i = nI (if i = len then c else cd i) ∧ (if i = len then c else cd i) ≤ 255
        by_cases e : i = len
        · subst e
          rw [updI_at, updI_at, if_pos rfl]
          exact ⟨rfl, rfl, c1⟩
        · rw [updI_ne e, updI_ne e, if_neg e]
          exact h2 i (by omega)
    · have e : len = 120 := by omega
      subst e
      refine ⟨(2, o, nI 120, ch), (0, setM y 2, tx), ?_, ?_, rfl, fun z => absurd z ne2, rfl, 120, cd, rfl, hy, h1, h2⟩
      · unfold fL_append fX7_append
        rw [if_neg n1, if_pos n2, if_pos (show fX1_isFull (nI 120) = true by decide)]
        rfl
      · unfold fX8_append bnd
        rw [if_pos q', if_pos (show y.2.1 = 120 from hy), refused2]
        dsimp only
        rw [if_pos rfl]
  · refine ⟨(1, o, nI len, ch), (0, setM y 1, tx), ?_, ?_, rfl, fun z => absurd z ne1, rfl, len, cd, rfl, hy, h1, h2⟩
    · unfold fL_append fX7_append
      by_cases r : p < 0
      · rw [if_pos r]
        rfl
      · rw [if_neg r, if_neg (show ¬ p ≤ 255 from (hin' q).resolve_left r)]
        rfl
    · unfold fX8_append bnd
      rw [if_neg (show ¬ fX8_in p.toInt64 0 255 = true from q), refused1]
      dsimp only
      rw [if_pos rfl]
/-- the reference at a place of the text -/
def atS (y : MSt) (s : Int32) : MSt := (y.1, y.2.1, y.2.2.1, y.2.2.2.1, y.2.2.2.2.1, y.2.2.2.2.2.1, y.2.2.2.2.2.2.1, y.2.2.2.2.2.2.2.1, s, y.2.2.2.2.2.2.2.2.2)
theorem fig_dig {u : MSt} (h : textR len cd ch tx) {a b p x4 x5 : Int32} {fu i : Nat} {y : MSt} (hy : y.2.1 = nI len) (hs : y.2.2.2.2.2.2.2.2.1 = nI i) (h5 : ¬ x5 ≤ 0) (hi : i < 200) :
    fX8_figures_16 u tx p a b (fu + 1) x4 x5 y = if i < len ∧ 48 ≤ cd i ∧ cd i ≤ 57 then (if b < x4 + (nI (cd i) - 48) * x5 then some (-1, y) else if a ≤ ((x4 + (nI (cd i) - 48) * x5) + x5) - 1 then fX8_figures_16 u tx p a b fu (x4 + (nI (cd i) - 48) * x5) (x5 / 10) (atS y (nI (i + 1))) else some (-1, y)) else some (-1, y) := by
  obtain ⟨h1, h2⟩ := h
  rw [fX8_figures_16]
  rw [if_neg h5, hy, hs]
  by_cases c : i < len
  · have h3 := h2 i c
    rw [if_neg (nI_ge c (by omega)), if_pos (inB_nI (by omega) (by decide)), nI_clamp (by omega)]
    unfold bnd
    dsimp only
    rw [h3.2.1, dig_in _ (by omega), ← nI_succ]
    by_cases d : 48 ≤ cd i ∧ cd i ≤ 57
    · rw [if_pos (decide_eq_true d), if_pos (show i < len ∧ 48 ≤ cd i ∧ cd i ≤ 57 from ⟨c, d⟩), ← hy]
      rfl
    · rw [if_neg (fun z => d (of_decide_eq_true z)), if_neg (fun z => d z.2)]
  · rw [if_pos (nI_le (by omega) (by omega)), if_neg (by rw [dig_m1]; decide), if_neg (fun z => c z.1)]
/-- what the two figures of a point are -/
theorem fig_two (h : textR len cd ch tx) {i : Nat} {y : MSt} (hy : y.2.1 = nI len) (hs : y.2.2.2.2.2.2.2.2.1 = nI i) (hi : i < 150) :
    (¬ (i < len ∧ 48 ≤ cd i ∧ cd i ≤ 52) ∧ fX8_figures y tx 2 0 48 = some (-1, y)) ∨
    ((i < len ∧ 48 ≤ cd i ∧ cd i ≤ 52) ∧ ¬ (i + 1 < len ∧ 48 ≤ cd (i + 1) ∧ cd (i + 1) ≤ (if cd i = 52 then 56 else 57)) ∧ fX8_figures y tx 2 0 48 = some (-1, atS y (nI (i + 1)))) ∨
    ((i < len ∧ 48 ≤ cd i ∧ cd i ≤ 52) ∧ (i + 1 < len ∧ 48 ≤ cd (i + 1) ∧ cd (i + 1) ≤ (if cd i = 52 then 56 else 57)) ∧ fX8_figures y tx 2 0 48 = some (nI (10 * (cd i - 48) + (cd (i + 1) - 48)), atS y (nI (i + 2)))) := by
  have e0 : fX8_figures y tx 2 0 48 = fX8_figures_16 y tx 2 0 48 (4999 + 1) 0 10 y := by
    unfold fX8_figures
    rw [if_pos rfl]
  rw [e0, fig_dig h hy hs (by decide) (by omega)]
  by_cases c : i < len ∧ 48 ≤ cd i ∧ cd i ≤ 57
  · obtain ⟨a1, a2⟩ := dig_a (cd i) (by omega) (by omega)
    rw [if_pos c]
    by_cases d : 53 ≤ cd i
    · rw [if_pos (a1.mpr d)]
      exact .inl ⟨fun z => by omega, rfl⟩
    · rw [if_neg (fun z => d (a1.mp z)), if_pos a2, show (10 : Int32) / 10 = 1 by decide, show (4999 : Nat) = 4998 + 1 from rfl, fig_dig h (y := atS y (nI (i + 1))) hy rfl (by decide) (by omega)]
      by_cases e : i + 1 < len ∧ 48 ≤ cd (i + 1) ∧ cd (i + 1) ≤ 57
      · obtain ⟨b1, b2, b3, b4⟩ := dig_b (cd i) (by omega) (by omega) (cd (i + 1)) (by omega) (by omega)
        rw [if_pos e]
        by_cases g : cd i = 52 ∧ 57 ≤ cd (i + 1)
        · rw [if_pos (b1.mpr g)]
          refine .inr (.inl ⟨by omega, fun z => ?_, rfl⟩)
          rw [if_pos g.1] at z
          omega
        · rw [if_neg (fun z => g (b1.mp z)), if_pos b2, b3]
          refine .inr (.inr ⟨by omega, ⟨e.1, e.2.1, ?_⟩, ?_⟩)
          · by_cases k : cd i = 52
            · rw [if_pos k]
              omega
            · rw [if_neg k]
              exact e.2.2
          · rw [show (4998 : Nat) = 4997 + 1 from rfl, fX8_figures_16, if_pos (by decide)]
            rfl
      · rw [if_neg e]
        refine .inr (.inl ⟨by omega, fun z => e ⟨z.1, z.2.1, ?_⟩, rfl⟩)
        have := z.2.2
        split at this <;> omega
  · rw [if_neg c]
    exact .inl ⟨fun z => c ⟨z.1, z.2.1, by omega⟩, rfl⟩
end TEXT
section LAYS
variable {n rule mv ps pr c0 c1 : Nat} {w : GSt} {b0 b1 : Nat → Int64} {g : RSt} {f : Nat → Int64}
theorem keepT_tried (n : Nat) (b0 b1 : Nat → Int64) (mv k : Nat) (y : MSt) : keepT y (tried n b0 b1 mv k y) := by
  unfold tried
  split
  · exact ⟨keepM_refl y, rfl, rfl⟩
  · exact ⟨⟨rfl, rfl, rfl⟩, rfl, rfl⟩
/-- a stone at p if it may be laid, on both sides -/
theorem lay_cases (h : GR n rule mv ps pr c0 c1 w b0 b1 g f) (p : Int32) :
    (fX0_layIfAllowed w b0 b1 g p = some (false, w, b0, b1) ∧ (fX8_isPoint f p = some false ∨ (fX8_isPoint f p = some true ∧ ∀ y, ∃ v y1, ¬ v = 0 ∧ fX8_whyNot y f p = some (v, y1) ∧ keepT y y1))) ∨
    (fX8_isPoint f p = some true ∧ ∀ y, ∃ y1, fX8_whyNot y f p = some (0, y1) ∧ keepT y y1 ∧ ∀ y2 : MSt, y2.2.2.2.1 = y1.2.2.2.1 → y2.2.2.2.2.1 = y1.2.2.2.2.1 → y2.2.2.2.2.2.1 = y1.2.2.2.2.2.1 → ∃ r w' b0' b1' f' m' q0 q1, fX0_layIfAllowed w b0 b1 g p = some (true, w', b0', b1') ∧ fX8_playOn y2 f = some (r, f') ∧ GR n rule m' ps 0 q0 q1 w' b0' b1' g f') := by
  have hn := h.okn
  have hpt := isPoint_eq hn h.f0 p
  by_cases q : fX2_has (gridOf n) p = true
  · rw [q] at hpt
    have q' : fX2_has g p = true := by rw [h.grid]; exact q
    obtain ⟨k, k1, k2⟩ := hasG_pt hn q
    subst k2
    have hl := why_le (n := n) (rule := rule) (mv := mv) (b0 := b0) (b1 := b1) k
    have hre := reason_eq h k1
    by_cases z : why n rule mv b0 b1 k = 0
    · obtain ⟨z1, z2, z3⟩ := why_0 z
      refine .inr ⟨hpt, fun y => ⟨laid n b0 b1 mv k y, ?_, ⟨⟨rfl, rfl, rfl⟩, rfl, rfl⟩, ?_⟩⟩
      · rw [whyNot_eq h k1, z]
        unfold tried
        rw [if_neg z1]
        rfl
      · intro y2 e1 e2 e3
        obtain ⟨q0, q1, w', b0', b1', f', l1, l2, l3⟩ := play_GR h k1 z1 z2 z3 (y := y2) e1 e2 e3
        refine ⟨_, w', b0', b1', f', mv + 1, q0, q1, ?_, l2, l3⟩
        unfold fX0_layIfAllowed
        rw [if_pos q', hre, Option.bind_some, if_pos ((nI_eq0 (by omega)).mpr z), l1]
        rfl
    · refine .inl ⟨?_, .inr ⟨hpt, fun y => ⟨nI (why n rule mv b0 b1 k), tried n b0 b1 mv k y, fun r => z ((nI_eq0 (by omega)).mp r), whyNot_eq h k1 y, keepT_tried n b0 b1 mv k y⟩⟩⟩
      unfold fX0_layIfAllowed
      rw [if_pos q', hre, Option.bind_some, if_neg (fun r => z ((nI_eq0 (by omega)).mp r))]
  · have q' : ¬ fX2_has g p = true := by rw [h.grid]; exact q
    have qf : fX2_has (gridOf n) p = false := by
      cases e : fX2_has (gridOf n) p with
      | false => rfl
      | true => exact absurd e q
    rw [qf] at hpt
    refine .inl ⟨?_, .inl hpt⟩
    unfold fX0_layIfAllowed
    rw [if_neg q']
/-- the same by the reference's own step -/
theorem plays_eq (h : GR n rule mv ps pr c0 c1 w b0 b1 g f) (p : Int32) (y : MSt) : ∃ r y' f' w' b0' b1', fX8_plays y f p = some (r, y', f') ∧ keepT y y' ∧ fX0_layIfAllowed w b0 b1 g p = some (r, w', b0', b1') ∧ ∃ rule' m' ps' pr' q0 q1, GR n rule' m' ps' pr' q0 q1 w' b0' b1' g f' := by
  rcases lay_cases h p with ⟨h1, h2 | ⟨h2, h3⟩⟩ | ⟨h2, h3⟩
  · refine ⟨false, y, f, w, b0, b1, ?_, ⟨keepM_refl y, rfl, rfl⟩, h1, rule, mv, ps, pr, c0, c1, h⟩
    unfold fX8_plays
    rw [h2, Option.bind_some, if_neg (by decide), if_pos rfl]
  · obtain ⟨v, y1, e1, e2, e3⟩ := h3 y
    refine ⟨false, y1, f, w, b0, b1, ?_, e3, h1, rule, mv, ps, pr, c0, c1, h⟩
    unfold fX8_plays
    rw [h2, Option.bind_some, if_pos rfl, e2, Option.bind_some]
    dsimp only
    rw [if_neg e1, if_pos rfl]
  · obtain ⟨y1, e1, e2, e3⟩ := h3 y
    obtain ⟨r, w', b0', b1', f', m', q0, q1, l1, l2, l3⟩ := e3 y1 rfl rfl rfl
    refine ⟨true, y1, f', w', b0', b1', ?_, e2, l1, rule, m', ps, 0, q0, q1, l3⟩
    unfold fX8_plays
    rw [h2, Option.bind_some, if_pos rfl, e1, Option.bind_some]
    dsimp only
    rw [if_pos rfl, if_neg (by decide), l2, Option.bind_some]
end LAYS
