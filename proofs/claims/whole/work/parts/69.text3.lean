section RUN
variable {len : Nat} {cd : Nat → Nat} {ch tx : Nat → Int32}
theorem rT_end {v : MSt} {f0 : Nat → Int64} {fu i : Nat} {y : MSt} {f : Nat → Int64} (hy : y.2.1 = nI len) (hs : y.2.2.2.2.2.2.2.2.1 = nI i) (hi : len ≤ i) (h2 : i < 1000) : fX8_readText_105 v f0 tx (fu + 1) y f = some (-1, y, f) := by
  rw [fX8_readText_105]
  rw [hy, hs, if_pos (nI_le hi (by omega))]
theorem rT_go {v : MSt} {f0 : Nat → Int64} {fu i : Nat} {y y1 : MSt} {f f1 : Nat → Int64} (hy : y.2.1 = nI len) (hs : y.2.2.2.2.2.2.2.2.1 = nI i) (hi : i < len) (hl : len ≤ 120) (hm : fX8_readMove y f tx = some (true, y1, f1)) : fX8_readText_105 v f0 tx (fu + 1) y f = fX8_readText_105 v f0 tx fu y1 f1 := by
  rw [fX8_readText_105]
  rw [hy, hs, if_neg (nI_ge hi (by omega)), hm, Option.bind_some]
  dsimp only
  rw [if_pos rfl]
theorem rT_bad {v : MSt} {f0 : Nat → Int64} {fu i : Nat} {y y1 : MSt} {f f1 : Nat → Int64} (hy : y.2.1 = nI len) (hs : y.2.2.2.2.2.2.2.2.1 = nI i) (hi : i < len) (hl : len ≤ 120) (hm : fX8_readMove y f tx = some (false, y1, f1)) : fX8_readText_105 v f0 tx (fu + 1) y f = some (y1.2.2.2.2.2.2.2.2.1, y1, f1) := by
  rw [fX8_readText_105]
  rw [hy, hs, if_neg (nI_ge hi (by omega)), hm, Option.bind_some]
  dsimp only
  rw [if_neg (by decide)]
/-- what the class's loading does behind a text without error, and what it leaves -/
def ldR (len : Nat) (ch : Nat → Int32) (g : RSt) (fu : Nat) (i : Nat) (cnt : Int32) (w : GSt) (b0 b1 : Nat → Int64) (cnt' : Int32) (f' : Nat → Int64) : Prop :=
  ∃ w' b0' b1', gameR (w', b0', b1', g) f' ∧ ∀ (W : GSt) (M : Int32 × Int32) (S0 S1 : Bool) (B0 B1 : Nat → Int64) (fl : Nat) (M' : Int32 × Int32) (S0' S1' : Bool), fu ≤ fl → fX7_load_59 (nI len) W M S0 S1 ch B0 B1 fl cnt (nI i) w M' S0' S1' b0 b1 g = some (Sum.inr (cnt', w', fX4_forgetAll M', false, false, b0', b1', g))
theorem ld_end {g : RSt} {fu i : Nat} {cnt : Int32} {w : GSt} {b0 b1 f : Nat → Int64} (hi : len ≤ i) (h2 : i < 1000) (hg : gameR (w, b0, b1, g) f) : ldR len ch g (fu + 1) i cnt w b0 b1 cnt f := by
  refine ⟨w, b0, b1, hg, ?_⟩
  intro W M S0 S1 B0 B1 fl M' S0' S1' hfl
  obtain ⟨fl, rfl⟩ : ∃ x, fl = x + 1 := ⟨fl - 1, by omega⟩
  rw [fX7_load_59]
  rw [if_pos (nI_le hi (by omega))]
  rfl
theorem ld_pass (h : textR len cd ch tx) {g : RSt} {fu i : Nat} {cnt cnt' : Int32} {w w1 : GSt} {b0 b1 d0 d1 f : Nat → Int64} {r : Bool} (hi : i < len) (hc : cd i = 112) (hp : fX0_passIfAllowed w b0 b1 = some (r, w1, d0, d1)) (hl : ldR len ch g fu (i + 1) (if r = true then cnt else cnt + 1) w1 d0 d1 cnt' f) : ldR len ch g (fu + 1) i cnt w b0 b1 cnt' f := by
  obtain ⟨w', b0', b1', g1, g2⟩ := hl
  refine ⟨w', b0', b1', g1, ?_⟩
  intro W M S0 S1 B0 B1 fl M' S0' S1' hfl
  obtain ⟨fl, rfl⟩ : ∃ x, fl = x + 1 := ⟨fl - 1, by omega⟩
  have := g2 W M S0 S1 B0 B1 fl M' S0' S1' (by omega)
  have hlen := h.1
  rw [fX7_load_59]
  rw [if_neg (nI_ge hi (by omega)), isP h hi, Option.bind_some, if_pos (decide_eq_true hc), hp, Option.bind_some]
  dsimp only
  rw [nI_succ] at this
  cases r with
  | true =>
    rw [if_pos rfl] at this
    rw [if_pos rfl, if_pos (decide_eq_true hc)]
    exact this
  | false =>
    rw [if_neg (by decide)] at this
    rw [if_neg (by decide), if_pos (decide_eq_true hc)]
    exact this
theorem ld_point (h : textR len cd ch tx) {g : RSt} {fu i q : Nat} {cnt cnt' : Int32} {w w1 : GSt} {b0 b1 d0 d1 f : Nat → Int64} {r : Bool} (hi : i < len) (hc : ¬ cd i = 112) (hq : fX1_pointAt (nI len) ch (nI i) = some (nI q)) (hp : fX0_layIfAllowed w b0 b1 g (nI q) = some (r, w1, d0, d1)) (hl : ldR len ch g fu (i + 2) (if r = true then cnt else cnt + 1) w1 d0 d1 cnt' f) : ldR len ch g (fu + 1) i cnt w b0 b1 cnt' f := by
  obtain ⟨w', b0', b1', g1, g2⟩ := hl
  refine ⟨w', b0', b1', g1, ?_⟩
  intro W M S0 S1 B0 B1 fl M' S0' S1' hfl
  obtain ⟨fl, rfl⟩ : ∃ x, fl = x + 1 := ⟨fl - 1, by omega⟩
  have := g2 W M S0 S1 B0 B1 fl M' S0' S1' (by omega)
  have hlen := h.1
  have hc' : ¬ decide (cd i = 112) = true := fun z => hc (of_decide_eq_true z)
  rw [fX7_load_59]
  rw [if_neg (nI_ge hi (by omega)), isP h hi, Option.bind_some, if_neg hc', hq, Option.bind_some, hp, Option.bind_some]
  dsimp only
  rw [show nI (i + 2) = (nI i + 1) + 1 by rw [nI_succ (i + 1), nI_succ i]] at this
  cases r with
  | true =>
    rw [if_pos rfl] at this
    rw [if_pos rfl, if_neg hc']
    exact this
  | false =>
    rw [if_neg (by decide)] at this
    rw [if_neg (by decide), if_neg hc']
    exact this
theorem text_run (h : textR len cd ch tx) (v : MSt) (f0 : Nat → Int64) : ∀ (m i fe fr : Nat) (y : MSt) (f : Nat → Int64) {n rule mv ps pr c0 c1 : Nat} {w : GSt} {b0 b1 : Nat → Int64} {g : RSt}, i ≤ len → len - i ≤ m → m + 1 ≤ fe → m + 1 ≤ fr → GR n rule mv ps pr c0 c1 w b0 b1 g f → y.2.1 = nI len → y.2.2.2.2.2.2.2.2.1 = nI i →
    ∃ r y' f', fX1_firstError_39 (nI len) ch fe (nI i) = some r ∧ fX8_readText_105 v f0 tx fr y f = some (r, y', f') ∧ keepM y y' ∧ (r = -1 → ldR len ch g (m + 1) i y.2.2.2.2.2.2.2.2.2 w b0 b1 y'.2.2.2.2.2.2.2.2.2 f') := by
  have hlen := h.1
  intro m
  induction m with
  | zero =>
    intro i fe fr y f n rule mv ps pr c0 c1 w b0 b1 g hi hm hfe hfr hG hy hs
    obtain ⟨fe, rfl⟩ : ∃ x, fe = x + 1 := ⟨fe - 1, by omega⟩
    obtain ⟨fr, rfl⟩ : ∃ x, fr = x + 1 := ⟨fr - 1, by omega⟩
    exact ⟨-1, y, f, E_end (by omega) (by omega), rT_end hy hs (by omega) (by omega), keepM_refl y, fun _ => ld_end (by omega) (by omega) ⟨n, rule, mv, ps, pr, c0, c1, hG⟩⟩
  | succ m ih =>
    intro i fe fr y f n rule mv ps pr c0 c1 w b0 b1 g hi hm hfe hfr hG hy hs
    obtain ⟨fe, rfl⟩ : ∃ x, fe = x + 1 := ⟨fe - 1, by omega⟩
    obtain ⟨fr, rfl⟩ : ∃ x, fr = x + 1 := ⟨fr - 1, by omega⟩
    by_cases e : len ≤ i
    · exact ⟨-1, y, f, E_end e (by omega), rT_end hy hs e (by omega), keepM_refl y, fun _ => ld_end e (by omega) ⟨n, rule, mv, ps, pr, c0, c1, hG⟩⟩
    · have hil : i < len := by omega
      have ht := h.2 i hil
      have hmv := hG.mvl
      by_cases hc : cd i = 112
      · have htx : tx i = 112 := by
          rw [ht.2.1, hc]
          rfl
        by_cases hq : mv < 120
        · obtain ⟨w1, d0, d1, f1, p1, p2, p3, p4⟩ := pass_GR hG hq
          have hrm := rm_pass1 (y := y) hG.f3 hq hs (by omega) htx p3
          obtain ⟨r, y', f', a1, a2, a3, a4⟩ := ih (i + 1) fe fr (outS (atS y (nI (i + 1))) y.2.2.2.2.2.2.2.2.2) f1 (by omega) (by omega) (by omega) (by omega) p4 hy rfl
          refine ⟨r, y', f', ?_, ?_, keepM_trans ⟨rfl, rfl, rfl⟩ a3, fun hr => ?_⟩
          · rw [E_p h hil hc]
            exact a1
          · rw [rT_go hy hs hil hlen hrm]
            exact a2
          · exact ld_pass h hil hc p1 (by rw [if_pos rfl]; exact a4 hr)
        · have p1 := pass_no hG hq
          have hrm := rm_pass0 (y := y) hG.f3 (by omega) (by omega) hs (by omega) htx
          obtain ⟨r, y', f', a1, a2, a3, a4⟩ := ih (i + 1) fe fr (outS (atS y (nI (i + 1))) (y.2.2.2.2.2.2.2.2.2 + 1)) f (by omega) (by omega) (by omega) (by omega) hG hy rfl
          refine ⟨r, y', f', ?_, ?_, keepM_trans ⟨rfl, rfl, rfl⟩ a3, fun hr => ?_⟩
          · rw [E_p h hil hc]
            exact a1
          · rw [rT_go hy hs hil hlen hrm]
            exact a2
          · exact ld_pass h hil hc p1 (by rw [if_neg (by decide)]; exact a4 hr)
      · have htx : ¬ tx i = 112 := by
          rw [ht.2.1]
          intro z
          exact hc (nI_inj (b := 112) (by omega) (by omega) z)
        rcases fig_two h hy hs (by omega) with ⟨g1, g2⟩ | ⟨g1, g2, g3⟩ | ⟨g1, g2, g3⟩
        · have hrm := rm_bad hG.f3 hs (by omega) htx g2
          refine ⟨nI i, y, f, E_bad1 h hil hc (fun z => g1 ⟨hil, z⟩), ?_, keepM_refl y, fun z => absurd z (nI_ne_m1 (by omega))⟩
          rw [rT_bad hy hs hil hlen hrm, hs]
        · have hrm := rm_bad hG.f3 hs (by omega) htx g3
          refine ⟨nI (i + 1), atS y (nI (i + 1)), f, ?_, ?_, ⟨rfl, rfl, rfl⟩, fun z => absurd z (nI_ne_m1 (by omega))⟩
          · rw [E_two h hil g1.2, if_neg g2]
          · rw [rT_bad hy hs hil hlen hrm]
            rfl
        · have h57 : cd (i + 1) ≤ 57 := by
            have := g2.2.2
            split at this <;> omega
          have hpa := point_at h g2.1 g1.2 ⟨g2.2.1, h57⟩
          have hE : fX1_firstError_39 (nI len) ch (fe + 1) (nI i) = fX1_firstError_39 (nI len) ch fe (nI (i + 2)) := by
            rw [E_two h hil g1.2, if_pos g2]
          have hqn : ¬ nI (10 * (cd i - 48) + (cd (i + 1) - 48)) = -1 := nI_ne_m1 (by omega)
          rcases lay_cases hG (nI (10 * (cd i - 48) + (cd (i + 1) - 48))) with ⟨h1, h2 | ⟨h2, h3⟩⟩ | ⟨h2, h3⟩
          · have hrm := rm_no1 hG.f3 hs (by omega) htx hqn g3 h2
            obtain ⟨r, y', f', a1, a2, a3, a4⟩ := ih (i + 2) fe fr (outS (atS y (nI (i + 2))) (y.2.2.2.2.2.2.2.2.2 + 1)) f (by omega) (by omega) (by omega) (by omega) hG hy rfl
            refine ⟨r, y', f', hE.trans a1, ?_, keepM_trans ⟨rfl, rfl, rfl⟩ a3, fun hr => ?_⟩
            · rw [rT_go hy hs hil hlen hrm]
              exact a2
            · exact ld_point h hil hc hpa h1 (by rw [if_neg (by decide)]; exact a4 hr)
          · obtain ⟨v1, y1, e1, e2, e3⟩ := h3 (atS y (nI (i + 2)))
            have hrm := rm_no2 hG.f3 hs (by omega) htx hqn g3 h2 e1 e2
            obtain ⟨r, y', f', a1, a2, a3, a4⟩ := ih (i + 2) fe fr (outS y1 (y1.2.2.2.2.2.2.2.2.2 + 1)) f (by omega) (by omega) (by omega) (by omega) hG (e3.1.2.1.trans hy) e3.2.1
            refine ⟨r, y', f', hE.trans a1, ?_, ?_, fun hr => ?_⟩
            · rw [rT_go hy hs hil hlen hrm]
              exact a2
            · exact ⟨a3.1.trans e3.1.1, a3.2.1.trans e3.1.2.1, a3.2.2.trans e3.1.2.2⟩
            · refine ld_point h hil hc hpa h1 ?_
              rw [if_neg (by decide)]
              have := a4 hr
              rw [show (outS y1 (y1.2.2.2.2.2.2.2.2.2 + 1)).2.2.2.2.2.2.2.2.2 = y.2.2.2.2.2.2.2.2.2 + 1 from congrArg (· + 1) e3.2.2] at this
              exact this
          · obtain ⟨y1, e1, e2, e3⟩ := h3 (atS y (nI (i + 2)))
            obtain ⟨r0, w1, d0, d1, f1, m1, q0, q1, l1, l2, l3⟩ := e3 (outS y1 y1.2.2.2.2.2.2.2.2.2) rfl rfl rfl
            have hrm := rm_yes hG.f3 hs (by omega) htx hqn g3 h2 e1 l2
            obtain ⟨r, y', f', a1, a2, a3, a4⟩ := ih (i + 2) fe fr (outS y1 y1.2.2.2.2.2.2.2.2.2) f1 (by omega) (by omega) (by omega) (by omega) l3 (e2.1.2.1.trans hy) e2.2.1
            refine ⟨r, y', f', hE.trans a1, ?_, ?_, fun hr => ?_⟩
            · rw [rT_go hy hs hil hlen hrm]
              exact a2
            · exact ⟨a3.1.trans e2.1.1, a3.2.1.trans e2.1.2.1, a3.2.2.trans e2.1.2.2⟩
            · refine ld_point h hil hc hpa l1 ?_
              rw [if_pos rfl]
              have := a4 hr
              rw [show (outS y1 y1.2.2.2.2.2.2.2.2.2).2.2.2.2.2.2.2.2.2 = y.2.2.2.2.2.2.2.2.2 from e2.2.2] at this
              exact this
/-- the text as a whole -/
theorem read_top (h : textR len cd ch tx) {y : MSt} (hy : y.2.1 = nI len) (tr : Nat → Int64) (W : GSt) (B0 B1 : Nat → Int64) :
    ∃ r y' tr', fX1_firstError (nI len) ch = some r ∧ fX8_readText y tr tx = some (r, y', tr') ∧ keepM y y' ∧ (r = -1 → ∃ w' b0' b1' g', gameR (w', b0', b1', g') tr' ∧ ∀ (M : Int32 × Int32) (S0 S1 : Bool), fX7_load (nI len) W M S0 S1 ch B0 B1 = some (Sum.inr (y'.2.2.2.2.2.2.2.2.2, w', fX4_forgetAll M, false, false, b0', b1', g'))) := by
  have hlen := h.1
  by_cases l0 : len = 0
  · subst l0
    refine ⟨0, outS (atS y 0) 0, tr, ?_, ?_, ⟨rfl, rfl, rfl⟩, fun z => absurd z (by decide)⟩
    · have a0 : fX1_at (nI 0) ch 0 = some (-1) := at_out (i := 0) (by omega) (by omega)
      unfold fX1_firstError
      rw [a0, Option.bind_some, if_neg (by decide)]
    · unfold fX8_readText
      rw [if_pos (show y.2.1 = 0 from hy)]
      rfl
  · have h0 := h.2 0 (by omega)
    have a0 : fX1_at (nI len) ch 0 = some (nI (cd 0)) := at_in h (show 0 < len by omega)
    have hne : ¬ y.2.1 = 0 := by
      rw [hy]
      intro z
      exact l0 (nI_inj (b := 0) (by omega) (by omega) z)
    by_cases hB : cd 0 = 66
    · have t0 : tx (0 : Int32).toNatClampNeg = 66 := by
        rw [c0n, h0.2.1, hB]
        rfl
      have hfig : fX8_figures (outS (atS y 1) 0) tx 1 3 7 = if 1 < len ∧ 51 ≤ cd 1 ∧ cd 1 ≤ 55 then some (nI (cd 1 - 48), outS (atS y (nI 2)) 0) else some (-1, outS (atS y 1) 0) := by
        unfold fX8_figures
        rw [if_neg (by decide), show (5000 : Nat) = 4999 + 1 from rfl, fig_dig h (i := 1) (y := outS (atS y 1) 0) hy rfl (by decide) (by omega)]
        by_cases c : 1 < len ∧ 48 ≤ cd 1 ∧ cd 1 ≤ 57
        · obtain ⟨r1, r2, r3, r4⟩ := dig_r (cd 1) (by omega) (by omega)
          rw [if_pos c]
          by_cases d : 56 ≤ cd 1
          · rw [if_pos (r1.mpr d), if_neg (fun z => by omega)]
          · rw [if_neg (fun z => d (r1.mp z))]
            by_cases e : 51 ≤ cd 1
            · rw [if_pos (r2.mpr e), if_pos ⟨c.1, e, by omega⟩, r3, show (4999 : Nat) = 4998 + 1 from rfl, fX8_figures_16, if_pos (by decide)]
              rfl
            · rw [if_neg (fun z => e (r2.mp z)), if_neg (fun z => e z.2.1)]
        · rw [if_neg c, if_neg (fun z => c ⟨z.1, by omega, by omega⟩)]
      have hfig' : fX8_figures (y.1, y.2.1, y.2.2.1, y.2.2.2.1, y.2.2.2.2.1, y.2.2.2.2.2.1, y.2.2.2.2.2.2.1, y.2.2.2.2.2.2.2.1, (1 : Int32), (0 : Int32)) tx 1 3 7 = if 1 < len ∧ 51 ≤ cd 1 ∧ cd 1 ≤ 55 then some (nI (cd 1 - 48), outS (atS y (nI 2)) 0) else some (-1, outS (atS y 1) 0) := hfig
      by_cases hr : 1 < len ∧ 51 ≤ cd 1 ∧ cd 1 ≤ 55
      · rw [if_pos hr] at hfig'
        have h1 := h.2 1 hr.1
        have a1 : fX1_at (nI len) ch 1 = some (nI (cd 1)) := at_in h hr.1
        have hm : okN (cd 1 - 48) := okN_of (by omega) (by omega)
        obtain ⟨yc, k1, k2, k3, k4⟩ := clear_eq tr (nI (cd 1 - 48))
        have hrn : ¬ nI (cd 1 - 48) = -1 := nI_ne_m1 (by omega)
        obtain ⟨s, hs2, hsl, sf, ss, sm⟩ : ∃ s, s < 2 ∧ 2 + s ≤ len ∧ fX1_firstMove (nI len) ch = some (nI (2 + s)) ∧ fX1_setting (nI len) ch = some (nI s) ∧ fX8_readText y tr tx = fX8_readText_105 y tr tx 5000 (outS (atS y (nI (2 + s))) 0) (vp_updL yc 1 (nL s)) := by
          have base : ∀ s : Nat, s < 2 → (vp_updL yc 1 (nL s)) (1 : Int32).toNatClampNeg = nL s := fun s _ => by
            rw [c1n, updL_at]
          by_cases c : 2 < len
          · have h2 := h.2 2 c
            have a2 : fX1_at (nI len) ch 2 = some (nI (cd 2)) := at_in h c
            by_cases d : cd 2 = 115
            · refine ⟨1, by omega, by omega, ?_, ?_, ?_⟩
              · unfold fX1_firstMove
                rw [a2, Option.bind_some, if_pos (show nI (cd 2) = 115 by rw [d]; rfl)]
                rfl
              · unfold fX1_setting
                rw [a2, Option.bind_some, if_pos (show nI (cd 2) = 115 by rw [d]; rfl)]
                rfl
              · unfold fX8_readText
                rw [if_neg hne, if_pos (by decide), if_pos t0, hfig', Option.bind_some]
                dsimp only
                rw [if_neg hrn, k1, Option.bind_some, if_neg (show ¬ (outS (atS y (nI 2)) 0).2.1 ≤ (outS (atS y (nI 2)) 0).2.2.2.2.2.2.2.2.1 by show ¬ y.2.1 ≤ nI 2; rw [hy]; exact nI_ge c (by omega)), if_pos (show inB (outS (atS y (nI 2)) 0).2.2.2.2.2.2.2.2.1 120 = true from (show inB (nI 2) 120 = true by decide)), if_pos (show tx (outS (atS y (nI 2)) 0).2.2.2.2.2.2.2.2.1.toNatClampNeg = 115 by show tx (nI 2).toNatClampNeg = 115; rw [nI_clamp (by omega), h2.2.1, d]; rfl), if_pos (by decide), if_pos (by decide)]
                rfl
            · refine ⟨0, by omega, by omega, ?_, ?_, ?_⟩
              · unfold fX1_firstMove
                rw [a2, Option.bind_some, if_neg (show ¬ nI (cd 2) = 115 from fun z => d (nI_inj (b := 115) (by omega) (by omega) z))]
                rfl
              · unfold fX1_setting
                rw [a2, Option.bind_some, if_neg (show ¬ nI (cd 2) = 115 from fun z => d (nI_inj (b := 115) (by omega) (by omega) z))]
                rfl
              · unfold fX8_readText
                rw [if_neg hne, if_pos (by decide), if_pos t0, hfig', Option.bind_some]
                dsimp only
                rw [if_neg hrn, k1, Option.bind_some, if_neg (show ¬ (outS (atS y (nI 2)) 0).2.1 ≤ (outS (atS y (nI 2)) 0).2.2.2.2.2.2.2.2.1 by show ¬ y.2.1 ≤ nI 2; rw [hy]; exact nI_ge c (by omega)), if_pos (show inB (outS (atS y (nI 2)) 0).2.2.2.2.2.2.2.2.1 120 = true from (show inB (nI 2) 120 = true by decide)), if_neg (show ¬ tx (outS (atS y (nI 2)) 0).2.2.2.2.2.2.2.2.1.toNatClampNeg = 115 by show ¬ tx (nI 2).toNatClampNeg = 115; rw [nI_clamp (by omega), h2.2.1]; exact fun z => d (nI_inj (b := 115) (by omega) (by omega) z)), if_pos (by decide), if_pos (by decide)]
                rfl
          · have a2 : fX1_at (nI len) ch 2 = some (-1) := at_out (i := 2) (by omega) (by omega)
            refine ⟨0, by omega, by omega, ?_, ?_, ?_⟩
            · unfold fX1_firstMove
              rw [a2, Option.bind_some, if_neg (by decide)]
              rfl
            · unfold fX1_setting
              rw [a2, Option.bind_some, if_neg (by decide)]
              rfl
            · unfold fX8_readText
              rw [if_neg hne, if_pos (by decide), if_pos t0, hfig', Option.bind_some]
              dsimp only
              rw [if_neg hrn, k1, Option.bind_some, if_pos (show (outS (atS y (nI 2)) 0).2.1 ≤ (outS (atS y (nI 2)) 0).2.2.2.2.2.2.2.2.1 by show y.2.1 ≤ nI 2; rw [hy]; exact nI_le (by omega) (by omega)), if_pos (by decide), if_pos (by decide)]
              rfl
        have hG : GR (cd 1 - 48) s 0 0 0 0 0 (nI s, 0, 0, 0, 0, 0, 0, 0) (vp_updL B0 0 0) (vp_updL B1 0 0) (gridOf (cd 1 - 48)) (vp_updL yc 1 (nL s)) := by
          refine empty_GR hm hs2 (updL_at _ _ _) (updL_at _ _ _) ?_ (updL_at _ _ _) ?_
          · rw [updL_ne (by omega), k2]
            exact nI_L (by omega)
          · intro i i1 i2
            rw [updL_ne (by omega)]
            exact k4 i i1 i2
        obtain ⟨r, y', f', b1, b2, b3, b4⟩ := text_run h y tr 120 (2 + s) 5000 5000 (outS (atS y (nI (2 + s))) 0) (vp_updL yc 1 (nL s)) hsl (by omega) (by omega) (by omega) hG hy rfl
        have hE : fX1_firstError (nI len) ch = some r := by
          unfold fX1_firstError
          rw [a0, Option.bind_some, if_pos (show nI (cd 0) = 66 by rw [hB]; rfl), a1, Option.bind_some, if_neg (show ¬ nI (cd 1) < 51 from nI_nlt (b := 51) (by omega) (by omega)), Option.bind_some, if_pos (show nI (cd 1) ≤ 55 from nI_le (b := 55) (by omega) (by omega)), sf, Option.bind_some]
          exact b1
        refine ⟨r, y', f', hE, sm.trans b2, keepM_trans ⟨rfl, rfl, rfl⟩ b3, fun hr1 => ?_⟩
        obtain ⟨w', b0', b1', e1, e2⟩ := b4 hr1
        refine ⟨w', b0', b1', gridOf (cd 1 - 48), e1, ?_⟩
        intro M S0 S1
        have hlo : fX0_layOut W B0 B1 (nI (cd 1 - 48)) = some ((W.1, 0, 0, 0, 0, 0, 0, 0), vp_updL B0 0 0, vp_updL B1 0 0, gridOf (cd 1 - 48)) := by
          unfold fX0_layOut
          rw [init_grid hm, Option.bind_some, keep_eq (m := 0) B0 B1 rfl (by omega), Option.bind_some]
        have hrw : fX1_rows (nI len) ch = some (nI (cd 1 - 48)) := by
          unfold fX1_rows
          rw [a1, Option.bind_some, (dig_r (cd 1) (by omega) (by omega)).2.2.2]
        unfold fX7_load
        rw [hE, Option.bind_some, if_pos hr1, hrw, Option.bind_some, hlo, Option.bind_some, ss, Option.bind_some, sf, Option.bind_some]
        exact e2 W M S0 S1 B0 B1 5000 M S0 S1 (by omega)
      · rw [if_neg hr] at hfig'
        refine ⟨1, outS (atS y 1) 0, tr, ?_, ?_, ⟨rfl, rfl, rfl⟩, fun z => absurd z (by decide)⟩
        · unfold fX1_firstError
          rw [a0, Option.bind_some, if_pos (show nI (cd 0) = 66 by rw [hB]; rfl)]
          by_cases c : 1 < len
          · have h1 := h.2 1 c
            have a1 : fX1_at (nI len) ch 1 = some (nI (cd 1)) := at_in h c
            rw [a1, Option.bind_some]
            by_cases d : cd 1 < 51
            · rw [if_pos (show nI (cd 1) < 51 from nI_lt (b := 51) d (by decide))]
            · rw [if_neg (show ¬ nI (cd 1) < 51 from nI_nlt (b := 51) (by omega) (by omega)), Option.bind_some, if_neg (show ¬ nI (cd 1) ≤ 55 from nI_ge (a := 55) (by omega) (by omega))]
          · have a1 : fX1_at (nI len) ch 1 = some (-1) := at_out (i := 1) (by omega) (by omega)
            rw [a1, Option.bind_some, if_pos (by decide)]
        · unfold fX8_readText
          rw [if_neg hne, if_pos (by decide), if_pos t0, hfig', Option.bind_some]
          dsimp only
          rw [if_pos rfl]
          rfl
    · refine ⟨0, outS (atS y 0) 0, tr, ?_, ?_, ⟨rfl, rfl, rfl⟩, fun z => absurd z (by decide)⟩
      · unfold fX1_firstError
        rw [a0, Option.bind_some, if_neg (show ¬ nI (cd 0) = 66 from fun z => hB (nI_inj (b := 66) (by omega) (by omega) z))]
      · unfold fX8_readText
        rw [if_neg hne, if_pos (by decide), if_neg (show ¬ tx (0 : Int32).toNatClampNeg = 66 by rw [c0n, h0.2.1]; exact fun z => hB (nI_inj (b := 66) (by omega) (by omega) z))]
        rfl
end RUN
