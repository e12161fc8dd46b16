/-- a save slot: used on both sides alike, and then what it keeps is alike -/
def slotR (u : Bool) (ik : Int32) (G : GG) (kr : Nat → Int64) : Prop := ik = (if u = true then 1 else 0) ∧ (u = true → gameR G kr)
section LOAD
variable {n rule mv ps pr c0 c1 : Nat} {w : GSt} {b0 b1 : Nat → Int64} {g : RSt} {f : Nat → Int64} {len : Nat} {cd : Nat → Nat} {ch tx : Nat → Int32} {y : MSt}
theorem errorPosition_act (h : textR len cd ch tx) (hy : y.2.1 = nI len) (tr : Nat → Int64) : ∃ r y' tr', fX7_errorPosition (nI len) ch = some r ∧ fX8_errorPosition y tx tr = some (r, y', tr') ∧ sameM y y' := by
  obtain ⟨r, y', tr', e1, e2, e3, _⟩ := read_top h (y := setM y 0) hy tr (0, 0, 0, 0, 0, 0, 0, 0) (fun _ => 0) (fun _ => 0)
  refine ⟨r, y', tr', ?_, ?_, e3.2.1, e3.2.2⟩
  · unfold fX7_errorPosition
    rw [e1, Option.bind_some]
  · have e2' : fX8_readText ((0 : Int32), y.2.1, y.2.2.1, y.2.2.2.1, y.2.2.2.2.1, y.2.2.2.2.2.1, y.2.2.2.2.2.2.1, y.2.2.2.2.2.2.2.1, y.2.2.2.2.2.2.2.2.1, y.2.2.2.2.2.2.2.2.2) tr tx = some (r, y', tr') := e2
    unfold fX8_errorPosition
    rw [e2', Option.bind_some]
theorem load_act (h : textR len cd ch tx) (hy : y.2.1 = nI len) {o a : Nat} (ha : y.2.2.1 = nI a) (hG : gameR (w, b0, b1, g) f) (tr : Nat → Int64) (out : Nat → Int64) (S0 S1 : Bool) {kb : Nat → Int32} {K0 K1 : GG} {kept : Nat → Int64} (hs0 : slotR S0 (kb 0) K0 kept) (hs1 : slotR S1 (kb 1) K1 (fun i => kept (250 + i))) :
    ∃ v s, fL_load out (nI len) w (nI o, nI a) S0 S1 ch b0 b1 g = some v ∧ fX8_load y tx f tr kb = some s ∧ s.2.1.1 = v.1 ∧ (v.1 = 0 → v.2.1 0 = s.1.toInt64) ∧ s.2.1.2.1 = y.2.1 ∧ (∃ a', a' ≤ a ∧ v.2.2.2.1 = (nI o, nI a') ∧ s.2.1.2.2.1 = nI a') ∧ gameR (v.2.2.1, v.2.2.2.2.2.2.1, v.2.2.2.2.2.2.2.1, v.2.2.2.2.2.2.2.2) s.2.2.1 ∧ slotR v.2.2.2.2.1 (s.2.2.2.2 0) K0 kept ∧ slotR v.2.2.2.2.2.1 (s.2.2.2.2 1) K1 (fun i => kept (250 + i)) := by
  obtain ⟨r, y1, tr', e1, e2, e3, e4⟩ := read_top h (y := y) hy tr w b0 b1
  by_cases q : r = -1
  · obtain ⟨w', b0', b1', g', g1, g2⟩ := e4 q
    obtain ⟨f', d1, d2, d3⟩ := copyS_eq (N0 := 250) (N2 := 250) (o0 := 0) (o2 := 0) tr' f (by omega) (by omega) (by decide) (by decide)
    have d1' : fX8_copyState 250 250 tr' f 0 0 = some f' := d1
    have d2' : ∀ i, i < 250 → f' i = tr' i := by
      intro i hi
      have := d2 i hi
      rw [Nat.zero_add] at this
      exact this
    refine ⟨(0, vp_updL out 0 (y1.2.2.2.2.2.2.2.2.2).toInt64, w', (nI o, 0), false, false, b0', b1', g'), (y1.2.2.2.2.2.2.2.2.2, setA (setM y1 0) 0, f', tr', upd (upd kb 0 0) 1 0), ?_, ?_, rfl, fun _ => updL_at out 0 _, e3.2.1, ⟨0, Nat.zero_le _, rfl, rfl⟩, gameR_congr g1 d2', ⟨?_, fun z => absurd z Bool.false_ne_true⟩, ⟨?_, fun z => absurd z Bool.false_ne_true⟩⟩
    · unfold fL_load
      rw [g2 (nI o, nI a) S0 S1, Option.bind_some]
      rfl
    · unfold fX8_load bnd
      rw [e2, Option.bind_some]
      dsimp only
      rw [if_pos q, refused0]
      dsimp only
      rw [if_neg (by decide), d1', Option.bind_some, if_pos (by decide), if_pos (by decide)]
      rfl
    · show upd (upd kb 0 0) 1 0 0 = _
      rw [updI_ne (by omega), updI_at]
      rfl
    · show upd (upd kb 0 0) 1 0 1 = _
      rw [updI_at]
      rfl
  · refine ⟨(1, out, w, (nI o, nI a), S0, S1, b0, b1, g), (0, setM y1 1, f, tr', kb), ?_, ?_, rfl, fun z => absurd z ne1, e3.2.1, ⟨a, Nat.le_refl _, rfl, e3.2.2.trans ha⟩, hG, hs0, hs1⟩
    · unfold fL_load fX7_load
      rw [e1, Option.bind_some, if_neg q]
      rfl
    · unfold fX8_load bnd
      rw [e2, Option.bind_some]
      dsimp only
      rw [if_neg q, refused1]
      dsimp only
      rw [if_pos rfl]
theorem save_act (h : GR n rule mv ps pr c0 c1 w b0 b1 g f) (p : Int32) (y : MSt) (out : Nat → Int64) (S0 S1 : Bool) {kb : Nat → Int32} {K0 K1 : GG} {kept : Nat → Int64} (hs0 : slotR S0 (kb 0) K0 kept) (hs1 : slotR S1 (kb 1) K1 (fun i => kept (250 + i))) :
    ∃ v s, fL_save out w S0 S1 K1.1 K1.2.1 K1.2.2.1 b0 b1 K0.1 K0.2.1 K0.2.2.1 p = some v ∧ fX8_save y f kept kb p = some s ∧ s.2.1.1 = v.1 ∧ (v.1 = 0 → v.2.1 0 = s.1.toInt64) ∧ sameM y s.2.1 ∧
      slotR v.2.2.1 (s.2.2.2 0) (v.2.2.2.2.2.2.2.1, v.2.2.2.2.2.2.2.2.1, v.2.2.2.2.2.2.2.2.2, if v.1 = 0 then (if p = 0 then g else K0.2.2.2) else K0.2.2.2) s.2.2.1 ∧
      slotR v.2.2.2.1 (s.2.2.2 1) (v.2.2.2.2.1, v.2.2.2.2.2.1, v.2.2.2.2.2.2.1, if v.1 = 0 then (if p = 0 then K1.2.2.2 else g) else K1.2.2.2) (fun i => s.2.2.1 (250 + i)) := by
  have hin := in0_iff p (m := 1) (by omega)
  have hw : w.2.1 = nI mv := by rw [h.weq]
  by_cases q : fX8_in p.toInt64 0 (nL 1) = true
  · have q' : fX8_in p.toInt64 0 1 = true := q
    obtain ⟨v, v1, v2⟩ := hin.mp q
    subst v2
    rcases (show v = 0 ∨ v = 1 by omega) with e | e
    · subst e
      obtain ⟨H0, H1, e1, e2⟩ := copyFrom_eq (w' := K0.1) (t0 := K0.2.1) (t1 := K0.2.2.1) h
      obtain ⟨k', d1, d2, d3⟩ := copyS_eq (N0 := 250) (N2 := 500) (o0 := 0) (o2 := 0) f kept (by omega) (by omega) (by decide) (by decide)
      have d1' : fX8_copyState 250 500 f kept 0 (250 * nI 0) = some k' := d1
      refine ⟨(0, vp_updL out 0 (nI mv).toInt64, true, S1, K1.1, K1.2.1, K1.2.2.1, w, H0, H1), (nI mv, setM y 0, k', upd kb 0 1), ?_, ?_, rfl, fun _ => updL_at out 0 _, setM_same y 0, ⟨?_, fun _ => ?_⟩, ⟨?_, fun z => ?_⟩⟩
      · unfold fL_save fX7_save
        rw [if_pos (show nI 0 = 0 from rfl), if_pos (show nI 0 = 0 from rfl), e1, Option.bind_some, hw]
        rfl
      · unfold fX8_save bnd
        rw [if_pos q', refused0]
        dsimp only
        rw [if_neg (by decide), d1', Option.bind_some, if_pos (by decide), moves_eq h.f3, Option.bind_some]
        rfl
      · show upd kb 0 1 0 = _
        rw [updI_at]
        rfl
      · refine ⟨n, rule, mv, ps, pr, c0, c1, ?_⟩
        rw [if_pos rfl, if_pos (show nI 0 = 0 from rfl)]
        refine GR_congr e2 ?_
        intro i hi
        have := d2 i hi
        rw [Nat.zero_add] at this
        exact this
      · show upd kb 0 1 1 = _
        rw [updI_ne (by omega)]
        exact hs1.1
      · rw [if_pos rfl, if_pos (show nI 0 = 0 from rfl)]
        refine gameR_congr (G := (K1.1, K1.2.1, K1.2.2.1, K1.2.2.2)) (hs1.2 z) ?_
        intro i hi
        exact d3 _ (by omega)
    · subst e
      obtain ⟨H0, H1, e1, e2⟩ := copyFrom_eq (w' := K1.1) (t0 := K1.2.1) (t1 := K1.2.2.1) h
      obtain ⟨k', d1, d2, d3⟩ := copyS_eq (N0 := 250) (N2 := 500) (o0 := 0) (o2 := 250) f kept (by omega) (by omega) (by decide) (by decide)
      have d1' : fX8_copyState 250 500 f kept 0 (250 * nI 1) = some k' := d1
      refine ⟨(0, vp_updL out 0 (nI mv).toInt64, S0, true, w, H0, H1, K0.1, K0.2.1, K0.2.2.1), (nI mv, setM y 0, k', upd kb 1 1), ?_, ?_, rfl, fun _ => updL_at out 0 _, setM_same y 0, ⟨?_, fun z => ?_⟩, ⟨?_, fun _ => ?_⟩⟩
      · unfold fL_save fX7_save
        rw [if_neg (show ¬ nI 1 = 0 by decide), if_pos (show nI 1 = 1 from rfl), if_neg (show ¬ nI 1 = 0 by decide), e1, Option.bind_some, hw]
        rfl
      · unfold fX8_save bnd
        rw [if_pos q', refused0]
        dsimp only
        rw [if_neg (by decide), d1', Option.bind_some, if_pos (by decide), moves_eq h.f3, Option.bind_some]
        rfl
      · show upd kb 1 1 0 = _
        rw [updI_ne (by omega)]
        exact hs0.1
      · rw [if_pos rfl, if_neg (show ¬ nI 1 = 0 by decide)]
        refine gameR_congr (G := (K0.1, K0.2.1, K0.2.2.1, K0.2.2.2)) (hs0.2 z) ?_
        intro i hi
        exact d3 _ (by omega)
      · show upd kb 1 1 1 = _
        rw [updI_at]
        rfl
      · refine ⟨n, rule, mv, ps, pr, c0, c1, ?_⟩
        rw [if_pos rfl, if_neg (show ¬ nI 1 = 0 by decide)]
        refine GR_congr e2 ?_
        intro i hi
        have := d2 i hi
        rw [Nat.zero_add] at this
        exact this
  · have z : ∀ v, v ≤ 1 → ¬ p = nI v := fun v hv e => q (hin.mpr ⟨v, hv, e⟩)
    refine ⟨(1, out, S0, S1, K1.1, K1.2.1, K1.2.2.1, K0.1, K0.2.1, K0.2.2.1), (0, setM y 1, kept, kb), ?_, ?_, rfl, fun z => absurd z ne1, setM_same y 1, ?_, ?_⟩
    · unfold fL_save fX7_save
      rw [if_neg (show ¬ p = 0 from z 0 (by omega)), if_neg (show ¬ p = 1 from z 1 (by omega))]
      rfl
    · unfold fX8_save bnd
      rw [if_neg (show ¬ fX8_in p.toInt64 0 1 = true from q), refused1]
      dsimp only
      rw [if_pos rfl]
    · rw [if_neg (show ¬ (1 : Int32) = 0 by decide)]
      exact hs0
    · rw [if_neg (show ¬ (1 : Int32) = 0 by decide)]
      exact hs1
theorem restore_act (hG : gameR (w, b0, b1, g) f) (p : Int32) {o a : Nat} (ha : y.2.2.1 = nI a) (out : Nat → Int64) (S0 S1 : Bool) {kb : Nat → Int32} {K0 K1 : GG} {kept : Nat → Int64} (hs0 : slotR S0 (kb 0) K0 kept) (hs1 : slotR S1 (kb 1) K1 (fun i => kept (250 + i))) :
    ∃ v s, fL_restore out w (nI o, nI a) S0 S1 K1.1 b0 b1 K1.2.1 K1.2.2.1 K0.1 K0.2.1 K0.2.2.1 p = some v ∧ fX8_restore y f kept kb p = some s ∧ s.2.1.1 = v.1 ∧ (v.1 = 0 → v.2.1 0 = s.1.toInt64) ∧ s.2.1.2.1 = y.2.1 ∧ (∃ a', a' ≤ a ∧ v.2.2.2.1 = (nI o, nI a') ∧ s.2.1.2.2.1 = nI a') ∧ gameR (v.2.2.1, v.2.2.2.2.1, v.2.2.2.2.2, if v.1 = 0 then (if p = 0 then K0.2.2.2 else K1.2.2.2) else g) s.2.2 := by
  have hin := in0_iff p (m := 1) (by omega)
  by_cases q : fX8_in p.toInt64 0 (nL 1) = true
  · have q' : fX8_in p.toInt64 0 1 = true := q
    obtain ⟨v, v1, v2⟩ := hin.mp q
    subst v2
    rcases (show v = 0 ∨ v = 1 by omega) with e | e
    · subst e
      cases S0 with
      | false =>
        refine ⟨(2, out, w, (nI o, nI a), b0, b1), (0, setM y 2, f), ?_, ?_, rfl, fun z => absurd z ne2, rfl, ⟨a, Nat.le_refl _, rfl, ha⟩, ?_⟩
        · unfold fL_restore fX7_restore
          rw [if_pos (show nI 0 = 0 from rfl), if_pos (show nI 0 = 0 from rfl), if_neg (by decide)]
          rfl
        · unfold fX8_restore bnd
          rw [if_pos q', if_pos (by decide), if_pos (show kb (nI 0).toNatClampNeg = 0 from hs0.1), refused2]
          dsimp only
          rw [if_pos rfl]
        · rw [if_neg (show ¬ (2 : Int32) = 0 by decide)]
          exact hG
      | true =>
        obtain ⟨n, rule, mv, ps, pr, c0, c1, h⟩ := hs0.2 rfl
        obtain ⟨H0, H1, e1, e2⟩ := copyFrom_eq (w' := w) (t0 := b0) (t1 := b1) h
        obtain ⟨f', d1, d2, d3⟩ := copyS_eq (N0 := 500) (N2 := 250) (o0 := 0) (o2 := 0) kept f (by omega) (by omega) (by decide) (by decide)
        have d1' : fX8_copyState 500 250 kept f (250 * nI 0) 0 = some f' := d1
        have hw : K0.1.2.1 = nI mv := by rw [h.weq]
        have e3 : GR n rule mv ps pr c0 c1 K0.1 H0 H1 K0.2.2.2 f' := by
          refine GR_congr e2 ?_
          intro i hi
          have := d2 i hi
          rw [Nat.zero_add] at this
          exact this
        refine ⟨(0, vp_updL out 0 (nI mv).toInt64, K0.1, (nI o, 0), H0, H1), (nI mv, setA (setM y 0) 0, f'), ?_, ?_, rfl, fun _ => updL_at out 0 _, rfl, ⟨0, Nat.zero_le _, rfl, rfl⟩, ?_⟩
        · unfold fL_restore fX7_restore bnd
          dsimp only
          rw [if_pos (show nI 0 = 0 from rfl), if_pos (show nI 0 = 0 from rfl), if_pos rfl, e1, Option.bind_some]
          dsimp only
          rw [hw]
          rfl
        · unfold fX8_restore bnd
          rw [if_pos q', if_pos (by decide), if_neg (show ¬ kb (nI 0).toNatClampNeg = 0 by
            have := hs0.1
            rw [if_pos rfl] at this
            show ¬ kb 0 = 0
            rw [this]
            decide), refused0]
          dsimp only
          rw [if_neg (by decide), d1', Option.bind_some, moves_eq e3.f3, Option.bind_some]
          rfl
        · rw [if_pos rfl, if_pos (show nI 0 = 0 from rfl)]
          exact ⟨n, rule, mv, ps, pr, c0, c1, e3⟩
    · subst e
      cases S1 with
      | false =>
        refine ⟨(2, out, w, (nI o, nI a), b0, b1), (0, setM y 2, f), ?_, ?_, rfl, fun z => absurd z ne2, rfl, ⟨a, Nat.le_refl _, rfl, ha⟩, ?_⟩
        · unfold fL_restore fX7_restore
          rw [if_neg (show ¬ nI 1 = 0 by decide), if_pos (show nI 1 = 1 from rfl), if_neg (show ¬ nI 1 = 0 by decide), if_neg (by decide)]
          rfl
        · unfold fX8_restore bnd
          rw [if_pos q', if_pos (by decide), if_pos (show kb (nI 1).toNatClampNeg = 0 from hs1.1), refused2]
          dsimp only
          rw [if_pos rfl]
        · rw [if_neg (show ¬ (2 : Int32) = 0 by decide)]
          exact hG
      | true =>
        obtain ⟨n, rule, mv, ps, pr, c0, c1, h⟩ := hs1.2 rfl
        obtain ⟨H0, H1, e1, e2⟩ := copyFrom_eq (w' := w) (t0 := b0) (t1 := b1) h
        obtain ⟨f', d1, d2, d3⟩ := copyS_eq (N0 := 500) (N2 := 250) (o0 := 250) (o2 := 0) kept f (by omega) (by omega) (by decide) (by decide)
        have d1' : fX8_copyState 500 250 kept f (250 * nI 1) 0 = some f' := d1
        have hw : K1.1.2.1 = nI mv := by rw [h.weq]
        have e3 : GR n rule mv ps pr c0 c1 K1.1 H0 H1 K1.2.2.2 f' := by
          refine GR_congr e2 ?_
          intro i hi
          have := d2 i hi
          rw [Nat.zero_add] at this
          exact this
        refine ⟨(0, vp_updL out 0 (nI mv).toInt64, K1.1, (nI o, 0), H0, H1), (nI mv, setA (setM y 0) 0, f'), ?_, ?_, rfl, fun _ => updL_at out 0 _, rfl, ⟨0, Nat.zero_le _, rfl, rfl⟩, ?_⟩
        · unfold fL_restore fX7_restore bnd
          dsimp only
          rw [if_neg (show ¬ nI 1 = 0 by decide), if_pos (show nI 1 = 1 from rfl), if_neg (show ¬ nI 1 = 0 by decide), if_pos rfl, e1, Option.bind_some]
          dsimp only
          rw [hw]
          rfl
        · unfold fX8_restore bnd
          rw [if_pos q', if_pos (by decide), if_neg (show ¬ kb (nI 1).toNatClampNeg = 0 by
            have := hs1.1
            rw [if_pos rfl] at this
            show ¬ kb 1 = 0
            rw [this]
            decide), refused0]
          dsimp only
          rw [if_neg (by decide), d1', Option.bind_some, moves_eq e3.f3, Option.bind_some]
          rfl
        · rw [if_pos rfl, if_neg (show ¬ nI 1 = 0 by decide)]
          exact ⟨n, rule, mv, ps, pr, c0, c1, e3⟩
  · have z : ∀ v, v ≤ 1 → ¬ p = nI v := fun v hv e => q (hin.mpr ⟨v, hv, e⟩)
    refine ⟨(1, out, w, (nI o, nI a), b0, b1), (0, setM y 1, f), ?_, ?_, rfl, fun z => absurd z ne1, rfl, ⟨a, Nat.le_refl _, rfl, ha⟩, ?_⟩
    · unfold fL_restore fX7_restore
      rw [if_neg (show ¬ p = 0 from z 0 (by omega)), if_neg (show ¬ p = 1 from z 1 (by omega))]
      rfl
    · unfold fX8_restore bnd
      rw [if_neg (show ¬ fX8_in p.toInt64 0 1 = true from q), refused1]
      dsimp only
      rw [if_pos rfl]
    · rw [if_neg (show ¬ (1 : Int32) = 0 by decide)]
      exact hG
end LOAD
