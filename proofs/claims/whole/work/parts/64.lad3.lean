/-- the number of games on the reference's heap -/
abbrev gms (y : MSt) : Int32 := y.2.2.2.2.2.2.2.1
theorem updI_at (f : Nat → Int32) (k : Nat) (x : Int32) : upd f k x k = x := by unfold upd; rw [if_pos rfl]
theorem updI_ne {f : Nat → Int32} {k j : Nat} {x : Int32} (h : ¬ j = k) : upd f k x j = f j := by unfold upd; rw [if_neg h]
theorem put_eq {y : MSt} {G : Nat} (hg : gms y = nI G) (hG : G < 40) (fo fc : Nat → Int64) (fl : Nat → Int32) (a b : Int64) (d : Int32) : ∃ y', fX8_put y fo fc fl a b d = some (y', vp_updL fo G a, vp_updL fc G b, upd fl G d) ∧ keepM y y' ∧ gms y' = nI (G + 1) := by
  refine ⟨(y.1, y.2.1, y.2.2.1, y.2.2.2.1, y.2.2.2.2.1, y.2.2.2.2.2.1, y.2.2.2.2.2.2.1, nI G + 1, y.2.2.2.2.2.2.2.2.1, y.2.2.2.2.2.2.2.2.2), ?_, ?_, ?_⟩
  · unfold fX8_put
    rw [show y.2.2.2.2.2.2.2.1 = nI G from hg, if_pos (inB_nI hG (by decide)), if_pos (inB_nI hG (by decide)), if_pos (inB_nI hG (by decide)), nI_clamp (by omega)]
  · exact ⟨rfl, rfl, rfl⟩
  · exact (nI_succ G).symm
section LADM
variable {n k : Nat} {ow ch : Int64}
/-- a trial of the reference: nothing but its four places changes -/
theorem lays_keep {a b : Int64} {p : Nat} (h : okN n) (hp : p < n * n) (hpo : posOK n a b) (ha : ¬ tb a p = true) (hb : ¬ tb b p = true) (y : MSt) :
    ∃ y', fX8_lays y (nI n) a b (nI p) = some ((if lb n (a ||| pt p) (b &&& (tk n a b (pt p) ^^^ (-1))) (pt p) = 0 then false else true), y') ∧ keepM y y' ∧ gms y' = gms y ∧ y'.2.2.2.1 = a ||| pt p ∧ y'.2.2.2.2.1 = b &&& (tk n a b (pt p) ^^^ (-1)) :=
  ⟨_, lays_eq h hp hpo ha hb y, ⟨rfl, rfl, rfl⟩, rfl, rfl, rfl⟩
/-- what a turn of the owner or the chaser's stone gives: 0, 1, or a game more on the heap -/
def ladOut (n k lf G : Nat) (ok : Bool) (y : MSt) (fo fc : Nat → Int64) (fl : Nat → Int32) (r : Option (Int32 × MSt × (Nat → Int64) × (Nat → Int64) × (Nat → Int32))) : Prop :=
  (ok = false ∧ ∃ y', r = some (0, y', fo, fc, fl) ∧ keepM y y' ∧ gms y' = nI G) ∨
  (ok = true ∧ ∃ y', r = some (1, y', fo, fc, fl) ∧ keepM y y' ∧ gms y' = nI G) ∨
  (∃ y' ow' ch', r = some (-1, y', vp_updL fo G ow', vp_updL fc G ch', upd fl G (nI lf)) ∧ keepM y y' ∧ gms y' = nI (G + 1) ∧ posOK n ow' ch' ∧ tb ow' k = true ∧ ok = !decide (ladF n k lf ow' ch' = 0))
theorem owner_m (h : okN n) (hk : k < n * n) (hp : posOK n ow ch) (hko : tb ow k = true) {G : Nat} (lf : Nat) (hG : G < 40) {y : MSt} (hg : gms y = nI G) (fo fc : Nat → Int64) (fl : Nat → Int32) :
    ladOut n k lf G (ladO n k (ladF n k lf) ow ch) y fo fc fl (fX8_ownerTurn y fo fc fl (nI n) (nI k) ow ch (nI lf)) := by
  have hs := okN_sq h
  have k64 : k < 64 := by omega
  have hc := cn_le (lb n ow ch (pt k)) 49
  have e1 : (nI (cn (lb n ow ch (pt k)) 49) = 1) ↔ cn (lb n ow ch (pt k)) 49 = 1 := nI_eq_iff (b := 1) (by omega) (by omega)
  have hC : sb (cl n ow (pt k)) (mA n) := sb_trans (cl_sb h hp.1) hp.1
  have hCo : sb (cl n ow (pt k)) (ow ||| ch) := sb_trans (cl_sb h hp.1) (sb_orl _ _)
  have L1 : fX8_liberties (nI n) (cl n ow (pt k)) (ow ||| ch) = some (lb n ow ch (pt k)) := mlib_eq h hC hCo
  unfold fX8_ownerTurn ladO
  rw [shl_pt, grown_eq h hp.1 ((pt_sb k64).mpr hko), Option.bind_some, L1, Option.bind_some, bits_eq, Option.bind_some]
  by_cases o : cn (lb n ow ch (pt k)) 49 = 1
  · have x0 : ¬ lb n ow ch (pt k) = 0 := by
      intro z
      rw [z, cn_zero] at o
      omega
    obtain ⟨p, p1, p2, p3, p4, p5⟩ := lowest_ex h lb_sb x0
    have hpe := one_pt h lb_sb p3 o
    obtain ⟨_, _, q3, q4⟩ := m_lb.mp p3
    obtain ⟨y1, l1, l2, l3, l4, l5⟩ := lays_keep h p1 hp q3 q4 y
    have hA : sb (ow ||| pt p) (mA n) := sb_or hp.1 (pt_mA h p1)
    have hj := joins h hp hko p3
    rw [if_pos (e1.mpr o), if_pos o, p5, Option.bind_some, hpe]
    by_cases z : lb n (ow ||| pt p) (ch &&& (tk n ow ch (pt p) ^^^ (-1))) (pt p) = 0
    · rw [if_pos z] at l1
      rw [if_pos z, l1, Option.bind_some]
      exact .inr (.inl ⟨rfl, y1, rfl, l2, l3.trans hg⟩)
    · rw [if_neg z] at l1
      have hnp := (lay_new h p1 hp q3 q4).2 z
      have hko' : tb (ow ||| pt p) k = true := m_or.mpr (.inl hko)
      have hC2 : sb (cl n (ow ||| pt p) (pt k)) (mA n) := sb_trans (cl_sb h hA) hA
      have L2 : fX8_liberties (nI n) (cl n (ow ||| pt p) (pt k)) ((ow ||| pt p) ||| (ch &&& (tk n ow ch (pt p) ^^^ (-1)))) = some (lb n (ow ||| pt p) (ch &&& (tk n ow ch (pt p) ^^^ (-1))) (pt k)) := mlib_eq h hC2 (sb_trans (cl_sb h hA) (sb_orl _ _))
      have hle : lb n (ow ||| pt p) (ch &&& (tk n ow ch (pt p) ^^^ (-1))) (pt p) = lb n (ow ||| pt p) (ch &&& (tk n ow ch (pt p) ^^^ (-1))) (pt k) := by
        unfold lb
        rw [hj]
      have hc2 := cn_le (lb n (ow ||| pt p) (ch &&& (tk n ow ch (pt p) ^^^ (-1))) (pt k)) 49
      have f1 : (nI (cn (lb n (ow ||| pt p) (ch &&& (tk n ow ch (pt p) ^^^ (-1))) (pt k)) 49) = 1) ↔ cn (lb n (ow ||| pt p) (ch &&& (tk n ow ch (pt p) ^^^ (-1))) (pt k)) 49 = 1 := nI_eq_iff (b := 1) (by omega) (by omega)
      have f2 : (nI (cn (lb n (ow ||| pt p) (ch &&& (tk n ow ch (pt p) ^^^ (-1))) (pt k)) 49) = 2) ↔ cn (lb n (ow ||| pt p) (ch &&& (tk n ow ch (pt p) ^^^ (-1))) (pt k)) 49 = 2 := nI_eq_iff (b := 2) (by omega) (by omega)
      have hg1 : gms y1 = nI G := l3.trans hg
      obtain ⟨y2, t1, t2, t3⟩ := put_eq hg1 hG fo fc fl (ow ||| pt p) (ch &&& (tk n ow ch (pt p) ^^^ (-1))) (nI lf)
      rw [if_neg z, l1, Option.bind_some]
      dsimp only
      rw [if_pos (show true = true from rfl), l4, l5, grown_eq h hA ((pt_sb k64).mpr hko'), Option.bind_some, L2, Option.bind_some, bits_eq, Option.bind_some]
      by_cases d1 : cn (lb n (ow ||| pt p) (ch &&& (tk n ow ch (pt p) ^^^ (-1))) (pt k)) 49 = 1
      · rw [if_pos (f1.mpr d1), t1, Option.bind_some]
        exact .inr (.inr ⟨y2, _, _, rfl, keepM_trans l2 t2, t3, hnp, hko', rfl⟩)
      · rw [if_neg (fun r => d1 (f1.mp r))]
        by_cases d2 : cn (lb n (ow ||| pt p) (ch &&& (tk n ow ch (pt p) ^^^ (-1))) (pt k)) 49 = 2
        · rw [if_pos (f2.mpr d2), t1, Option.bind_some]
          exact .inr (.inr ⟨y2, _, _, rfl, keepM_trans l2 t2, t3, hnp, hko', rfl⟩)
        · rw [if_neg (fun r => d2 (f2.mp r))]
          refine .inl ⟨?_, y1, rfl, l2, l3.trans hg⟩
          have n0 : ¬ cn (lb n (ow ||| pt p) (ch &&& (tk n ow ch (pt p) ^^^ (-1))) (pt k)) 49 = 0 := by
            intro r
            rw [hle] at z
            exact z (cn_eq0 h lb_sb r)
          have z0 : ladF n k lf (ow ||| pt p) (ch &&& (tk n ow ch (pt p) ^^^ (-1))) = 0 := by
            cases lf with
            | zero => rfl
            | succ d =>
              unfold ladF
              rw [if_neg (by omega)]
          rw [decide_eq_true z0]
          rfl
  · rw [if_neg (fun r => o (e1.mp r)), if_neg o]
    exact .inl ⟨rfl, y, rfl, keepM_refl y, hg⟩
/-- may the chaser, with d stones, make it work by a stone at a -/
def okC (n k d : Nat) (ow ch : Int64) (one : Bool) (a : Int64) : Bool := match d with
  | 0 => false
  | d + 1 => okF n (ladO n k (ladF n k d)) ow ch one a
theorem chaser_m (h : okN n) (hk : k < n * n) (hp : posOK n ow ch) (hko : tb ow k = true) {G : Nat} (d : Nat) (hd : d < 64) (hG : G < 40) {y : MSt} (hg : gms y = nI G) (fo fc : Nat → Int64) (fl : Nat → Int32) {p : Nat} (hpl : tb (lb n ow ch (pt k)) p = true) :
    ladOut n k (d - 1) G (okC n k d ow ch (decide (cn (lb n ow ch (pt k)) 49 = 1)) (pt p)) y fo fc fl (fX8_chaserLays y fo fc fl (nI n) (nI k) ow ch (nI d) (nI p) (decide (cn (lb n ow ch (pt k)) 49 = 1))) := by
  have hs := okN_sq h
  have k64 : k < 64 := by omega
  have p64 := tb_lt hpl
  have hpn := (sbA h).mp lb_sb p hpl
  obtain ⟨_, _, q3, q4⟩ := m_lb.mp hpl
  unfold fX8_chaserLays
  cases d with
  | zero =>
    rw [if_pos (show nI 0 = 0 from rfl)]
    exact .inl ⟨rfl, y, rfl, keepM_refl y, hg⟩
  | succ d =>
    rw [if_neg (show ¬ nI (d + 1) = 0 from fun z => by have := (nI_eq0 (c := d + 1) (by omega)).mp z; omega)]
    obtain ⟨y1, l1, l2, l3, l4, l5⟩ := lays_keep h hpn (posOK_sym hp) q4 q3 y
    dsimp only [okC]
    unfold okF
    by_cases z : lb n (ch ||| pt p) (ow &&& (tk n ch ow (pt p) ^^^ (-1))) (pt p) = 0
    · rw [if_pos z] at l1
      rw [if_pos z, l1, Option.bind_some]
      exact .inl ⟨rfl, y1, rfl, l2, l3.trans hg⟩
    · rw [if_neg z] at l1
      rw [if_neg z, l1, Option.bind_some]
      dsimp only
      rw [if_pos (show true = true from rfl)]
      by_cases o : cn (lb n ow ch (pt k)) 49 = 1
      · rw [if_pos (decide_eq_true o), if_pos (decide_eq_true o)]
        exact .inr (.inl ⟨rfl, y1, rfl, l2, l3.trans hg⟩)
      · have o' : ¬ decide (cn (lb n ow ch (pt k)) 49 = 1) = true := fun r => o (of_decide_eq_true r)
        have hnp := posOK_sym ((lay_new h hpn (posOK_sym hp) q4 q3).2 z)
        obtain ⟨q, hq1, hq2⟩ : ∃ q, tb (lb n ow ch (pt k)) q = true ∧ ¬ q = p := by
          apply Classical.byContradiction
          intro no
          have : lb n ow ch (pt k) = pt p := by
            apply m_ext
            intro i
            rw [m_pt p64]
            constructor
            · intro r
              apply Classical.byContradiction
              intro c
              exact no ⟨i, r, c⟩
            · intro r
              subst r
              exact hpl
          rw [this, cn_pt p64, if_pos (by omega)] at o
          exact o rfl
        have hkp := keeps h hp hko p64 hq1 hq2
        have hm := owner_m h hk hnp (keeps_k h hp hko hkp) d hG (y := y1) (l3.trans hg) fo fc fl
        rw [if_neg o', if_neg o', l4, l5, show nI (d + 1) - 1 = nI d from nI_sub (a := d + 1) (b := 1) (by omega)]
        rcases hm with ⟨m1, y', m2, m3, m4⟩ | ⟨m1, y', m2, m3, m4⟩ | ⟨y', a', b', m2, m3, m4, m5, m6, m7⟩
        · rw [m2]
          exact .inl ⟨m1, y', rfl, keepM_trans l2 m3, m4⟩
        · rw [m2]
          exact .inr (.inl ⟨m1, y', rfl, keepM_trans l2 m3, m4⟩)
        · rw [m2]
          exact .inr (.inr ⟨y', a', b', rfl, keepM_trans l2 m3, m4, m5, m6, m7⟩)
end LADM
