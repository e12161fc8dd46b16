/-- the stones left in game i of the heap -/
def gd (fl : Nat → Int32) (i : Nat) : Nat := (fl i).toNatClampNeg
/-- does the ladder work in any of the first G games -/
def anyW (n k : Nat) (fo fc : Nat → Int64) (fl : Nat → Int32) : Nat → Bool
  | 0 => false
  | G + 1 => anyW n k fo fc fl G || !decide (ladF n k (gd fl G) (fo G) (fc G) = 0)
def wt (fl : Nat → Int32) : Nat → Nat
  | 0 => 0
  | G + 1 => wt fl G + (2 ^ (gd fl G + 1) - 1)
def SK (n k : Nat) (fo fc : Nat → Int64) (fl : Nat → Int32) : Nat → Prop
  | 0 => True
  | G + 1 => SK n k fo fc fl G ∧ fl G = nI (gd fl G) ∧ G + gd fl G ≤ 12 ∧ posOK n (fo G) (fc G) ∧ tb (fo G) k = true
section HEAP
variable {n k : Nat} {fo fc : Nat → Int64} {fl : Nat → Int32} {a b : Int64} {d : Nat}
theorem gd_upd (G : Nat) (hd : d < 64) : gd (upd fl G (nI d)) G = d := by
  unfold gd
  rw [updI_at, nI_clamp (by omega)]
theorem gd_ne {G i : Nat} {x : Int32} (h : ¬ i = G) : gd (upd fl G x) i = gd fl i := by
  unfold gd
  rw [updI_ne h]
theorem anyW_push {x : Int32} : ∀ G H, G ≤ H → anyW n k (vp_updL fo H a) (vp_updL fc H b) (upd fl H x) G = anyW n k fo fc fl G := by
  intro G
  induction G with
  | zero => intro H _; rfl
  | succ G ih =>
    intro H hH
    unfold anyW
    rw [ih H (by omega), gd_ne (by omega), updL_ne (by omega), updL_ne (by omega)]
theorem wt_push {x : Int32} : ∀ G H, G ≤ H → wt (upd fl H x) G = wt fl G := by
  intro G
  induction G with
  | zero => intro H _; rfl
  | succ G ih =>
    intro H hH
    unfold wt
    rw [ih H (by omega), gd_ne (by omega)]
theorem SK_push {x : Int32} : ∀ G H, G ≤ H → SK n k fo fc fl G → SK n k (vp_updL fo H a) (vp_updL fc H b) (upd fl H x) G := by
  intro G
  induction G with
  | zero => intro H _ h; exact h
  | succ G ih =>
    intro H hH h
    unfold SK at h ⊢
    rw [gd_ne (by omega), updL_ne (by omega), updL_ne (by omega), updI_ne (by omega)]
    exact ⟨ih H (by omega) h.1, h.2⟩
theorem push_all {G : Nat} (hs : SK n k fo fc fl G) (hd : d < 64) (hG : G + d ≤ 12) (hp : posOK n a b) (hk : tb a k = true) :
    SK n k (vp_updL fo G a) (vp_updL fc G b) (upd fl G (nI d)) (G + 1) ∧ wt (upd fl G (nI d)) (G + 1) = wt fl G + (2 ^ (d + 1) - 1) ∧ anyW n k (vp_updL fo G a) (vp_updL fc G b) (upd fl G (nI d)) (G + 1) = (anyW n k fo fc fl G || !decide (ladF n k d a b = 0)) := by
  refine ⟨?_, ?_, ?_⟩
  · unfold SK
    rw [gd_upd G hd, updL_at, updL_at, updI_at]
    exact ⟨SK_push G G (Nat.le_refl _) hs, rfl, hG, hp, hk⟩
  · show wt (upd fl G (nI d)) G + (2 ^ (gd (upd fl G (nI d)) G + 1) - 1) = _
    rw [gd_upd G hd, wt_push G G (Nat.le_refl _)]
  · show (anyW n k _ _ _ G || !decide (ladF n k (gd _ G) _ _ = 0)) = _
    rw [gd_upd G hd, updL_at, updL_at, anyW_push G G (Nat.le_refl _)]
theorem ladS_none (ok : Int64 → Bool) (h : ∀ a, ok a = false) : ∀ c x, ladS ok c x = 0 := by
  intro c
  induction c with
  | zero => intro x; rfl
  | succ c ih =>
    intro x
    unfold ladS
    rw [h, if_neg (by decide)]
    exact ih _
theorem ladF_eq (n k d : Nat) (ow ch : Int64) : ladF n k d ow ch = if cn (lb n ow ch (pt k)) 49 ≤ 2 then ladS (okC n k d ow ch (decide (cn (lb n ow ch (pt k)) 49 = 1))) (cn (lb n ow ch (pt k)) 49) (lb n ow ch (pt k)) else 0 := by
  cases d with
  | zero =>
    rw [ladS_none (okC n k 0 ow ch (decide (cn (lb n ow ch (pt k)) 49 = 1))) (fun _ => rfl)]
    split <;> rfl
  | succ d => rfl
end HEAP
section WORKS
variable {n k : Nat} {ow ch : Int64}
/-- the two or fewer stones of the chaser in one game -/
theorem works_in (h : okN n) (hk : k < n * n) (hp : posOK n ow ch) (hko : tb ow k = true) {d : Nat} (hd : d < 64) {w : MSt} {f1 f2 : Nat → Int64} {f3 : Nat → Int32} (k0 : MSt → (Nat → Int64) → (Nat → Int64) → (Nat → Int32) → Option (Bool × MSt × (Nat → Int64) × (Nat → Int64) × (Nat → Int32))) (hm : cn (lb n ow ch (pt k)) 49 ≤ 2) :
    ∀ (c fu i G : Nat) (x : Int64) (y : MSt) (fo fc : Nat → Int64) (fl : Nat → Int32), i + c = cn (lb n ow ch (pt k)) 49 → c + 1 ≤ fu → sb x (lb n ow ch (pt k)) → cn x 49 = c → G + c + d ≤ 14 → gms y = nI G → SK n k fo fc fl G →
    (∃ y' fo' fc' fl', fX8_works_77 w f1 f2 f3 (nI n) (nI k) k0 fu ow ch (nI d) x (nI (cn (lb n ow ch (pt k)) 49)) (nI i) y fo fc fl = some (true, y', fo', fc', fl') ∧ keepM y y' ∧ ¬ ladS (okC n k d ow ch (decide (cn (lb n ow ch (pt k)) 49 = 1))) c x = 0) ∨
    (∃ G' y' fo' fc' fl', fX8_works_77 w f1 f2 f3 (nI n) (nI k) k0 fu ow ch (nI d) x (nI (cn (lb n ow ch (pt k)) 49)) (nI i) y fo fc fl = k0 y' fo' fc' fl' ∧ keepM y y' ∧ gms y' = nI G' ∧ SK n k fo' fc' fl' G' ∧ wt fl' G' ≤ wt fl G + c * (2 ^ d - 1) ∧ anyW n k fo' fc' fl' G' = (anyW n k fo fc fl G || !decide (ladS (okC n k d ow ch (decide (cn (lb n ow ch (pt k)) 49 = 1))) c x = 0))) := by
  intro c
  induction c with
  | zero =>
    intro fu i G x y fo fc fl hi hf hx hc hG hg hsk
    obtain ⟨fu, rfl⟩ : ∃ f, fu = f + 1 := ⟨fu - 1, by omega⟩
    have e : i = cn (lb n ow ch (pt k)) 49 := by omega
    subst e
    refine .inr ⟨G, y, fo, fc, fl, ?_, keepM_refl y, hg, hsk, by omega, ?_⟩
    · unfold fX8_works_77
      rw [if_pos (nI_le (Nat.le_refl _) (by omega))]
    · show _ = (anyW n k fo fc fl G || !decide ((0 : Int64) = 0))
      rw [decide_eq_true rfl]
      exact (Bool.or_false _).symm
  | succ c ih =>
    intro fu i G x y fo fc fl hi hf hx hc hG hg hsk
    obtain ⟨fu, rfl⟩ : ∃ f, fu = f + 1 := ⟨fu - 1, by omega⟩
    have hxA : sb x (mA n) := sb_trans hx lb_sb
    have x0 : ¬ x = 0 := by
      intro z
      rw [z, cn_zero] at hc
      omega
    obtain ⟨p, p1, p2, p3, p4, p5⟩ := lowest_ex h hxA x0
    have hpl := hx p p3
    have hdr := cn_drop1 h hxA p3
    have hx' : sb (x ^^^ pt p) (lb n ow ch (pt k)) := fun j q => hx j ((m_xlow p2 p3).mp q).1
    have e1 : (nI (cn (lb n ow ch (pt k)) 49) = 1) ↔ cn (lb n ow ch (pt k)) 49 = 1 := nI_eq_iff (b := 1) (by omega) (by omega)
    have hm3 : ¬ (3 : Int32) ≤ nI (cn (lb n ow ch (pt k)) 49) := fun z => by
      have := (nI_le_iff (a := 3) (by omega) (by omega)).mp z
      omega
    have hout := chaser_m h hk hp hko d hd (G := G) (by omega) hg fo fc fl hpl
    have hun : fX8_works_77 w f1 f2 f3 (nI n) (nI k) k0 (fu + 1) ow ch (nI d) x (nI (cn (lb n ow ch (pt k)) 49)) (nI i) y fo fc fl = (fX8_chaserLays y fo fc fl (nI n) (nI k) ow ch (nI d) (nI p) (decide (cn (lb n ow ch (pt k)) 49 = 1))).bind (fun r => if r.1 = 1 then some (true, r.2.1, r.2.2.1, r.2.2.2.1, r.2.2.2.2) else fX8_works_77 w f1 f2 f3 (nI n) (nI k) k0 fu ow ch (nI d) (x ^^^ pt p) (nI (cn (lb n ow ch (pt k)) 49)) (nI (i + 1)) r.2.1 r.2.2.1 r.2.2.2.1 r.2.2.2.2) := by
      rw [fX8_works_77]
      rw [if_neg (nI_ge (by omega) (by omega)), if_neg hm3, p5, Option.bind_some, drop_low, p4, ← nI_succ]
      by_cases o : cn (lb n ow ch (pt k)) 49 = 1
      · rw [if_pos (e1.mpr o), decide_eq_true o]
      · rw [if_neg (fun z => o (e1.mp z)), decide_eq_false o]
    rw [hun]
    have hS : ladS (okC n k d ow ch (decide (cn (lb n ow ch (pt k)) 49 = 1))) (c + 1) x = if okC n k d ow ch (decide (cn (lb n ow ch (pt k)) 49 = 1)) (pt p) = true then pt p else ladS (okC n k d ow ch (decide (cn (lb n ow ch (pt k)) 49 = 1))) c (x ^^^ pt p) := by
      rw [ladS, p4]
    rw [hS]
    have hpn0 := pt_ne0 p2
    have hmul : (c + 1) * (2 ^ d - 1) = c * (2 ^ d - 1) + (2 ^ d - 1) := Nat.succ_mul _ _
    rcases hout with ⟨m1, y1, m2, m3, m4⟩ | ⟨m1, y1, m2, m3, m4⟩ | ⟨y1, a', b', m2, m3, m4, m5, m6, m7⟩
    · rw [m2, Option.bind_some, m1, if_neg (show ¬ false = true by decide)]
      rw [if_neg (show ¬ (0 : Int32) = 1 by decide)]
      rcases ih fu (i + 1) G (x ^^^ pt p) y1 fo fc fl (by omega) (by omega) hx' (by omega) (by omega) m4 hsk with ⟨y', fo', fc', fl', g1, g2, g3⟩ | ⟨G', y', fo', fc', fl', g1, g2, g3, g4, g5, g6⟩
      · exact .inl ⟨y', fo', fc', fl', g1, keepM_trans m3 g2, g3⟩
      · exact .inr ⟨G', y', fo', fc', fl', g1, keepM_trans m3 g2, g3, g4, by omega, g6⟩
    · rw [m2, Option.bind_some, m1, if_pos (show true = true from rfl)]
      rw [if_pos (show (1 : Int32) = 1 from rfl)]
      exact .inl ⟨y1, fo, fc, fl, rfl, m3, hpn0⟩
    · rw [m2, Option.bind_some]
      rw [if_neg (show ¬ (-1 : Int32) = 1 by decide)]
      have hd1 : 1 ≤ d := by
        cases d with
        | zero =>
          exfalso
          unfold fX8_chaserLays at m2
          rw [if_pos (show nI 0 = 0 from rfl)] at m2
          have := congrArg (fun r => r.map (fun s => s.1)) m2
          cases this
        | succ d => omega
      obtain ⟨s1, s2, s3⟩ := push_all (d := d - 1) hsk (by omega) (by omega) m5 m6
      have hdd : d - 1 + 1 = d := by omega
      rw [hdd] at s2
      rcases ih fu (i + 1) (G + 1) (x ^^^ pt p) y1 _ _ _ (by omega) (by omega) hx' (by omega) (by omega) m4 s1 with ⟨y', fo', fc', fl', g1, g2, g3⟩ | ⟨G', y', fo', fc', fl', g1, g2, g3, g4, g5, g6⟩
      · refine .inl ⟨y', fo', fc', fl', g1, keepM_trans m3 g2, ?_⟩
        split
        · exact hpn0
        · exact g3
      · refine .inr ⟨G', y', fo', fc', fl', g1, keepM_trans m3 g2, g3, g4, ?_, ?_⟩
        · rw [s2] at g5
          omega
        · rw [g6, s3, m7]
          by_cases t : ladF n k (d - 1) a' b' = 0
          · rw [decide_eq_true t, if_neg (by decide)]
            rw [show (!true) = false from rfl, Bool.or_false]
          · rw [decide_eq_false t, if_pos (by decide), decide_eq_false hpn0]
            rw [show (!false) = true from rfl, Bool.or_true, Bool.true_or]
/-- all games of the heap -/
theorem works_eq (h : okN n) (hk : k < n * n) {w : MSt} {f1 f2 : Nat → Int64} {f3 : Nat → Int32} : ∀ (fu G : Nat) (y : MSt) (fo fc : Nat → Int64) (fl : Nat → Int32), gms y = nI G → SK n k fo fc fl G → wt fl G < fu →
    ∃ y' fo' fc' fl', fX8_works_0 w f1 f2 f3 (nI n) (nI k) fu y fo fc fl = some (anyW n k fo fc fl G, y', fo', fc', fl') ∧ keepM y y' := by
  have hs := okN_sq h
  have k64 : k < 64 := by omega
  intro fu
  induction fu with
  | zero => intro G y fo fc fl _ _ hw; omega
  | succ fu ih =>
    intro G y fo fc fl hg hsk hw
    cases G with
    | zero =>
      refine ⟨y, fo, fc, fl, ?_, keepM_refl y⟩
      unfold fX8_works_0
      rw [show y.2.2.2.2.2.2.2.1 = nI 0 from hg, if_pos (by decide)]
      rfl
    | succ G =>
      obtain ⟨sk1, sk2, sk3, sk4, sk5⟩ := hsk
      have hwt : wt fl (G + 1) = wt fl G + (2 ^ (gd fl G + 1) - 1) := rfl
      have hpow : 2 ^ (gd fl G + 1) = 2 * 2 ^ gd fl G := Nat.pow_succ'
      have hpos : 0 < 2 ^ gd fl G := Nat.two_pow_pos _
      have hd64 : gd fl G < 64 := by omega
      have hc := cn_le (lb n (fo G) (fc G) (pt k)) 49
      have L1 : fX8_liberties (nI n) (cl n (fo G) (pt k)) (fo G ||| fc G) = some (lb n (fo G) (fc G) (pt k)) := mlib_eq h (sb_trans (cl_sb h sk4.1) sk4.1) (sb_trans (cl_sb h sk4.1) (sb_orl _ _))
      have hany : anyW n k fo fc fl (G + 1) = (anyW n k fo fc fl G || !decide (ladF n k (gd fl G) (fo G) (fc G) = 0)) := rfl
      rw [hany, ladF_eq]
      generalize hy2 : (y.1, y.2.1, y.2.2.1, y.2.2.2.1, y.2.2.2.2.1, y.2.2.2.2.2.1, y.2.2.2.2.2.2.1, nI G, y.2.2.2.2.2.2.2.2.1, y.2.2.2.2.2.2.2.2.2) = y2
      have hk2 : keepM y y2 := by
        subst hy2
        exact ⟨rfl, rfl, rfl⟩
      have hg2 : gms y2 = nI G := by
        subst hy2
        rfl
      have hun : fX8_works_0 w f1 f2 f3 (nI n) (nI k) (fu + 1) y fo fc fl = fX8_works_77 w f1 f2 f3 (nI n) (nI k) (fX8_works_0 w f1 f2 f3 (nI n) (nI k) fu) 5000 (fo G) (fc G) (nI (gd fl G)) (lb n (fo G) (fc G) (pt k)) (nI (cn (lb n (fo G) (fc G) (pt k)) 49)) (nI 0) y2 fo fc fl := by
        rw [fX8_works_0]
        unfold bnd
        dsimp only
        rw [show y.2.2.2.2.2.2.2.1 = nI (G + 1) from hg, if_neg (show ¬ nI (G + 1) ≤ 0 from fun z => by have := (nI_le_iff (a := G + 1) (b := 0) (by omega) (by omega)).mp z; omega), show nI (G + 1) - 1 = nI G from nI_sub (a := G + 1) (b := 1) (by omega), if_pos (inB_nI (by omega) (by decide)), if_pos (inB_nI (by omega) (by decide)), if_pos (inB_nI (by omega) (by decide)), nI_clamp (by omega), shl_pt, grown_eq h sk4.1 ((pt_sb k64).mpr sk5), Option.bind_some, L1, Option.bind_some, bits_eq, Option.bind_some, ← hy2, ← sk2]
        rfl
      rw [hun]
      by_cases o : cn (lb n (fo G) (fc G) (pt k)) 49 ≤ 2
      · rw [if_pos o]
        rcases works_in h hk sk4 sk5 hd64 (w := w) (f1 := f1) (f2 := f2) (f3 := f3) (fX8_works_0 w f1 f2 f3 (nI n) (nI k) fu) o (cn (lb n (fo G) (fc G) (pt k)) 49) 5000 0 G (lb n (fo G) (fc G) (pt k)) y2 fo fc fl (by omega) (by omega) (sb_refl _) rfl (by omega) hg2 sk1 with ⟨y', fo', fc', fl', g1, g2, g3⟩ | ⟨G', y', fo', fc', fl', g1, g2, g3, g4, g5, g6⟩
        · refine ⟨y', fo', fc', fl', ?_, keepM_trans hk2 g2⟩
          rw [g1, decide_eq_false g3]
          rw [show (!false) = true from rfl, Bool.or_true]
        · have hle : cn (lb n (fo G) (fc G) (pt k)) 49 * (2 ^ gd fl G - 1) ≤ 2 * (2 ^ gd fl G - 1) := Nat.mul_le_mul_right _ o
          obtain ⟨y3, fo3, fc3, fl3, r1, r2⟩ := ih G' y' fo' fc' fl' g3 g4 (by omega)
          refine ⟨y3, fo3, fc3, fl3, ?_, keepM_trans hk2 (keepM_trans g2 r2)⟩
          rw [g1, r1, g6]
      · rw [if_neg o]
        obtain ⟨y3, fo3, fc3, fl3, r1, r2⟩ := ih G y2 fo fc fl hg2 sk1 (by omega)
        refine ⟨y3, fo3, fc3, fl3, ?_, keepM_trans hk2 r2⟩
        rw [fX8_works_77]
        by_cases q : nI (cn (lb n (fo G) (fc G) (pt k)) 49) ≤ nI 0
        · rw [if_pos q, r1, decide_eq_true rfl]
          rw [show (!true) = false from rfl, Bool.or_false]
        · rw [if_neg q, if_pos (show (3 : Int32) ≤ nI (cn (lb n (fo G) (fc G) (pt k)) 49) from nI_le (a := 3) (by omega) (by omega)), r1, decide_eq_true rfl]
          rw [show (!true) = false from rfl, Bool.or_false]
theorem works_one (h : okN n) (hk : k < n * n) (hp : posOK n ow ch) (hko : tb ow k = true) {d : Nat} (hd : d ≤ 12) {y : MSt} (hg : gms y = nI 1) {fo fc : Nat → Int64} {fl : Nat → Int32} (h0 : fo 0 = ow) (h1 : fc 0 = ch) (h2 : fl 0 = nI d) :
    ∃ y' fo' fc' fl', fX8_works y fo fc fl (nI n) (nI k) = some (!decide (ladF n k d ow ch = 0), y', fo', fc', fl') ∧ keepM y y' := by
  have hgd : gd fl 0 = d := by
    unfold gd
    rw [h2, nI_clamp (by omega)]
  have hp13 : 2 ^ (d + 1) ≤ 2 ^ 13 := Nat.pow_le_pow_right (by omega) (by omega)
  have hw : wt fl 1 = 0 + (2 ^ (gd fl 0 + 1) - 1) := rfl
  rw [hgd] at hw
  obtain ⟨y', fo', fc', fl', r1, r2⟩ := works_eq h hk (w := y) (f1 := fo) (f2 := fc) (f3 := fl) 9000 1 y fo fc fl hg (by
    refine ⟨trivial, ?_, ?_, ?_, ?_⟩
    · rw [hgd]; exact h2
    · show 0 + gd fl 0 ≤ 12
      rw [hgd, Nat.zero_add]
      exact hd
    · rw [h0, h1]; exact hp
    · rw [h0]; exact hko) (by rw [hw]; omega)
  refine ⟨y', fo', fc', fl', ?_, r2⟩
  unfold fX8_works
  rw [r1]
  have : anyW n k fo fc fl 1 = (false || !decide (ladF n k (gd fl 0) (fo 0) (fc 0) = 0)) := rfl
  rw [this, hgd, h0, h1, Bool.false_or]
end WORKS
