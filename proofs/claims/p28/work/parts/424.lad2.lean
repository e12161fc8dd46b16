/-- the first of c points of x that is ok, as a set -/
def ladS (ok : Int64 → Bool) : Nat → Int64 → Int64
  | 0, _ => 0
  | c + 1, x => if ok (low x) = true then low x else ladS ok c (x ^^^ low x)
/-- may the chaser lay at a, and does it help -/
def okF (n : Nat) (H : Int64 → Int64 → Bool) (ow ch : Int64) (one : Bool) (a : Int64) : Bool :=
  if lb n (ch ||| a) (ow &&& (tk n ch ow a ^^^ (-1))) a = 0 then false else if one = true then true else H (ow &&& (tk n ch ow a ^^^ (-1))) (ch ||| a)
/-- the ladder on the group of k works if its owner has the turn; F: the chaser's first stone behind that -/
def ladO (n k : Nat) (F : Int64 → Int64 → Int64) (ow ch : Int64) : Bool :=
  if cn (lb n ow ch (pt k)) 49 = 1 then (if lb n (ow ||| lb n ow ch (pt k)) (ch &&& (tk n ow ch (lb n ow ch (pt k)) ^^^ (-1))) (lb n ow ch (pt k)) = 0 then true else !decide (F (ow ||| lb n ow ch (pt k)) (ch &&& (tk n ow ch (lb n ow ch (pt k)) ^^^ (-1))) = 0)) else false
/-- the chaser's first stone in the ladder on the group of k, with d stones to lay -/
def ladF (n k : Nat) : Nat → Int64 → Int64 → Int64
  | 0 => fun _ _ => 0
  | d + 1 => fun ow ch => if cn (lb n ow ch (pt k)) 49 ≤ 2 then ladS (okF n (ladO n k (ladF n k d)) ow ch (decide (cn (lb n ow ch (pt k)) 49 = 1))) (cn (lb n ow ch (pt k)) 49) (lb n ow ch (pt k)) else 0
theorem fLad_F (m : Nat) (w : RSt) (a b c : Int64) (d : Int32) : (fLad (m + 1)).1 w a b c d = fX3_firstStone (fLad m).2 w a b c d := rfl
theorem fLad_O (m : Nat) (w : RSt) (a b c : Int64) (d : Int32) : (fLad (m + 1)).2 w a b c d = fX3_holdsOwner (fLad m).1 w a b c d := rfl
section LADC
variable {n k : Nat} {ow ch S : Int64}
theorem first_loop (h : okN n) (hp : posOK n ow ch) (HO : RSt → Int64 → Int64 → Int64 → Int32 → Option Bool) (H : Int64 → Int64 → Bool) (d cnt : Nat) (hcnt : cnt < 64)
    (hHO : ¬ cnt = 1 → ∀ p, tb (lb n ow ch (pt k)) p = true → ¬ lb n (ch ||| pt p) (ow &&& (tk n ch ow (pt p) ^^^ (-1))) (pt p) = 0 → HO (gridOf n) (ch ||| pt p) (ow &&& (tk n ch ow (pt p) ^^^ (-1))) S (nI d - 1) = some (H (ow &&& (tk n ch ow (pt p) ^^^ (-1))) (ch ||| pt p))) :
    ∀ (c fu i : Nat) (x : Int64), i + c = cnt → c + 1 ≤ fu → sb x (lb n ow ch (pt k)) → cn x 49 = c → fX3_firstStone_33 HO (gridOf n) ch ow S (nI d) fu x (nI cnt) (nI i) = some (ladS (okF n H ow ch (decide (cnt = 1))) c x) := by
  intro c
  induction c with
  | zero =>
    intro fu i x hi hf hx hc
    obtain ⟨fu, rfl⟩ : ∃ f, fu = f + 1 := ⟨fu - 1, by omega⟩
    have : i = cnt := by omega
    subst this
    unfold fX3_firstStone_33
    rw [if_pos (nI_le (Nat.le_refl _) (by omega))]
    rfl
  | succ c ih =>
    intro fu i x hi hf hx hc
    obtain ⟨fu, rfl⟩ : ∃ f, fu = f + 1 := ⟨fu - 1, by omega⟩
    have hxA : sb x (mA n) := sb_trans hx lb_sb
    have x0 : ¬ x = 0 := by
      intro z
      rw [z, cn_zero] at hc
      omega
    obtain ⟨p, p1, p2, p3, p4, _⟩ := lowest_ex h hxA x0
    have hpl := hx p p3
    have hA : sb (ch ||| pt p) (mA n) := sb_or hp.2.1 (pt_mA h p1)
    have hd := cn_drop1 h hxA p3
    have hx' : sb (x ^^^ pt p) (lb n ow ch (pt k)) := fun j q => hx j ((m_xlow p2 p3).mp q).1
    have ih' := ih fu (i + 1) (x ^^^ pt p) (by omega) (by omega) hx' (by omega)
    rw [nI_succ] at ih'
    unfold fX3_firstStone_33 ladS
    rw [low_eq, p4, if_neg (nI_ge (by omega) (by omega)), taken_eq h hp.1, Option.bind_some, lib_eq h hA, Option.bind_some]
    have e1 : (nI cnt = 1) ↔ cnt = 1 := nI_eq_iff (a := cnt) (b := 1) (by omega) (by omega)
    unfold okF
    by_cases z : lb n (ch ||| pt p) (ow &&& (tk n ch ow (pt p) ^^^ (-1))) (pt p) = 0
    · rw [if_pos z, if_pos rfl, if_pos z, if_neg (by decide)]
      exact ih'
    · rw [if_neg z, if_neg (by decide), if_neg z]
      by_cases o : cnt = 1
      · rw [if_pos (e1.mpr o), if_pos (decide_eq_true o), if_pos rfl]
      · rw [if_neg (fun r => o (e1.mp r)), if_neg (show ¬ decide (cnt = 1) = true from fun r => o (of_decide_eq_true r)), hHO o p hpl z, Option.bind_some]
        by_cases t : H (ow &&& (tk n ch ow (pt p) ^^^ (-1))) (ch ||| pt p) = true
        · rw [if_pos t, if_pos t]
        · rw [if_neg t, if_neg t]
          exact ih'
/-- the class's recursion is the ladder -/
theorem lad_class (h : okN n) (hk : k < 64) : ∀ d, d < 64 →
    (∀ fu, 2 * d + 1 ≤ fu → ∀ ow ch S, posOK n ow ch → tb ow k = true → cl n ow S = cl n ow (pt k) → (fLad fu).1 (gridOf n) ch ow S (nI d) = some (ladF n k d ow ch)) ∧
    (∀ fu, 2 * d + 2 ≤ fu → ∀ ow ch S, posOK n ow ch → tb ow k = true → cl n ow S = cl n ow (pt k) → (fLad fu).2 (gridOf n) ch ow S (nI d) = some (ladO n k (ladF n k d) ow ch)) := by
  have step : ∀ d, d < 64 → (∀ fu, 2 * d + 1 ≤ fu → ∀ ow ch S, posOK n ow ch → tb ow k = true → cl n ow S = cl n ow (pt k) → (fLad fu).1 (gridOf n) ch ow S (nI d) = some (ladF n k d ow ch)) → (∀ fu, 2 * d + 2 ≤ fu → ∀ ow ch S, posOK n ow ch → tb ow k = true → cl n ow S = cl n ow (pt k) → (fLad fu).2 (gridOf n) ch ow S (nI d) = some (ladO n k (ladF n k d) ow ch)) := by
    intro d hd64 hF fu hfu ow ch S hp hko hS
    obtain ⟨fu, rfl⟩ : ∃ f, fu = f + 1 := ⟨fu - 1, by omega⟩
    have hl : lb n ow ch S = lb n ow ch (pt k) := by
      unfold lb
      rw [hS]
    have hc := cn_le (lb n ow ch (pt k)) 49
    have e1 : (nI (cn (lb n ow ch (pt k)) 49) = 1) ↔ cn (lb n ow ch (pt k)) 49 = 1 := nI_eq_iff (b := 1) (by omega) (by omega)
    rw [fLad_O]
    unfold fX3_holdsOwner ladO
    rw [lib_eq h hp.1, Option.bind_some, hl, bc49 h lb_sb]
    by_cases o : cn (lb n ow ch (pt k)) 49 = 1
    · have x0 : ¬ lb n ow ch (pt k) = 0 := by
        intro z
        rw [z, cn_zero] at o
        omega
      obtain ⟨p, p1, p2, p3, p4, _⟩ := lowest_ex h lb_sb x0
      have hpe := one_pt h lb_sb p3 o
      obtain ⟨_, _, q3, q4⟩ := m_lb.mp p3
      have hA : sb (ow ||| pt p) (mA n) := sb_or hp.1 (pt_mA h p1)
      have hj := joins h hp hko p3
      rw [if_pos (e1.mpr o), if_pos o, hpe, taken_eq h hp.2.1, Option.bind_some, lib_eq h hA, Option.bind_some]
      by_cases z : lb n (ow ||| pt p) (ch &&& (tk n ow ch (pt p) ^^^ (-1))) (pt p) = 0
      · rw [if_pos z, if_pos z]
      · have hnp := (lay_new h p1 hp q3 q4).2 z
        rw [if_neg z, if_neg z, hF fu (by omega) _ _ (pt p) hnp (m_or.mpr (.inl hko)) hj, Option.bind_some]
        by_cases t : ladF n k d (ow ||| pt p) (ch &&& (tk n ow ch (pt p) ^^^ (-1))) = 0
        · rw [if_pos t, decide_eq_true t]
          rfl
        · rw [if_neg t, decide_eq_false t]
          rfl
    · rw [if_neg (fun r => o (e1.mp r)), if_neg o]
  intro d
  induction d with
  | zero =>
    intro hd64
    have hF : ∀ fu, 2 * 0 + 1 ≤ fu → ∀ ow ch S, posOK n ow ch → tb ow k = true → cl n ow S = cl n ow (pt k) → (fLad fu).1 (gridOf n) ch ow S (nI 0) = some (ladF n k 0 ow ch) := by
      intro fu hfu ow ch S hp hko hS
      obtain ⟨fu, rfl⟩ : ∃ f, fu = f + 1 := ⟨fu - 1, by omega⟩
      rw [fLad_F]
      unfold fX3_firstStone
      rw [lib_eq h hp.1, Option.bind_some, if_pos (show nI 0 ≤ 0 by decide)]
      rfl
    exact ⟨hF, step 0 hd64 hF⟩
  | succ d ih =>
    intro hd64
    have ihO := (ih (by omega)).2
    have hF : ∀ fu, 2 * (d + 1) + 1 ≤ fu → ∀ ow ch S, posOK n ow ch → tb ow k = true → cl n ow S = cl n ow (pt k) → (fLad fu).1 (gridOf n) ch ow S (nI (d + 1)) = some (ladF n k (d + 1) ow ch) := by
      intro fu hfu ow ch S hp hko hS
      obtain ⟨fu, rfl⟩ : ∃ f, fu = f + 1 := ⟨fu - 1, by omega⟩
      have hl : lb n ow ch S = lb n ow ch (pt k) := by
        unfold lb
        rw [hS]
      have hc := cn_le (lb n ow ch (pt k)) 49
      have e2 : (nI (cn (lb n ow ch (pt k)) 49) ≤ 2) ↔ cn (lb n ow ch (pt k)) 49 ≤ 2 := nI_le_iff (b := 2) (by omega) (by omega)
      have hd0 : ¬ nI (d + 1) ≤ 0 := fun z => by
        have := (nI_le_iff (a := d + 1) (b := 0) (by omega) (by omega)).mp z
        omega
      rw [fLad_F]
      unfold fX3_firstStone ladF
      rw [lib_eq h hp.1, Option.bind_some, hl, if_neg hd0, bc49 h lb_sb]
      by_cases o : cn (lb n ow ch (pt k)) 49 ≤ 2
      · rw [if_pos (e2.mpr o), if_pos o]
        refine first_loop h hp (fLad fu).2 (ladO n k (ladF n k d)) (d + 1) (cn (lb n ow ch (pt k)) 49) (by omega) ?_ (cn (lb n ow ch (pt k)) 49) 5000 0 (lb n ow ch (pt k)) (by omega) (by omega) (sb_refl _) rfl
        intro o1 p p1 p2
        have p64 := tb_lt p1
        have hpn := (sbA h).mp lb_sb p p1
        obtain ⟨_, _, q3, q4⟩ := m_lb.mp p1
        have hnp := posOK_sym ((lay_new h hpn (posOK_sym hp) q4 q3).2 p2)
        obtain ⟨q, hq1, hq2⟩ : ∃ q, tb (lb n ow ch (pt k)) q = true ∧ ¬ q = p := by
          apply Classical.byContradiction
          intro no
          have : lb n ow ch (pt k) = pt p := by
            apply m_ext
            intro i
            rw [m_pt p64]
            constructor
            · intro r
              apply Classical.byContradiction
              intro c
              exact no ⟨i, r, c⟩
            · intro r
              subst r
              exact p1
          rw [this, cn_pt p64, if_pos (by have := okN_sq h; omega)] at o1
          exact o1 rfl
        have hkp := keeps h hp hko p64 hq1 hq2
        rw [show nI (d + 1) - 1 = nI d from nI_sub (a := d + 1) (b := 1) (by omega)]
        refine ihO fu (by omega) _ _ S hnp (keeps_k h hp hko hkp) ?_
        rw [keeps_cl h hp hS hkp, keeps_cl h hp rfl hkp]
      · rw [if_neg (fun z => o (e2.mp z)), if_neg o]
    exact ⟨hF, step (d + 1) hd64 hF⟩
end LADC
