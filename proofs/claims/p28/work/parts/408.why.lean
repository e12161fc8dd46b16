/-- does the position p, q stand among c positions from s on -/
def seen (b0 b1 : Nat → Int64) (p q : Int64) : Nat → Nat → Bool
  | _, 0 => false
  | s, c + 1 => if b0 s = p ∧ b1 s = q then true else seen b0 b1 p q (s + 1) c
section WHY
variable {n rule mv ps pr c0 c1 k : Nat} {w : GSt} {b0 b1 : Nat → Int64} {g : RSt}
theorem must_loop (b0 b1 : Nat → Int64) (p q : Int64) (w : GSt) : ∀ (c fu s : Nat), c + 1 ≤ fu → s + c ≤ 121 → fX0_mustNotCome_51 w b0 b1 p q fu (nI (s + c)) (nI s) = some (seen b0 b1 p q s c) := by
  intro c
  induction c with
  | zero =>
    intro fu s hf hs
    obtain ⟨fu, rfl⟩ : ∃ f, fu = f + 1 := ⟨fu - 1, by omega⟩
    unfold fX0_mustNotCome_51
    rw [if_pos (nI_le (by omega) (by omega))]
    rfl
  | succ c ih =>
    intro fu s hf hs
    obtain ⟨fu, rfl⟩ : ∃ f, fu = f + 1 := ⟨fu - 1, by omega⟩
    have h121 : ¬ (121 : Int32) ≤ nI s := nI_ge (a := s) (b := 121) (by omega) (by decide)
    have hin : inB (nI s) 121 = true := inB_nI (by omega) (by decide)
    unfold fX0_mustNotCome_51 seen
    rw [if_neg (nI_ge (by omega) (by omega)), if_neg h121, if_neg h121, if_pos hin, if_pos hin, nI_clamp (by omega), ← nI_succ]
    have := ih fu (s + 1) (by omega) (by omega)
    rw [show s + 1 + c = s + (c + 1) by omega] at this
    rw [this]
    by_cases d : b0 s = p
    · rw [if_pos d]
      by_cases e : b1 s = q
      · rw [if_pos e, if_pos ⟨d, e⟩]
      · rw [if_neg e, if_neg (fun r => e r.2)]
    · rw [if_neg d, if_neg (fun r => d r.1)]
/-- may the position p, q not come -/
def bad (rule mv : Nat) (b0 b1 : Nat → Int64) (p q : Int64) : Bool := if rule = 1 then seen b0 b1 p q 0 (mv + 1) else if mv = 0 then false else seen b0 b1 p q (mv - 1) 1
theorem must_eq (h : GR n rule mv ps pr c0 c1 w b0 b1 g) (p q : Int64) : fX0_mustNotCome w b0 b1 p q = some (bad rule mv b0 b1 p q) := by
  obtain ⟨hn, hg, hr, hm, hps, hpr, hc0, hc1, hw, hct, hp⟩ := h
  have hw1 : w.1 = nI rule := by rw [hw]
  have hw2 : w.2.1 = nI mv := by rw [hw]
  unfold fX0_mustNotCome bad
  rw [hw1, hw2]
  rcases (show rule = 0 ∨ rule = 1 by omega) with e | e
  · subst e
    rw [if_neg (by decide), if_neg (by decide), if_neg (by decide)]
    unfold imax
    by_cases d : mv = 0
    · subst d
      rw [if_pos rfl, if_pos (by decide)]
      exact must_loop b0 b1 p q w 0 5000 0 (by omega) (by omega)
    · rw [if_neg d, show (1 : Int32) = nI 1 from rfl, nI_sub (by omega), if_neg (show ¬ nI (mv - 1) < 0 from nI_pos (by omega))]
      have := must_loop b0 b1 p q w 1 5000 (mv - 1) (by omega) (by omega)
      rw [show mv - 1 + 1 = mv by omega] at this
      exact this
  · subst e
    rw [if_pos (by decide), if_pos (by decide), if_pos rfl, show (1 : Int32) = nI 1 from rfl, nI_add]
    have := must_loop b0 b1 p q w (mv + 1) 5000 0 (by omega) (by omega)
    rw [Nat.zero_add] at this
    exact this
/-- the turn's stones, the other's, when a stone is laid at k -/
abbrev nA (b0 b1 : Nat → Int64) (mv k : Nat) : Int64 := sOf b0 b1 mv (mv % 2) ||| pt k
abbrev nT (n : Nat) (b0 b1 : Nat → Int64) (mv k : Nat) : Int64 := tk n (sOf b0 b1 mv (mv % 2)) (sOf b0 b1 mv (1 - mv % 2)) (pt k)
abbrev nB (n : Nat) (b0 b1 : Nat → Int64) (mv k : Nat) : Int64 := sOf b0 b1 mv (1 - mv % 2) &&& (nT n b0 b1 mv k ^^^ (-1))
abbrev nF (n : Nat) (b0 b1 : Nat → Int64) (mv k : Nat) : Int64 := lb n (nA b0 b1 mv k) (nB n b0 b1 mv k) (pt k)
def nP0 (n : Nat) (b0 b1 : Nat → Int64) (mv k : Nat) : Int64 := if mv % 2 = 0 then nA b0 b1 mv k else nB n b0 b1 mv k
def nP1 (n : Nat) (b0 b1 : Nat → Int64) (mv k : Nat) : Int64 := if mv % 2 = 0 then nB n b0 b1 mv k else nA b0 b1 mv k
def why (n rule mv : Nat) (b0 b1 : Nat → Int64) (k : Nat) : Nat :=
  if tb (b0 mv ||| b1 mv) k = true then 1 else if nF n b0 b1 mv k = 0 then 2 else if bad rule mv b0 b1 (nP0 n b0 b1 mv k) (nP1 n b0 b1 mv k) = true then 3 else if mv < 120 then 0 else 4
theorem sOf_or (b0 b1 : Nat → Int64) (mv : Nat) : sOf b0 b1 mv (mv % 2) ||| sOf b0 b1 mv (1 - mv % 2) = b0 mv ||| b1 mv := by
  rcases (show mv % 2 = 0 ∨ mv % 2 = 1 by omega) with e | e
  · rw [e]; rfl
  · rw [e]; exact Int64.or_comm _ _
theorem reason_eq (h : GR n rule mv ps pr c0 c1 w b0 b1 g) (hk : k < n * n) : fX0_reasonAt w b0 b1 g (nI k) = some (nI (why n rule mv b0 b1 k)) := by
  have hm := must_eq h
  have ht := h.turn.1
  have h2 : mv % 2 < 2 := by omega
  have hp := h.pos h2
  have hw1 := h.wc h2
  have hw2 := h.wc (c := 1 - mv % 2) (by omega)
  obtain ⟨hn, hg, hr, hmv, hps, hpr, hc0, hc1, hw, hct, hpp⟩ := h
  have hk64 : k < 64 := by have := (okN_sq hn).2; omega
  have hA : sb (nA b0 b1 mv k) (mA n) := sb_or hp.1 (pt_mA hn hk)
  have hmv' : w.2.1 = nI mv := by rw [hw]
  unfold fX0_reasonAt bnd why
  dsimp only
  rw [ht, other_nI h2, hw1, hw2, shl_pt, sOf_or, hg]
  by_cases c : tb (b0 mv ||| b1 mv) k = true
  · rw [if_pos c, if_neg]
    · rfl
    · intro q
      rw [and_pt hk64] at q
      rw [q] at c
      cases c
  · have c' : tb (b0 mv ||| b1 mv) k = false := by
      cases q : tb (b0 mv ||| b1 mv) k with
      | false => rfl
      | true => exact absurd q c
    rw [if_neg c, if_pos ((and_pt hk64 _).mpr c'), taken_eq hn hp.2.1, Option.bind_some, lib_eq hn hA, Option.bind_some]
    by_cases d : nF n b0 b1 mv k = 0
    · rw [if_pos d, if_pos d]
      rfl
    · rw [if_neg d, if_neg d, hm, hm, Option.bind_some, Option.bind_some, hmv']
      have e120 : (nI mv < (120 : Int32)) ↔ mv < 120 := by
        constructor
        · intro q
          apply Decidable.byContradiction
          intro r
          exact nI_nlt (a := mv) (b := 120) (by omega) (by omega) q
        · intro q
          exact nI_lt q (by decide)
      rcases (show mv % 2 = 0 ∨ mv % 2 = 1 by omega) with e | e
      · have e0 : nI (mv % 2) = 0 := by rw [e]; rfl
        rw [if_pos e0]
        have p0 : nP0 n b0 b1 mv k = nA b0 b1 mv k := by unfold nP0; rw [if_pos e]
        have p1 : nP1 n b0 b1 mv k = nB n b0 b1 mv k := by unfold nP1; rw [if_pos e]
        rw [p0, p1]
        by_cases q : bad rule mv b0 b1 (nA b0 b1 mv k) (nB n b0 b1 mv k) = true
        · rw [if_pos q, if_pos q]; rfl
        · rw [if_neg q, if_neg q]
          by_cases r : mv < 120
          · rw [if_pos r, if_pos (e120.mpr r)]; rfl
          · rw [if_neg r, if_neg (fun z => r (e120.mp z))]; rfl
      · have e0 : ¬ nI (mv % 2) = 0 := by rw [e]; decide
        have e' : ¬ mv % 2 = 0 := by omega
        rw [if_neg e0]
        have p0 : nP0 n b0 b1 mv k = nB n b0 b1 mv k := by unfold nP0; rw [if_neg e']
        have p1 : nP1 n b0 b1 mv k = nA b0 b1 mv k := by unfold nP1; rw [if_neg e']
        rw [p0, p1]
        by_cases q : bad rule mv b0 b1 (nB n b0 b1 mv k) (nA b0 b1 mv k) = true
        · rw [if_pos q, if_pos q]; rfl
        · rw [if_neg q, if_neg q]
          by_cases r : mv < 120
          · rw [if_pos r, if_pos (e120.mpr r)]; rfl
          · rw [if_neg r, if_neg (fun z => r (e120.mp z))]; rfl
end WHY
