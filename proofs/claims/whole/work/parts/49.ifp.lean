section IFP
variable {n rule mv ps pr c0 c1 : Nat} {w : GSt} {b0 b1 : Nat → Int64} {g : RSt} {f : Nat → Int64}
/-- the reference with its refusal set -/
def setM (y : MSt) (k : Int32) : MSt := (k, y.2.1, y.2.2.1, y.2.2.2.1, y.2.2.2.2.1, y.2.2.2.2.2.1, y.2.2.2.2.2.2.1, y.2.2.2.2.2.2.2.1, y.2.2.2.2.2.2.2.2.1, y.2.2.2.2.2.2.2.2.2)
theorem refused0 (y : MSt) : fX8_refused y 0 = (false, setM y 0) := by
  unfold fX8_refused
  rw [if_pos (by decide)]
  rfl
theorem refused1 (y : MSt) : fX8_refused y 1 = (true, setM y 1) := by
  unfold fX8_refused
  rw [if_neg (by decide)]
  rfl
theorem refused2 (y : MSt) : fX8_refused y 2 = (true, setM y 2) := by
  unfold fX8_refused
  rw [if_neg (by decide)]
  rfl
theorem in0_iff (p : Int32) {m : Nat} (hm : m < 2147483647) : fX8_in p.toInt64 0 (nL m) = true ↔ ∃ v, v ≤ m ∧ p = nI v := by
  have := in_eq p 0 m (by decide) (by omega)
  have e : fX8_in p.toInt64 0 (nL m) = fX8_in p.toInt64 (nL 0) (nL m) := rfl
  rw [e, this, decide_eq_true_eq]
  constructor
  · intro q
    have := of_toInt (p := p) (by omega)
    exact ⟨p.toInt.toNat, by omega, this.1⟩
  · intro ⟨v, v1, v2⟩
    rw [v2, nI_toInt (by omega)]
    omega
theorem in0_lt (p : Int32) {m : Nat} (hm : m < 2147483647) (q : ¬ fX8_in p.toInt64 0 (nL m) = true) : p < 0 ∨ ¬ p ≤ nI m := by
  by_cases c : p < 0
  · exact .inl c
  · right
    intro r
    apply q
    rw [in0_iff p hm]
    rw [Int32.lt_iff_toInt_lt, Int32.toInt_zero] at c
    rw [Int32.le_iff_toInt_le, nI_toInt (by omega)] at r
    have := of_toInt (p := p) (by omega)
    exact ⟨p.toInt.toNat, by omega, this.1⟩
/-- text and diary untouched -/
def sameM (y y' : MSt) : Prop := y'.2.1 = y.2.1 ∧ y'.2.2.1 = y.2.2.1
theorem meff_eq (h : GR n rule mv ps pr c0 c1 w b0 b1 g f) {k v : Nat} (hk : k < n * n) (hv : v < 4) (y : MSt) :
    (if nI v = 0 then (some (nI (cn (nT n b0 b1 mv k) 49), laid n b0 b1 mv k y)) else if nI v = 1 then ((fX8_bits (nF n b0 b1 mv k)).bind fun r41 => some (r41, laid n b0 b1 mv k y)) else if nI v = 2 then ((fX8_grown (nI n) (pt k) (nA b0 b1 mv k)).bind fun r39 => (fX8_bits r39).bind fun r40 => some (r40, laid n b0 b1 mv k y)) else ((fX8_groups (nI n) (nB n b0 b1 mv k) (nA b0 b1 mv k) true).bind fun r38 => some (r38, laid n b0 b1 mv k y))) = some (nI (eff n b0 b1 mv k v), laid n b0 b1 mv k y) := by
  have h2 : mv % 2 < 2 := by omega
  have hp := h.pos h2
  have hn := h.okn
  have hA : sb (nA b0 b1 mv k) (mA n) := sb_or hp.1 (pt_mA hn hk)
  have hB : sb (nB n b0 b1 mv k) (mA n) := sb_trans (sb_andl _ _) hp.2.1
  unfold eff
  rcases (show v = 0 ∨ v = 1 ∨ v = 2 ∨ v = 3 by omega) with e | e | e | e
  · subst e
    rw [if_pos (show nI 0 = 0 from rfl), if_pos rfl]
  · subst e
    rw [if_neg (by decide), if_pos (show nI 1 = 1 from rfl), if_neg (by decide), if_pos rfl, bits_eq, Option.bind_some]
  · subst e
    rw [if_neg (by decide), if_neg (by decide), if_pos (show nI 2 = 2 from rfl), if_neg (by decide), if_neg (by decide), if_pos rfl, grown_eq hn hA (sb_orr _ _), Option.bind_some, bits_eq, Option.bind_some]
  · subst e
    rw [if_neg (by decide), if_neg (by decide), if_neg (by decide), if_neg (by decide), if_neg (by decide), if_neg (by decide), mgroups_eq hn hB true, Option.bind_some, gval_true]
end IFP
