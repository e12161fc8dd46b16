section SCR
theorem cfe_loop {P : Int64} {bh : Nat} (hb : bh ≤ 3) : ∀ (d fu i t : Nat), i + d = bh → d + 1 ≤ fu → t < 9223372036854775808 → fX5_commandFromEnd_5 P (nI bh) fu (nL t) (nI i) = some (nI (t / 10000 ^ d % 10000)) := by
  intro d
  induction d with
  | zero =>
    intro fu i t hi hf ht
    obtain ⟨fu, rfl⟩ : ∃ z, fu = z + 1 := ⟨fu - 1, by omega⟩
    have e : nL t - nL t / 10000 * 10000 = nL (t % 10000) := nL_mod (b := 10000) ht (by omega)
    rw [fX5_commandFromEnd_5]
    rw [if_pos (nI_le (by omega) (by omega)), e, nL_I, Nat.pow_zero, Nat.div_one]
  | succ d ih =>
    intro fu i t hi hf ht
    obtain ⟨fu, rfl⟩ : ∃ z, fu = z + 1 := ⟨fu - 1, by omega⟩
    have e : nL t / 10000 = nL (t / 10000) := nL_div (b := 10000) ht (by omega)
    have := ih fu (i + 1) (t / 10000) (by omega) (by omega) (by omega)
    rw [nI_succ] at this
    rw [fX5_commandFromEnd_5]
    rw [if_neg (nI_ge (by omega) (by omega)), if_neg (show ¬ (4 : Int32) ≤ nI i from nI_ge (b := 4) (by omega) (by omega)), e, this, Nat.div_div_eq_div_mul, ← Nat.pow_succ']
theorem cin_loop {P : Int64} : ∀ (d fu i t : Nat), i + d = 5 → d + 1 ≤ fu → t < 9223372036854775808 → ∃ c, fX7_commandsIn_11 P fu (nI (1 + i)) (nL t) (nI i) = some (nI c) ∧ 1 + i ≤ c ∧ c ≤ 6 ∧ ∀ j, j < d → (c ≤ 1 + i + j ↔ t / 10000 ^ j = 0) := by
  intro d
  induction d with
  | zero =>
    intro fu i t hi hf ht
    obtain ⟨fu, rfl⟩ : ∃ z, fu = z + 1 := ⟨fu - 1, by omega⟩
    refine ⟨1 + i, ?_, by omega, by omega, fun j hj => by omega⟩
    rw [fX7_commandsIn_11]
    rw [if_pos (show (5 : Int32) ≤ nI i from nI_le (a := 5) (by omega) (by omega))]
  | succ d ih =>
    intro fu i t hi hf ht
    obtain ⟨fu, rfl⟩ : ∃ z, fu = z + 1 := ⟨fu - 1, by omega⟩
    have e : nL t / 10000 = nL (t / 10000) := nL_div (b := 10000) ht (by omega)
    by_cases z : t = 0
    · subst z
      refine ⟨1 + i, ?_, by omega, by omega, fun j hj => ⟨fun _ => Nat.zero_div _, fun _ => by omega⟩⟩
      rw [fX7_commandsIn_11]
      rw [if_neg (show ¬ (5 : Int32) ≤ nI i from nI_ge (b := 5) (by omega) (by omega)), if_pos (show nL 0 = 0 from rfl)]
    · obtain ⟨c, c1, c2, c3, c4⟩ := ih fu (i + 1) (t / 10000) (by omega) (by omega) (by omega)
      refine ⟨c, ?_, by omega, c3, ?_⟩
      · rw [fX7_commandsIn_11]
        rw [if_neg (show ¬ (5 : Int32) ≤ nI i from nI_ge (b := 5) (by omega) (by omega)), if_neg (show ¬ nL t = 0 from fun q => z (nL_inj (b := 0) ht (by omega) q)), e, ← nI_succ, ← nI_succ, show 1 + i + 1 = 1 + (i + 1) by omega]
        exact c1
      · intro j hj
        cases j with
        | zero =>
          rw [Nat.pow_zero, Nat.div_one]
          exact ⟨fun q => by omega, fun q => absurd q z⟩
        | succ j =>
          have := c4 j (by omega)
          rw [Nat.pow_succ', ← Nat.div_div_eq_div_mul, ← this]
          omega
theorem cin_eq {s m : Nat} (hs : s < 9223372036854775808) (h1 : 1 ≤ m) (h4 : m ≤ 4) : ∃ c, fX7_commandsIn (nL s) = some (nI c) ∧ c ≤ 6 ∧ (c ≤ m ↔ s < 10000 ^ m) := by
  have e : nL s / 10000 = nL (s / 10000) := nL_div (b := 10000) hs (by omega)
  obtain ⟨c, c1, c2, c3, c4⟩ := cin_loop (P := nL s) 5 5000 0 (s / 10000) (by omega) (by omega) (by omega)
  refine ⟨c, ?_, c3, ?_⟩
  · unfold fX7_commandsIn
    rw [e]
    exact c1
  · have := c4 (m - 1) (by omega)
    rw [Nat.div_div_eq_div_mul, ← Nat.pow_succ', show (m - 1).succ = m by omega, show 1 + 0 + (m - 1) = m by omega] at this
    rw [this]
    have hp : 0 < 10000 ^ m := Nat.pow_pos (by omega)
    exact Nat.div_eq_zero_iff_lt hp
theorem pow4 : ∀ i, i ≤ 4 → 10000 ^ i ≤ 10000000000000000 ∧ 0 < 10000 ^ i := by
  intro i hi
  rcases (show i = 0 ∨ i = 1 ∨ i = 2 ∨ i = 3 ∨ i = 4 by omega) with e | e | e | e | e
  all_goals subst e
  all_goals decide
theorem of_toL {p : Int64} (h : ¬ p < 0) : ∃ s, s < 9223372036854775808 ∧ p = nL s := by
  rw [Int64.lt_iff_toInt_lt, Int64.toInt_zero] at h
  have h2 := Int64.toInt_lt p
  refine ⟨p.toInt.toNat, by omega, ?_⟩
  apply Int64.toInt_inj.mp
  rw [nL_toInt (by omega)]
  omega
end SCR
section SCRIPT
variable {n rule mv ps pr c0 c1 : Nat} {w : GSt} {b0 b1 : Nat → Int64} {g : RSt}
end SCRIPT
