theorem bnd_if {α β : Type} {c : Prop} [inst : Decidable c] {K : α → β} {a b : α} : bnd K (fun k => if c then k a else k b) = K (if c then a else b) := by
  unfold bnd
  split <;> rfl
theorem bnd_elim {α β : Type} {x : α} {f : α → β} {v : β} (h : ∀ y, y = x → f y = v) : bnd x f = v := h x rfl
theorem nIne {a b : Nat} (ha : a < 2147483648) (hb : b < 2147483648) (h : ¬ a = b) : ¬ nI a = nI b := fun z => h (nI_inj ha hb z)
theorem nsub {z : Int32} {c : Int} (hz : z.toInt = c) (hc : -1000000 ≤ c ∧ c ≤ 1000000) {y : Nat} (hy : y < 1000000) : (z - nI y).toInt = c - y := by
  rw [Int32.toInt_sub, hz, nI_toInt (by omega)]
  exact Int.bmod_eq_of_le (by omega) (by omega)
section BADS
variable {y : Nat}
theorem q8 (hy : y < 100000) : ¬ 8 + nI y = 0 ∧ ¬ 8 + nI y = 1 ∧ ¬ 8 + nI y = 2 ∧ ¬ 8 + nI y = 3 ∧ ¬ 8 + nI y = 4 ∧ ¬ 8 + nI y = 5 ∧ ¬ 8 + nI y = 6 ∧ ¬ 8 + nI y = 7 := by
  rw [show (8 : Int32) + nI y = nI (8 + y) from nI_add 8 y]
  exact ⟨nIne (b := 0) (by omega) (by omega) (by omega), nIne (b := 1) (by omega) (by omega) (by omega), nIne (b := 2) (by omega) (by omega) (by omega), nIne (b := 3) (by omega) (by omega) (by omega), nIne (b := 4) (by omega) (by omega) (by omega), nIne (b := 5) (by omega) (by omega) (by omega), nIne (b := 6) (by omega) (by omega) (by omega), nIne (b := 7) (by omega) (by omega) (by omega)⟩
theorem q6 (hy : y < 100000) : ¬ 6 + nI y = 0 ∧ ¬ 6 + nI y = 1 ∧ ¬ 6 + nI y = 2 ∧ ¬ 6 + nI y = 3 ∧ ¬ 6 + nI y = 4 ∧ ¬ 6 + nI y = 5 := by
  rw [show (6 : Int32) + nI y = nI (6 + y) from nI_add 6 y]
  exact ⟨nIne (b := 0) (by omega) (by omega) (by omega), nIne (b := 1) (by omega) (by omega) (by omega), nIne (b := 2) (by omega) (by omega) (by omega), nIne (b := 3) (by omega) (by omega) (by omega), nIne (b := 4) (by omega) (by omega) (by omega), nIne (b := 5) (by omega) (by omega) (by omega)⟩
theorem q9 : ¬ (9 : Int32) = 0 ∧ ¬ (9 : Int32) = 1 ∧ ¬ (9 : Int32) = 2 ∧ ¬ (9 : Int32) = 3 ∧ ¬ (9 : Int32) = 4 ∧ ¬ (9 : Int32) = 5 := by decide
theorem q2 (hy : y < 100000) : ¬ 2 + nI y = 0 ∧ ¬ 2 + nI y = 1 := by
  rw [show (2 : Int32) + nI y = nI (2 + y) from nI_add 2 y]
  exact ⟨nIne (b := 0) (by omega) (by omega) (by omega), nIne (b := 1) (by omega) (by omega) (by omega)⟩
theorem q4 (hy : y < 100000) : ¬ 4 + nI y < 0 ∧ ¬ 4 + nI y ≤ 3 := by
  rw [show (4 : Int32) + nI y = nI (4 + y) from nI_add 4 y]
  exact ⟨nI_pos (by omega), fun z => by have := (nI_le_iff (a := 4 + y) (b := 3) (by omega) (by omega)).mp z; omega⟩
theorem m1i : (-1 : Int32).toInt = -1 := by decide
theorem qm (hy : y < 100000) : (-1 - nI y : Int32).toInt = -1 - y := nsub m1i (by omega) (by omega)
theorem qm01 (hy : y < 100000) : ¬ (-1 - nI y : Int32) = 0 ∧ ¬ (-1 - nI y : Int32) = 1 := by
  have := qm hy
  constructor
  · intro z
    rw [z, show (0 : Int32).toInt = 0 by decide] at this
    omega
  · intro z
    rw [z, show (1 : Int32).toInt = 1 by decide] at this
    omega
theorem qmlt (hy : y < 100000) : (-1 - nI y : Int32) < 0 := by
  rw [Int32.lt_iff_toInt_lt, qm hy, show (0 : Int32).toInt = 0 by decide]
  omega
theorem qbig {m : Nat} (hm : 255 < m) (hm2 : m < 2147483648) : ¬ nI m ≤ 255 := fun z => by have := (nI_le_iff (a := m) (b := 255) (by omega) (by omega)).mp z; omega
end BADS
section REF
variable {s : OSt} {n rule mv ps pr c0 c1 : Nat} {a b : Int32}
theorem has_neg (h : NW s n rule mv ps pr c0 c1) {p : Int32} (hp : p.toInt < 0) : fX2_has (s.1 14).2.2.2 p = false := by
  rw [h.grid, hasG h.okn]
  exact decide_eq_false (by omega)
theorem has_big (h : NW s n rule mv ps pr c0 c1) {m : Nat} (h1 : n * n ≤ m) (h2 : m < 2147483648) : fX2_has (s.1 14).2.2.2 (nI m) = false := by
  rw [h.grid, hasG h.okn, nI_toInt h2]
  exact decide_eq_false (by omega)
theorem refuses_ok (h : NW s n rule mv ps pr c0 c1) {x : Nat} (hx : x < 100000) : fL_refuses s (nI x) = some (true, s) := by
  have hsq := okN_sq h.okn
  have hall : nI n * nI n = nI (n * n) := nI_mul n n
  have m2 : nI x - nI x / 2 * 2 = nI (x % 2) := nI_mod (b := 2) (by omega) (by omega)
  have m9 : nI x - nI x / 9 * 9 = nI (x % 9) := nI_mod (b := 9) (by omega) (by omega)
  have m50 : nI x - nI x / 50 * 50 = nI (x % 50) := nI_mod (b := 50) (by omega) (by omega)
  have m99 : nI x - nI x / 99 * 99 = nI (x % 99) := nI_mod (b := 99) (by omega) (by omega)
  have ma : nI x - nI x / nI (n * n) * nI (n * n) = nI (x % (n * n)) := nI_mod (by omega) (by omega)
  have hne : ¬ nI (n * n) = 0 := nIne (b := 0) (by omega) (by omega) (by omega)
  have hxk : x % (n * n) < n * n := Nat.mod_lt _ (by omega)
  have e2 : nI (x % 2) = 0 ↔ x % 2 = 0 := nI_eq0 (by omega)
  have hkk := hasK h hxk
  have hL : (10000 : Int64) + (nI x).toInt64 = nL (10000 + x) := by rw [nI_L (by omega)]; exact nL_add 10000 x
  obtain ⟨z4, e4⟩ : ∃ z : Int32, z = if x % 2 = 0 then (-1 - nI (x % 99)) else nI (n * n) + nI (x % 99) := ⟨_, rfl⟩
  have h4 : fX2_has (s.1 14).2.2.2 z4 = false := by
    rw [e4]
    split
    · exact has_neg h (by rw [qm (by omega)]; omega)
    · rw [nI_add]
      exact has_big h (by omega) (by omega)
  obtain ⟨z5, e5⟩ : ∃ z : Int32, z = if x % 2 = 0 then (-1 - nI (x % 9)) else 256 + nI (x % 9) := ⟨_, rfl⟩
  have h5 : z5 < 0 ∨ ¬ z5 ≤ 255 := by
    rw [e5]
    split
    · exact .inl (qmlt (by omega))
    · refine .inr ?_
      rw [show (256 : Int32) + nI (x % 9) = nI (256 + x % 9) from nI_add 256 _]
      exact qbig (by omega) (by omega)
  obtain ⟨z59, e59⟩ : ∃ z : Int32, z = if x % 2 = 0 then (2 - nI (x % 9)) else 8 + nI (x % 9) := ⟨_, rfl⟩
  have h59 : z59 < 3 ∨ ¬ z59 ≤ 7 := by
    rw [e59]
    split
    · refine .inl ?_
      rw [Int32.lt_iff_toInt_lt, nsub (show (2 : Int32).toInt = 2 by decide) (by omega) (by omega), show (3 : Int32).toInt = 3 by decide]
      omega
    · refine .inr ?_
      rw [show (8 : Int32) + nI (x % 9) = nI (8 + x % 9) from nI_add 8 _]
      exact fun z => by have := (nI_le_iff (a := 8 + x % 9) (b := 7) (by omega) (by omega)).mp z; omega
  obtain ⟨z70, e70⟩ : ∃ z : Int32, z = if x % 2 = 0 then (-1 - nI (x % 9)) else 2 + nI (x % 9) := ⟨_, rfl⟩
  have h70 : ¬ z70 = 0 ∧ ¬ z70 = 1 := by
    rw [e70]
    split
    · exact qm01 (by omega)
    · exact q2 (by omega)
  have h101 : ¬ 101 + nI (x % 9) < 1 ∧ ¬ 101 + nI (x % 9) ≤ 100 := by
    rw [show (101 : Int32) + nI (x % 9) = nI (101 + x % 9) from nI_add 101 _]
    exact ⟨fun z => by have := (nI_lt_iff (a := 101 + x % 9) (b := 1) (by omega) (by omega)).mp z; omega, fun z => by have := (nI_le_iff (a := 101 + x % 9) (b := 100) (by omega) (by omega)).mp z; omega⟩
  unfold fL_refuses
  rw [about_0 h, Option.bind_some]
  simp only [hall, m2, m9, m50, m99, ma, e2, hL]
  rw [bnd_if, ← e4, bnd_if, ← e5, append_bad h5, Option.bind_some]
  refine bnd_elim (fun k10 hk10 => ?_)
  dsimp only
  rw [if_pos rfl, about_bad (q8 (by omega)), Option.bind_some, if_pos rfl, has_bad (q2 (by omega)), Option.bind_some, if_pos rfl, colour_bad (q2 (by omega)), Option.bind_some, if_pos rfl, colour_bad2 (show x % 2 < 2 by omega) (q6 (by omega)), Option.bind_some, if_pos rfl, pt_bad h4, Option.bind_some, if_pos rfl, if_neg hne, pt_bad2 hkk (q6 (by omega)), Option.bind_some, if_pos rfl, grp_bad h4, Option.bind_some, if_pos rfl, if_neg hne, grp_bad2 hkk (q2 (by omega)), Option.bind_some, if_pos rfl, why_bad h4, Option.bind_some, if_pos rfl]
  rw [bnd_if, ← e59, board_bad h59, Option.bind_some]
  dsimp only
  rw [if_pos rfl, play_bad h4, Option.bind_some]
  dsimp only
  rw [if_pos rfl, bnd_if, ← e70, set_bad h70, Option.bind_some]
  dsimp only
  rw [if_pos rfl, if_bad h4, Option.bind_some, if_pos rfl, if_neg hne, if_bad2 hkk (q4 (by omega)).1 (q4 (by omega)).2, Option.bind_some, if_pos rfl, lad_bad h4, Option.bind_some, if_pos rfl, if_neg hne, lad_bad2 hkk (q2 (by omega)), Option.bind_some, if_pos rfl, chase_bad h4, Option.bind_some, if_pos rfl, save_bad (q2 (by omega)), Option.bind_some]
  dsimp only
  rw [if_pos rfl, restore_bad (qm01 (by omega)), Option.bind_some]
  dsimp only
  rw [if_pos rfl, script_bad0 (by decide), Option.bind_some]
  dsimp only
  rw [if_pos rfl, script_bad1 (by omega) (by omega), Option.bind_some]
  dsimp only
  rw [if_pos rfl, sim_bad h101.1 h101.2, Option.bind_some]
  dsimp only
  rw [if_pos rfl, hk10]
end REF
