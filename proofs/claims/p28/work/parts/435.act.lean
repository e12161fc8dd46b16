section ACT
variable {s : OSt} {n rule mv ps pr c0 c1 : Nat} {a b : Int32}
theorem pair_ex {P : OSt → Prop} {o : Option (Int32 × OSt)} (h : ∃ r t, o = some (r, t) ∧ P t) : ∃ r t, (o.bind fun q => some (q.1, q.2)) = some (r, t) ∧ P t := by
  obtain ⟨r, t, h1, h2⟩ := h
  exact ⟨r, t, by rw [h1]; rfl, h2⟩
/-- one thing done: it comes to an end, and the state stands -/
theorem act_ok (hI : INV s) (x : Int32) : ∃ r t, fL_act s x = some (r, t) ∧ INV t := by
  obtain ⟨n, rule, mv, ps, pr, c0, c1, h⟩ := hI.nw
  have hsq := okN_sq h.okn
  have hne : ¬ nI n * nI n = 0 := by
    rw [nI_mul]
    exact nIne (b := 0) (by omega) (by omega) (by omega)
  unfold fL_act
  rw [about_0 h, Option.bind_some, Option.bind_some]
  by_cases d0 : x - x / 16 * 16 = 0
  · rw [if_pos d0]
    unfold bnd
    dsimp only
    by_cases e : x / 16 - x / 16 / 3 * 3 = 0
    · rw [if_pos e]
      exact pair_ex (board_any hI _)
    · rw [if_neg e]
      exact pair_ex (pass_any hI)
  rw [if_neg d0]
  by_cases d1 : x - x / 16 * 16 = 1
  · rw [if_pos d1]
    exact pair_ex (set_any hI _)
  rw [if_neg d1]
  by_cases d2 : x - x / 16 * 16 = 2
  · rw [if_pos d2, about_1 h, Option.bind_some]
    unfold bnd
    dsimp only
    by_cases e : 2 ≤ nI mv
    · rw [if_pos e]
      exact pair_ex (undo_any hI)
    · rw [if_neg e]
      exact ⟨_, s, rfl, hI⟩
  rw [if_neg d2]
  by_cases d3 : x - x / 16 * 16 = 3
  · rw [if_pos d3]
    unfold bnd
    dsimp only
    by_cases e : x / 16 - x / 16 / 2 * 2 = 0
    · rw [if_pos e]
      exact pair_ex (save_any hI _)
    · rw [if_neg e]
      exact pair_ex (restore_any hI _)
  rw [if_neg d3]
  by_cases d4 : x - x / 16 * 16 = 4
  · rw [if_pos d4, best_s h, Option.bind_some]
    unfold bnd
    dsimp only
    by_cases e : (bst n rule mv (s.1 14).2.1 (s.1 14).2.2.1 (n * n)).1 = -1
    · rw [if_pos e]
      exact ⟨_, s, rfl, hI⟩
    · rw [if_neg e]
      exact pair_ex (play_any hI _)
  rw [if_neg d4, if_neg hne]
  exact pair_ex (play_any hI _)
theorem alike_loop (hI : INV s) {p : Int32} {K : Bool → OSt → OSt → Option (Bool × OSt × OSt)} {s0 s1 : OSt} : ∀ (d fu k : Nat), k + d = 8 → d + 1 ≤ fu → fL_alike_64 s0 s1 p s s K fu true (nI k) = K true s s := by
  obtain ⟨n, rule, mv, ps, pr, c0, c1, h⟩ := hI.nw
  intro d
  induction d with
  | zero =>
    intro fu k hk hf
    obtain ⟨fu, rfl⟩ : ∃ f, fu = f + 1 := ⟨fu - 1, by omega⟩
    unfold fL_alike_64
    rw [if_pos (show 8 ≤ nI k from nI_le (a := 8) (b := k) (by omega) (by omega))]
  | succ d ih =>
    intro fu k hk hf
    obtain ⟨fu, rfl⟩ : ∃ f, fu = f + 1 := ⟨fu - 1, by omega⟩
    have := ih fu (k + 1) (by omega) (by omega)
    rw [nI_succ] at this
    obtain ⟨r1, q1⟩ := about_tot (a := 0) (b := 0) h (nI k)
    obtain ⟨r2, q2⟩ := colour_tot (b := 0) h (nI k - nI k / 2 * 2) (nI k / 2)
    obtain ⟨r3, q3⟩ := why_tot (a := 0) (b := 0) h (2 * nI k + (p - p / 9 * 9))
    unfold fL_alike_64
    rw [if_neg (show ¬ 8 ≤ nI k from nI_ge (a := k) (b := 8) (by omega) (by omega)), if_pos rfl, q1, Option.bind_some, Option.bind_some]
    unfold bnd
    dsimp only
    rw [if_pos rfl, q2, Option.bind_some, Option.bind_some, if_pos rfl, q3, Option.bind_some, Option.bind_some, if_pos rfl]
    exact this
/-- two objects of one state are alike -/
theorem alike_ok (hI : INV s) {x : Nat} (hx : x < 2147483648) : ∃ t, fL_alike s s (nI x) = some (true, t, t) ∧ INV t := by
  have m30 : 1 + (nI x - nI x / 30 * 30) = nI (1 + x % 30) := by
    rw [show nI x - nI x / 30 * 30 = nI (x % 30) from nI_mod (b := 30) (by omega) (by omega)]
    exact nI_add 1 _
  obtain ⟨r, t, e, hIt⟩ := sim_ok hI (nI x).toInt64 (m := 1 + x % 30) (by omega) (by omega)
  obtain ⟨n, rule, mv, ps, pr, c0, c1, h⟩ := hIt.nw
  refine ⟨t, ?_, hIt⟩
  unfold fL_alike
  rw [m30, e, Option.bind_some, Option.bind_some]
  dsimp only
  refine bnd_elim (fun k7 hk7 => ?_)
  rw [if_pos rfl, has_0 h, Option.bind_some, Option.bind_some, if_pos rfl, has_1 h, Option.bind_some, Option.bind_some, if_pos rfl, hk7]
  refine bnd_elim (fun k8 hk8 => ?_)
  refine (alike_loop hIt 8 12 0 (by omega) (by omega)).trans ?_
  rw [hk8]
end ACT
