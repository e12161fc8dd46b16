section SLOTS
variable {s : OSt} {n rule mv ps pr c0 c1 : Nat} {a b : Int32}
theorem save_bad {p : Int32} (hp : ¬ p = 0 ∧ ¬ p = 1) : fL_call_14 s p a b = some (-9999001, s) := call_14_O (by
  unfold aSave aSavex fX7_save
  rw [if_neg hp.1, if_neg hp.2]
  rfl)
theorem restore_bad {p : Int32} (hp : ¬ p = 0 ∧ ¬ p = 1) : fL_call_15 s p a b = some (-9999001, s) := call_15_O (by
  unfold aRestore aRestorex fX7_restore
  rw [if_neg hp.1, if_neg hp.2]
  rfl)
theorem memK_put {o m x : Nat} {R : Nat → GG} {G : GG} (h : memK o m R) (hx : 14 ≤ x) : memK o m (putR R x G) := by
  refine ⟨h.1, h.2.1, fun j hj => ?_⟩
  rw [putR_ne (by omega)]
  exact h.2.2 j hj
theorem save_any (hI : INV s) (p : Int32) : ∃ r t, fL_call_14 s p a b = some (r, t) ∧ INV t := by
  obtain ⟨n, rule, mv, ps, pr, c0, c1, h⟩ := hI.nw
  obtain ⟨o, m, hm, hk⟩ := hI.1
  by_cases h0 : p = 0
  · subst h0
    obtain ⟨H0, H1, e1, e2, e3⟩ := copyFrom_eq (w' := (s.1 16).1) (t0 := (s.1 16).2.1) (t1 := (s.1 16).2.2.1) h
    have e : fX7_save (s.1 14).1 s.2.2.2.2.1 s.2.2.2.2.2 (s.1 17).1 (s.1 17).2.1 (s.1 17).2.2.1 (s.1 14).2.1 (s.1 14).2.2.1 (s.1 16).1 (s.1 16).2.1 (s.1 16).2.2.1 0 = some (Sum.inr ((s.1 14).1.2.1, true, s.2.2.2.2.2, (s.1 17).1, (s.1 17).2.1, (s.1 17).2.2.1, (s.1 14).1, H0, H1)) := by
      unfold fX7_save
      rw [if_pos rfl, if_pos rfl, e1, Option.bind_some]
    obtain ⟨N, hN⟩ : ∃ N, N = putR (putR s.1 16 ((s.1 14).1, H0, H1, (s.1 14).2.2.2)) 17 ((s.1 17).1, (s.1 17).2.1, (s.1 17).2.2.1, (s.1 17).2.2.2) := ⟨_, rfl⟩
    refine ⟨_, _, call_14_v (t := (N, s.2.1, s.2.2.1, s.2.2.2.1, true, s.2.2.2.2.2)) (r := (s.1 14).1.2.1) ?_, ⟨o, m, hm, ?_⟩, ?_, ?_, ?_⟩
    · unfold aSave aSavex
      rw [e]
      show some (Sum.inr (naSave s 0 _)) = _
      unfold naSave
      rw [hN]
      rfl
    · show memK o m N
      rw [hN]
      exact memK_put (memK_put hk (by omega)) (by omega)
    · show GX (N 14)
      rw [hN, putR_ne (by omega), putR_ne (by omega)]
      exact hI.2.1
    · intro _
      show GX (N 16)
      rw [hN, putR_ne (by omega), putR_at]
      exact ⟨n, rule, mv, ps, pr, c0, c1, e3⟩
    · intro q
      show GX (N 17)
      rw [hN, putR_at]
      exact hI.2.2.2 q
  by_cases h1 : p = 1
  · subst h1
    obtain ⟨H0, H1, e1, e2, e3⟩ := copyFrom_eq (w' := (s.1 17).1) (t0 := (s.1 17).2.1) (t1 := (s.1 17).2.2.1) h
    have e : fX7_save (s.1 14).1 s.2.2.2.2.1 s.2.2.2.2.2 (s.1 17).1 (s.1 17).2.1 (s.1 17).2.2.1 (s.1 14).2.1 (s.1 14).2.2.1 (s.1 16).1 (s.1 16).2.1 (s.1 16).2.2.1 1 = some (Sum.inr ((s.1 14).1.2.1, s.2.2.2.2.1, true, (s.1 14).1, H0, H1, (s.1 16).1, (s.1 16).2.1, (s.1 16).2.2.1)) := by
      unfold fX7_save
      rw [if_neg h0, if_pos rfl, if_neg h0, e1, Option.bind_some]
    obtain ⟨N, hN⟩ : ∃ N, N = putR (putR s.1 16 ((s.1 16).1, (s.1 16).2.1, (s.1 16).2.2.1, (s.1 16).2.2.2)) 17 ((s.1 14).1, H0, H1, (s.1 14).2.2.2) := ⟨_, rfl⟩
    refine ⟨_, _, call_14_v (t := (N, s.2.1, s.2.2.1, s.2.2.2.1, s.2.2.2.2.1, true)) (r := (s.1 14).1.2.1) ?_, ⟨o, m, hm, ?_⟩, ?_, ?_, ?_⟩
    · unfold aSave aSavex
      rw [e]
      show some (Sum.inr (naSave s 1 _)) = _
      unfold naSave
      rw [hN]
      rfl
    · show memK o m N
      rw [hN]
      exact memK_put (memK_put hk (by omega)) (by omega)
    · show GX (N 14)
      rw [hN, putR_ne (by omega), putR_ne (by omega)]
      exact hI.2.1
    · intro q
      show GX (N 16)
      rw [hN, putR_ne (by omega), putR_at]
      exact hI.2.2.1 q
    · intro _
      show GX (N 17)
      rw [hN, putR_at]
      exact ⟨n, rule, mv, ps, pr, c0, c1, e3⟩
  exact ⟨_, s, save_bad ⟨h0, h1⟩, hI⟩
theorem restore_any (hI : INV s) (p : Int32) : ∃ r t, fL_call_15 s p a b = some (r, t) ∧ INV t := by
  obtain ⟨o, m, hm, hk⟩ := hI.1
  have hf : fX4_forgetAll s.2.1 = (nI o, nI 0) := by
    unfold fX4_forgetAll
    rw [hm]
    rfl
  by_cases h0 : p = 0
  · subst h0
    by_cases z : s.2.2.2.2.1 = true
    · obtain ⟨n, rule, mv, ps, pr, c0, c1, h⟩ := hI.2.2.1 z
      obtain ⟨H0, H1, e1, e2, e3⟩ := copyFrom_eq (w' := (s.1 14).1) (t0 := (s.1 14).2.1) (t1 := (s.1 14).2.2.1) h
      obtain ⟨N, hN⟩ : ∃ N, N = putR s.1 14 ((s.1 16).1, H0, H1, (s.1 16).2.2.2) := ⟨_, rfl⟩
      refine ⟨_, _, call_15_v (t := (N, (nI o, nI 0), s.2.2)) (r := (s.1 16).1.2.1) ?_, ⟨o, 0, rfl, hk.1, by omega, fun j hj => by omega⟩, ?_, ?_, ?_⟩
      · unfold aRestore aRestorex fX7_restore bnd
        dsimp only
        rw [if_pos rfl, if_pos rfl, if_pos z, e1, Option.bind_some, hf]
        show some (Sum.inr (naRestore s 0 _)) = _
        unfold naRestore
        rw [hN]
        rfl
      · show GX (N 14)
        rw [hN, putR_at]
        exact ⟨n, rule, mv, ps, pr, c0, c1, e3⟩
      · intro q
        show GX (N 16)
        rw [hN, putR_ne (by omega)]
        exact hI.2.2.1 q
      · intro q
        show GX (N 17)
        rw [hN, putR_ne (by omega)]
        exact hI.2.2.2 q
    · refine ⟨_, s, call_15_S ?_, hI⟩
      unfold aRestore aRestorex fX7_restore
      rw [if_pos rfl, if_pos rfl, if_neg z]
      rfl
  by_cases h1 : p = 1
  · subst h1
    by_cases z : s.2.2.2.2.2 = true
    · obtain ⟨n, rule, mv, ps, pr, c0, c1, h⟩ := hI.2.2.2 z
      obtain ⟨H0, H1, e1, e2, e3⟩ := copyFrom_eq (w' := (s.1 14).1) (t0 := (s.1 14).2.1) (t1 := (s.1 14).2.2.1) h
      obtain ⟨N, hN⟩ : ∃ N, N = putR s.1 14 ((s.1 17).1, H0, H1, (s.1 17).2.2.2) := ⟨_, rfl⟩
      refine ⟨_, _, call_15_v (t := (N, (nI o, nI 0), s.2.2)) (r := (s.1 17).1.2.1) ?_, ⟨o, 0, rfl, hk.1, by omega, fun j hj => by omega⟩, ?_, ?_, ?_⟩
      · unfold aRestore aRestorex fX7_restore bnd
        dsimp only
        rw [if_neg h0, if_pos rfl, if_neg h0, if_pos z, e1, Option.bind_some, hf]
        show some (Sum.inr (naRestore s 1 _)) = _
        unfold naRestore
        rw [hN]
        rfl
      · show GX (N 14)
        rw [hN, putR_at]
        exact ⟨n, rule, mv, ps, pr, c0, c1, e3⟩
      · intro q
        show GX (N 16)
        rw [hN, putR_ne (by omega)]
        exact hI.2.2.1 q
      · intro q
        show GX (N 17)
        rw [hN, putR_ne (by omega)]
        exact hI.2.2.2 q
    · refine ⟨_, s, call_15_S ?_, hI⟩
      unfold aRestore aRestorex fX7_restore
      rw [if_neg h0, if_pos rfl, if_neg h0, if_neg z]
      rfl
  exact ⟨_, s, restore_bad ⟨h0, h1⟩, hI⟩
/-! simulations, scripts, characters -/
theorem INV_copy {G : GG} (hI : INV s) : INV (putR s.1 15 G, s.2) := by
  obtain ⟨⟨o, m, hm, hk⟩, h14, h16, h17⟩ := hI
  refine ⟨⟨o, m, hm, memK_put hk (by omega)⟩, ?_, ?_, ?_⟩
  · show GX (putR s.1 15 G 14)
    rw [putR_ne (by omega)]
    exact h14
  · intro q
    show GX (putR s.1 15 G 16)
    rw [putR_ne (by omega)]
    exact h16 q
  · intro q
    show GX (putR s.1 15 G 17)
    rw [putR_ne (by omega)]
    exact h17 q
theorem sim_ok (hI : INV s) (x : Int64) {m : Nat} (h1 : 1 ≤ m) (h2 : m ≤ 100) : ∃ r t, fL_doSimulate s x (nI m) = some (r, t) ∧ INV t := by
  obtain ⟨n, rule, mv, ps, pr, c0, c1, h⟩ := hI.nw
  obtain ⟨r, w', b0', b1', e⟩ := simulate_ok h x h1 h2 (s.1 15).1 (s.1 15).2.1 (s.1 15).2.2.1
  refine ⟨r, (putR s.1 15 (w', b0', b1', (s.1 14).2.2.2), s.2), doSimulate_v ?_, INV_copy hI⟩
  unfold aSimulate aSimulatex
  rw [e]
  rfl
theorem sim_bad {x : Int64} {p : Int32} (h1 : ¬ p < 1) (h2 : ¬ p ≤ 100) : fL_doSimulate s x p = some (-9999002, s) := doSimulate_A (by
  unfold aSimulate aSimulatex fX7_simulate
  rw [if_neg h1, if_neg h2]
  rfl)
theorem script_bad0 {x : Int64} {p : Int32} (h1 : p < 1) : fL_doScript s p x = some (-9999002, s) := doScript_A (by
  unfold aRunScript aRunScriptx fX7_runScript
  rw [if_pos h1]
  rfl)
theorem script_bad1 {m : Nat} (h1 : 10000 ≤ m) (h2 : m < 1000000) : fL_doScript s 1 (nL m) = some (-9999002, s) := doScript_A (by
  obtain ⟨c, k1, k2, k3⟩ := cin_eq (s := m) (m := 1) (by omega) (by omega) (by omega)
  have hc : ¬ c ≤ 1 := fun q => by have := k3.mp q; omega
  unfold aRunScript aRunScriptx fX7_runScript
  rw [if_neg (by decide), if_pos (by decide), if_neg (by rw [Int64.lt_iff_toInt_lt, nL_toInt (by omega)]; show ¬ (m : Int) < 0; omega), k1, Option.bind_some, if_neg (show ¬ nI c ≤ 1 from fun z => hc ((nI_le_iff (a := c) (b := 1) (by omega) (by omega)).mp z))]
  rfl)
theorem append_bad {p : Int32} (hp : p < 0 ∨ ¬ p ≤ 255) : fL_call_0 s p a b = some (-9999002, s) := call_0_A (by
  unfold aAppend aAppendx fX7_append
  by_cases q : p < 0
  · rw [if_pos q]
    rfl
  · rw [if_neg q, if_neg (hp.resolve_left q)]
    rfl)
end SLOTS
