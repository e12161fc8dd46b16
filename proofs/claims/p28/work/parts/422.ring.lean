theorem mod14 : ∀ k, k < 28 → nI k - nI k / 14 * 14 = nI (k % 14) := by decide +kernel
section RING
variable {n rule mv ps pr c0 c1 : Nat} {w : GSt} {b0 b1 : Nat → Int64} {g : RSt}
theorem at_ring {o j : Nat} {x : Int32} {ring : Nat → Option Nat} (ho : o < 14) (hj : j < 14) : fX4_at (nI o, x) ring (nI j) = some (ring ((o + j) % 14)) := by
  unfold fX4_at bnd
  dsimp only
  rw [nI_add, mod14 _ (by omega), if_neg (nI_pos (by omega)), if_neg (show ¬ (14 : Int32) ≤ nI ((o + j) % 14) from nI_ge (a := (o + j) % 14) (b := 14) (by omega) (by decide)), if_pos (inB_nI (by omega) (by decide)), nI_clamp (by omega)]
theorem nxt_at {o a : Nat} (ho : o < 14) (ha : a ≤ 14) : nxtX (nI o, nI a) = if a < 14 then (o + a) % 14 else o := by
  unfold nxtX
  dsimp only
  by_cases c : a < 14
  · rw [if_pos (show nI a < 14 from nI_lt (b := 14) c (by decide)), if_pos c, nI_add, mod14 _ (by omega), nI_clamp (by omega)]
    omega
  · have : a = 14 := by omega
    subst this
    rw [if_neg (show ¬ nI 14 < 14 by decide), if_neg c, ← nI_succ, mod14 _ (by omega), show (13 : Int32) = nI 13 from rfl, nI_add, mod14 _ (by omega), nI_clamp (by omega)]
    omega
theorem lst_at {o a : Nat} (ho : o < 14) (ha : a ≤ 14) (h0 : 0 < a) : lstX (nI o, nI a) = (o + (a - 1)) % 14 := by
  unfold lstX
  dsimp only
  rw [show (1 : Int32) = nI 1 from rfl, nI_sub (a := a) (b := 1) (by omega), nI_add, mod14 _ (by omega), nI_clamp (by omega)]
  omega
/-- a state is remembered -/
theorem remember_GR {o a : Nat} (ho : o < 14) (ha : a ≤ 14) (h : GR n rule mv ps pr c0 c1 w b0 b1 g) (w' : GSt) (t0 t1 : Nat → Int64) :
    ∃ o' a' H0 H1, fX4_remember (nxtX (nI o, nI a)) (nI o, nI a) w w' rgC b0 b1 t0 t1 = some ((nI o', nI a'), w, H0, H1) ∧ (∀ i, i ≤ mv → H0 i = b0 i ∧ H1 i = b1 i) ∧ GR n rule mv ps pr c0 c1 w H0 H1 g ∧ o' < 14 ∧ a' ≤ 14 ∧ 0 < a' ∧ (o' + (a' - 1)) % 14 = nxtX (nI o, nI a) ∧ ∀ j, j + 1 < a' → ∃ j', j' < a ∧ (o' + j) % 14 = (o + j') % 14 ∧ ¬ (o' + j) % 14 = nxtX (nI o, nI a) := by
  obtain ⟨H0, H1, e1, e2, e3⟩ := copyFrom_eq (w' := w') (t0 := t0) (t1 := t1) h
  by_cases c : a < 14
  · have hx := nxt_at ho ha
    rw [if_pos c] at hx
    rw [hx]
    refine ⟨o, a + 1, H0, H1, ?_, e2, e3, ho, by omega, by omega, by omega, fun j hj => ⟨j, by omega, rfl, by omega⟩⟩
    unfold fX4_remember
    dsimp only
    rw [if_pos (show nI a < 14 from nI_lt (b := 14) c (by decide)), at_ring ho c, Option.bind_some, if_pos rfl, e1, Option.bind_some, ← nI_succ]
  · have hx := nxt_at ho ha
    rw [if_neg c] at hx
    have ha14 : a = 14 := by omega
    subst ha14
    rw [hx]
    refine ⟨(o + 1) % 14, 14, H0, H1, ?_, e2, e3, by omega, by omega, by omega, by omega, fun j hj => ⟨j + 1, by omega, by omega, by omega⟩⟩
    have q := at_ring (o := (o + 1) % 14) (j := 13) (x := 13) (ring := rgC) (by omega) (by omega)
    rw [show ((o + 1) % 14 + 13) % 14 = o by omega] at q
    have q' : fX4_at (nI ((o + 1) % 14), (13 : Int32)) rgC 13 = some (rgC o) := q
    unfold fX4_remember
    dsimp only
    rw [if_neg (show ¬ nI 14 < 14 by decide), ← nI_succ, mod14 _ (by omega), q', Option.bind_some, if_pos rfl, e1, Option.bind_some]
    rfl
/-- the latest state is taken back -/
theorem takeBack_GR {o a : Nat} (ho : o < 14) (ha : a ≤ 14) (h0 : 0 < a) (h : GR n rule mv ps pr c0 c1 w b0 b1 g) (w' : GSt) (t0 t1 : Nat → Int64) :
    ∃ H0 H1, fX4_takeBackInto (lstX (nI o, nI a)) (nI o, nI a) w' w rgC t0 t1 b0 b1 = some (nI (a - 1), (nI o, nI (a - 1)), w, H0, H1) ∧ (∀ i, i ≤ mv → H0 i = b0 i ∧ H1 i = b1 i) ∧ GR n rule mv ps pr c0 c1 w H0 H1 g := by
  obtain ⟨H0, H1, e1, e2, e3⟩ := copyFrom_eq (w' := w') (t0 := t0) (t1 := t1) h
  refine ⟨H0, H1, ?_, e2, e3⟩
  have ea : nI a - 1 = nI (a - 1) := nI_sub (a := a) (b := 1) (by omega)
  rw [lst_at ho ha h0]
  unfold fX4_takeBackInto
  dsimp only
  rw [ea, at_ring ho (by omega), Option.bind_some, if_pos rfl, e1, Option.bind_some]
end RING
