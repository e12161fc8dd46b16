abbrev GG : Type := GSt × (Nat → Int64) × (Nat → Int64) × RSt
/-- a game of the class and a row of the reference: alike -/
def gameR (G : GG) (f : Nat → Int64) : Prop := ∃ n rule mv ps pr c0 c1, GR n rule mv ps pr c0 c1 G.1 G.2.1 G.2.2.1 G.2.2.2 f
theorem gameR_congr {G : GG} {f f' : Nat → Int64} (h : gameR G f) (q : ∀ i, i < 250 → f' i = f i) : gameR G f' := by
  obtain ⟨n, rule, mv, ps, pr, c0, c1, h⟩ := h
  exact ⟨n, rule, mv, ps, pr, c0, c1, GR_congr h q⟩
/-- the ring of the class and the diary of the reference: alike -/
def memR (o a : Nat) (R : Nat → GG) (dy : Nat → Int64) : Prop := o < 14 ∧ a ≤ 14 ∧ ∀ j, j < a → gameR (R ((o + j) % 14)) (fun i => dy (250 * j + i))
def putR (R : Nat → GG) (x : Nat) (G : GG) : Nat → GG := fun i => if i = x then G else R i
theorem putR_at (R : Nat → GG) (x : Nat) (G : GG) : putR R x G x = G := by unfold putR; rw [if_pos rfl]
theorem putR_ne {R : Nat → GG} {x i : Nat} {G : GG} (h : ¬ i = x) : putR R x G i = R i := by unfold putR; rw [if_neg h]
theorem putR_self (R : Nat → GG) (x : Nat) : putR R x (R x) = R := by
  funext i
  by_cases c : i = x
  · subst c; rw [putR_at]
  · rw [putR_ne c]
def setA (y : MSt) (a : Int32) : MSt := (y.1, y.2.1, a, y.2.2.2.1, y.2.2.2.2.1, y.2.2.2.2.2.1, y.2.2.2.2.2.2.1, y.2.2.2.2.2.2.2.1, y.2.2.2.2.2.2.2.2.1, y.2.2.2.2.2.2.2.2.2)
theorem mod14 : ∀ k, k < 28 → nI k - nI k / 14 * 14 = nI (k % 14) := by decide +kernel
section RING
variable {n rule mv ps pr c0 c1 : Nat} {w : GSt} {b0 b1 : Nat → Int64} {g : RSt} {f : Nat → Int64}
theorem at_ring {o j : Nat} {x : Int32} {ring : Nat → Option Nat} (ho : o < 14) (hj : j < 14) : fX4_at (nI o, x) ring (nI j) = some (ring ((o + j) % 14)) := by
  unfold fX4_at bnd
  dsimp only
  rw [nI_add, mod14 _ (by omega), if_neg (nI_pos (by omega)), if_neg (show ¬ (14 : Int32) ≤ nI ((o + j) % 14) from nI_ge (a := (o + j) % 14) (b := 14) (by omega) (by decide)), if_pos (inB_nI (by omega) (by decide)), nI_clamp (by omega)]
theorem shift_loop (v : MSt) (f dy : Nat → Int64) : ∀ (d fu k : Nat) (Y : Nat → Int64), k + d = 3250 → d + 1 ≤ fu → (∀ i, i < k → Y i = dy (i + 250)) → (∀ i, k ≤ i → Y i = dy i) →
    ∃ Y', (∀ i, i < 3250 → Y' i = dy (i + 250)) ∧ fX8_remember_11 v f dy fu (nI k) v Y = ((fX8_copyState 250 3500 f Y' 0 (250 * (v.2.2.1 - 1))).bind fun r11 => some (setA v ((v.2.2.1 - 1) + 1), r11)) := by
  intro d
  induction d with
  | zero =>
    intro fu k Y hk hf h1 h2
    obtain ⟨fu, rfl⟩ : ∃ f, fu = f + 1 := ⟨fu - 1, by omega⟩
    have hk' : k = 3250 := by omega
    subst hk'
    refine ⟨Y, h1, ?_⟩
    unfold fX8_remember_11
    rw [if_pos (show (3250 : Int32) ≤ nI 3250 by decide)]
    rfl
  | succ d ih =>
    intro fu k Y hk hf h1 h2
    obtain ⟨fu, rfl⟩ : ∃ f, fu = f + 1 := ⟨fu - 1, by omega⟩
    obtain ⟨Y', y1, y2⟩ := ih fu (k + 1) (vp_updL Y k (Y (k + 250))) (by omega) (by omega) (by
      intro i hi
      by_cases c : i = k
      · subst c
        rw [updL_at, h2 _ (by omega)]
      · rw [updL_ne c]
        exact h1 i (by omega)) (by
      intro i hi
      rw [updL_ne (by omega)]
      exact h2 i (by omega))
    refine ⟨Y', y1, ?_⟩
    unfold fX8_remember_11
    rw [if_neg (show ¬ (3250 : Int32) ≤ nI k from nI_ge (a := k) (b := 3250) (by omega) (by decide)), show nI k + 250 = nI (k + 250) from nI_add k 250, if_pos (inB_nI (by omega) (by decide)), if_pos (inB_nI (by omega) (by decide)), nI_clamp (by omega), nI_clamp (by omega), ← nI_succ]
    exact y2
/-- a state is remembered on both sides -/
theorem remember_GR {o a : Nat} {R : Nat → GG} {dy : Nat → Int64} {ring : Nat → Option Nat} {ag : Nat → Nat} (hm : memR o a R dy) (h : GR n rule mv ps pr c0 c1 w b0 b1 g f) (hr : ∀ i, i < 14 → ring i = some (ag i)) :
    ∃ x o' a', x < 14 ∧ ∀ (w' : GSt) (t0 t1 : Nat → Int64) (y : MSt), y.2.2.1 = nI a → ∃ H0 H1 dy', fX4_remember (ag x) (nI o, nI a) w w' ring b0 b1 t0 t1 = some ((nI o', nI a'), w, H0, H1) ∧ fX8_remember y f dy = some (setA y (nI a'), dy') ∧ memR o' a' (putR R x (w, H0, H1, g)) dy' := by
  obtain ⟨m1, m2, m3⟩ := hm
  by_cases c : a < 14
  · refine ⟨(o + a) % 14, o, a + 1, by omega, ?_⟩
    intro w' t0 t1 y hy
    obtain ⟨H0, H1, e1, e2⟩ := copyFrom_eq (w' := w') (t0 := t0) (t1 := t1) h
    obtain ⟨dy', d1, d2, d3⟩ := copyS_eq (N0 := 250) (N2 := 3500) (o0 := 0) (o2 := 250 * a) f dy (by omega) (by omega) (by decide) (by decide)
    have d1' : fX8_copyState 250 3500 f dy 0 (nI (250 * a)) = some dy' := d1
    refine ⟨H0, H1, dy', ?_, ?_, m1, by omega, ?_⟩
    · unfold fX4_remember
      dsimp only
      rw [if_pos (show nI a < 14 from nI_lt (b := 14) c (by decide)), at_ring m1 c, Option.bind_some, hr _ (by omega), if_pos rfl, e1, Option.bind_some, ← nI_succ]
    · unfold fX8_remember
      have hne : ¬ y.2.2.1 = 14 := by
        rw [hy]
        intro z
        have := nI_inj (a := a) (b := 14) (by omega) (by omega) z
        omega
      rw [if_neg hne, hy, show (250 : Int32) * nI a = nI (250 * a) from nI_mul 250 a, d1', Option.bind_some, ← nI_succ]
      rfl
    · intro j hj
      by_cases e : j = a
      · subst e
        rw [putR_at]
        refine ⟨n, rule, mv, ps, pr, c0, c1, GR_congr e2 ?_⟩
        intro i hi
        rw [d2 i hi, Nat.zero_add]
      · rw [putR_ne (by omega)]
        refine gameR_congr (m3 j (by omega)) ?_
        intro i hi
        exact d3 _ (by omega)
  · have ha : a = 14 := by omega
    subst ha
    refine ⟨o, (o + 1) % 14, 14, m1, ?_⟩
    intro w' t0 t1 y hy
    obtain ⟨H0, H1, e1, e2⟩ := copyFrom_eq (w' := w') (t0 := t0) (t1 := t1) h
    obtain ⟨Y', s1, s2⟩ := shift_loop y f dy 3250 5000 0 dy (by omega) (by omega) (fun i hi => by omega) (fun i _ => rfl)
    obtain ⟨dy', d1, d2, d3⟩ := copyS_eq (N0 := 250) (N2 := 3500) (o0 := 0) (o2 := 3250) f Y' (by omega) (by omega) (by decide) (by decide)
    have d1' : fX8_copyState 250 3500 f Y' 0 (nI 3250) = some dy' := d1
    refine ⟨H0, H1, dy', ?_, ?_, by omega, by omega, ?_⟩
    · have q := at_ring (o := (o + 1) % 14) (j := 13) (x := 13) (ring := ring) (by omega) (by omega)
      rw [show ((o + 1) % 14 + 13) % 14 = o by omega] at q
      have q' : fX4_at (nI ((o + 1) % 14), (13 : Int32)) ring 13 = some (ring o) := q
      unfold fX4_remember
      dsimp only
      rw [if_neg (show ¬ nI 14 < 14 by decide), ← nI_succ, mod14 _ (by omega), q', Option.bind_some, hr _ (by omega), if_pos rfl, e1, Option.bind_some]
      rfl
    · unfold fX8_remember
      rw [if_pos (show y.2.2.1 = 14 from hy)]
      refine s2.trans ?_
      rw [hy, show (250 : Int32) * (nI 14 - 1) = nI 3250 by decide, d1', Option.bind_some, show (nI 14 - 1) + 1 = nI 14 by decide]
    · intro j hj
      by_cases e : j = 13
      · subst e
        rw [show ((o + 1) % 14 + 13) % 14 = o by omega, putR_at]
        refine ⟨n, rule, mv, ps, pr, c0, c1, GR_congr e2 ?_⟩
        intro i hi
        have := d2 i hi
        rw [Nat.zero_add] at this
        exact this
      · rw [putR_ne (by omega), show ((o + 1) % 14 + j) % 14 = (o + (j + 1)) % 14 by omega]
        refine gameR_congr (m3 (j + 1) (by omega)) ?_
        intro i hi
        show dy' (250 * j + i) = dy (250 * (j + 1) + i)
        rw [d3 _ (by omega), s1 _ (by omega), show 250 * (j + 1) + i = 250 * j + i + 250 by omega]
/-- the latest state is taken back on both sides -/
theorem takeBack_GR {o a : Nat} {R : Nat → GG} {dy : Nat → Int64} {ring : Nat → Option Nat} {ag : Nat → Nat} (hm : memR o a R dy) (ha : 0 < a) (hr : ∀ i, i < 14 → ring i = some (ag i)) (w : GSt) (b0 b1 f : Nat → Int64) :
    ∃ w' b0' b1' f', fX4_takeBackInto (ag ((o + (a - 1)) % 14)) (nI o, nI a) w (R ((o + (a - 1)) % 14)).1 ring b0 b1 (R ((o + (a - 1)) % 14)).2.1 (R ((o + (a - 1)) % 14)).2.2.1 = some (nI (a - 1), (nI o, nI (a - 1)), w', b0', b1') ∧ fX8_copyState 3500 250 dy f (250 * (nI a - 1)) 0 = some f' ∧ nI a - 1 = nI (a - 1) ∧ memR o (a - 1) R dy ∧ gameR (w', b0', b1', (R ((o + (a - 1)) % 14)).2.2.2) f' := by
  obtain ⟨m1, m2, m3⟩ := hm
  obtain ⟨n, rule, mv, ps, pr, c0, c1, h⟩ := m3 (a - 1) (by omega)
  obtain ⟨H0, H1, e1, e2⟩ := copyFrom_eq (w' := w) (t0 := b0) (t1 := b1) h
  obtain ⟨f', d1, d2, d3⟩ := copyS_eq (N0 := 3500) (N2 := 250) (o0 := 250 * (a - 1)) (o2 := 0) dy f (by omega) (by omega) (by decide) (by decide)
  have d1' : fX8_copyState 3500 250 dy f (nI (250 * (a - 1))) 0 = some f' := d1
  have ea : nI a - 1 = nI (a - 1) := nI_sub (a := a) (b := 1) (by omega)
  refine ⟨_, H0, H1, f', ?_, ?_, ea, ⟨m1, by omega, fun j hj => m3 j (by omega)⟩, ⟨n, rule, mv, ps, pr, c0, c1, GR_congr e2 ?_⟩⟩
  · unfold fX4_takeBackInto
    dsimp only
    rw [ea, at_ring m1 (by omega), Option.bind_some, hr _ (by omega), if_pos rfl, e1, Option.bind_some]
  · rw [ea, show (250 : Int32) * nI (a - 1) = nI (250 * (a - 1)) from nI_mul 250 (a - 1), d1']
  · intro i hi
    have := d2 i hi
    rw [Nat.zero_add] at this
    exact this
end RING
