/-! what the two objects hold when they are made: the relation at the start -/
abbrev f0L : Nat → Int64 := fun _ => 0
abbrev v7 (g : RSt) : (Int32 × Int32 × Int64 × Int64 × Int64) × Int32 × (Nat → Int32) × (Int32 × Int32 × Int32 × Int32 × Int64 × Int64 × Int32 × Int32) × (Nat → Int64) × (Nat → Int64) × (Int32 × Int32 × Int32 × Int32 × Int64 × Int64 × Int32 × Int32) × (Nat → Int64) × (Nat → Int64) × (Int32 × Int32) × Bool × (Int32 × Int32 × Int32 × Int32 × Int64 × Int64 × Int32 × Int32) × (Nat → Int64) × (Nat → Int64) × Bool × (Int32 × Int32 × Int32 × Int32 × Int64 × Int64 × Int32 × Int32) × (Nat → Int64) × (Nat → Int64)   := (g, 0, (fun _ => 0), zGS, f0L, f0L, zGS, f0L, f0L, (0, 0), false, zGS, f0L, f0L, false, zGS, f0L, f0L)
theorem fX7_init_eq : fX7_init = some (v7 (gridOf 5)) := by
  unfold fX7_init
  rw [show (5 : Int32) = nI 5 from by decide, init_grid (n := 5) (Or.inr (Or.inr (Or.inl rfl)))]
  generalize gridOf 5 = g
  rfl
abbrev v8 (y : Nat → Int64) : (Int32 × Int32 × Int32 × Int64 × Int64 × Int32 × Int64 × Int32 × Int32 × Int32) × (Nat → Int32) × (Nat → Int64) × (Nat → Int64) × (Nat → Int64) × (Nat → Int64) × (Nat → Int32) × (Nat → Int64) × (Nat → Int64) × (Nat → Int32) := ((0, 0, 0, 0, 0, 0, 0, 0, 0, 0), (fun _ => 0), y, f0L, f0L, f0L, (fun _ => 0), f0L, f0L, (fun _ => 0))
theorem fX8_init_eq : ∃ y : Nat → Int64, fX8_init = some (v8 y) ∧ y 0 = nL 5 ∧ y 1 = nL 0 ∧ ∀ i, 2 ≤ i → i < 250 → y i = 0 := by
  obtain ⟨y, h1, h2, h3, h4⟩ := clear_eq (fun _ => (0 : Int64)) 5
  refine ⟨y, ?_, h2.trans (by decide), h3.trans (by decide), h4⟩
  unfold fX8_init
  rw [h1]
  rfl
theorem zero_GR {g : RSt} {y : Nat → Int64} (hg : gridOf 5 = g) (y0 : y 0 = nL 5) (y1 : y 1 = nL 0) (y2 : ∀ i, 2 ≤ i → i < 250 → y i = 0) : gameR (zGS, f0L, f0L, g) y := by
  have h := empty_GR (m := 5) (r := 0) (d0 := f0L) (d1 := f0L) (Or.inr (Or.inr (Or.inl rfl))) (by omega) rfl rfl y0 y1 y2
  rw [hg] at h
  exact ⟨5, 0, 0, 0, 0, 0, 0, h⟩
def adF (adr : Nat → Nat) (fx : List Nat) (j : Nat) : Nat := if 18 ≤ j ∧ j < 60 then adr (j - 18) else if j < 18 then fx.getD j 0 else fx.getD (j - 42) 0
theorem adF_lo {adr : Nat → Nat} {fx : List Nat} {j : Nat} (h : j < 18) : adF adr fx j = fx.getD j 0 := by unfold adF; rw [if_neg (by omega), if_pos h]
theorem adF_mid {adr : Nat → Nat} {fx : List Nat} {j : Nat} (h : 18 ≤ j) (h2 : j < 60) : adF adr fx j = adr (j - 18) := by unfold adF; rw [if_pos ⟨h, h2⟩]
theorem adF_hi {adr : Nat → Nat} {fx : List Nat} {j : Nat} (h : 60 ≤ j) : adF adr fx j = fx.getD (j - 42) 0 := by unfold adF; rw [if_neg (by omega), if_neg (by omega)]
theorem fx_at {fx : List Nat} {i : Nat} (hi : i < fx.length) : fx.getD i 0 = fx[i] := by simp [List.getD, List.getElem?_eq_getElem hi]
theorem fx_inj {fx : List Nat} (hp : fx.Pairwise (· ≠ ·)) {i j : Nat} (hi : i < fx.length) (hj : j < fx.length) (h : fx.getD i 0 = fx.getD j 0) : i = j := by
  rw [fx_at hi, fx_at hj] at h
  rcases Nat.lt_trichotomy i j with q | q | q
  · exact absurd h (List.pairwise_iff_getElem.mp hp i j hi hj q)
  · exact q
  · exact absurd h.symm (List.pairwise_iff_getElem.mp hp j i hj hi q)
theorem adF_inj {adr : Nat → Nat} {fx : List Nat} (hn : fx.length = 30) (hp : fx.Pairwise (· ≠ ·)) (hi : adI adr 42) (ha : ∀ x ∈ fx, ∀ k, k < 42 → adr k ≠ x) : inj72 (adF adr fx) := by
  have hfx : ∀ i, i < 30 → fx.getD i 0 ∈ fx := fun i h => by rw [fx_at (by omega)]; exact List.getElem_mem _
  have key : ∀ j, j < 72 → (18 ≤ j ∧ j < 60 ∧ adF adr fx j = adr (j - 18)) ∨ (∃ t, t < 30 ∧ adF adr fx j = fx.getD t 0 ∧ ((j < 18 ∧ t = j) ∨ (60 ≤ j ∧ t = j - 42))) := by
    intro j hj
    by_cases h1 : j < 18
    · exact Or.inr ⟨j, by omega, adF_lo h1, Or.inl ⟨h1, rfl⟩⟩
    · by_cases h2 : j < 60
      · exact Or.inl ⟨by omega, h2, adF_mid (by omega) h2⟩
      · exact Or.inr ⟨j - 42, by omega, adF_hi (by omega), Or.inr ⟨by omega, rfl⟩⟩
  intro i j hi72 hj72 h
  rcases key i hi72 with ⟨i1, i2, ei⟩ | ⟨t, ht, ei, qi⟩ <;> rcases key j hj72 with ⟨j1, j2, ej⟩ | ⟨u, hu, ej, qj⟩
  · rw [ei, ej] at h
    have := hi (i - 18) (j - 18) (by omega) (by omega) h
    omega
  · rw [ei, ej] at h
    exact absurd h (ha _ (hfx u hu) (i - 18) (by omega))
  · rw [ei, ej] at h
    exact absurd h.symm (ha _ (hfx t ht) (j - 18) (by omega))
  · rw [ei, ej] at h
    have := fx_inj hp (by omega) (by omega) h
    omega
def hasE (σ : mwm) (x : Nat) : Prop := ∃ e, σ x = some e
theorem has_ne {σ : mwm} {x q : Nat} (h : ∀ (b : Nat) (f : va_E), σ b = some f → b ≠ q) (hx : hasE σ x) : x ≠ q := hx.elim fun e he => h x e he
theorem has_mk {σ : mwm} {x : Nat} {e : va_E} (h : σ x = some e) : hasE σ x := ⟨e, h⟩
theorem RG_has {K : Nat → ClassId} {adr : Nat → Nat} {fr : Nat → Option Nat} {g : Nat → Nat} {W : Nat → GS} {F0 F1 : Nat → Nat → Int64} {σ : mwm} (h : RGm K adr 14 fr g W F0 F1 σ) : ∀ k, k < 42 → hasE σ (adr k) := by
  intro k hk
  obtain ⟨i, hi, e⟩ : ∃ i, i < 14 ∧ (k = 3 * i ∨ k = 3 * i + 1 ∨ k = 3 * i + 2) := ⟨k / 3, by omega, by omega⟩
  obtain ⟨-, h1, h2, h3⟩ := h i hi
  rcases e with e | e | e
  · rw [e]; exact ⟨_, h1⟩
  · rw [e]; exact ⟨_, h2⟩
  · rw [e]; exact ⟨_, h3⟩
