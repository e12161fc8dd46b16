/-! what an object holds when it is made -/
abbrev f0L : Nat → Int64 := fun _ => 0
abbrev v7 (g : RS) : (Int32 × Int32 × Int64 × Int64 × Int64) × Int32 × (Nat → Int32) × (Int32 × Int32 × Int32 × Int32 × Int64 × Int64 × Int32 × Int32) × (Nat → Int64) × (Nat → Int64) × (Int32 × Int32 × Int32 × Int32 × Int64 × Int64 × Int32 × Int32) × (Nat → Int64) × (Nat → Int64) × (Int32 × Int32) × Bool × (Int32 × Int32 × Int32 × Int32 × Int64 × Int64 × Int32 × Int32) × (Nat → Int64) × (Nat → Int64) × Bool × (Int32 × Int32 × Int32 × Int32 × Int64 × Int64 × Int32 × Int32) × (Nat → Int64) × (Nat → Int64)   := (g, 0, (fun _ => 0), zGS, f0L, f0L, zGS, f0L, f0L, (0, 0), false, zGS, f0L, f0L, false, zGS, f0L, f0L)
theorem fX7_init_eq : fX7_init = some (v7 (gridOf 5)) := by
  unfold fX7_init
  rw [show (5 : Int32) = nI 5 from by decide, init_grid (n := 5) (Or.inr (Or.inr (Or.inl rfl)))]
  generalize gridOf 5 = g
  rfl
abbrev s0 (g : RS) : OSt := ((fun _ => (zGS, f0L, f0L, g)), (0, 0), 0, (fun _ => 0), false, false)
theorem s0_INV : INV (s0 (gridOf 5)) := by
  have h := empty_GR (m := 5) (r := 0) (d0 := f0L) (d1 := f0L) (Or.inr (Or.inr (Or.inl rfl))) (by omega) rfl rfl
  have hG : GX (zGS, f0L, f0L, gridOf 5) := ⟨5, 0, 0, 0, 0, 0, 0, h⟩
  exact ⟨⟨0, 0, rfl, by omega, by omega, fun j hj => absurd hj (by omega)⟩, hG, fun z => (by cases z), fun z => (by cases z)⟩
def adF (adr : Nat → Nat) (fx : List Nat) (j : Nat) : Nat := if 7 ≤ j ∧ j < 49 then adr (j - 7) else if j < 7 then fx.getD j 0 else fx.getD (j - 42) 0
theorem adF_lo {adr : Nat → Nat} {fx : List Nat} {j : Nat} (h : j < 7) : adF adr fx j = fx.getD j 0 := by unfold adF; rw [if_neg (by omega), if_pos h]
theorem adF_mid {adr : Nat → Nat} {fx : List Nat} {j : Nat} (h : 7 ≤ j) (h2 : j < 49) : adF adr fx j = adr (j - 7) := by unfold adF; rw [if_pos ⟨h, h2⟩]
theorem adF_hi {adr : Nat → Nat} {fx : List Nat} {j : Nat} (h : 49 ≤ j) : adF adr fx j = fx.getD (j - 42) 0 := by unfold adF; rw [if_neg (by omega), if_neg (by omega)]
theorem fx_at {fx : List Nat} {i : Nat} (hi : i < fx.length) : fx.getD i 0 = fx[i] := by simp [List.getD, List.getElem?_eq_getElem hi]
theorem fx_inj {fx : List Nat} (hp : fx.Pairwise (· ≠ ·)) {i j : Nat} (hi : i < fx.length) (hj : j < fx.length) (h : fx.getD i 0 = fx.getD j 0) : i = j := by
  rw [fx_at hi, fx_at hj] at h
  rcases Nat.lt_trichotomy i j with q | q | q
  · exact absurd h (List.pairwise_iff_getElem.mp hp i j hi hj q)
  · exact q
  · exact absurd h.symm (List.pairwise_iff_getElem.mp hp j i hj hi q)
theorem adF_key {adr : Nat → Nat} {fx : List Nat} (j : Nat) (hj : j < 61) : (7 ≤ j ∧ j < 49 ∧ adF adr fx j = adr (j - 7)) ∨ (∃ t, t < 19 ∧ adF adr fx j = fx.getD t 0 ∧ ((j < 7 ∧ t = j) ∨ (49 ≤ j ∧ t = j - 42))) := by
  by_cases h1 : j < 7
  · exact Or.inr ⟨j, by omega, adF_lo h1, Or.inl ⟨h1, rfl⟩⟩
  · by_cases h2 : j < 49
    · exact Or.inl ⟨by omega, h2, adF_mid (by omega) h2⟩
    · exact Or.inr ⟨j - 42, by omega, adF_hi (by omega), Or.inr ⟨by omega, rfl⟩⟩
theorem adF_all {adr : Nat → Nat} {fx : List Nat} (hn : fx.length = 19) {P : Nat → Prop} (h1 : ∀ x ∈ fx, P x) (h2 : ∀ k, k < 42 → P (adr k)) (j : Nat) (hj : j < 61) : P (adF adr fx j) := by
  rcases adF_key (adr := adr) (fx := fx) j hj with ⟨i1, i2, ei⟩ | ⟨t, ht, ei, -⟩
  · rw [ei]; exact h2 _ (by omega)
  · rw [ei, fx_at (by omega)]; exact h1 _ (List.getElem_mem _)
theorem adF_inj {adr : Nat → Nat} {fx : List Nat} (hn : fx.length = 19) (hp : fx.Pairwise (· ≠ ·)) (hi : adI adr 42) (ha : ∀ x ∈ fx, ∀ k, k < 42 → adr k ≠ x) : inj61 (adF adr fx) := by
  have hfx : ∀ i, i < 19 → fx.getD i 0 ∈ fx := fun i h => by rw [fx_at (by omega)]; exact List.getElem_mem _
  intro i j hi72 hj72 h
  rcases adF_key (adr := adr) (fx := fx) i hi72 with ⟨i1, i2, ei⟩ | ⟨t, ht, ei, qi⟩ <;> rcases adF_key (adr := adr) (fx := fx) j hj72 with ⟨j1, j2, ej⟩ | ⟨u, hu, ej, qj⟩
  · rw [ei, ej] at h
    have := hi (i - 7) (j - 7) (by omega) (by omega) h
    omega
  · rw [ei, ej] at h
    exact absurd h (ha _ (hfx u hu) (i - 7) (by omega))
  · rw [ei, ej] at h
    exact absurd h.symm (ha _ (hfx t ht) (j - 7) (by omega))
  · rw [ei, ej] at h
    have := fx_inj hp (by omega) (by omega) h
    omega
set_option maxHeartbeats 4000000 in
set_option maxRecDepth 100000 in
theorem init_OB {K : Nat → ClassId} {σ0 σ1 σ2 : mwm} {a : Nat} {g : RS} {e9 : va_E} (ha : σ1 a = some e9) (k0 : ∀ (b : Nat) (f : va_E), σ0 b = some f → σ1 b = some f) (n0 : ∀ (b : Nat) (f : va_E), σ0 b = some f → b ≠ a)
  (h7 : ∃ a_q1 a_q2 a_q3 a_q4 a_q5 a_q6 a_q7 a_q8 a_q9 a_q10 a_q11 a_q12 a_q13 a_q14 a_q15 a_q16 a_q17 a_q18 a_q19 : Nat, ∃ (adr : Nat → Nat) (fr : Nat → Option Nat), RGm K adr 14 fr (fun _ => a_q1) (fun _ => zGS) (fun _ _ => 0) (fun _ _ => 0) σ2 ∧ adI adr 42 ∧ (∀ k : Nat, k < 42 → adr k ≠ a) ∧ (∀ k : Nat, k < 42 → adr k ≠ a_q1) ∧ (∀ k : Nat, k < 42 → adr k ≠ a_q2) ∧ (∀ k : Nat, k < 42 → adr k ≠ a_q3) ∧ (∀ k : Nat, k < 42 → adr k ≠ a_q4) ∧ (∀ k : Nat, k < 42 → adr k ≠ a_q5) ∧ (∀ k : Nat, k < 42 → adr k ≠ a_q6) ∧ (∀ k : Nat, k < 42 → adr k ≠ a_q7) ∧ (∀ k : Nat, k < 42 → adr k ≠ a_q8) ∧ (∀ k : Nat, k < 42 → adr k ≠ a_q9) ∧ (∀ k : Nat, k < 42 → adr k ≠ a_q10) ∧ (∀ k : Nat, k < 42 → adr k ≠ a_q11) ∧ (∀ k : Nat, k < 42 → adr k ≠ a_q12) ∧ (∀ k : Nat, k < 42 → adr k ≠ a_q13) ∧ (∀ k : Nat, k < 42 → adr k ≠ a_q14) ∧ (∀ k : Nat, k < 42 → adr k ≠ a_q15) ∧ (∀ k : Nat, k < 42 → adr k ≠ a_q16) ∧ (∀ k : Nat, k < 42 → adr k ≠ a_q17) ∧ (∀ k : Nat, k < 42 → adr k ≠ a_q18) ∧ (∀ k : Nat, k < 42 → adr k ≠ a_q19) ∧ (∀ k : Nat, k < 42 → ∀ (b : Nat) (e : va_E), σ1 b = some e → b ≠ adr k) ∧ (∀ (b : Nat) (f : va_E), σ1 b = some f → b ≠ a_q1) ∧ (∀ (b : Nat) (f : va_E), σ1 b = some f → b ≠ a_q2) ∧ (∀ (b : Nat) (f : va_E), σ1 b = some f → b ≠ a_q3) ∧ (∀ (b : Nat) (f : va_E), σ1 b = some f → b ≠ a_q4) ∧ (∀ (b : Nat) (f : va_E), σ1 b = some f → b ≠ a_q5) ∧ (∀ (b : Nat) (f : va_E), σ1 b = some f → b ≠ a_q6) ∧ (∀ (b : Nat) (f : va_E), σ1 b = some f → b ≠ a_q7) ∧ (∀ (b : Nat) (f : va_E), σ1 b = some f → b ≠ a_q8) ∧ (∀ (b : Nat) (f : va_E), σ1 b = some f → b ≠ a_q9) ∧ (∀ (b : Nat) (f : va_E), σ1 b = some f → b ≠ a_q10) ∧ (∀ (b : Nat) (f : va_E), σ1 b = some f → b ≠ a_q11) ∧ (∀ (b : Nat) (f : va_E), σ1 b = some f → b ≠ a_q12) ∧ (∀ (b : Nat) (f : va_E), σ1 b = some f → b ≠ a_q13) ∧ (∀ (b : Nat) (f : va_E), σ1 b = some f → b ≠ a_q14) ∧ (∀ (b : Nat) (f : va_E), σ1 b = some f → b ≠ a_q15) ∧ (∀ (b : Nat) (f : va_E), σ1 b = some f → b ≠ a_q16) ∧ (∀ (b : Nat) (f : va_E), σ1 b = some f → b ≠ a_q17) ∧ (∀ (b : Nat) (f : va_E), σ1 b = some f → b ≠ a_q18) ∧ (∀ (b : Nat) (f : va_E), σ1 b = some f → b ≠ a_q19) ∧ a_q1 ≠ a_q2 ∧ a_q1 ≠ a_q3 ∧ a_q1 ≠ a_q4 ∧ a_q1 ≠ a_q5 ∧ a_q1 ≠ a_q6 ∧ a_q1 ≠ a_q7 ∧ a_q1 ≠ a_q8 ∧ a_q1 ≠ a_q9 ∧ a_q1 ≠ a_q10 ∧ a_q1 ≠ a_q11 ∧ a_q1 ≠ a_q12 ∧ a_q1 ≠ a_q13 ∧ a_q1 ≠ a_q14 ∧ a_q1 ≠ a_q15 ∧ a_q1 ≠ a_q16 ∧ a_q1 ≠ a_q17 ∧ a_q1 ≠ a_q18 ∧ a_q1 ≠ a_q19 ∧ a_q2 ≠ a_q3 ∧ a_q2 ≠ a_q4 ∧ a_q2 ≠ a_q5 ∧ a_q2 ≠ a_q6 ∧ a_q2 ≠ a_q7 ∧ a_q2 ≠ a_q8 ∧ a_q2 ≠ a_q9 ∧ a_q2 ≠ a_q10 ∧ a_q2 ≠ a_q11 ∧ a_q2 ≠ a_q12 ∧ a_q2 ≠ a_q13 ∧ a_q2 ≠ a_q14 ∧ a_q2 ≠ a_q15 ∧ a_q2 ≠ a_q16 ∧ a_q2 ≠ a_q17 ∧ a_q2 ≠ a_q18 ∧ a_q2 ≠ a_q19 ∧ a_q3 ≠ a_q4 ∧ a_q3 ≠ a_q5 ∧ a_q3 ≠ a_q6 ∧ a_q3 ≠ a_q7 ∧ a_q3 ≠ a_q8 ∧ a_q3 ≠ a_q9 ∧ a_q3 ≠ a_q10 ∧ a_q3 ≠ a_q11 ∧ a_q3 ≠ a_q12 ∧ a_q3 ≠ a_q13 ∧ a_q3 ≠ a_q14 ∧ a_q3 ≠ a_q15 ∧ a_q3 ≠ a_q16 ∧ a_q3 ≠ a_q17 ∧ a_q3 ≠ a_q18 ∧ a_q3 ≠ a_q19 ∧ a_q4 ≠ a_q5 ∧ a_q4 ≠ a_q6 ∧ a_q4 ≠ a_q7 ∧ a_q4 ≠ a_q8 ∧ a_q4 ≠ a_q9 ∧ a_q4 ≠ a_q10 ∧ a_q4 ≠ a_q11 ∧ a_q4 ≠ a_q12 ∧ a_q4 ≠ a_q13 ∧ a_q4 ≠ a_q14 ∧ a_q4 ≠ a_q15 ∧ a_q4 ≠ a_q16 ∧ a_q4 ≠ a_q17 ∧ a_q4 ≠ a_q18 ∧ a_q4 ≠ a_q19 ∧ a_q5 ≠ a_q6 ∧ a_q5 ≠ a_q7 ∧ a_q5 ≠ a_q8 ∧ a_q5 ≠ a_q9 ∧ a_q5 ≠ a_q10 ∧ a_q5 ≠ a_q11 ∧ a_q5 ≠ a_q12 ∧ a_q5 ≠ a_q13 ∧ a_q5 ≠ a_q14 ∧ a_q5 ≠ a_q15 ∧ a_q5 ≠ a_q16 ∧ a_q5 ≠ a_q17 ∧ a_q5 ≠ a_q18 ∧ a_q5 ≠ a_q19 ∧ a_q6 ≠ a_q7 ∧ a_q6 ≠ a_q8 ∧ a_q6 ≠ a_q9 ∧ a_q6 ≠ a_q10 ∧ a_q6 ≠ a_q11 ∧ a_q6 ≠ a_q12 ∧ a_q6 ≠ a_q13 ∧ a_q6 ≠ a_q14 ∧ a_q6 ≠ a_q15 ∧ a_q6 ≠ a_q16 ∧ a_q6 ≠ a_q17 ∧ a_q6 ≠ a_q18 ∧ a_q6 ≠ a_q19 ∧ a_q7 ≠ a_q8 ∧ a_q7 ≠ a_q9 ∧ a_q7 ≠ a_q10 ∧ a_q7 ≠ a_q11 ∧ a_q7 ≠ a_q12 ∧ a_q7 ≠ a_q13 ∧ a_q7 ≠ a_q14 ∧ a_q7 ≠ a_q15 ∧ a_q7 ≠ a_q16 ∧ a_q7 ≠ a_q17 ∧ a_q7 ≠ a_q18 ∧ a_q7 ≠ a_q19 ∧ a_q8 ≠ a_q9 ∧ a_q8 ≠ a_q10 ∧ a_q8 ≠ a_q11 ∧ a_q8 ≠ a_q12 ∧ a_q8 ≠ a_q13 ∧ a_q8 ≠ a_q14 ∧ a_q8 ≠ a_q15 ∧ a_q8 ≠ a_q16 ∧ a_q8 ≠ a_q17 ∧ a_q8 ≠ a_q18 ∧ a_q8 ≠ a_q19 ∧ a_q9 ≠ a_q10 ∧ a_q9 ≠ a_q11 ∧ a_q9 ≠ a_q12 ∧ a_q9 ≠ a_q13 ∧ a_q9 ≠ a_q14 ∧ a_q9 ≠ a_q15 ∧ a_q9 ≠ a_q16 ∧ a_q9 ≠ a_q17 ∧ a_q9 ≠ a_q18 ∧ a_q9 ≠ a_q19 ∧ a_q10 ≠ a_q11 ∧ a_q10 ≠ a_q12 ∧ a_q10 ≠ a_q13 ∧ a_q10 ≠ a_q14 ∧ a_q10 ≠ a_q15 ∧ a_q10 ≠ a_q16 ∧ a_q10 ≠ a_q17 ∧ a_q10 ≠ a_q18 ∧ a_q10 ≠ a_q19 ∧ a_q11 ≠ a_q12 ∧ a_q11 ≠ a_q13 ∧ a_q11 ≠ a_q14 ∧ a_q11 ≠ a_q15 ∧ a_q11 ≠ a_q16 ∧ a_q11 ≠ a_q17 ∧ a_q11 ≠ a_q18 ∧ a_q11 ≠ a_q19 ∧ a_q12 ≠ a_q13 ∧ a_q12 ≠ a_q14 ∧ a_q12 ≠ a_q15 ∧ a_q12 ≠ a_q16 ∧ a_q12 ≠ a_q17 ∧ a_q12 ≠ a_q18 ∧ a_q12 ≠ a_q19 ∧ a_q13 ≠ a_q14 ∧ a_q13 ≠ a_q15 ∧ a_q13 ≠ a_q16 ∧ a_q13 ≠ a_q17 ∧ a_q13 ≠ a_q18 ∧ a_q13 ≠ a_q19 ∧ a_q14 ≠ a_q15 ∧ a_q14 ≠ a_q16 ∧ a_q14 ≠ a_q17 ∧ a_q14 ≠ a_q18 ∧ a_q14 ≠ a_q19 ∧ a_q15 ≠ a_q16 ∧ a_q15 ≠ a_q17 ∧ a_q15 ≠ a_q18 ∧ a_q15 ≠ a_q19 ∧ a_q16 ≠ a_q17 ∧ a_q16 ≠ a_q18 ∧ a_q16 ≠ a_q19 ∧ a_q17 ≠ a_q18 ∧ a_q17 ≠ a_q19 ∧ a_q18 ≠ a_q19 ∧ σ2 a = some (cl5 a_q2 a_q4 a_q7 a_q10 a_q12 a_q16) ∧ σ2 a_q1 = some (cl2  (v7 g).1) ∧ σ2 a_q2 = some (cl1 a_q3 (v7 g).2.1) ∧ σ2 a_q3 = some (eC K 120 (v7 g).2.2.1) ∧ σ2 a_q4 = some (cl0 a_q5 a_q6 a_q1 (v7 g).2.2.2.1) ∧ σ2 a_q5 = some (eJ K 121 (v7 g).2.2.2.2.1) ∧ σ2 a_q6 = some (eJ K 121 (v7 g).2.2.2.2.2.1) ∧ σ2 a_q7 = some (cl0 a_q8 a_q9 a_q1 (v7 g).2.2.2.2.2.2.1) ∧ σ2 a_q8 = some (eJ K 121 (v7 g).2.2.2.2.2.2.2.1) ∧ σ2 a_q9 = some (eJ K 121 (v7 g).2.2.2.2.2.2.2.2.1) ∧ σ2 a_q10 = some (cl3 a_q11 (v7 g).2.2.2.2.2.2.2.2.2.1) ∧ σ2 a_q11 = some (eQ K 14 fr) ∧ σ2 a_q12 = some (cl4 a_q13 (v7 g).2.2.2.2.2.2.2.2.2.2.1) ∧ σ2 a_q13 = some (cl0 a_q14 a_q15 a_q1 (v7 g).2.2.2.2.2.2.2.2.2.2.2.1) ∧ σ2 a_q14 = some (eJ K 121 (v7 g).2.2.2.2.2.2.2.2.2.2.2.2.1) ∧ σ2 a_q15 = some (eJ K 121 (v7 g).2.2.2.2.2.2.2.2.2.2.2.2.2.1) ∧ σ2 a_q16 = some (cl4 a_q17 (v7 g).2.2.2.2.2.2.2.2.2.2.2.2.2.2.1) ∧ σ2 a_q17 = some (cl0 a_q18 a_q19 a_q1 (v7 g).2.2.2.2.2.2.2.2.2.2.2.2.2.2.2.1) ∧ σ2 a_q18 = some (eJ K 121 (v7 g).2.2.2.2.2.2.2.2.2.2.2.2.2.2.2.2.1) ∧ σ2 a_q19 = some (eJ K 121 (v7 g).2.2.2.2.2.2.2.2.2.2.2.2.2.2.2.2.2) ∧ ∀ (q : Nat) (f : va_E), σ1 q = some f → q ≠ a → σ2 q = some f) :
  ∃ ad : Nat → Nat, ad 0 = a ∧ OB K ad σ2 (s0 g) ∧ (∀ (b : Nat) (f : va_E), σ0 b = some f → σ2 b = some f) ∧ ∀ j, j < 61 → ∀ (b : Nat) (f : va_E), σ0 b = some f → b ≠ ad j := by
  obtain ⟨a_q1, a_q2, a_q3, a_q4, a_q5, a_q6, a_q7, a_q8, a_q9, a_q10, a_q11, a_q12, a_q13, a_q14, a_q15, a_q16, a_q17, a_q18, a_q19, adr, fr, h7⟩ := h7
  have hRG := h7.1
  replace h7 := h7.2
  have hadI := h7.1
  replace h7 := h7.2
  have na_a := h7.1
  replace h7 := h7.2
  have na_1 := h7.1
  replace h7 := h7.2
  have na_2 := h7.1
  replace h7 := h7.2
  have na_3 := h7.1
  replace h7 := h7.2
  have na_4 := h7.1
  replace h7 := h7.2
  have na_5 := h7.1
  replace h7 := h7.2
  have na_6 := h7.1
  replace h7 := h7.2
  have na_7 := h7.1
  replace h7 := h7.2
  have na_8 := h7.1
  replace h7 := h7.2
  have na_9 := h7.1
  replace h7 := h7.2
  have na_10 := h7.1
  replace h7 := h7.2
  have na_11 := h7.1
  replace h7 := h7.2
  have na_12 := h7.1
  replace h7 := h7.2
  have na_13 := h7.1
  replace h7 := h7.2
  have na_14 := h7.1
  replace h7 := h7.2
  have na_15 := h7.1
  replace h7 := h7.2
  have na_16 := h7.1
  replace h7 := h7.2
  have na_17 := h7.1
  replace h7 := h7.2
  have na_18 := h7.1
  replace h7 := h7.2
  have na_19 := h7.1
  replace h7 := h7.2
  have naσ := h7.1
  replace h7 := h7.2
  have fq1 := h7.1
  replace h7 := h7.2
  have fq2 := h7.1
  replace h7 := h7.2
  have fq3 := h7.1
  replace h7 := h7.2
  have fq4 := h7.1
  replace h7 := h7.2
  have fq5 := h7.1
  replace h7 := h7.2
  have fq6 := h7.1
  replace h7 := h7.2
  have fq7 := h7.1
  replace h7 := h7.2
  have fq8 := h7.1
  replace h7 := h7.2
  have fq9 := h7.1
  replace h7 := h7.2
  have fq10 := h7.1
  replace h7 := h7.2
  have fq11 := h7.1
  replace h7 := h7.2
  have fq12 := h7.1
  replace h7 := h7.2
  have fq13 := h7.1
  replace h7 := h7.2
  have fq14 := h7.1
  replace h7 := h7.2
  have fq15 := h7.1
  replace h7 := h7.2
  have fq16 := h7.1
  replace h7 := h7.2
  have fq17 := h7.1
  replace h7 := h7.2
  have fq18 := h7.1
  replace h7 := h7.2
  have fq19 := h7.1
  replace h7 := h7.2
  have d1_2 := h7.1
  replace h7 := h7.2
  have d1_3 := h7.1
  replace h7 := h7.2
  have d1_4 := h7.1
  replace h7 := h7.2
  have d1_5 := h7.1
  replace h7 := h7.2
  have d1_6 := h7.1
  replace h7 := h7.2
  have d1_7 := h7.1
  replace h7 := h7.2
  have d1_8 := h7.1
  replace h7 := h7.2
  have d1_9 := h7.1
  replace h7 := h7.2
  have d1_10 := h7.1
  replace h7 := h7.2
  have d1_11 := h7.1
  replace h7 := h7.2
  have d1_12 := h7.1
  replace h7 := h7.2
  have d1_13 := h7.1
  replace h7 := h7.2
  have d1_14 := h7.1
  replace h7 := h7.2
  have d1_15 := h7.1
  replace h7 := h7.2
  have d1_16 := h7.1
  replace h7 := h7.2
  have d1_17 := h7.1
  replace h7 := h7.2
  have d1_18 := h7.1
  replace h7 := h7.2
  have d1_19 := h7.1
  replace h7 := h7.2
  have d2_3 := h7.1
  replace h7 := h7.2
  have d2_4 := h7.1
  replace h7 := h7.2
  have d2_5 := h7.1
  replace h7 := h7.2
  have d2_6 := h7.1
  replace h7 := h7.2
  have d2_7 := h7.1
  replace h7 := h7.2
  have d2_8 := h7.1
  replace h7 := h7.2
  have d2_9 := h7.1
  replace h7 := h7.2
  have d2_10 := h7.1
  replace h7 := h7.2
  have d2_11 := h7.1
  replace h7 := h7.2
  have d2_12 := h7.1
  replace h7 := h7.2
  have d2_13 := h7.1
  replace h7 := h7.2
  have d2_14 := h7.1
  replace h7 := h7.2
  have d2_15 := h7.1
  replace h7 := h7.2
  have d2_16 := h7.1
  replace h7 := h7.2
  have d2_17 := h7.1
  replace h7 := h7.2
  have d2_18 := h7.1
  replace h7 := h7.2
  have d2_19 := h7.1
  replace h7 := h7.2
  have d3_4 := h7.1
  replace h7 := h7.2
  have d3_5 := h7.1
  replace h7 := h7.2
  have d3_6 := h7.1
  replace h7 := h7.2
  have d3_7 := h7.1
  replace h7 := h7.2
  have d3_8 := h7.1
  replace h7 := h7.2
  have d3_9 := h7.1
  replace h7 := h7.2
  have d3_10 := h7.1
  replace h7 := h7.2
  have d3_11 := h7.1
  replace h7 := h7.2
  have d3_12 := h7.1
  replace h7 := h7.2
  have d3_13 := h7.1
  replace h7 := h7.2
  have d3_14 := h7.1
  replace h7 := h7.2
  have d3_15 := h7.1
  replace h7 := h7.2
  have d3_16 := h7.1
  replace h7 := h7.2
  have d3_17 := h7.1
  replace h7 := h7.2
  have d3_18 := h7.1
  replace h7 := h7.2
  have d3_19 := h7.1
  replace h7 := h7.2
  have d4_5 := h7.1
  replace h7 := h7.2
  have d4_6 := h7.1
  replace h7 := h7.2
  have d4_7 := h7.1
  replace h7 := h7.2
  have d4_8 := h7.1
  replace h7 := h7.2
  have d4_9 := h7.1
  replace h7 := h7.2
  have d4_10 := h7.1
  replace h7 := h7.2
  have d4_11 := h7.1
  replace h7 := h7.2
  have d4_12 := h7.1
  replace h7 := h7.2
  have d4_13 := h7.1
  replace h7 := h7.2
  have d4_14 := h7.1
  replace h7 := h7.2
  have d4_15 := h7.1
  replace h7 := h7.2
  have d4_16 := h7.1
  replace h7 := h7.2
  have d4_17 := h7.1
  replace h7 := h7.2
  have d4_18 := h7.1
  replace h7 := h7.2
  have d4_19 := h7.1
  replace h7 := h7.2
  have d5_6 := h7.1
  replace h7 := h7.2
  have d5_7 := h7.1
  replace h7 := h7.2
  have d5_8 := h7.1
  replace h7 := h7.2
  have d5_9 := h7.1
  replace h7 := h7.2
  have d5_10 := h7.1
  replace h7 := h7.2
  have d5_11 := h7.1
  replace h7 := h7.2
  have d5_12 := h7.1
  replace h7 := h7.2
  have d5_13 := h7.1
  replace h7 := h7.2
  have d5_14 := h7.1
  replace h7 := h7.2
  have d5_15 := h7.1
  replace h7 := h7.2
  have d5_16 := h7.1
  replace h7 := h7.2
  have d5_17 := h7.1
  replace h7 := h7.2
  have d5_18 := h7.1
  replace h7 := h7.2
  have d5_19 := h7.1
  replace h7 := h7.2
  have d6_7 := h7.1
  replace h7 := h7.2
  have d6_8 := h7.1
  replace h7 := h7.2
  have d6_9 := h7.1
  replace h7 := h7.2
  have d6_10 := h7.1
  replace h7 := h7.2
  have d6_11 := h7.1
  replace h7 := h7.2
  have d6_12 := h7.1
  replace h7 := h7.2
  have d6_13 := h7.1
  replace h7 := h7.2
  have d6_14 := h7.1
  replace h7 := h7.2
  have d6_15 := h7.1
  replace h7 := h7.2
  have d6_16 := h7.1
  replace h7 := h7.2
  have d6_17 := h7.1
  replace h7 := h7.2
  have d6_18 := h7.1
  replace h7 := h7.2
  have d6_19 := h7.1
  replace h7 := h7.2
  have d7_8 := h7.1
  replace h7 := h7.2
  have d7_9 := h7.1
  replace h7 := h7.2
  have d7_10 := h7.1
  replace h7 := h7.2
  have d7_11 := h7.1
  replace h7 := h7.2
  have d7_12 := h7.1
  replace h7 := h7.2
  have d7_13 := h7.1
  replace h7 := h7.2
  have d7_14 := h7.1
  replace h7 := h7.2
  have d7_15 := h7.1
  replace h7 := h7.2
  have d7_16 := h7.1
  replace h7 := h7.2
  have d7_17 := h7.1
  replace h7 := h7.2
  have d7_18 := h7.1
  replace h7 := h7.2
  have d7_19 := h7.1
  replace h7 := h7.2
  have d8_9 := h7.1
  replace h7 := h7.2
  have d8_10 := h7.1
  replace h7 := h7.2
  have d8_11 := h7.1
  replace h7 := h7.2
  have d8_12 := h7.1
  replace h7 := h7.2
  have d8_13 := h7.1
  replace h7 := h7.2
  have d8_14 := h7.1
  replace h7 := h7.2
  have d8_15 := h7.1
  replace h7 := h7.2
  have d8_16 := h7.1
  replace h7 := h7.2
  have d8_17 := h7.1
  replace h7 := h7.2
  have d8_18 := h7.1
  replace h7 := h7.2
  have d8_19 := h7.1
  replace h7 := h7.2
  have d9_10 := h7.1
  replace h7 := h7.2
  have d9_11 := h7.1
  replace h7 := h7.2
  have d9_12 := h7.1
  replace h7 := h7.2
  have d9_13 := h7.1
  replace h7 := h7.2
  have d9_14 := h7.1
  replace h7 := h7.2
  have d9_15 := h7.1
  replace h7 := h7.2
  have d9_16 := h7.1
  replace h7 := h7.2
  have d9_17 := h7.1
  replace h7 := h7.2
  have d9_18 := h7.1
  replace h7 := h7.2
  have d9_19 := h7.1
  replace h7 := h7.2
  have d10_11 := h7.1
  replace h7 := h7.2
  have d10_12 := h7.1
  replace h7 := h7.2
  have d10_13 := h7.1
  replace h7 := h7.2
  have d10_14 := h7.1
  replace h7 := h7.2
  have d10_15 := h7.1
  replace h7 := h7.2
  have d10_16 := h7.1
  replace h7 := h7.2
  have d10_17 := h7.1
  replace h7 := h7.2
  have d10_18 := h7.1
  replace h7 := h7.2
  have d10_19 := h7.1
  replace h7 := h7.2
  have d11_12 := h7.1
  replace h7 := h7.2
  have d11_13 := h7.1
  replace h7 := h7.2
  have d11_14 := h7.1
  replace h7 := h7.2
  have d11_15 := h7.1
  replace h7 := h7.2
  have d11_16 := h7.1
  replace h7 := h7.2
  have d11_17 := h7.1
  replace h7 := h7.2
  have d11_18 := h7.1
  replace h7 := h7.2
  have d11_19 := h7.1
  replace h7 := h7.2
  have d12_13 := h7.1
  replace h7 := h7.2
  have d12_14 := h7.1
  replace h7 := h7.2
  have d12_15 := h7.1
  replace h7 := h7.2
  have d12_16 := h7.1
  replace h7 := h7.2
  have d12_17 := h7.1
  replace h7 := h7.2
  have d12_18 := h7.1
  replace h7 := h7.2
  have d12_19 := h7.1
  replace h7 := h7.2
  have d13_14 := h7.1
  replace h7 := h7.2
  have d13_15 := h7.1
  replace h7 := h7.2
  have d13_16 := h7.1
  replace h7 := h7.2
  have d13_17 := h7.1
  replace h7 := h7.2
  have d13_18 := h7.1
  replace h7 := h7.2
  have d13_19 := h7.1
  replace h7 := h7.2
  have d14_15 := h7.1
  replace h7 := h7.2
  have d14_16 := h7.1
  replace h7 := h7.2
  have d14_17 := h7.1
  replace h7 := h7.2
  have d14_18 := h7.1
  replace h7 := h7.2
  have d14_19 := h7.1
  replace h7 := h7.2
  have d15_16 := h7.1
  replace h7 := h7.2
  have d15_17 := h7.1
  replace h7 := h7.2
  have d15_18 := h7.1
  replace h7 := h7.2
  have d15_19 := h7.1
  replace h7 := h7.2
  have d16_17 := h7.1
  replace h7 := h7.2
  have d16_18 := h7.1
  replace h7 := h7.2
  have d16_19 := h7.1
  replace h7 := h7.2
  have d17_18 := h7.1
  replace h7 := h7.2
  have d17_19 := h7.1
  replace h7 := h7.2
  have d18_19 := h7.1
  replace h7 := h7.2
  have s_a := h7.1
  replace h7 := h7.2
  have s_1 := h7.1
  replace h7 := h7.2
  have s_2 := h7.1
  replace h7 := h7.2
  have s_3 := h7.1
  replace h7 := h7.2
  have s_4 := h7.1
  replace h7 := h7.2
  have s_5 := h7.1
  replace h7 := h7.2
  have s_6 := h7.1
  replace h7 := h7.2
  have s_7 := h7.1
  replace h7 := h7.2
  have s_8 := h7.1
  replace h7 := h7.2
  have s_9 := h7.1
  replace h7 := h7.2
  have s_10 := h7.1
  replace h7 := h7.2
  have s_11 := h7.1
  replace h7 := h7.2
  have s_12 := h7.1
  replace h7 := h7.2
  have s_13 := h7.1
  replace h7 := h7.2
  have s_14 := h7.1
  replace h7 := h7.2
  have s_15 := h7.1
  replace h7 := h7.2
  have s_16 := h7.1
  replace h7 := h7.2
  have s_17 := h7.1
  replace h7 := h7.2
  have s_18 := h7.1
  replace h7 := h7.2
  have s_19 := h7.1
  replace h7 := h7.2
  have keep7 := h7
  clear h7
  have w0 : ∀ x ∈ [a_q2, a_q3, a_q10, a_q11, a_q12, a_q16, a_q4, a_q5, a_q6, a_q7, a_q8, a_q9, a_q13, a_q14, a_q15, a_q17, a_q18, a_q19], a ≠ x := (List.forall_mem_cons.mpr ⟨(fq2 _ _ ha), (List.forall_mem_cons.mpr ⟨(fq3 _ _ ha), (List.forall_mem_cons.mpr ⟨(fq10 _ _ ha), (List.forall_mem_cons.mpr ⟨(fq11 _ _ ha), (List.forall_mem_cons.mpr ⟨(fq12 _ _ ha), (List.forall_mem_cons.mpr ⟨(fq16 _ _ ha), (List.forall_mem_cons.mpr ⟨(fq4 _ _ ha), (List.forall_mem_cons.mpr ⟨(fq5 _ _ ha), (List.forall_mem_cons.mpr ⟨(fq6 _ _ ha), (List.forall_mem_cons.mpr ⟨(fq7 _ _ ha), (List.forall_mem_cons.mpr ⟨(fq8 _ _ ha), (List.forall_mem_cons.mpr ⟨(fq9 _ _ ha), (List.forall_mem_cons.mpr ⟨(fq13 _ _ ha), (List.forall_mem_cons.mpr ⟨(fq14 _ _ ha), (List.forall_mem_cons.mpr ⟨(fq15 _ _ ha), (List.forall_mem_cons.mpr ⟨(fq17 _ _ ha), (List.forall_mem_cons.mpr ⟨(fq18 _ _ ha), (List.forall_mem_cons.mpr ⟨(fq19 _ _ ha), (fun _ h => absurd h List.not_mem_nil)⟩)⟩)⟩)⟩)⟩)⟩)⟩)⟩)⟩)⟩)⟩)⟩)⟩)⟩)⟩)⟩)⟩)⟩)
  have w1 : ∀ x ∈ [a_q3, a_q10, a_q11, a_q12, a_q16, a_q4, a_q5, a_q6, a_q7, a_q8, a_q9, a_q13, a_q14, a_q15, a_q17, a_q18, a_q19], a_q2 ≠ x := (List.forall_mem_cons.mpr ⟨d2_3, (List.forall_mem_cons.mpr ⟨d2_10, (List.forall_mem_cons.mpr ⟨d2_11, (List.forall_mem_cons.mpr ⟨d2_12, (List.forall_mem_cons.mpr ⟨d2_16, (List.forall_mem_cons.mpr ⟨d2_4, (List.forall_mem_cons.mpr ⟨d2_5, (List.forall_mem_cons.mpr ⟨d2_6, (List.forall_mem_cons.mpr ⟨d2_7, (List.forall_mem_cons.mpr ⟨d2_8, (List.forall_mem_cons.mpr ⟨d2_9, (List.forall_mem_cons.mpr ⟨d2_13, (List.forall_mem_cons.mpr ⟨d2_14, (List.forall_mem_cons.mpr ⟨d2_15, (List.forall_mem_cons.mpr ⟨d2_17, (List.forall_mem_cons.mpr ⟨d2_18, (List.forall_mem_cons.mpr ⟨d2_19, (fun _ h => absurd h List.not_mem_nil)⟩)⟩)⟩)⟩)⟩)⟩)⟩)⟩)⟩)⟩)⟩)⟩)⟩)⟩)⟩)⟩)⟩)
  have w2 : ∀ x ∈ [a_q10, a_q11, a_q12, a_q16, a_q4, a_q5, a_q6, a_q7, a_q8, a_q9, a_q13, a_q14, a_q15, a_q17, a_q18, a_q19], a_q3 ≠ x := (List.forall_mem_cons.mpr ⟨d3_10, (List.forall_mem_cons.mpr ⟨d3_11, (List.forall_mem_cons.mpr ⟨d3_12, (List.forall_mem_cons.mpr ⟨d3_16, (List.forall_mem_cons.mpr ⟨d3_4, (List.forall_mem_cons.mpr ⟨d3_5, (List.forall_mem_cons.mpr ⟨d3_6, (List.forall_mem_cons.mpr ⟨d3_7, (List.forall_mem_cons.mpr ⟨d3_8, (List.forall_mem_cons.mpr ⟨d3_9, (List.forall_mem_cons.mpr ⟨d3_13, (List.forall_mem_cons.mpr ⟨d3_14, (List.forall_mem_cons.mpr ⟨d3_15, (List.forall_mem_cons.mpr ⟨d3_17, (List.forall_mem_cons.mpr ⟨d3_18, (List.forall_mem_cons.mpr ⟨d3_19, (fun _ h => absurd h List.not_mem_nil)⟩)⟩)⟩)⟩)⟩)⟩)⟩)⟩)⟩)⟩)⟩)⟩)⟩)⟩)⟩)⟩)
  have w3 : ∀ x ∈ [a_q11, a_q12, a_q16, a_q4, a_q5, a_q6, a_q7, a_q8, a_q9, a_q13, a_q14, a_q15, a_q17, a_q18, a_q19], a_q10 ≠ x := (List.forall_mem_cons.mpr ⟨d10_11, (List.forall_mem_cons.mpr ⟨d10_12, (List.forall_mem_cons.mpr ⟨d10_16, (List.forall_mem_cons.mpr ⟨d4_10.symm, (List.forall_mem_cons.mpr ⟨d5_10.symm, (List.forall_mem_cons.mpr ⟨d6_10.symm, (List.forall_mem_cons.mpr ⟨d7_10.symm, (List.forall_mem_cons.mpr ⟨d8_10.symm, (List.forall_mem_cons.mpr ⟨d9_10.symm, (List.forall_mem_cons.mpr ⟨d10_13, (List.forall_mem_cons.mpr ⟨d10_14, (List.forall_mem_cons.mpr ⟨d10_15, (List.forall_mem_cons.mpr ⟨d10_17, (List.forall_mem_cons.mpr ⟨d10_18, (List.forall_mem_cons.mpr ⟨d10_19, (fun _ h => absurd h List.not_mem_nil)⟩)⟩)⟩)⟩)⟩)⟩)⟩)⟩)⟩)⟩)⟩)⟩)⟩)⟩)⟩)
  have w4 : ∀ x ∈ [a_q12, a_q16, a_q4, a_q5, a_q6, a_q7, a_q8, a_q9, a_q13, a_q14, a_q15, a_q17, a_q18, a_q19], a_q11 ≠ x := (List.forall_mem_cons.mpr ⟨d11_12, (List.forall_mem_cons.mpr ⟨d11_16, (List.forall_mem_cons.mpr ⟨d4_11.symm, (List.forall_mem_cons.mpr ⟨d5_11.symm, (List.forall_mem_cons.mpr ⟨d6_11.symm, (List.forall_mem_cons.mpr ⟨d7_11.symm, (List.forall_mem_cons.mpr ⟨d8_11.symm, (List.forall_mem_cons.mpr ⟨d9_11.symm, (List.forall_mem_cons.mpr ⟨d11_13, (List.forall_mem_cons.mpr ⟨d11_14, (List.forall_mem_cons.mpr ⟨d11_15, (List.forall_mem_cons.mpr ⟨d11_17, (List.forall_mem_cons.mpr ⟨d11_18, (List.forall_mem_cons.mpr ⟨d11_19, (fun _ h => absurd h List.not_mem_nil)⟩)⟩)⟩)⟩)⟩)⟩)⟩)⟩)⟩)⟩)⟩)⟩)⟩)⟩)
  have w5 : ∀ x ∈ [a_q16, a_q4, a_q5, a_q6, a_q7, a_q8, a_q9, a_q13, a_q14, a_q15, a_q17, a_q18, a_q19], a_q12 ≠ x := (List.forall_mem_cons.mpr ⟨d12_16, (List.forall_mem_cons.mpr ⟨d4_12.symm, (List.forall_mem_cons.mpr ⟨d5_12.symm, (List.forall_mem_cons.mpr ⟨d6_12.symm, (List.forall_mem_cons.mpr ⟨d7_12.symm, (List.forall_mem_cons.mpr ⟨d8_12.symm, (List.forall_mem_cons.mpr ⟨d9_12.symm, (List.forall_mem_cons.mpr ⟨d12_13, (List.forall_mem_cons.mpr ⟨d12_14, (List.forall_mem_cons.mpr ⟨d12_15, (List.forall_mem_cons.mpr ⟨d12_17, (List.forall_mem_cons.mpr ⟨d12_18, (List.forall_mem_cons.mpr ⟨d12_19, (fun _ h => absurd h List.not_mem_nil)⟩)⟩)⟩)⟩)⟩)⟩)⟩)⟩)⟩)⟩)⟩)⟩)⟩)
  have w6 : ∀ x ∈ [a_q4, a_q5, a_q6, a_q7, a_q8, a_q9, a_q13, a_q14, a_q15, a_q17, a_q18, a_q19], a_q16 ≠ x := (List.forall_mem_cons.mpr ⟨d4_16.symm, (List.forall_mem_cons.mpr ⟨d5_16.symm, (List.forall_mem_cons.mpr ⟨d6_16.symm, (List.forall_mem_cons.mpr ⟨d7_16.symm, (List.forall_mem_cons.mpr ⟨d8_16.symm, (List.forall_mem_cons.mpr ⟨d9_16.symm, (List.forall_mem_cons.mpr ⟨d13_16.symm, (List.forall_mem_cons.mpr ⟨d14_16.symm, (List.forall_mem_cons.mpr ⟨d15_16.symm, (List.forall_mem_cons.mpr ⟨d16_17, (List.forall_mem_cons.mpr ⟨d16_18, (List.forall_mem_cons.mpr ⟨d16_19, (fun _ h => absurd h List.not_mem_nil)⟩)⟩)⟩)⟩)⟩)⟩)⟩)⟩)⟩)⟩)⟩)⟩)
  have w7 : ∀ x ∈ [a_q5, a_q6, a_q7, a_q8, a_q9, a_q13, a_q14, a_q15, a_q17, a_q18, a_q19], a_q4 ≠ x := (List.forall_mem_cons.mpr ⟨d4_5, (List.forall_mem_cons.mpr ⟨d4_6, (List.forall_mem_cons.mpr ⟨d4_7, (List.forall_mem_cons.mpr ⟨d4_8, (List.forall_mem_cons.mpr ⟨d4_9, (List.forall_mem_cons.mpr ⟨d4_13, (List.forall_mem_cons.mpr ⟨d4_14, (List.forall_mem_cons.mpr ⟨d4_15, (List.forall_mem_cons.mpr ⟨d4_17, (List.forall_mem_cons.mpr ⟨d4_18, (List.forall_mem_cons.mpr ⟨d4_19, (fun _ h => absurd h List.not_mem_nil)⟩)⟩)⟩)⟩)⟩)⟩)⟩)⟩)⟩)⟩)⟩)
  have w8 : ∀ x ∈ [a_q6, a_q7, a_q8, a_q9, a_q13, a_q14, a_q15, a_q17, a_q18, a_q19], a_q5 ≠ x := (List.forall_mem_cons.mpr ⟨d5_6, (List.forall_mem_cons.mpr ⟨d5_7, (List.forall_mem_cons.mpr ⟨d5_8, (List.forall_mem_cons.mpr ⟨d5_9, (List.forall_mem_cons.mpr ⟨d5_13, (List.forall_mem_cons.mpr ⟨d5_14, (List.forall_mem_cons.mpr ⟨d5_15, (List.forall_mem_cons.mpr ⟨d5_17, (List.forall_mem_cons.mpr ⟨d5_18, (List.forall_mem_cons.mpr ⟨d5_19, (fun _ h => absurd h List.not_mem_nil)⟩)⟩)⟩)⟩)⟩)⟩)⟩)⟩)⟩)⟩)
  have w9 : ∀ x ∈ [a_q7, a_q8, a_q9, a_q13, a_q14, a_q15, a_q17, a_q18, a_q19], a_q6 ≠ x := (List.forall_mem_cons.mpr ⟨d6_7, (List.forall_mem_cons.mpr ⟨d6_8, (List.forall_mem_cons.mpr ⟨d6_9, (List.forall_mem_cons.mpr ⟨d6_13, (List.forall_mem_cons.mpr ⟨d6_14, (List.forall_mem_cons.mpr ⟨d6_15, (List.forall_mem_cons.mpr ⟨d6_17, (List.forall_mem_cons.mpr ⟨d6_18, (List.forall_mem_cons.mpr ⟨d6_19, (fun _ h => absurd h List.not_mem_nil)⟩)⟩)⟩)⟩)⟩)⟩)⟩)⟩)⟩)
  have w10 : ∀ x ∈ [a_q8, a_q9, a_q13, a_q14, a_q15, a_q17, a_q18, a_q19], a_q7 ≠ x := (List.forall_mem_cons.mpr ⟨d7_8, (List.forall_mem_cons.mpr ⟨d7_9, (List.forall_mem_cons.mpr ⟨d7_13, (List.forall_mem_cons.mpr ⟨d7_14, (List.forall_mem_cons.mpr ⟨d7_15, (List.forall_mem_cons.mpr ⟨d7_17, (List.forall_mem_cons.mpr ⟨d7_18, (List.forall_mem_cons.mpr ⟨d7_19, (fun _ h => absurd h List.not_mem_nil)⟩)⟩)⟩)⟩)⟩)⟩)⟩)⟩)
  have w11 : ∀ x ∈ [a_q9, a_q13, a_q14, a_q15, a_q17, a_q18, a_q19], a_q8 ≠ x := (List.forall_mem_cons.mpr ⟨d8_9, (List.forall_mem_cons.mpr ⟨d8_13, (List.forall_mem_cons.mpr ⟨d8_14, (List.forall_mem_cons.mpr ⟨d8_15, (List.forall_mem_cons.mpr ⟨d8_17, (List.forall_mem_cons.mpr ⟨d8_18, (List.forall_mem_cons.mpr ⟨d8_19, (fun _ h => absurd h List.not_mem_nil)⟩)⟩)⟩)⟩)⟩)⟩)⟩)
  have w12 : ∀ x ∈ [a_q13, a_q14, a_q15, a_q17, a_q18, a_q19], a_q9 ≠ x := (List.forall_mem_cons.mpr ⟨d9_13, (List.forall_mem_cons.mpr ⟨d9_14, (List.forall_mem_cons.mpr ⟨d9_15, (List.forall_mem_cons.mpr ⟨d9_17, (List.forall_mem_cons.mpr ⟨d9_18, (List.forall_mem_cons.mpr ⟨d9_19, (fun _ h => absurd h List.not_mem_nil)⟩)⟩)⟩)⟩)⟩)⟩)
  have w13 : ∀ x ∈ [a_q14, a_q15, a_q17, a_q18, a_q19], a_q13 ≠ x := (List.forall_mem_cons.mpr ⟨d13_14, (List.forall_mem_cons.mpr ⟨d13_15, (List.forall_mem_cons.mpr ⟨d13_17, (List.forall_mem_cons.mpr ⟨d13_18, (List.forall_mem_cons.mpr ⟨d13_19, (fun _ h => absurd h List.not_mem_nil)⟩)⟩)⟩)⟩)⟩)
  have w14 : ∀ x ∈ [a_q15, a_q17, a_q18, a_q19], a_q14 ≠ x := (List.forall_mem_cons.mpr ⟨d14_15, (List.forall_mem_cons.mpr ⟨d14_17, (List.forall_mem_cons.mpr ⟨d14_18, (List.forall_mem_cons.mpr ⟨d14_19, (fun _ h => absurd h List.not_mem_nil)⟩)⟩)⟩)⟩)
  have w15 : ∀ x ∈ [a_q17, a_q18, a_q19], a_q15 ≠ x := (List.forall_mem_cons.mpr ⟨d15_17, (List.forall_mem_cons.mpr ⟨d15_18, (List.forall_mem_cons.mpr ⟨d15_19, (fun _ h => absurd h List.not_mem_nil)⟩)⟩)⟩)
  have w16 : ∀ x ∈ [a_q18, a_q19], a_q17 ≠ x := (List.forall_mem_cons.mpr ⟨d17_18, (List.forall_mem_cons.mpr ⟨d17_19, (fun _ h => absurd h List.not_mem_nil)⟩)⟩)
  have w17 : ∀ x ∈ [a_q19], a_q18 ≠ x := (List.forall_mem_cons.mpr ⟨d18_19, (fun _ h => absurd h List.not_mem_nil)⟩)
  have w18 : ∀ x ∈ ([] : List Nat), a_q19 ≠ x := fun _ h => absurd h List.not_mem_nil
  have hpw : List.Pairwise (· ≠ ·) [a, a_q2, a_q3, a_q10, a_q11, a_q12, a_q16, a_q4, a_q5, a_q6, a_q7, a_q8, a_q9, a_q13, a_q14, a_q15, a_q17, a_q18, a_q19] := (List.Pairwise.cons w0 (List.Pairwise.cons w1 (List.Pairwise.cons w2 (List.Pairwise.cons w3 (List.Pairwise.cons w4 (List.Pairwise.cons w5 (List.Pairwise.cons w6 (List.Pairwise.cons w7 (List.Pairwise.cons w8 (List.Pairwise.cons w9 (List.Pairwise.cons w10 (List.Pairwise.cons w11 (List.Pairwise.cons w12 (List.Pairwise.cons w13 (List.Pairwise.cons w14 (List.Pairwise.cons w15 (List.Pairwise.cons w16 (List.Pairwise.cons w17 (List.Pairwise.cons w18 List.Pairwise.nil)))))))))))))))))))
  have had : ∀ x ∈ [a, a_q2, a_q3, a_q10, a_q11, a_q12, a_q16, a_q4, a_q5, a_q6, a_q7, a_q8, a_q9, a_q13, a_q14, a_q15, a_q17, a_q18, a_q19], ∀ k, k < 42 → adr k ≠ x := (List.forall_mem_cons.mpr ⟨na_a, (List.forall_mem_cons.mpr ⟨na_2, (List.forall_mem_cons.mpr ⟨na_3, (List.forall_mem_cons.mpr ⟨na_10, (List.forall_mem_cons.mpr ⟨na_11, (List.forall_mem_cons.mpr ⟨na_12, (List.forall_mem_cons.mpr ⟨na_16, (List.forall_mem_cons.mpr ⟨na_4, (List.forall_mem_cons.mpr ⟨na_5, (List.forall_mem_cons.mpr ⟨na_6, (List.forall_mem_cons.mpr ⟨na_7, (List.forall_mem_cons.mpr ⟨na_8, (List.forall_mem_cons.mpr ⟨na_9, (List.forall_mem_cons.mpr ⟨na_13, (List.forall_mem_cons.mpr ⟨na_14, (List.forall_mem_cons.mpr ⟨na_15, (List.forall_mem_cons.mpr ⟨na_17, (List.forall_mem_cons.mpr ⟨na_18, (List.forall_mem_cons.mpr ⟨na_19, (fun _ h => absurd h List.not_mem_nil)⟩)⟩)⟩)⟩)⟩)⟩)⟩)⟩)⟩)⟩)⟩)⟩)⟩)⟩)⟩)⟩)⟩)⟩)⟩)
  have hin : inj61 (adF adr [a, a_q2, a_q3, a_q10, a_q11, a_q12, a_q16, a_q4, a_q5, a_q6, a_q7, a_q8, a_q9, a_q13, a_q14, a_q15, a_q17, a_q18, a_q19]) := adF_inj rfl hpw hadI had
  have hfr : ∀ j, j < 61 → ∀ (b : Nat) (f : va_E), σ0 b = some f → b ≠ adF adr [a, a_q2, a_q3, a_q10, a_q11, a_q12, a_q16, a_q4, a_q5, a_q6, a_q7, a_q8, a_q9, a_q13, a_q14, a_q15, a_q17, a_q18, a_q19] j := adF_all (P := fun x => ∀ (b : Nat) (f : va_E), σ0 b = some f → b ≠ x) rfl (List.forall_mem_cons.mpr ⟨n0, (List.forall_mem_cons.mpr ⟨(fun b f h => fq2 b f (k0 b f h)), (List.forall_mem_cons.mpr ⟨(fun b f h => fq3 b f (k0 b f h)), (List.forall_mem_cons.mpr ⟨(fun b f h => fq10 b f (k0 b f h)), (List.forall_mem_cons.mpr ⟨(fun b f h => fq11 b f (k0 b f h)), (List.forall_mem_cons.mpr ⟨(fun b f h => fq12 b f (k0 b f h)), (List.forall_mem_cons.mpr ⟨(fun b f h => fq16 b f (k0 b f h)), (List.forall_mem_cons.mpr ⟨(fun b f h => fq4 b f (k0 b f h)), (List.forall_mem_cons.mpr ⟨(fun b f h => fq5 b f (k0 b f h)), (List.forall_mem_cons.mpr ⟨(fun b f h => fq6 b f (k0 b f h)), (List.forall_mem_cons.mpr ⟨(fun b f h => fq7 b f (k0 b f h)), (List.forall_mem_cons.mpr ⟨(fun b f h => fq8 b f (k0 b f h)), (List.forall_mem_cons.mpr ⟨(fun b f h => fq9 b f (k0 b f h)), (List.forall_mem_cons.mpr ⟨(fun b f h => fq13 b f (k0 b f h)), (List.forall_mem_cons.mpr ⟨(fun b f h => fq14 b f (k0 b f h)), (List.forall_mem_cons.mpr ⟨(fun b f h => fq15 b f (k0 b f h)), (List.forall_mem_cons.mpr ⟨(fun b f h => fq17 b f (k0 b f h)), (List.forall_mem_cons.mpr ⟨(fun b f h => fq18 b f (k0 b f h)), (List.forall_mem_cons.mpr ⟨(fun b f h => fq19 b f (k0 b f h)), (fun _ h => absurd h List.not_mem_nil)⟩)⟩)⟩)⟩)⟩)⟩)⟩)⟩)⟩)⟩)⟩)⟩)⟩)⟩)⟩)⟩)⟩)⟩)⟩) (fun k hk b f h => naσ k hk b f (k0 b f h))
  have hkp : ∀ (b : Nat) (f : va_E), σ0 b = some f → σ2 b = some f := fun b f h => keep7 b f (k0 b f h) (n0 b f h)
  generalize had9 : adF adr [a, a_q2, a_q3, a_q10, a_q11, a_q12, a_q16, a_q4, a_q5, a_q6, a_q7, a_q8, a_q9, a_q13, a_q14, a_q15, a_q17, a_q18, a_q19] = ad at hin hfr
  have z0 : ad 0 = a := by rw [← had9]; rfl
  have z1 : ad 1 = a_q2 := by rw [← had9]; rfl
  have z2 : ad 2 = a_q3 := by rw [← had9]; rfl
  have z3 : ad 3 = a_q10 := by rw [← had9]; rfl
  have z4 : ad 4 = a_q11 := by rw [← had9]; rfl
  have z5 : ad 5 = a_q12 := by rw [← had9]; rfl
  have z6 : ad 6 = a_q16 := by rw [← had9]; rfl
  have z49 : ad 49 = a_q4 := by rw [← had9]; rfl
  have z50 : ad 50 = a_q5 := by rw [← had9]; rfl
  have z51 : ad 51 = a_q6 := by rw [← had9]; rfl
  have z52 : ad 52 = a_q7 := by rw [← had9]; rfl
  have z53 : ad 53 = a_q8 := by rw [← had9]; rfl
  have z54 : ad 54 = a_q9 := by rw [← had9]; rfl
  have z55 : ad 55 = a_q13 := by rw [← had9]; rfl
  have z56 : ad 56 = a_q14 := by rw [← had9]; rfl
  have z57 : ad 57 = a_q15 := by rw [← had9]; rfl
  have z58 : ad 58 = a_q17 := by rw [← had9]; rfl
  have z59 : ad 59 = a_q18 := by rw [← had9]; rfl
  have z60 : ad 60 = a_q19 := by rw [← had9]; rfl
  have zm : ∀ j, 7 ≤ j → j < 49 → ad j = adr (j - 7) := fun j h1 h2 => by rw [← had9]; exact adF_mid h1 h2
  have hB : BW K ad 0 (fun _ => 0) (0, 0) fr false false σ2 := by
    unfold BW
    rw [z0, z1, z2, z3, z4, z5, z6, z49, z52, z55, z58]
    exact ⟨s_a, s_2, s_3, s_10, s_11, s_12, s_16⟩
  have hG : ∀ i, i < 18 → GW K ad (fun _ => a_q1) (fun _ => (zGS, f0L, f0L, g)) σ2 i := by
    intro i hi
    by_cases h14 : i < 14
    · obtain ⟨-, g1, g2, g3⟩ := hRG i h14
      unfold GW
      rw [zm (7 + 3 * i) (by omega) (by omega), zm (8 + 3 * i) (by omega) (by omega), zm (9 + 3 * i) (by omega) (by omega), show 7 + 3 * i - 7 = 3 * i by omega, show 8 + 3 * i - 7 = 3 * i + 1 by omega, show 9 + 3 * i - 7 = 3 * i + 2 by omega]
      exact ⟨g1, g2, g3, s_1⟩
    · rcases (show i = 14 ∨ i = 15 ∨ i = 16 ∨ i = 17 by omega) with e | e | e | e
      · subst e
        unfold GW
        rw [show 7 + 3 * 14 = 49 from rfl, show 8 + 3 * 14 = 50 from rfl, show 9 + 3 * 14 = 51 from rfl, z49, z50, z51]
        exact ⟨s_4, s_5, s_6, s_1⟩
      · subst e
        unfold GW
        rw [show 7 + 3 * 15 = 52 from rfl, show 8 + 3 * 15 = 53 from rfl, show 9 + 3 * 15 = 54 from rfl, z52, z53, z54]
        exact ⟨s_7, s_8, s_9, s_1⟩
      · subst e
        unfold GW
        rw [show 7 + 3 * 16 = 55 from rfl, show 8 + 3 * 16 = 56 from rfl, show 9 + 3 * 16 = 57 from rfl, z55, z56, z57]
        exact ⟨s_13, s_14, s_15, s_1⟩
      · subst e
        unfold GW
        rw [show 7 + 3 * 17 = 58 from rfl, show 8 + 3 * 17 = 59 from rfl, show 9 + 3 * 17 = 60 from rfl, z58, z59, z60]
        exact ⟨s_17, s_18, s_19, s_1⟩
  have hD : GD ad (fun _ => a_q1) := by
    intro i j hi hj
    exact grid_apart hB (fun i hi => by obtain ⟨g0, g1, g2, -⟩ := hG i hi; exact ⟨_, _, _, _, g0, g1, g2⟩) s_1 j hj
  refine ⟨ad, z0, ⟨hin, (fun _ => a_q1), fr, hB, hG, hD, ?_⟩, hkp, hfr⟩
  intro i hi
  rw [zm (7 + 3 * i) (by omega) (by omega), show 7 + 3 * i - 7 = 3 * i by omega]
  exact (hRG i hi).1
