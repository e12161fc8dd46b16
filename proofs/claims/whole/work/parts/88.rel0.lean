set_option maxHeartbeats 4000000 in
set_option maxRecDepth 100000 in
theorem init_REL {K : Nat → ClassId} {σ5 : mwm} {a r w : Nat} {g : RSt} {y : Nat → Int64} (hGR : gameR (zGS, f0L, f0L, g) y) (hw : σ5 w = some (eJ K 1 f0L))
  (h9 : ∃ a_q1 a_q2 a_q3 a_q4 a_q5 a_q6 a_q7 a_q8 a_q9 a_q10 a_q11 a_q12 a_q13 a_q14 a_q15 a_q16 a_q17 a_q18 a_q19 b_q1 b_q2 b_q3 b_q4 b_q5 b_q6 b_q7 b_q8 b_q9 : Nat, ∃ (adr : Nat → Nat) (fr : Nat → Option Nat), inj72 (adF adr [a, a_q2, a_q3, a_q10, a_q11, a_q12, a_q16, w, r, b_q1, b_q2, b_q3, b_q4, b_q5, b_q6, b_q7, b_q8, b_q9, a_q4, a_q5, a_q6, a_q7, a_q8, a_q9, a_q13, a_q14, a_q15, a_q17, a_q18, a_q19]) ∧ RGm K adr 14 fr (fun _ => a_q1) (fun _ => zGS) (fun _ _ => 0) (fun _ _ => 0) σ5 ∧ σ5 a = some (cl5 a_q2 a_q4 a_q7 a_q10 a_q12 a_q16) ∧ σ5 a_q1 = some (cl2 g) ∧ σ5 a_q2 = some (cl1 a_q3 0) ∧ σ5 a_q3 = some (eC K 120 (fun _ => 0)) ∧ σ5 a_q4 = some (cl0 a_q5 a_q6 a_q1 zGS) ∧ σ5 a_q5 = some (eJ K 121 f0L) ∧ σ5 a_q6 = some (eJ K 121 f0L) ∧ σ5 a_q7 = some (cl0 a_q8 a_q9 a_q1 zGS) ∧ σ5 a_q8 = some (eJ K 121 f0L) ∧ σ5 a_q9 = some (eJ K 121 f0L) ∧ σ5 a_q10 = some (cl3 a_q11 (0, 0)) ∧ σ5 a_q11 = some (eQ K 14 fr) ∧ σ5 a_q12 = some (cl4 a_q13 false) ∧ σ5 a_q13 = some (cl0 a_q14 a_q15 a_q1 zGS) ∧ σ5 a_q14 = some (eJ K 121 f0L) ∧ σ5 a_q15 = some (eJ K 121 f0L) ∧ σ5 a_q16 = some (cl4 a_q17 false) ∧ σ5 a_q17 = some (cl0 a_q18 a_q19 a_q1 zGS) ∧ σ5 a_q18 = some (eJ K 121 f0L) ∧ σ5 a_q19 = some (eJ K 121 f0L) ∧ σ5 r = some (cl6 b_q1 b_q2 b_q3 b_q4 b_q5 b_q6 b_q7 b_q8 b_q9 (v8 y).1) ∧ σ5 b_q1 = some (eI K 120 (fun _ => 0)) ∧ σ5 b_q2 = some (eJ K 250 y) ∧ σ5 b_q3 = some (eJ K 250 f0L) ∧ σ5 b_q4 = some (eJ K 3500 f0L) ∧ σ5 b_q5 = some (eJ K 500 f0L) ∧ σ5 b_q6 = some (eZ K 2 (fun _ => 0)) ∧ σ5 b_q7 = some (eJ K 40 f0L) ∧ σ5 b_q8 = some (eJ K 40 f0L) ∧ σ5 b_q9 = some (eI K 40 (fun _ => 0))) :
  ∃ ad : Nat → Nat, ad 0 = a ∧ ad 8 = r ∧ ad 7 = w ∧ inj72 ad ∧ REL K ad σ5 := by
  obtain ⟨a_q1, a_q2, a_q3, a_q4, a_q5, a_q6, a_q7, a_q8, a_q9, a_q10, a_q11, a_q12, a_q13, a_q14, a_q15, a_q16, a_q17, a_q18, a_q19, b_q1, b_q2, b_q3, b_q4, b_q5, b_q6, b_q7, b_q8, b_q9, adr, fr, hin, hRG, s_a, s_1, s_2, s_3, s_4, s_5, s_6, s_7, s_8, s_9, s_10, s_11, s_12, s_13, s_14, s_15, s_16, s_17, s_18, s_19, t_r, t_1, t_2, t_3, t_4, t_5, t_6, t_7, t_8, t_9⟩ := h9
  generalize had9 : adF adr [a, a_q2, a_q3, a_q10, a_q11, a_q12, a_q16, w, r, b_q1, b_q2, b_q3, b_q4, b_q5, b_q6, b_q7, b_q8, b_q9, a_q4, a_q5, a_q6, a_q7, a_q8, a_q9, a_q13, a_q14, a_q15, a_q17, a_q18, a_q19] = ad at hin
  have z0 : ad 0 = a := by rw [← had9]; rfl
  have z1 : ad 1 = a_q2 := by rw [← had9]; rfl
  have z2 : ad 2 = a_q3 := by rw [← had9]; rfl
  have z3 : ad 3 = a_q10 := by rw [← had9]; rfl
  have z4 : ad 4 = a_q11 := by rw [← had9]; rfl
  have z5 : ad 5 = a_q12 := by rw [← had9]; rfl
  have z6 : ad 6 = a_q16 := by rw [← had9]; rfl
  have z7 : ad 7 = w := by rw [← had9]; rfl
  have z8 : ad 8 = r := by rw [← had9]; rfl
  have z9 : ad 9 = b_q1 := by rw [← had9]; rfl
  have z10 : ad 10 = b_q2 := by rw [← had9]; rfl
  have z11 : ad 11 = b_q3 := by rw [← had9]; rfl
  have z12 : ad 12 = b_q4 := by rw [← had9]; rfl
  have z13 : ad 13 = b_q5 := by rw [← had9]; rfl
  have z14 : ad 14 = b_q6 := by rw [← had9]; rfl
  have z15 : ad 15 = b_q7 := by rw [← had9]; rfl
  have z16 : ad 16 = b_q8 := by rw [← had9]; rfl
  have z17 : ad 17 = b_q9 := by rw [← had9]; rfl
  have z60 : ad 60 = a_q4 := by rw [← had9]; rfl
  have z61 : ad 61 = a_q5 := by rw [← had9]; rfl
  have z62 : ad 62 = a_q6 := by rw [← had9]; rfl
  have z63 : ad 63 = a_q7 := by rw [← had9]; rfl
  have z64 : ad 64 = a_q8 := by rw [← had9]; rfl
  have z65 : ad 65 = a_q9 := by rw [← had9]; rfl
  have z66 : ad 66 = a_q13 := by rw [← had9]; rfl
  have z67 : ad 67 = a_q14 := by rw [← had9]; rfl
  have z68 : ad 68 = a_q15 := by rw [← had9]; rfl
  have z69 : ad 69 = a_q17 := by rw [← had9]; rfl
  have z70 : ad 70 = a_q18 := by rw [← had9]; rfl
  have z71 : ad 71 = a_q19 := by rw [← had9]; rfl
  have zm : ∀ j, 18 ≤ j → j < 60 → ad j = adr (j - 18) := fun j h1 h2 => by rw [← had9]; exact adF_mid h1 h2
  have hB : BW K ad (nI 0) (fun _ => 0) (nI 0, nI 0) fr false false f0L σ5 := by
    unfold BW
    rw [z0, z1, z2, z3, z4, z5, z6, z7, z60, z63, z66, z69]
    exact ⟨s_a, s_2, s_3, s_10, s_11, s_12, s_16, hw⟩
  have hR : RW K ad (v8 y).1 (fun _ => 0) y f0L f0L f0L (fun _ => 0) f0L f0L (fun _ => 0) σ5 := by
    unfold RW
    rw [z8, z9, z10, z11, z12, z13, z14, z15, z16, z17]
    exact ⟨t_r, t_1, t_2, t_3, t_4, t_5, t_6, t_7, t_8, t_9⟩
  have hG : ∀ i, i < 18 → GW K ad (fun _ => a_q1) (fun _ => (zGS, f0L, f0L, g)) σ5 i := by
    intro i hi
    by_cases h14 : i < 14
    · obtain ⟨-, g1, g2, g3⟩ := hRG i h14
      unfold GW
      rw [zm (18 + 3 * i) (by omega) (by omega), zm (19 + 3 * i) (by omega) (by omega), zm (20 + 3 * i) (by omega) (by omega), show 18 + 3 * i - 18 = 3 * i by omega, show 19 + 3 * i - 18 = 3 * i + 1 by omega, show 20 + 3 * i - 18 = 3 * i + 2 by omega]
      exact ⟨g1, g2, g3, s_1⟩
    · rcases (show i = 14 ∨ i = 15 ∨ i = 16 ∨ i = 17 by omega) with e | e | e | e
      · subst e
        unfold GW
        rw [show 18 + 3 * 14 = 60 from rfl, show 19 + 3 * 14 = 61 from rfl, show 20 + 3 * 14 = 62 from rfl, z60, z61, z62]
        exact ⟨s_4, s_5, s_6, s_1⟩
      · subst e
        unfold GW
        rw [show 18 + 3 * 15 = 63 from rfl, show 19 + 3 * 15 = 64 from rfl, show 20 + 3 * 15 = 65 from rfl, z63, z64, z65]
        exact ⟨s_7, s_8, s_9, s_1⟩
      · subst e
        unfold GW
        rw [show 18 + 3 * 16 = 66 from rfl, show 19 + 3 * 16 = 67 from rfl, show 20 + 3 * 16 = 68 from rfl, z66, z67, z68]
        exact ⟨s_13, s_14, s_15, s_1⟩
      · subst e
        unfold GW
        rw [show 18 + 3 * 17 = 69 from rfl, show 19 + 3 * 17 = 70 from rfl, show 20 + 3 * 17 = 71 from rfl, z69, z70, z71]
        exact ⟨s_17, s_18, s_19, s_1⟩
  have hD : GD ad (fun _ => a_q1) := by
    intro i j hi hj
    exact grid_apart hB hR (fun i hi => by obtain ⟨g0, g1, g2, -⟩ := hG i hi; exact ⟨_, _, _, _, g0, g1, g2⟩) s_1 j hj
  refine ⟨ad, z0, z8, z7, hin, (fun _ => a_q1), (fun _ => (zGS, f0L, f0L, g)), nI 0, (fun _ => 0), (nI 0, nI 0), fr, false, false, f0L, (v8 y).1, (fun _ => 0), y, f0L, f0L, f0L, (fun _ => 0), f0L, f0L, (fun _ => 0), hB, hG, hD, hR, ?_⟩
  refine ⟨0, (fun _ => 0), 0, 0, rfl, nI_0.symm, ⟨by omega, fun i h => absurd h (by omega)⟩, rfl, nI_0.symm, ⟨by omega, by omega, fun j h => absurd h (by omega)⟩, ?_, ⟨rfl, fun h => by cases h⟩, ⟨rfl, fun h => by cases h⟩, hGR⟩
  intro i hi
  rw [zm (18 + 3 * i) (by omega) (by omega), show 18 + 3 * i - 18 = 3 * i by omega]
  exact (hRG i hi).1
