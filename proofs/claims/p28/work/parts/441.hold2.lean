theorem ite_dec {p : Prop} [inst : Decidable p] : (if p then true else false) = decide p := by
  by_cases h : p
  · rw [if_pos h, decide_eq_true h]
  · rw [if_neg h, decide_eq_false h]
theorem ite_b {b : Bool} : (if b = true then true else false) = b := by cases b <;> rfl
section HOLD2
variable {s : OSt} {n rule mv ps pr c0 c1 k c fu : Nat} {u : Int32} {K : Int64 → Int64 → Int32 → Int32 → Int32 → Int32 → Int32 → Int32 → Int32 → Bool → Option Bool}
theorem step_free (h : NW s n rule mv ps pr c0 c1) (hk : k < n * n) (q : ¬ tb ((s.1 14).2.1 mv ||| (s.1 14).2.2.1 mv) k = true) (A B C D E F G : Int32) :
    fL_holds_89 s (nI n) (nI (n * n)) ((s.1 14).2.1 mv) ((s.1 14).2.2.1 mv) u K (fu + 1) A B C D E F G true (nI k) = fL_holds_89 s (nI n) (nI (n * n)) ((s.1 14).2.1 mv) ((s.1 14).2.2.1 mv) u K fu A B (C + b2i (decide (whyS s n rule mv k = 0))) (D + b2i (decide (eyeE n ((s.1 14).2.1 mv) ((s.1 14).2.2.1 mv) k = 2))) (E + b2i (decide (eyeE n ((s.1 14).2.1 mv) ((s.1 14).2.2.1 mv) k = 1))) (if (if whyS s n rule mv k = 0 then nI (cn (nT n (s.1 14).2.1 (s.1 14).2.2.1 mv k) 49) else -1) ≤ G then F else nI k) (if (if whyS s n rule mv k = 0 then nI (cn (nT n (s.1 14).2.1 (s.1 14).2.2.1 mv k) 49) else -1) ≤ G then G else (if whyS s n rule mv k = 0 then nI (cn (nT n (s.1 14).2.1 (s.1 14).2.2.1 mv k) 49) else -1)) true (nI k + 1) := by
  have hsq := okN_sq h.okn
  have hk64 := pt64 h hk
  have hl : whyS s n rule mv k ≤ 4 := why_le k
  have w0 : nI (whyS s n rule mv k) = 0 ↔ whyS s n rule mv k = 0 := nI_eq0 (by omega)
  have w1 : nI (whyS s n rule mv k) = 1 ↔ whyS s n rule mv k = 1 := nI_eq_iff (a := whyS s n rule mv k) (b := 1) (by omega) (by omega)
  have hey : eyeE n ((s.1 14).2.1 mv) ((s.1 14).2.2.1 mv) k ≤ 2 := by
    unfold eyeE
    split
    · exact eyeV_le _ _ _
    · exact eyeV_le _ _ _
  have y2 : nI (eyeE n ((s.1 14).2.1 mv) ((s.1 14).2.2.1 mv) k) = 2 ↔ eyeE n ((s.1 14).2.1 mv) ((s.1 14).2.2.1 mv) k = 2 := nI_eq_iff (a := eyeE n ((s.1 14).2.1 mv) ((s.1 14).2.2.1 mv) k) (b := 2) (by omega) (by omega)
  have y1 : nI (eyeE n ((s.1 14).2.1 mv) ((s.1 14).2.2.1 mv) k) = 1 ↔ eyeE n ((s.1 14).2.1 mv) ((s.1 14).2.2.1 mv) k = 1 := nI_eq_iff (a := eyeE n ((s.1 14).2.1 mv) ((s.1 14).2.2.1 mv) k) (b := 1) (by omega) (by omega)
  have y0 : nI (eyeE n ((s.1 14).2.1 mv) ((s.1 14).2.2.1 mv) k) ≤ 0 ↔ eyeE n ((s.1 14).2.1 mv) ((s.1 14).2.2.1 mv) k ≤ 0 := nI_le_iff (a := eyeE n ((s.1 14).2.1 mv) ((s.1 14).2.2.1 mv) k) (b := 0) (by omega) (by omega)
  obtain ⟨R, hR⟩ : ∃ R : Int32, R = (if whyS s n rule mv k = 0 then nI (cn (nT n (s.1 14).2.1 (s.1 14).2.2.1 mv k) 49) else -1) := ⟨_, rfl⟩
  have i0 : fL_call_11 s (nI k) 0 0 = some R := by
    rw [hR]
    by_cases z : whyS s n rule mv k = 0
    · rw [if_pos z]
      exact if_k h hk (v := 0) (by omega) z
    · rw [if_neg z]
      exact if_n h hk (v := 0) (by omega) z
  have hRm : R = -1 ↔ ¬ whyS s n rule mv k = 0 := by
    rw [hR]
    by_cases z : whyS s n rule mv k = 0
    · rw [if_pos z]
      exact ⟨fun e => absurd e (nI_ne_m1 (by have := cn_le (nT n (s.1 14).2.1 (s.1 14).2.2.1 mv k) 49; omega)), fun e => absurd z e⟩
    · rw [if_neg z]
      exact ⟨fun _ => z, fun _ => rfl⟩
  rw [← hR]
  conv => lhs; unfold fL_holds_89
  rw [if_neg (nI_ge hk (by omega)), if_pos rfl, pt0_f h hk q, Option.bind_some, grp0_f h hk q, Option.bind_some, grp1_f h hk q, Option.bind_some, beside_eq h.okn hk, Option.bind_some, why_k h hk, Option.bind_some, pt3_a h hk, Option.bind_some, bnd_if, i0, Option.bind_some, bnd_if, bnd_if]
  refine bnd_elim (fun k158 hk158 => ?_)
  rw [if_pos rfl, bnd_if, bnd_if]
  refine bnd_elim (fun k234 hk234 => ?_)
  rw [if_pos ((shr_not _ hk64).mpr q), if_pos rfl, if_pos rfl, pt4_a h hk, Option.bind_some, if_neg (fr_part h hk q)]
  have fin : k234 true = fL_holds_89 s (nI n) (nI (n * n)) ((s.1 14).2.1 mv) ((s.1 14).2.2.1 mv) u K fu A B (C + b2i (decide (whyS s n rule mv k = 0))) (D + b2i (decide (eyeE n ((s.1 14).2.1 mv) ((s.1 14).2.2.1 mv) k = 2))) (E + b2i (decide (eyeE n ((s.1 14).2.1 mv) ((s.1 14).2.2.1 mv) k = 1))) (if R ≤ G then F else nI k) (if R ≤ G then G else R) true (nI k + 1) := by
    rw [hk234, hk158]
    simp only [w0, y2, y1, ite_dec]
  refine bnd_elim (fun k243 hk243 => ?_)
  have a243 : (if nI (eyeE n ((s.1 14).2.1 mv) ((s.1 14).2.2.1 mv) k) ≤ 0 then k243 false else k243 true) = k243 (decide (0 < eyeE n ((s.1 14).2.1 mv) ((s.1 14).2.2.1 mv) k)) := by
    by_cases z : eyeE n ((s.1 14).2.1 mv) ((s.1 14).2.2.1 mv) k ≤ 0
    · rw [if_pos (y0.mpr z), decide_eq_false (by omega)]
    · rw [if_neg (fun e => z (y0.mp e)), decide_eq_true (by omega)]
  rw [a243, hk243]
  refine bnd_elim (fun k244 hk244 => ?_)
  have a244 : (if ar n (pt k) &&& (((s.1 14).2.1 mv) ^^^ (-1)) = 0 then k244 true else if ar n (pt k) &&& (((s.1 14).2.2.1 mv) ^^^ (-1)) = 0 then k244 true else k244 false) = k244 (decide (0 < eyeE n ((s.1 14).2.1 mv) ((s.1 14).2.2.1 mv) k)) := by
    have e := fr_eye h hk q
    by_cases z0 : ar n (pt k) &&& (((s.1 14).2.1 mv) ^^^ (-1)) = 0
    · rw [if_pos z0, decide_eq_true (e.mpr (.inl z0))]
    · rw [if_neg z0]
      by_cases z1 : ar n (pt k) &&& (((s.1 14).2.2.1 mv) ^^^ (-1)) = 0
      · rw [if_pos z1, decide_eq_true (e.mpr (.inr z1))]
      · rw [if_neg z1, decide_eq_false (fun y => (e.mp y).elim z0 z1)]
  rw [a244, hk244]
  dsimp only
  rw [if_pos rfl, if_neg (fun z => fr_why (n := n) (rule := rule) q (w1.mp z)), bnd_if]
  refine bnd_elim (fun k248 hk248 => ?_)
  have a248 : (if R = -1 then k248 false else k248 true) = k248 (decide (whyS s n rule mv k = 0)) := by
    by_cases z : whyS s n rule mv k = 0
    · rw [if_neg (fun e => hRm.mp e z), decide_eq_true z]
    · rw [if_pos (hRm.mpr z), decide_eq_false z]
  rw [a248, hk248]
  dsimp only
  rw [if_pos (by simp only [w0, ite_dec]), bnd_if]
  have i1 : ∃ r, fL_call_11 s (nI k) 1 0 = some r ∧ (r ≤ 0 ↔ ¬ whyS s n rule mv k = 0) := by
    by_cases z : whyS s n rule mv k = 0
    · exact ⟨_, if_k h hk (v := 1) (by omega) z, fun e => absurd e (eff1_pos h z), fun e => absurd z e⟩
    · exact ⟨_, if_n h hk (v := 1) (by omega) z, fun _ => z, fun _ => by decide⟩
  obtain ⟨r, r1, r2⟩ := i1
  rw [r1, Option.bind_some]
  refine bnd_elim (fun k255 hk255 => ?_)
  have a255 : (if r ≤ 0 then k255 false else k255 true) = k255 (decide (whyS s n rule mv k = 0)) := by
    by_cases z : whyS s n rule mv k = 0
    · rw [if_neg (fun e => r2.mp e z), decide_eq_true z]
    · rw [if_pos (r2.mpr z), decide_eq_false z]
  rw [a255, hk255]
  dsimp only
  rw [if_pos (by simp only [w0, ite_dec])]
  exact fin
theorem step_stone (h : NW s n rule mv ps pr c0 c1) (hk : k < n * n) (hc : c < 2) (q : tb (sOf (s.1 14).2.1 (s.1 14).2.2.1 mv c) k = true) (A B C D E F G : Int32) :
    fL_holds_89 s (nI n) (nI (n * n)) ((s.1 14).2.1 mv) ((s.1 14).2.2.1 mv) u K (fu + 1) A B C D E F G true (nI k) = fL_holds_89 s (nI n) (nI (n * n)) ((s.1 14).2.1 mv) ((s.1 14).2.2.1 mv) u K fu (A + b2i (decide ((cl n (sOf (s.1 14).2.1 (s.1 14).2.2.1 mv c) (pt k)) &&& (pt k - 1) = 0))) (B + b2i (decide ((cl n (sOf (s.1 14).2.1 (s.1 14).2.2.1 mv c) (pt k)) &&& (pt k - 1) = 0) && decide (cn (fvO n ((s.1 14).2.1 mv ||| (s.1 14).2.2.1 mv) (cl n (sOf (s.1 14).2.1 (s.1 14).2.2.1 mv c) (pt k))) 49 = 1))) (C + b2i false) D E (if (-1 : Int32) ≤ G then F else nI k) (if (-1 : Int32) ≤ G then G else -1) true (nI k + 1) := by
  have hsq := okN_sq h.okn
  have hk64 := pt64 h hk
  have hcne : ¬ nI c = -1 := nI_ne_m1 (by omega)
  have hGs : sb (cl n (sOf (s.1 14).2.1 (s.1 14).2.2.1 mv c) (pt k)) (mA n) := grp_sb h hc
  have hm := cn_le (fvO n ((s.1 14).2.1 mv ||| (s.1 14).2.2.1 mv) (cl n (sOf (s.1 14).2.1 (s.1 14).2.2.1 mv c) (pt k))) 49
  have m1 : nI (cn (fvO n ((s.1 14).2.1 mv ||| (s.1 14).2.2.1 mv) (cl n (sOf (s.1 14).2.1 (s.1 14).2.2.1 mv c) (pt k))) 49) = 1 ↔ cn (fvO n ((s.1 14).2.1 mv ||| (s.1 14).2.2.1 mv) (cl n (sOf (s.1 14).2.1 (s.1 14).2.2.1 mv c) (pt k))) 49 = 1 := nI_eq_iff (a := cn (fvO n ((s.1 14).2.1 mv ||| (s.1 14).2.2.1 mv) (cl n (sOf (s.1 14).2.1 (s.1 14).2.2.1 mv c) (pt k))) 49) (b := 1) (by omega) (by omega)
  have m3 : nI (cn (fvO n ((s.1 14).2.1 mv ||| (s.1 14).2.2.1 mv) (cl n (sOf (s.1 14).2.1 (s.1 14).2.2.1 mv c) (pt k))) 49) < 3 ↔ cn (fvO n ((s.1 14).2.1 mv ||| (s.1 14).2.2.1 mv) (cl n (sOf (s.1 14).2.1 (s.1 14).2.2.1 mv c) (pt k))) 49 < 3 := nI_lt_iff (a := cn (fvO n ((s.1 14).2.1 mv ||| (s.1 14).2.2.1 mv) (cl n (sOf (s.1 14).2.1 (s.1 14).2.2.1 mv c) (pt k))) 49) (b := 3) (by omega) (by omega)
  have hw := st_why h hk hc q
  have i0 : fL_call_11 s (nI k) 0 0 = some (-1) := if_n h hk (v := 0) (by omega) (by omega)
  have hx : (if nI c = 0 then ((s.1 14).2.1 mv) else ((s.1 14).2.2.1 mv)) = (sOf (s.1 14).2.1 (s.1 14).2.2.1 mv c) := by
    rcases (show c = 0 ∨ c = 1 by omega) with e | e
    · subst e; rfl
    · subst e; rfl
  have hwy : fL_call_5 s (nI k) 0 0 = some 1 := by
    rw [why_k h hk, hw]
    rfl
  have hyy : fL_call_4 s (nI k) 3 0 = some 0 := by
    rw [pt3_a h hk, (st_noeye h hk hc q).1]
    rfl
  have h44 : fL_call_4 s (nI k) 4 0 = some 0 := by
    rw [pt4_a h hk, st_part h hk hc q]
    rfl
  have cF : fL_count (fvO n ((s.1 14).2.1 mv ||| (s.1 14).2.2.1 mv) (cl n (sOf (s.1 14).2.1 (s.1 14).2.2.1 mv c) (pt k))) = some (nI (cn (fvO n ((s.1 14).2.1 mv ||| (s.1 14).2.2.1 mv) (cl n (sOf (s.1 14).2.1 (s.1 14).2.2.1 mv c) (pt k))) 49)) := count49 h.okn fvO_sb
  have cG : fL_count (cl n (sOf (s.1 14).2.1 (s.1 14).2.2.1 mv c) (pt k)) = some (nI (cn (cl n (sOf (s.1 14).2.1 (s.1 14).2.2.1 mv c) (pt k)) 49)) := count49 h.okn hGs
  conv => lhs; unfold fL_holds_89
  rw [if_neg (nI_ge hk (by omega)), if_pos rfl, pt0_c h hk hc q, Option.bind_some, grp0_c h hk hc q, Option.bind_some, grp1_c h hk hc q, Option.bind_some, beside_eq h.okn hk, Option.bind_some, hwy, Option.bind_some, hyy, Option.bind_some, bnd_if, i0, Option.bind_some, bnd_if, bnd_if]
  refine bnd_elim (fun k158 hk158 => ?_)
  rw [if_neg hcne, bnd_if, hx, bnd_if, shl_pt, ite_dec, bnd_if, ite_b]
  refine bnd_elim (fun k163 hk163 => ?_)
  have a163 : (if decide ((cl n (sOf (s.1 14).2.1 (s.1 14).2.2.1 mv c) (pt k)) &&& (pt k - 1) = 0) = true then (fL_count (fvO n ((s.1 14).2.1 mv ||| (s.1 14).2.2.1 mv) (cl n (sOf (s.1 14).2.1 (s.1 14).2.2.1 mv c) (pt k)))).bind fun r227 => if r227 = 1 then k163 true else k163 false else k163 false) = k163 (decide ((cl n (sOf (s.1 14).2.1 (s.1 14).2.2.1 mv c) (pt k)) &&& (pt k - 1) = 0) && decide (cn (fvO n ((s.1 14).2.1 mv ||| (s.1 14).2.2.1 mv) (cl n (sOf (s.1 14).2.1 (s.1 14).2.2.1 mv c) (pt k))) 49 = 1)) := by
    by_cases z : (cl n (sOf (s.1 14).2.1 (s.1 14).2.2.1 mv c) (pt k)) &&& (pt k - 1) = 0
    · rw [decide_eq_true z, if_pos rfl, cF, Option.bind_some]
      by_cases y : cn (fvO n ((s.1 14).2.1 mv ||| (s.1 14).2.2.1 mv) (cl n (sOf (s.1 14).2.1 (s.1 14).2.2.1 mv c) (pt k))) 49 = 1
      · rw [if_pos (m1.mpr y), decide_eq_true y]
        rfl
      · rw [if_neg (fun e => y (m1.mp e)), decide_eq_false y]
        rfl
    · rw [decide_eq_false z, if_neg (by decide)]
      rfl
  rw [a163, hk163]
  refine bnd_elim (fun k164 hk164 => ?_)
  have fin : k164 true = fL_holds_89 s (nI n) (nI (n * n)) ((s.1 14).2.1 mv) ((s.1 14).2.2.1 mv) u K fu (A + b2i (decide ((cl n (sOf (s.1 14).2.1 (s.1 14).2.2.1 mv c) (pt k)) &&& (pt k - 1) = 0))) (B + b2i (decide ((cl n (sOf (s.1 14).2.1 (s.1 14).2.2.1 mv c) (pt k)) &&& (pt k - 1) = 0) && decide (cn (fvO n ((s.1 14).2.1 mv ||| (s.1 14).2.2.1 mv) (cl n (sOf (s.1 14).2.1 (s.1 14).2.2.1 mv c) (pt k))) 49 = 1))) (C + b2i false) D E (if (-1 : Int32) ≤ G then F else nI k) (if (-1 : Int32) ≤ G then G else -1) true (nI k + 1) := by
    rw [hk164, hk158]
    rfl
  rw [if_pos ((shr_has _ hk64).mpr q), if_pos ((shr_has _ hk64).mpr (st_self h hk hc q)), if_pos (st_own h hk hc q), if_pos (st_near h hk hc q), if_pos (st_free h hk hc q), if_pos (st_lib h hk hc q), if_neg (st_live h hk hc q), pt1_c h hk hc q, Option.bind_some, cG, Option.bind_some, if_pos rfl, pt2_c h hk hc q, Option.bind_some, cF, Option.bind_some, if_pos rfl, h44, Option.bind_some, if_pos rfl, if_pos rfl, if_pos rfl, pt5_c h hk hc q, Option.bind_some, colour_3 h hc, Option.bind_some, if_neg (st_eyes h hk hc q), Option.bind_some]
  have tail : (if nI (cn (fvO n ((s.1 14).2.1 mv ||| (s.1 14).2.2.1 mv) (cl n (sOf (s.1 14).2.1 (s.1 14).2.2.1 mv c) (pt k))) 49) = 1 then k164 true else (fL_call_12 s (nI k) 1 0).bind fun r204 => if r204 = 0 then k164 true else k164 false) = k164 true := by
    by_cases y : cn (fvO n ((s.1 14).2.1 mv ||| (s.1 14).2.2.1 mv) (cl n (sOf (s.1 14).2.1 (s.1 14).2.2.1 mv c) (pt k))) 49 = 1
    · rw [if_pos (m1.mpr y)]
    · rw [if_neg (fun e => y (m1.mp e)), st_lad1 h hk hc q y, Option.bind_some, if_pos rfl]
  by_cases z : cn (fvO n ((s.1 14).2.1 mv ||| (s.1 14).2.2.1 mv) (cl n (sOf (s.1 14).2.1 (s.1 14).2.2.1 mv c) (pt k))) 49 < 3
  · rw [if_pos (m3.mpr z), Option.bind_some, tail]
    exact fin
  · have l0 := st_lad3 h hk hc q z
    have cc := chase_c (a := 0) (b := 0) h hk hc q
    rw [if_pos l0] at cc
    have ll := lad_c (b := 0) h hk hc q (v := 0) (by omega)
    rw [ladV0, if_pos l0] at ll
    have ll' : fL_call_12 s (nI k) 0 0 = some 0 := ll
    rw [if_neg (fun e => z (m3.mp e)), cc, Option.bind_some, if_pos rfl, ll', Option.bind_some, if_pos rfl, Option.bind_some, tail]
    exact fin
end HOLD2
