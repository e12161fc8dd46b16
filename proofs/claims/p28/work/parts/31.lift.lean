def sMap {A B : Type} (f : A → B) : String ⊕ A → String ⊕ B
  | .inl E => .inl E
  | .inr w => .inr (f w)
theorem map_some {A B : Type} {o : Option A} {f : A → B} {v : B} (h : o.map f = some v) : ∃ a, o = some a ∧ f a = v := by
  cases o with
  | none => cases h
  | some a => exact ⟨a, rfl, Option.some.inj h⟩
section CAN
variable {ad : Nat → Nat} {rg : Nat → Option Nat} {x : Nat}
theorem at_can (hr : ∀ i, i < 14 → rg i = some (ad (7 + 3 * i))) (hin : inj61 ad) (hx : x < 14) (w : Int32 × Int32) (p : Int32) {T : Type} (t : Option T) : ((fX4_at w rg p).bind fun r => if r = some (ad (7 + 3 * x)) then t else none) = ((fX4_at w rgC p).bind fun r => if r = some x then t else none) := by
  unfold fX4_at bnd
  dsimp only
  by_cases c1 : (w.1 + p) - (w.1 + p) / 14 * 14 < 0
  · rw [if_pos c1, if_pos c1]; rfl
  rw [if_neg c1, if_neg c1]
  by_cases c2 : 14 ≤ (w.1 + p) - (w.1 + p) / 14 * 14
  · rw [if_pos c2, if_pos c2]; rfl
  rw [if_neg c2, if_neg c2]
  by_cases c3 : inB ((w.1 + p) - (w.1 + p) / 14 * 14) 14 = true
  · rw [if_pos c3, if_pos c3]
    have hi : ((w.1 + p) - (w.1 + p) / 14 * 14).toNatClampNeg < 14 := Nat.not_le.mp (fun q => inB_ok c3 (Or.inr q))
    generalize ((w.1 + p) - (w.1 + p) / 14 * 14).toNatClampNeg = i at hi
    show (if rg i = some (ad (7 + 3 * x)) then t else none) = (if some i = some x then t else none)
    rw [hr i hi]
    by_cases c4 : i = x
    · rw [c4, if_pos rfl, if_pos rfl]
    · rw [if_neg (fun q => inj_ne hin (show 7 + 3 * i < 61 by omega) (show 7 + 3 * x < 61 by omega) (by omega) (Option.some.inj q)), if_neg (fun q => c4 (Option.some.inj q))]
  · rw [if_neg c3, if_neg c3]; rfl
theorem can_rem (hr : ∀ i, i < 14 → rg i = some (ad (7 + 3 * i))) (hin : inj61 ad) (hx : x < 14) (m : Int32 × Int32) (w w2 : GS) (a b c d : Nat → Int64) : fX4_remember (ad (7 + 3 * x)) m w w2 rg a b c d = fX4_remember x m w w2 rgC a b c d := by
  unfold fX4_remember
  rw [at_can hr hin hx, at_can hr hin hx]
theorem can_back (hr : ∀ i, i < 14 → rg i = some (ad (7 + 3 * i))) (hin : inj61 ad) (hx : x < 14) (m : Int32 × Int32) (w w2 : GS) (a b c d : Nat → Int64) : fX4_takeBackInto (ad (7 + 3 * x)) m w w2 rg a b c d = fX4_takeBackInto x m w w2 rgC a b c d := by
  unfold fX4_takeBackInto
  rw [at_can hr hin hx]
theorem can_board (hr : ∀ i, i < 14 → rg i = some (ad (7 + 3 * i))) (hin : inj61 ad) (hx : x < 14) (w_x : Int32 × Int32 × Int32 × Int32 × Int64 × Int64 × Int32 × Int32) (w_t_now : Int32 × Int32 × Int32 × Int32 × Int64 × Int64 × Int32 × Int32) (w_t_memory : Int32 × Int32) (f_x_before0 : Nat → Int64) (f_x_before1 : Nat → Int64) (f_t_now_before0 : Nat → Int64) (f_t_now_before1 : Nat → Int64) (p0 : Int32) : fX7_board (ad (7 + 3 * x)) w_x w_t_now w_t_memory f_x_before0 f_x_before1 rg f_t_now_before0 f_t_now_before1 p0 = fX7_board x w_x w_t_now w_t_memory f_x_before0 f_x_before1 rgC f_t_now_before0 f_t_now_before1 p0 := by
  unfold fX7_board
  simp only [can_rem hr hin hx]
theorem can_play (hr : ∀ i, i < 14 → rg i = some (ad (7 + 3 * i))) (hin : inj61 ad) (hx : x < 14) (w_x : Int32 × Int32 × Int32 × Int32 × Int64 × Int64 × Int32 × Int32) (w_t_now : Int32 × Int32 × Int32 × Int32 × Int64 × Int64 × Int32 × Int32) (w_t_memory : Int32 × Int32) (f_x_before0 : Nat → Int64) (f_x_before1 : Nat → Int64) (f_t_now_before0 : Nat → Int64) (f_t_now_before1 : Nat → Int64) (w_t_now_grid : Int32 × Int32 × Int64 × Int64 × Int64) (p0 : Int32) : fX7_play (ad (7 + 3 * x)) w_x w_t_now w_t_memory f_x_before0 f_x_before1 f_t_now_before0 f_t_now_before1 w_t_now_grid rg p0 = fX7_play x w_x w_t_now w_t_memory f_x_before0 f_x_before1 f_t_now_before0 f_t_now_before1 w_t_now_grid rgC p0 := by
  unfold fX7_play
  simp only [can_rem hr hin hx]
theorem can_pass (hr : ∀ i, i < 14 → rg i = some (ad (7 + 3 * i))) (hin : inj61 ad) (hx : x < 14) (w_x : Int32 × Int32 × Int32 × Int32 × Int64 × Int64 × Int32 × Int32) (w_t_now : Int32 × Int32 × Int32 × Int32 × Int64 × Int64 × Int32 × Int32) (w_t_memory : Int32 × Int32) (f_x_before0 : Nat → Int64) (f_x_before1 : Nat → Int64) (f_t_now_before0 : Nat → Int64) (f_t_now_before1 : Nat → Int64) : fX7_pass (ad (7 + 3 * x)) w_x w_t_now w_t_memory f_x_before0 f_x_before1 f_t_now_before0 f_t_now_before1 rg = fX7_pass x w_x w_t_now w_t_memory f_x_before0 f_x_before1 f_t_now_before0 f_t_now_before1 rgC := by
  unfold fX7_pass
  simp only [can_rem hr hin hx]
theorem can_set (hr : ∀ i, i < 14 → rg i = some (ad (7 + 3 * i))) (hin : inj61 ad) (hx : x < 14) (w_x : Int32 × Int32 × Int32 × Int32 × Int64 × Int64 × Int32 × Int32) (w_t_now : Int32 × Int32 × Int32 × Int32 × Int64 × Int64 × Int32 × Int32) (w_t_memory : Int32 × Int32) (f_x_before0 : Nat → Int64) (f_x_before1 : Nat → Int64) (f_t_now_before0 : Nat → Int64) (f_t_now_before1 : Nat → Int64) (p0 : Int32) : fX7_set (ad (7 + 3 * x)) w_x w_t_now w_t_memory f_x_before0 f_x_before1 rg f_t_now_before0 f_t_now_before1 p0 = fX7_set x w_x w_t_now w_t_memory f_x_before0 f_x_before1 rgC f_t_now_before0 f_t_now_before1 p0 := by
  unfold fX7_set
  simp only [can_rem hr hin hx]
theorem can_undo (hr : ∀ i, i < 14 → rg i = some (ad (7 + 3 * i))) (hin : inj61 ad) (hx : x < 14) (w_x : Int32 × Int32 × Int32 × Int32 × Int64 × Int64 × Int32 × Int32) (w_t_now : Int32 × Int32 × Int32 × Int32 × Int64 × Int64 × Int32 × Int32) (w_t_memory : Int32 × Int32) (f_x_before0 : Nat → Int64) (f_x_before1 : Nat → Int64) (f_t_now_before0 : Nat → Int64) (f_t_now_before1 : Nat → Int64) : fX7_undo (ad (7 + 3 * x)) w_x w_t_now w_t_memory f_x_before0 f_x_before1 rg f_t_now_before0 f_t_now_before1 = fX7_undo x w_x w_t_now w_t_memory f_x_before0 f_x_before1 rgC f_t_now_before0 f_t_now_before1 := by
  unfold fX7_undo
  rw [can_back hr hin hx]
end CAN
theorem OB.hasA {K : Nat → ClassId} {ad : Nat → Nat} {σ : mwm} {s : OSt} (h : OB K ad σ s) {j : Nat} (hj : j < 61) : ∃ e, σ (ad j) = some e := by
  obtain ⟨hi, gr, rg, ⟨b0, b1, b2, b3, b4, b5, b6⟩, hG, hD, hr⟩ := h
  by_cases h7 : 7 ≤ j
  · obtain ⟨i, hi, hji⟩ : ∃ i, i < 18 ∧ (j = 7 + 3 * i ∨ j = 8 + 3 * i ∨ j = 9 + 3 * i) := ⟨(j - 7) / 3, by omega, by omega⟩
    obtain ⟨g1, g2, g3, -⟩ := hG i hi
    rcases hji with e | e | e
    · subst e; exact ⟨_, g1⟩
    · subst e; exact ⟨_, g2⟩
    · subst e; exact ⟨_, g3⟩
  · rcases (show j = 0 ∨ j = 1 ∨ j = 2 ∨ j = 3 ∨ j = 4 ∨ j = 5 ∨ j = 6 by omega) with e | e | e | e | e | e | e
    all_goals subst e
    · exact ⟨_, b0⟩
    · exact ⟨_, b1⟩
    · exact ⟨_, b2⟩
    · exact ⟨_, b3⟩
    · exact ⟨_, b4⟩
    · exact ⟨_, b5⟩
    · exact ⟨_, b6⟩
def aAbout (s : OSt) (p0 : Int32) : Option (String ⊕ Int32) := fX7_about (s.1 14).1 (s.1 14).2.2.2 p0
theorem o_X7_about {l : Launch} {z : Nat} {D : va_G} {K : Nat → ClassId} {σ : mwm} {ad : Nat → Nat} {s : OSt} {p0 : Int32} (hO : OB K ad σ s) (hlt : l.stackTraces = false) {v : String ⊕ Int32} (h : aAbout s p0 = some v) : vx_Met l yX7_about wsX7_about ({ frames := 6, cells := 1, slots := 6, locals := 127 } : Room) (PCx z D K [.ref (ad 0), .int p0] σ) (qwI z D (fun r σ2 => ∃ w9 : Int32, v = Sum.inr w9 ∧ r = w9 ∧ OB K ad σ2 s ∧ KEO ad σ σ2)) (XQ z D σ v) 1 6 (zA z) := by
  have hO0 := hO
  obtain ⟨hin, gr, rg, hB, hG, hD, hr⟩ := hO
  obtain ⟨g14a, g14b, g14c, g14d⟩ := hG 14 (by omega)
  have g14a : σ (ad 49) = some (cl0 (ad 50) (ad 51) (gr 14) (s.1 14).1) := g14a
  have g14b : σ (ad 50) = some (eJ K 121 (s.1 14).2.1) := g14b
  have g14c : σ (ad 51) = some (eJ K 121 (s.1 14).2.2.1) := g14c
  exact vx_mono (c_X7_about (hc_t := hB.1) (hc_t_now := g14a) (hc_t_now_grid := g14d) (hlt := hlt) (v := v) h) (fun a st o t q => qwI_mono q (fun r σ2 hp => by
    obtain ⟨w9, e1, e2, hk⟩ := hp
    exact ⟨w9, e1, e2, hO0.same hk, fun q e hq _ => hk q e hq⟩))
def aStones (s : OSt) (p0 : Int32) : Option (String ⊕ Int64) := fX7_stones (s.1 14).1 p0
theorem o_X7_stones {l : Launch} {z : Nat} {D : va_G} {K : Nat → ClassId} {σ : mwm} {ad : Nat → Nat} {s : OSt} {p0 : Int32} (hO : OB K ad σ s) (hlt : l.stackTraces = false) {v : String ⊕ Int64} (h : aStones s p0 = some v) : vx_Met l yX7_stones wsX7_stones ({ frames := 6, cells := 1, slots := 6, locals := 99 } : Room) (PCx z D K [.ref (ad 0), .int p0] σ) (qwL z D (fun r σ2 => ∃ w9 : Int64, v = Sum.inr w9 ∧ r = w9 ∧ OB K ad σ2 s ∧ KEO ad σ σ2)) (XQ z D σ v) 1 6 (zA z) := by
  have hO0 := hO
  obtain ⟨hin, gr, rg, hB, hG, hD, hr⟩ := hO
  obtain ⟨g14a, g14b, g14c, g14d⟩ := hG 14 (by omega)
  have g14a : σ (ad 49) = some (cl0 (ad 50) (ad 51) (gr 14) (s.1 14).1) := g14a
  have g14b : σ (ad 50) = some (eJ K 121 (s.1 14).2.1) := g14b
  have g14c : σ (ad 51) = some (eJ K 121 (s.1 14).2.2.1) := g14c
  exact vx_mono (c_X7_stones (hc_t := hB.1) (hc_t_now := g14a) (hlt := hlt) (v := v) h) (fun a st o t q => qwL_mono q (fun r σ2 hp => by
    obtain ⟨w9, e1, e2, hk⟩ := hp
    exact ⟨w9, e1, e2, hO0.same hk, fun q e hq _ => hk q e hq⟩))
def aColour (s : OSt) (p0 : Int32) (p1 : Int32) : Option (String ⊕ Int32) := fX7_colour (s.1 14).1 (s.1 14).2.2.2 p0 p1
theorem o_X7_colour {l : Launch} {z : Nat} {D : va_G} {K : Nat → ClassId} {σ : mwm} {ad : Nat → Nat} {s : OSt} {p0 : Int32} {p1 : Int32} (hO : OB K ad σ s) (hlt : l.stackTraces = false) {v : String ⊕ Int32} (h : aColour s p0 p1 = some v) : vx_Met l yX7_colour wsX7_colour ({ frames := 6, cells := 1, slots := 6, locals := 99 } : Room) (PCx z D K [.ref (ad 0), .int p0, .int p1] σ) (qwI z D (fun r σ2 => ∃ w9 : Int32, v = Sum.inr w9 ∧ r = w9 ∧ OB K ad σ2 s ∧ KEO ad σ σ2)) (XQ z D σ v) 1 6 (zA z) := by
  have hO0 := hO
  obtain ⟨hin, gr, rg, hB, hG, hD, hr⟩ := hO
  obtain ⟨g14a, g14b, g14c, g14d⟩ := hG 14 (by omega)
  have g14a : σ (ad 49) = some (cl0 (ad 50) (ad 51) (gr 14) (s.1 14).1) := g14a
  have g14b : σ (ad 50) = some (eJ K 121 (s.1 14).2.1) := g14b
  have g14c : σ (ad 51) = some (eJ K 121 (s.1 14).2.2.1) := g14c
  exact vx_mono (c_X7_colour (hc_t := hB.1) (hc_t_now := g14a) (hc_t_now_grid := g14d) (hlt := hlt) (v := v) h) (fun a st o t q => qwI_mono q (fun r σ2 hp => by
    obtain ⟨w9, e1, e2, hk⟩ := hp
    exact ⟨w9, e1, e2, hO0.same hk, fun q e hq _ => hk q e hq⟩))
def aPoint (s : OSt) (p0 : Int32) (p1 : Int32) : Option (String ⊕ Int32) := fX7_point (s.1 14).1 (s.1 14).2.2.2 p0 p1
theorem o_X7_point {l : Launch} {z : Nat} {D : va_G} {K : Nat → ClassId} {σ : mwm} {ad : Nat → Nat} {s : OSt} {p0 : Int32} {p1 : Int32} (hO : OB K ad σ s) (hlt : l.stackTraces = false) {v : String ⊕ Int32} (h : aPoint s p0 p1 = some v) : vx_Met l yX7_point wsX7_point ({ frames := 6, cells := 1, slots := 6, locals := 121 } : Room) (PCx z D K [.ref (ad 0), .int p0, .int p1] σ) (qwI z D (fun r σ2 => ∃ w9 : Int32, v = Sum.inr w9 ∧ r = w9 ∧ OB K ad σ2 s ∧ KEO ad σ σ2)) (XQ z D σ v) 1 6 (zA z) := by
  have hO0 := hO
  obtain ⟨hin, gr, rg, hB, hG, hD, hr⟩ := hO
  obtain ⟨g14a, g14b, g14c, g14d⟩ := hG 14 (by omega)
  have g14a : σ (ad 49) = some (cl0 (ad 50) (ad 51) (gr 14) (s.1 14).1) := g14a
  have g14b : σ (ad 50) = some (eJ K 121 (s.1 14).2.1) := g14b
  have g14c : σ (ad 51) = some (eJ K 121 (s.1 14).2.2.1) := g14c
  exact vx_mono (c_X7_point (hc_t := hB.1) (hc_t_now := g14a) (hc_t_now_grid := g14d) (hlt := hlt) (v := v) h) (fun a st o t q => qwI_mono q (fun r σ2 hp => by
    obtain ⟨w9, e1, e2, hk⟩ := hp
    exact ⟨w9, e1, e2, hO0.same hk, fun q e hq _ => hk q e hq⟩))
def aGroup (s : OSt) (p0 : Int32) (p1 : Int32) : Option (String ⊕ Int64) := fX7_group (s.1 14).1 (s.1 14).2.2.2 p0 p1
theorem o_X7_group {l : Launch} {z : Nat} {D : va_G} {K : Nat → ClassId} {σ : mwm} {ad : Nat → Nat} {s : OSt} {p0 : Int32} {p1 : Int32} (hO : OB K ad σ s) (hlt : l.stackTraces = false) {v : String ⊕ Int64} (h : aGroup s p0 p1 = some v) : vx_Met l yX7_group wsX7_group ({ frames := 6, cells := 1, slots := 6, locals := 99 } : Room) (PCx z D K [.ref (ad 0), .int p0, .int p1] σ) (qwL z D (fun r σ2 => ∃ w9 : Int64, v = Sum.inr w9 ∧ r = w9 ∧ OB K ad σ2 s ∧ KEO ad σ σ2)) (XQ z D σ v) 1 6 (zA z) := by
  have hO0 := hO
  obtain ⟨hin, gr, rg, hB, hG, hD, hr⟩ := hO
  obtain ⟨g14a, g14b, g14c, g14d⟩ := hG 14 (by omega)
  have g14a : σ (ad 49) = some (cl0 (ad 50) (ad 51) (gr 14) (s.1 14).1) := g14a
  have g14b : σ (ad 50) = some (eJ K 121 (s.1 14).2.1) := g14b
  have g14c : σ (ad 51) = some (eJ K 121 (s.1 14).2.2.1) := g14c
  exact vx_mono (c_X7_group (hc_t := hB.1) (hc_t_now := g14a) (hc_t_now_grid := g14d) (hlt := hlt) (v := v) h) (fun a st o t q => qwL_mono q (fun r σ2 hp => by
    obtain ⟨w9, e1, e2, hk⟩ := hp
    exact ⟨w9, e1, e2, hO0.same hk, fun q e hq _ => hk q e hq⟩))
def aWhy (s : OSt) (p0 : Int32) : Option (String ⊕ Int32) := fX7_why (s.1 14).1 (s.1 14).2.1 (s.1 14).2.2.1 (s.1 14).2.2.2 p0
theorem o_X7_why {l : Launch} {z : Nat} {D : va_G} {K : Nat → ClassId} {σ : mwm} {ad : Nat → Nat} {s : OSt} {p0 : Int32} (hO : OB K ad σ s) (hlt : l.stackTraces = false) {v : String ⊕ Int32} (h : aWhy s p0 = some v) : vx_Met l yX7_why wsX7_why ({ frames := 6, cells := 1, slots := 6, locals := 106 } : Room) (PCx z D K [.ref (ad 0), .int p0] σ) (qwI z D (fun r σ2 => ∃ w9 : Int32, v = Sum.inr w9 ∧ r = w9 ∧ OB K ad σ2 s ∧ KEO ad σ σ2)) (XQ z D σ v) 1 6 (zA z) := by
  have hO0 := hO
  obtain ⟨hin, gr, rg, hB, hG, hD, hr⟩ := hO
  obtain ⟨g14a, g14b, g14c, g14d⟩ := hG 14 (by omega)
  have g14a : σ (ad 49) = some (cl0 (ad 50) (ad 51) (gr 14) (s.1 14).1) := g14a
  have g14b : σ (ad 50) = some (eJ K 121 (s.1 14).2.1) := g14b
  have g14c : σ (ad 51) = some (eJ K 121 (s.1 14).2.2.1) := g14c
  exact vx_mono (c_X7_why (hc_t := hB.1) (hc_t_now := g14a) (hc_t_now_before0 := g14b) (hc_t_now_before1 := g14c) (hc_t_now_grid := g14d) (hlt := hlt) (v := v) h) (fun a st o t q => qwI_mono q (fun r σ2 hp => by
    obtain ⟨w9, e1, e2, hk⟩ := hp
    exact ⟨w9, e1, e2, hO0.same hk, fun q e hq _ => hk q e hq⟩))
def aIfPlayed (s : OSt) (p0 : Int32) (p1 : Int32) : Option (String ⊕ Int32) := fX7_ifPlayed (s.1 14).1 (s.1 14).2.1 (s.1 14).2.2.1 (s.1 14).2.2.2 p0 p1
theorem o_X7_ifPlayed {l : Launch} {z : Nat} {D : va_G} {K : Nat → ClassId} {σ : mwm} {ad : Nat → Nat} {s : OSt} {p0 : Int32} {p1 : Int32} (hO : OB K ad σ s) (hlt : l.stackTraces = false) {v : String ⊕ Int32} (h : aIfPlayed s p0 p1 = some v) : vx_Met l yX7_ifPlayed wsX7_ifPlayed ({ frames := 6, cells := 1, slots := 6, locals := 137 } : Room) (PCx z D K [.ref (ad 0), .int p0, .int p1] σ) (qwI z D (fun r σ2 => ∃ w9 : Int32, v = Sum.inr w9 ∧ r = w9 ∧ OB K ad σ2 s ∧ KEO ad σ σ2)) (XQ z D σ v) 1 6 (zA z) := by
  have hO0 := hO
  obtain ⟨hin, gr, rg, hB, hG, hD, hr⟩ := hO
  obtain ⟨g14a, g14b, g14c, g14d⟩ := hG 14 (by omega)
  have g14a : σ (ad 49) = some (cl0 (ad 50) (ad 51) (gr 14) (s.1 14).1) := g14a
  have g14b : σ (ad 50) = some (eJ K 121 (s.1 14).2.1) := g14b
  have g14c : σ (ad 51) = some (eJ K 121 (s.1 14).2.2.1) := g14c
  exact vx_mono (c_X7_ifPlayed (hc_t := hB.1) (hc_t_now := g14a) (hc_t_now_before0 := g14b) (hc_t_now_before1 := g14c) (hc_t_now_grid := g14d) (hlt := hlt) (v := v) h) (fun a st o t q => qwI_mono q (fun r σ2 hp => by
    obtain ⟨w9, e1, e2, hk⟩ := hp
    exact ⟨w9, e1, e2, hO0.same hk, fun q e hq _ => hk q e hq⟩))
def aLadder (s : OSt) (p0 : Int32) (p1 : Int32) : Option (String ⊕ Int32) := fX7_ladder (s.1 14).1 (s.1 14).2.2.2 p0 p1
theorem o_X7_ladder {l : Launch} {z : Nat} {D : va_G} {K : Nat → ClassId} {σ : mwm} {ad : Nat → Nat} {s : OSt} {p0 : Int32} {p1 : Int32} (hO : OB K ad σ s) (hlt : l.stackTraces = false) {v : String ⊕ Int32} (h : aLadder s p0 p1 = some v) : vx_Met l yX7_ladder wsX7_ladder ({ frames := 71, cells := 1, slots := 6, locals := 3036 } : Room) (PCx z D K [.ref (ad 0), .int p0, .int p1] σ) (qwI z D (fun r σ2 => ∃ w9 : Int32, v = Sum.inr w9 ∧ r = w9 ∧ OB K ad σ2 s ∧ KEO ad σ σ2)) (XQ z D σ v) 1 6 (zA z) := by
  have hO0 := hO
  obtain ⟨hin, gr, rg, hB, hG, hD, hr⟩ := hO
  obtain ⟨g14a, g14b, g14c, g14d⟩ := hG 14 (by omega)
  have g14a : σ (ad 49) = some (cl0 (ad 50) (ad 51) (gr 14) (s.1 14).1) := g14a
  have g14b : σ (ad 50) = some (eJ K 121 (s.1 14).2.1) := g14b
  have g14c : σ (ad 51) = some (eJ K 121 (s.1 14).2.2.1) := g14c
  exact vx_mono (c_X7_ladder (hc_t := hB.1) (hc_t_now := g14a) (hc_t_now_grid := g14d) (hlt := hlt) (v := v) h) (fun a st o t q => qwI_mono q (fun r σ2 hp => by
    obtain ⟨w9, e1, e2, hk⟩ := hp
    exact ⟨w9, e1, e2, hO0.same hk, fun q e hq _ => hk q e hq⟩))
def aChase (s : OSt) (p0 : Int32) : Option (String ⊕ Int32) := fX7_chase (s.1 14).1 (s.1 14).2.2.2 p0
theorem o_X7_chase {l : Launch} {z : Nat} {D : va_G} {K : Nat → ClassId} {σ : mwm} {ad : Nat → Nat} {s : OSt} {p0 : Int32} (hO : OB K ad σ s) (hlt : l.stackTraces = false) {v : String ⊕ Int32} (h : aChase s p0 = some v) : vx_Met l yX7_chase wsX7_chase ({ frames := 71, cells := 1, slots := 6, locals := 3036 } : Room) (PCx z D K [.ref (ad 0), .int p0] σ) (qwI z D (fun r σ2 => ∃ w9 : Int32, v = Sum.inr w9 ∧ r = w9 ∧ OB K ad σ2 s ∧ KEO ad σ σ2)) (XQ z D σ v) 1 6 (zA z) := by
  have hO0 := hO
  obtain ⟨hin, gr, rg, hB, hG, hD, hr⟩ := hO
  obtain ⟨g14a, g14b, g14c, g14d⟩ := hG 14 (by omega)
  have g14a : σ (ad 49) = some (cl0 (ad 50) (ad 51) (gr 14) (s.1 14).1) := g14a
  have g14b : σ (ad 50) = some (eJ K 121 (s.1 14).2.1) := g14b
  have g14c : σ (ad 51) = some (eJ K 121 (s.1 14).2.2.1) := g14c
  exact vx_mono (c_X7_chase (hc_t := hB.1) (hc_t_now := g14a) (hc_t_now_grid := g14d) (hlt := hlt) (v := v) h) (fun a st o t q => qwI_mono q (fun r σ2 hp => by
    obtain ⟨w9, e1, e2, hk⟩ := hp
    exact ⟨w9, e1, e2, hO0.same hk, fun q e hq _ => hk q e hq⟩))
def aBestTake (s : OSt) : Option Int32 := fX7_bestTake (s.1 14).1 (s.1 14).2.1 (s.1 14).2.2.1 (s.1 14).2.2.2
theorem o_X7_bestTake {l : Launch} {z : Nat} {D : va_G} {K : Nat → ClassId} {σ : mwm} {ad : Nat → Nat} {s : OSt} (hO : OB K ad σ s) {v : Int32} (h : aBestTake s = some v) : Met l yX7_bestTake wsX7_bestTake ({ frames := 5, cells := 0, slots := 0, locals := 137 } : Room) (PCm z D K [.ref (ad 0)] σ) (qsI v) 0 0 (fun _ => False) := by
  have hO0 := hO
  obtain ⟨hin, gr, rg, hB, hG, hD, hr⟩ := hO
  obtain ⟨g14a, g14b, g14c, g14d⟩ := hG 14 (by omega)
  have g14a : σ (ad 49) = some (cl0 (ad 50) (ad 51) (gr 14) (s.1 14).1) := g14a
  have g14b : σ (ad 50) = some (eJ K 121 (s.1 14).2.1) := g14b
  have g14c : σ (ad 51) = some (eJ K 121 (s.1 14).2.2.1) := g14c
  exact c_X7_bestTake (hc_t := hB.1) (hc_t_now := g14a) (hc_t_now_before0 := g14b) (hc_t_now_before1 := g14c) (hc_t_now_grid := g14d) (v := v) h
def aChoices (s : OSt) : Option Int32 := fX7_choices (s.1 14).1 (s.1 14).2.1 (s.1 14).2.2.1 (s.1 14).2.2.2
theorem o_X7_choices {l : Launch} {z : Nat} {D : va_G} {K : Nat → ClassId} {σ : mwm} {ad : Nat → Nat} {s : OSt} (hO : OB K ad σ s) {v : Int32} (h : aChoices s = some v) : Met l yX7_choices wsX7_choices ({ frames := 4, cells := 0, slots := 0, locals := 106 } : Room) (PCm z D K [.ref (ad 0)] σ) (qsI v) 0 0 (fun _ => False) := by
  have hO0 := hO
  obtain ⟨hin, gr, rg, hB, hG, hD, hr⟩ := hO
  obtain ⟨g14a, g14b, g14c, g14d⟩ := hG 14 (by omega)
  have g14a : σ (ad 49) = some (cl0 (ad 50) (ad 51) (gr 14) (s.1 14).1) := g14a
  have g14b : σ (ad 50) = some (eJ K 121 (s.1 14).2.1) := g14b
  have g14c : σ (ad 51) = some (eJ K 121 (s.1 14).2.2.1) := g14c
  exact c_X7_choices (hc_t := hB.1) (hc_t_now := g14a) (hc_t_now_before0 := g14b) (hc_t_now_before1 := g14c) (hc_t_now_grid := g14d) (v := v) h
def aLead (s : OSt) : Option Int32 := fX7_lead (s.1 14).1 (s.1 14).2.2.2
theorem o_X7_lead {l : Launch} {z : Nat} {D : va_G} {K : Nat → ClassId} {σ : mwm} {ad : Nat → Nat} {s : OSt} (hO : OB K ad σ s) {v : Int32} (h : aLead s = some v) : Met l yX7_lead wsX7_lead ({ frames := 4, cells := 0, slots := 0, locals := 98 } : Room) (PCm z D K [.ref (ad 0)] σ) (qsI v) 0 0 (fun _ => False) := by
  have hO0 := hO
  obtain ⟨hin, gr, rg, hB, hG, hD, hr⟩ := hO
  obtain ⟨g14a, g14b, g14c, g14d⟩ := hG 14 (by omega)
  have g14a : σ (ad 49) = some (cl0 (ad 50) (ad 51) (gr 14) (s.1 14).1) := g14a
  have g14b : σ (ad 50) = some (eJ K 121 (s.1 14).2.1) := g14b
  have g14c : σ (ad 51) = some (eJ K 121 (s.1 14).2.2.1) := g14c
  exact c_X7_lead (hc_t := hB.1) (hc_t_now := g14a) (hc_t_now_grid := g14d) (v := v) h
def naAppend (s : OSt) (p0 : Int32) (w9 : Int32 × Int32 × (Nat → Int32)) : Int32 × OSt := (w9.1, (s.1, s.2.1, w9.2.1, w9.2.2, s.2.2.2.2.1, s.2.2.2.2.2))
def aAppendx (s : OSt) (p0 : Int32) : Option (String ⊕ (Int32 × OSt)) := (fX7_append s.2.2.1 s.2.2.2.1 p0).map (sMap (naAppend s p0))
def aAppend (s : OSt) (p0 : Int32) : Option (String ⊕ (Int32 × OSt)) := aAppendx s p0
set_option maxHeartbeats 4000000 in
theorem ox_X7_append {l : Launch} {z : Nat} {D : va_G} {K : Nat → ClassId} {σ : mwm} {ad : Nat → Nat} {s : OSt} {p0 : Int32} (hO : OB K ad σ s) (hlt : l.stackTraces = false) {v : String ⊕ (Int32 × OSt)} (h : aAppendx s p0 = some v) : vx_Met l yX7_append wsX7_append ({ frames := 6, cells := 1, slots := 6, locals := 99 } : Room) (PCx z D K [.ref (ad 0), .int p0] σ) (qwI z D (fun r σ2 => ∃ w9 : Int32 × OSt, v = Sum.inr w9 ∧ r = w9.1 ∧ OB K ad σ2 w9.2 ∧ KEO ad σ σ2)) (XQ z D σ v) 1 6 (zA z) := by
  have hO0 := hO
  obtain ⟨hin, gr, rg, hB, hG, hD, hr⟩ := hO
  obtain ⟨v0, hv0, hve⟩ := map_some h
  refine vx_mono2 (c_X7_append (hc_t := hB.1) (hc_t_text := hB.2.1) (hc_t_text_characters := hB.2.2.1) (n_t_text_t_text_characters := inj_ne hin (by omega) (by omega) (by omega)) (hlt := hlt) (v := v0) hv0) (fun a st o t q => qwI_mono q (fun r σ2 hp => ?_)) (fun E st t q => XQ_mono q (fun E e => by rw [← hve, e]; rfl))
  obtain ⟨w9, e1, e2, hq0, hq1, ho⟩ := hp
  have hk1 : KE ad [1, 2] σ σ2 := fun q f hq hn => ho q f hq (hn _ (List.Mem.head _)) (hn _ (List.Mem.tail _ (List.Mem.head _)))
  refine ⟨naAppend s p0 w9, by rw [← hve, e1]; rfl, e2, ?_, hk1.o (by intro t ht; first | exact absurd ht List.not_mem_nil | (simp only [List.mem_cons, List.not_mem_nil, or_false] at ht; omega))⟩
  refine ⟨hin, gr, rg, ⟨hk1.at hin (by omega) (by intro t ht; first | exact absurd ht List.not_mem_nil | (simp only [List.mem_cons, List.not_mem_nil, or_false] at ht; omega)) hB.1, hq0, hq1, hk1.at hin (by omega) (by intro t ht; first | exact absurd ht List.not_mem_nil | (simp only [List.mem_cons, List.not_mem_nil, or_false] at ht; omega)) hB.2.2.2.1, hk1.at hin (by omega) (by intro t ht; first | exact absurd ht List.not_mem_nil | (simp only [List.mem_cons, List.not_mem_nil, or_false] at ht; omega)) hB.2.2.2.2.1, hk1.at hin (by omega) (by intro t ht; first | exact absurd ht List.not_mem_nil | (simp only [List.mem_cons, List.not_mem_nil, or_false] at ht; omega)) hB.2.2.2.2.2.1, hk1.at hin (by omega) (by intro t ht; first | exact absurd ht List.not_mem_nil | (simp only [List.mem_cons, List.not_mem_nil, or_false] at ht; omega)) hB.2.2.2.2.2.2⟩, ?_, ?_, hr⟩
  · intro u7 h18
    exact GW_same rfl rfl (GW_keep hk1 hin hD h18 (by intro t ht; first | exact absurd ht List.not_mem_nil | (simp only [List.mem_cons, List.not_mem_nil, or_false] at ht; omega)) (hG u7 h18))
  · exact hD
theorem o_X7_append {l : Launch} {z : Nat} {D : va_G} {K : Nat → ClassId} {σ : mwm} {ad : Nat → Nat} {s : OSt} {p0 : Int32} (hO : OB K ad σ s) (hlt : l.stackTraces = false) {v : String ⊕ (Int32 × OSt)} (h : aAppend s p0 = some v) : vx_Met l yX7_append wsX7_append ({ frames := 6, cells := 1, slots := 6, locals := 99 } : Room) (PCx z D K [.ref (ad 0), .int p0] σ) (qwI z D (fun r σ2 => ∃ w9 : Int32 × OSt, v = Sum.inr w9 ∧ r = w9.1 ∧ OB K ad σ2 w9.2 ∧ KEO ad σ σ2)) (XQ z D σ v) 1 6 (zA z) := ox_X7_append hO hlt h
def naBoard (s : OSt) (x : Nat) (p0 : Int32) (w9 : Int32 × (Int32 × Int32 × Int32 × Int32 × Int64 × Int64 × Int32 × Int32) × (Int32 × Int32 × Int32 × Int32 × Int64 × Int64 × Int32 × Int32) × (Int32 × Int32) × (Nat → Int64) × (Nat → Int64) × (Nat → Int64) × (Nat → Int64) × (Int32 × Int32 × Int64 × Int64 × Int64)) : Int32 × OSt := (w9.1, ((putR (putR s.1 14 (w9.2.2.1, w9.2.2.2.2.2.2.1, w9.2.2.2.2.2.2.2.1, w9.2.2.2.2.2.2.2.2)) x (w9.2.1, w9.2.2.2.2.1, w9.2.2.2.2.2.1, (s.1 14).2.2.2)), w9.2.2.2.1, s.2.2.1, s.2.2.2.1, s.2.2.2.2.1, s.2.2.2.2.2))
def aBoardx (s : OSt) (x : Nat) (p0 : Int32) : Option (String ⊕ (Int32 × OSt)) := (fX7_board x (s.1 x).1 (s.1 14).1 s.2.1 (s.1 x).2.1 (s.1 x).2.2.1 rgC (s.1 14).2.1 (s.1 14).2.2.1 p0).map (sMap (naBoard s x p0))
def aBoard (s : OSt) (p0 : Int32) : Option (String ⊕ (Int32 × OSt)) := aBoardx s (nxtX s.2.1) p0
set_option maxHeartbeats 4000000 in
theorem ox_X7_board {l : Launch} {z : Nat} {D : va_G} {K : Nat → ClassId} {σ : mwm} {ad : Nat → Nat} {s : OSt} {p0 : Int32} (hO : OB K ad σ s) {x : Nat} (hx14 : x < 14) (hlt : l.stackTraces = false) {v : String ⊕ (Int32 × OSt)} (h : aBoardx s x p0 = some v) : vx_Met l yX7_board wsX7_board ({ frames := 6, cells := 1, slots := 6, locals := 99 } : Room) (PCx z D K [.ref (ad 0), .int p0] σ) (qwI z D (fun r σ2 => ∃ w9 : Int32 × OSt, v = Sum.inr w9 ∧ r = w9.1 ∧ OB K ad σ2 w9.2 ∧ KEO ad σ σ2)) (XQ z D σ v) 1 6 (zA z) := by
  have hO0 := hO
  obtain ⟨hin, gr, rg, hB, hG, hD, hr⟩ := hO
  obtain ⟨g14a, g14b, g14c, g14d⟩ := hG 14 (by omega)
  have g14a : σ (ad 49) = some (cl0 (ad 50) (ad 51) (gr 14) (s.1 14).1) := g14a
  have g14b : σ (ad 50) = some (eJ K 121 (s.1 14).2.1) := g14b
  have g14c : σ (ad 51) = some (eJ K 121 (s.1 14).2.2.1) := g14c
  obtain ⟨gxa, gxb, gxc, gxd⟩ := hG x (by omega)
  obtain ⟨v0, hv0, hve⟩ := map_some h
  replace hv0 := (can_board hr hin hx14 _ _ _ _ _ _ _ _ ).trans hv0
  refine vx_mono2 (c_X7_board (hc_t := hB.1) (hc_x := gxa) (hc_t_now := g14a) (hc_t_memory := hB.2.2.2.1) (hc_x_before0 := gxb) (hc_x_before1 := gxc) (hc_t_memory_ring := hB.2.2.2.2.1) (hc_t_now_before0 := g14b) (hc_t_now_before1 := g14c) (n_t_t_memory := inj_ne hin (by omega) (by omega) (by omega)) (n_t_t_now := inj_ne hin (by omega) (by omega) (by omega)) (n_t_t_now_before0 := inj_ne hin (by omega) (by omega) (by omega)) (n_t_t_now_before1 := inj_ne hin (by omega) (by omega) (by omega)) (n_t_x := inj_ne hin (by omega) (by omega) (by omega)) (n_t_x_before0 := inj_ne hin (by omega) (by omega) (by omega)) (n_t_x_before1 := inj_ne hin (by omega) (by omega) (by omega)) (n_t_memory_t_memory_ring := inj_ne hin (by omega) (by omega) (by omega)) (n_t_memory_t_now := inj_ne hin (by omega) (by omega) (by omega)) (n_t_memory_t_now_before0 := inj_ne hin (by omega) (by omega) (by omega)) (n_t_memory_t_now_before1 := inj_ne hin (by omega) (by omega) (by omega)) (n_t_memory_x := inj_ne hin (by omega) (by omega) (by omega)) (n_t_memory_x_before0 := inj_ne hin (by omega) (by omega) (by omega)) (n_t_memory_x_before1 := inj_ne hin (by omega) (by omega) (by omega)) (n_t_memory_ring_t_now := inj_ne hin (by omega) (by omega) (by omega)) (n_t_memory_ring_t_now_before0 := inj_ne hin (by omega) (by omega) (by omega)) (n_t_memory_ring_t_now_before1 := inj_ne hin (by omega) (by omega) (by omega)) (n_t_memory_ring_x := inj_ne hin (by omega) (by omega) (by omega)) (n_t_memory_ring_x_before0 := inj_ne hin (by omega) (by omega) (by omega)) (n_t_memory_ring_x_before1 := inj_ne hin (by omega) (by omega) (by omega)) (n_t_now_t_now_before0 := inj_ne hin (by omega) (by omega) (by omega)) (n_t_now_t_now_before1 := inj_ne hin (by omega) (by omega) (by omega)) (n_t_now_x := inj_ne hin (by omega) (by omega) (by omega)) (n_t_now_x_before0 := inj_ne hin (by omega) (by omega) (by omega)) (n_t_now_x_before1 := inj_ne hin (by omega) (by omega) (by omega)) (n_t_now_before0_t_now_before1 := inj_ne hin (by omega) (by omega) (by omega)) (n_t_now_before0_x := inj_ne hin (by omega) (by omega) (by omega)) (n_t_now_before0_x_before0 := inj_ne hin (by omega) (by omega) (by omega)) (n_t_now_before0_x_before1 := inj_ne hin (by omega) (by omega) (by omega)) (n_t_now_before1_x := inj_ne hin (by omega) (by omega) (by omega)) (n_t_now_before1_x_before0 := inj_ne hin (by omega) (by omega) (by omega)) (n_t_now_before1_x_before1 := inj_ne hin (by omega) (by omega) (by omega)) (n_x_x_before0 := inj_ne hin (by omega) (by omega) (by omega)) (n_x_x_before1 := inj_ne hin (by omega) (by omega) (by omega)) (n_x_before0_x_before1 := inj_ne hin (by omega) (by omega) (by omega)) (hlt := hlt) (v := v0) hv0) (fun a st o t q => qwI_mono q (fun r σ2 hp => ?_)) (fun E st t q => XQ_mono q (fun E e => by rw [← hve, e]; rfl))
  obtain ⟨w9, e1, e2, aq, haq, hq0, hq1, hq2, hq3, hq4, hq5, hq6, hqg, ho⟩ := hp
  have hk1 : KE ad [(7 + 3 * x), 49, 3, (8 + 3 * x), (9 + 3 * x), 50, 51] σ σ2 := fun q f hq hn => ho q f hq (hn _ (List.Mem.head _)) (hn _ (List.Mem.tail _ (List.Mem.head _))) (hn _ (List.Mem.tail _ (List.Mem.tail _ (List.Mem.head _)))) (hn _ (List.Mem.tail _ (List.Mem.tail _ (List.Mem.tail _ (List.Mem.head _))))) (hn _ (List.Mem.tail _ (List.Mem.tail _ (List.Mem.tail _ (List.Mem.tail _ (List.Mem.head _)))))) (hn _ (List.Mem.tail _ (List.Mem.tail _ (List.Mem.tail _ (List.Mem.tail _ (List.Mem.tail _ (List.Mem.head _))))))) (hn _ (List.Mem.tail _ (List.Mem.tail _ (List.Mem.tail _ (List.Mem.tail _ (List.Mem.tail _ (List.Mem.tail _ (List.Mem.head _))))))))
  refine ⟨naBoard s x p0 w9, by rw [← hve, e1]; rfl, e2, ?_, hk1.o (by intro t ht; first | exact absurd ht List.not_mem_nil | (simp only [List.mem_cons, List.not_mem_nil, or_false] at ht; omega))⟩
  refine ⟨hin, (putN (putN gr 14 aq) x (gr 14)), rg, ⟨hk1.at hin (by omega) (by intro t ht; first | exact absurd ht List.not_mem_nil | (simp only [List.mem_cons, List.not_mem_nil, or_false] at ht; omega)) hB.1, hk1.at hin (by omega) (by intro t ht; first | exact absurd ht List.not_mem_nil | (simp only [List.mem_cons, List.not_mem_nil, or_false] at ht; omega)) hB.2.1, hk1.at hin (by omega) (by intro t ht; first | exact absurd ht List.not_mem_nil | (simp only [List.mem_cons, List.not_mem_nil, or_false] at ht; omega)) hB.2.2.1, hq2, hk1.at hin (by omega) (by intro t ht; first | exact absurd ht List.not_mem_nil | (simp only [List.mem_cons, List.not_mem_nil, or_false] at ht; omega)) hB.2.2.2.2.1, hk1.at hin (by omega) (by intro t ht; first | exact absurd ht List.not_mem_nil | (simp only [List.mem_cons, List.not_mem_nil, or_false] at ht; omega)) hB.2.2.2.2.2.1, hk1.at hin (by omega) (by intro t ht; first | exact absurd ht List.not_mem_nil | (simp only [List.mem_cons, List.not_mem_nil, or_false] at ht; omega)) hB.2.2.2.2.2.2⟩, ?_, ?_, hr⟩
  · intro u7 h18
    by_cases hu0 : u7 = x
    · rw [hu0]
      exact GW_mk hq0 hq3 hq4 (hk1.gr hD (by omega) (by intro t ht; first | exact absurd ht List.not_mem_nil | (simp only [List.mem_cons, List.not_mem_nil, or_false] at ht; omega)) g14d) (by rw [putN_at]) (by unfold naBoard; dsimp only; rw [putR_at])
    by_cases hu1 : u7 = 14
    · rw [hu1]
      exact GW_mk hq1 hq5 hq6 hqg (by rw [putN_ne (show ¬ 14 = x by omega), putN_at]) (by unfold naBoard; dsimp only; rw [putR_ne (show ¬ 14 = x by omega), putR_at])
    exact GW_same (by rw [putN_ne hu0, putN_ne hu1]) (by unfold naBoard; dsimp only; rw [putR_ne hu0, putR_ne hu1]) (GW_keep hk1 hin hD h18 (by intro t ht; first | exact absurd ht List.not_mem_nil | (simp only [List.mem_cons, List.not_mem_nil, or_false] at ht; omega)) (hG u7 h18))
  · have apart9 : ∀ j, j < 61 → aq ≠ ad j := fun j hj z9 => by
      obtain ⟨e9, he9⟩ := hO0.hasA hj
      exact haq _ _ he9 z9.symm
    exact (GD_put (x := x) (a := (gr 14)) (GD_put (x := 14) (a := aq) hD (fun j hj => (apart9 j hj))) (fun j hj => hD 14 j (by omega) hj))
theorem o_X7_board {l : Launch} {z : Nat} {D : va_G} {K : Nat → ClassId} {σ : mwm} {ad : Nat → Nat} {s : OSt} {p0 : Int32} (hO : OB K ad σ s) (hlt : l.stackTraces = false) {v : String ⊕ (Int32 × OSt)} (h : aBoard s p0 = some v) : vx_Met l yX7_board wsX7_board ({ frames := 6, cells := 1, slots := 6, locals := 99 } : Room) (PCx z D K [.ref (ad 0), .int p0] σ) (qwI z D (fun r σ2 => ∃ w9 : Int32 × OSt, v = Sum.inr w9 ∧ r = w9.1 ∧ OB K ad σ2 w9.2 ∧ KEO ad σ σ2)) (XQ z D σ v) 1 6 (zA z) := ox_X7_board hO (nxtX_lt _) hlt h
def naPlay (s : OSt) (x : Nat) (p0 : Int32) (w9 : Int32 × (Int32 × Int32 × Int32 × Int32 × Int64 × Int64 × Int32 × Int32) × (Int32 × Int32 × Int32 × Int32 × Int64 × Int64 × Int32 × Int32) × (Int32 × Int32) × (Nat → Int64) × (Nat → Int64) × (Nat → Int64) × (Nat → Int64)) : Int32 × OSt := (w9.1, ((putR (putR s.1 14 (w9.2.2.1, w9.2.2.2.2.2.2.1, w9.2.2.2.2.2.2.2, (s.1 14).2.2.2)) x (w9.2.1, w9.2.2.2.2.1, w9.2.2.2.2.2.1, (s.1 14).2.2.2)), w9.2.2.2.1, s.2.2.1, s.2.2.2.1, s.2.2.2.2.1, s.2.2.2.2.2))
def aPlayx (s : OSt) (x : Nat) (p0 : Int32) : Option (String ⊕ (Int32 × OSt)) := (fX7_play x (s.1 x).1 (s.1 14).1 s.2.1 (s.1 x).2.1 (s.1 x).2.2.1 (s.1 14).2.1 (s.1 14).2.2.1 (s.1 14).2.2.2 rgC p0).map (sMap (naPlay s x p0))
def aPlay (s : OSt) (p0 : Int32) : Option (String ⊕ (Int32 × OSt)) := aPlayx s (nxtX s.2.1) p0
set_option maxHeartbeats 4000000 in
theorem ox_X7_play {l : Launch} {z : Nat} {D : va_G} {K : Nat → ClassId} {σ : mwm} {ad : Nat → Nat} {s : OSt} {p0 : Int32} (hO : OB K ad σ s) {x : Nat} (hx14 : x < 14) (hlt : l.stackTraces = false) {v : String ⊕ (Int32 × OSt)} (h : aPlayx s x p0 = some v) : vx_Met l yX7_play wsX7_play ({ frames := 6, cells := 1, slots := 6, locals := 106 } : Room) (PCx z D K [.ref (ad 0), .int p0] σ) (qwI z D (fun r σ2 => ∃ w9 : Int32 × OSt, v = Sum.inr w9 ∧ r = w9.1 ∧ OB K ad σ2 w9.2 ∧ KEO ad σ σ2)) (XQ z D σ v) 1 6 (zA z) := by
  have hO0 := hO
  obtain ⟨hin, gr, rg, hB, hG, hD, hr⟩ := hO
  obtain ⟨g14a, g14b, g14c, g14d⟩ := hG 14 (by omega)
  have g14a : σ (ad 49) = some (cl0 (ad 50) (ad 51) (gr 14) (s.1 14).1) := g14a
  have g14b : σ (ad 50) = some (eJ K 121 (s.1 14).2.1) := g14b
  have g14c : σ (ad 51) = some (eJ K 121 (s.1 14).2.2.1) := g14c
  obtain ⟨gxa, gxb, gxc, gxd⟩ := hG x (by omega)
  obtain ⟨v0, hv0, hve⟩ := map_some h
  replace hv0 := (can_play hr hin hx14 _ _ _ _ _ _ _ _ _ ).trans hv0
  refine vx_mono2 (c_X7_play (hc_t := hB.1) (hc_x := gxa) (hc_t_now := g14a) (hc_t_memory := hB.2.2.2.1) (hc_x_before0 := gxb) (hc_x_before1 := gxc) (hc_t_now_before0 := g14b) (hc_t_now_before1 := g14c) (hc_t_now_grid := g14d) (hc_t_memory_ring := hB.2.2.2.2.1) (n_t_t_memory := inj_ne hin (by omega) (by omega) (by omega)) (n_t_t_now := inj_ne hin (by omega) (by omega) (by omega)) (n_t_t_now_before0 := inj_ne hin (by omega) (by omega) (by omega)) (n_t_t_now_before1 := inj_ne hin (by omega) (by omega) (by omega)) (n_t_x := inj_ne hin (by omega) (by omega) (by omega)) (n_t_x_before0 := inj_ne hin (by omega) (by omega) (by omega)) (n_t_x_before1 := inj_ne hin (by omega) (by omega) (by omega)) (n_t_memory_t_memory_ring := inj_ne hin (by omega) (by omega) (by omega)) (n_t_memory_t_now := inj_ne hin (by omega) (by omega) (by omega)) (n_t_memory_t_now_before0 := inj_ne hin (by omega) (by omega) (by omega)) (n_t_memory_t_now_before1 := inj_ne hin (by omega) (by omega) (by omega)) (n_t_memory_t_now_grid := (hD 14 3 (by omega) (by omega)).symm) (n_t_memory_x := inj_ne hin (by omega) (by omega) (by omega)) (n_t_memory_x_before0 := inj_ne hin (by omega) (by omega) (by omega)) (n_t_memory_x_before1 := inj_ne hin (by omega) (by omega) (by omega)) (n_t_memory_ring_x := inj_ne hin (by omega) (by omega) (by omega)) (n_t_memory_ring_x_before0 := inj_ne hin (by omega) (by omega) (by omega)) (n_t_memory_ring_x_before1 := inj_ne hin (by omega) (by omega) (by omega)) (n_t_now_t_now_before0 := inj_ne hin (by omega) (by omega) (by omega)) (n_t_now_t_now_before1 := inj_ne hin (by omega) (by omega) (by omega)) (n_t_now_t_now_grid := (hD 14 49 (by omega) (by omega)).symm) (n_t_now_x := inj_ne hin (by omega) (by omega) (by omega)) (n_t_now_x_before0 := inj_ne hin (by omega) (by omega) (by omega)) (n_t_now_x_before1 := inj_ne hin (by omega) (by omega) (by omega)) (n_t_now_before0_t_now_before1 := inj_ne hin (by omega) (by omega) (by omega)) (n_t_now_before0_t_now_grid := (hD 14 50 (by omega) (by omega)).symm) (n_t_now_before0_x := inj_ne hin (by omega) (by omega) (by omega)) (n_t_now_before0_x_before0 := inj_ne hin (by omega) (by omega) (by omega)) (n_t_now_before0_x_before1 := inj_ne hin (by omega) (by omega) (by omega)) (n_t_now_before1_t_now_grid := (hD 14 51 (by omega) (by omega)).symm) (n_t_now_before1_x := inj_ne hin (by omega) (by omega) (by omega)) (n_t_now_before1_x_before0 := inj_ne hin (by omega) (by omega) (by omega)) (n_t_now_before1_x_before1 := inj_ne hin (by omega) (by omega) (by omega)) (n_t_now_grid_x := hD 14 (7 + 3 * x) (by omega) (by omega)) (n_t_now_grid_x_before0 := hD 14 (8 + 3 * x) (by omega) (by omega)) (n_t_now_grid_x_before1 := hD 14 (9 + 3 * x) (by omega) (by omega)) (n_x_x_before0 := inj_ne hin (by omega) (by omega) (by omega)) (n_x_x_before1 := inj_ne hin (by omega) (by omega) (by omega)) (n_x_before0_x_before1 := inj_ne hin (by omega) (by omega) (by omega)) (hlt := hlt) (v := v0) hv0) (fun a st o t q => qwI_mono q (fun r σ2 hp => ?_)) (fun E st t q => XQ_mono q (fun E e => by rw [← hve, e]; rfl))
  obtain ⟨w9, e1, e2, hq0, hq1, hq2, hq3, hq4, hq5, hq6, ho⟩ := hp
  have hk1 : KE ad [(7 + 3 * x), 49, 3, (8 + 3 * x), (9 + 3 * x), 50, 51] σ σ2 := fun q f hq hn => ho q f hq (hn _ (List.Mem.head _)) (hn _ (List.Mem.tail _ (List.Mem.head _))) (hn _ (List.Mem.tail _ (List.Mem.tail _ (List.Mem.head _)))) (hn _ (List.Mem.tail _ (List.Mem.tail _ (List.Mem.tail _ (List.Mem.head _))))) (hn _ (List.Mem.tail _ (List.Mem.tail _ (List.Mem.tail _ (List.Mem.tail _ (List.Mem.head _)))))) (hn _ (List.Mem.tail _ (List.Mem.tail _ (List.Mem.tail _ (List.Mem.tail _ (List.Mem.tail _ (List.Mem.head _))))))) (hn _ (List.Mem.tail _ (List.Mem.tail _ (List.Mem.tail _ (List.Mem.tail _ (List.Mem.tail _ (List.Mem.tail _ (List.Mem.head _))))))))
  refine ⟨naPlay s x p0 w9, by rw [← hve, e1]; rfl, e2, ?_, hk1.o (by intro t ht; first | exact absurd ht List.not_mem_nil | (simp only [List.mem_cons, List.not_mem_nil, or_false] at ht; omega))⟩
  refine ⟨hin, (putN (putN gr 14 (gr 14)) x (gr 14)), rg, ⟨hk1.at hin (by omega) (by intro t ht; first | exact absurd ht List.not_mem_nil | (simp only [List.mem_cons, List.not_mem_nil, or_false] at ht; omega)) hB.1, hk1.at hin (by omega) (by intro t ht; first | exact absurd ht List.not_mem_nil | (simp only [List.mem_cons, List.not_mem_nil, or_false] at ht; omega)) hB.2.1, hk1.at hin (by omega) (by intro t ht; first | exact absurd ht List.not_mem_nil | (simp only [List.mem_cons, List.not_mem_nil, or_false] at ht; omega)) hB.2.2.1, hq2, hk1.at hin (by omega) (by intro t ht; first | exact absurd ht List.not_mem_nil | (simp only [List.mem_cons, List.not_mem_nil, or_false] at ht; omega)) hB.2.2.2.2.1, hk1.at hin (by omega) (by intro t ht; first | exact absurd ht List.not_mem_nil | (simp only [List.mem_cons, List.not_mem_nil, or_false] at ht; omega)) hB.2.2.2.2.2.1, hk1.at hin (by omega) (by intro t ht; first | exact absurd ht List.not_mem_nil | (simp only [List.mem_cons, List.not_mem_nil, or_false] at ht; omega)) hB.2.2.2.2.2.2⟩, ?_, ?_, hr⟩
  · intro u7 h18
    by_cases hu0 : u7 = x
    · rw [hu0]
      exact GW_mk hq0 hq3 hq4 (hk1.gr hD (by omega) (by intro t ht; first | exact absurd ht List.not_mem_nil | (simp only [List.mem_cons, List.not_mem_nil, or_false] at ht; omega)) g14d) (by rw [putN_at]) (by unfold naPlay; dsimp only; rw [putR_at])
    by_cases hu1 : u7 = 14
    · rw [hu1]
      exact GW_mk hq1 hq5 hq6 (hk1.gr hD (by omega) (by intro t ht; first | exact absurd ht List.not_mem_nil | (simp only [List.mem_cons, List.not_mem_nil, or_false] at ht; omega)) g14d) (by rw [putN_ne (show ¬ 14 = x by omega), putN_at]) (by unfold naPlay; dsimp only; rw [putR_ne (show ¬ 14 = x by omega), putR_at])
    exact GW_same (by rw [putN_ne hu0, putN_ne hu1]) (by unfold naPlay; dsimp only; rw [putR_ne hu0, putR_ne hu1]) (GW_keep hk1 hin hD h18 (by intro t ht; first | exact absurd ht List.not_mem_nil | (simp only [List.mem_cons, List.not_mem_nil, or_false] at ht; omega)) (hG u7 h18))
  · exact (GD_put (x := x) (a := (gr 14)) (GD_put (x := 14) (a := (gr 14)) hD (fun j hj => hD 14 j (by omega) hj)) (fun j hj => hD 14 j (by omega) hj))
theorem o_X7_play {l : Launch} {z : Nat} {D : va_G} {K : Nat → ClassId} {σ : mwm} {ad : Nat → Nat} {s : OSt} {p0 : Int32} (hO : OB K ad σ s) (hlt : l.stackTraces = false) {v : String ⊕ (Int32 × OSt)} (h : aPlay s p0 = some v) : vx_Met l yX7_play wsX7_play ({ frames := 6, cells := 1, slots := 6, locals := 106 } : Room) (PCx z D K [.ref (ad 0), .int p0] σ) (qwI z D (fun r σ2 => ∃ w9 : Int32 × OSt, v = Sum.inr w9 ∧ r = w9.1 ∧ OB K ad σ2 w9.2 ∧ KEO ad σ σ2)) (XQ z D σ v) 1 6 (zA z) := ox_X7_play hO (nxtX_lt _) hlt h
def naPass (s : OSt) (x : Nat) (w9 : Int32 × (Int32 × Int32 × Int32 × Int32 × Int64 × Int64 × Int32 × Int32) × (Int32 × Int32 × Int32 × Int32 × Int64 × Int64 × Int32 × Int32) × (Int32 × Int32) × (Nat → Int64) × (Nat → Int64) × (Nat → Int64) × (Nat → Int64)) : Int32 × OSt := (w9.1, ((putR (putR s.1 14 (w9.2.2.1, w9.2.2.2.2.2.2.1, w9.2.2.2.2.2.2.2, (s.1 14).2.2.2)) x (w9.2.1, w9.2.2.2.2.1, w9.2.2.2.2.2.1, (s.1 14).2.2.2)), w9.2.2.2.1, s.2.2.1, s.2.2.2.1, s.2.2.2.2.1, s.2.2.2.2.2))
def aPassx (s : OSt) (x : Nat) : Option (String ⊕ (Int32 × OSt)) := (fX7_pass x (s.1 x).1 (s.1 14).1 s.2.1 (s.1 x).2.1 (s.1 x).2.2.1 (s.1 14).2.1 (s.1 14).2.2.1 rgC).map (sMap (naPass s x))
def aPass (s : OSt) : Option (String ⊕ (Int32 × OSt)) := aPassx s (nxtX s.2.1)
set_option maxHeartbeats 4000000 in
theorem ox_X7_pass {l : Launch} {z : Nat} {D : va_G} {K : Nat → ClassId} {σ : mwm} {ad : Nat → Nat} {s : OSt} (hO : OB K ad σ s) {x : Nat} (hx14 : x < 14) (hlt : l.stackTraces = false) {v : String ⊕ (Int32 × OSt)} (h : aPassx s x = some v) : vx_Met l yX7_pass wsX7_pass ({ frames := 6, cells := 1, slots := 6, locals := 99 } : Room) (PCx z D K [.ref (ad 0)] σ) (qwI z D (fun r σ2 => ∃ w9 : Int32 × OSt, v = Sum.inr w9 ∧ r = w9.1 ∧ OB K ad σ2 w9.2 ∧ KEO ad σ σ2)) (XQ z D σ v) 1 6 (zA z) := by
  have hO0 := hO
  obtain ⟨hin, gr, rg, hB, hG, hD, hr⟩ := hO
  obtain ⟨g14a, g14b, g14c, g14d⟩ := hG 14 (by omega)
  have g14a : σ (ad 49) = some (cl0 (ad 50) (ad 51) (gr 14) (s.1 14).1) := g14a
  have g14b : σ (ad 50) = some (eJ K 121 (s.1 14).2.1) := g14b
  have g14c : σ (ad 51) = some (eJ K 121 (s.1 14).2.2.1) := g14c
  obtain ⟨gxa, gxb, gxc, gxd⟩ := hG x (by omega)
  obtain ⟨v0, hv0, hve⟩ := map_some h
  replace hv0 := (can_pass hr hin hx14 _ _ _ _ _ _ _ ).trans hv0
  refine vx_mono2 (c_X7_pass (hc_t := hB.1) (hc_x := gxa) (hc_t_now := g14a) (hc_t_memory := hB.2.2.2.1) (hc_x_before0 := gxb) (hc_x_before1 := gxc) (hc_t_now_before0 := g14b) (hc_t_now_before1 := g14c) (hc_t_memory_ring := hB.2.2.2.2.1) (n_t_t_memory := inj_ne hin (by omega) (by omega) (by omega)) (n_t_t_now := inj_ne hin (by omega) (by omega) (by omega)) (n_t_t_now_before0 := inj_ne hin (by omega) (by omega) (by omega)) (n_t_t_now_before1 := inj_ne hin (by omega) (by omega) (by omega)) (n_t_x := inj_ne hin (by omega) (by omega) (by omega)) (n_t_x_before0 := inj_ne hin (by omega) (by omega) (by omega)) (n_t_x_before1 := inj_ne hin (by omega) (by omega) (by omega)) (n_t_memory_t_memory_ring := inj_ne hin (by omega) (by omega) (by omega)) (n_t_memory_t_now := inj_ne hin (by omega) (by omega) (by omega)) (n_t_memory_t_now_before0 := inj_ne hin (by omega) (by omega) (by omega)) (n_t_memory_t_now_before1 := inj_ne hin (by omega) (by omega) (by omega)) (n_t_memory_x := inj_ne hin (by omega) (by omega) (by omega)) (n_t_memory_x_before0 := inj_ne hin (by omega) (by omega) (by omega)) (n_t_memory_x_before1 := inj_ne hin (by omega) (by omega) (by omega)) (n_t_memory_ring_x := inj_ne hin (by omega) (by omega) (by omega)) (n_t_memory_ring_x_before0 := inj_ne hin (by omega) (by omega) (by omega)) (n_t_memory_ring_x_before1 := inj_ne hin (by omega) (by omega) (by omega)) (n_t_now_t_now_before0 := inj_ne hin (by omega) (by omega) (by omega)) (n_t_now_t_now_before1 := inj_ne hin (by omega) (by omega) (by omega)) (n_t_now_x := inj_ne hin (by omega) (by omega) (by omega)) (n_t_now_x_before0 := inj_ne hin (by omega) (by omega) (by omega)) (n_t_now_x_before1 := inj_ne hin (by omega) (by omega) (by omega)) (n_t_now_before0_t_now_before1 := inj_ne hin (by omega) (by omega) (by omega)) (n_t_now_before0_x := inj_ne hin (by omega) (by omega) (by omega)) (n_t_now_before0_x_before0 := inj_ne hin (by omega) (by omega) (by omega)) (n_t_now_before0_x_before1 := inj_ne hin (by omega) (by omega) (by omega)) (n_t_now_before1_x := inj_ne hin (by omega) (by omega) (by omega)) (n_t_now_before1_x_before0 := inj_ne hin (by omega) (by omega) (by omega)) (n_t_now_before1_x_before1 := inj_ne hin (by omega) (by omega) (by omega)) (n_x_x_before0 := inj_ne hin (by omega) (by omega) (by omega)) (n_x_x_before1 := inj_ne hin (by omega) (by omega) (by omega)) (n_x_before0_x_before1 := inj_ne hin (by omega) (by omega) (by omega)) (hlt := hlt) (v := v0) hv0) (fun a st o t q => qwI_mono q (fun r σ2 hp => ?_)) (fun E st t q => XQ_mono q (fun E e => by rw [← hve, e]; rfl))
  obtain ⟨w9, e1, e2, hq0, hq1, hq2, hq3, hq4, hq5, hq6, ho⟩ := hp
  have hk1 : KE ad [(7 + 3 * x), 49, 3, (8 + 3 * x), (9 + 3 * x), 50, 51] σ σ2 := fun q f hq hn => ho q f hq (hn _ (List.Mem.head _)) (hn _ (List.Mem.tail _ (List.Mem.head _))) (hn _ (List.Mem.tail _ (List.Mem.tail _ (List.Mem.head _)))) (hn _ (List.Mem.tail _ (List.Mem.tail _ (List.Mem.tail _ (List.Mem.head _))))) (hn _ (List.Mem.tail _ (List.Mem.tail _ (List.Mem.tail _ (List.Mem.tail _ (List.Mem.head _)))))) (hn _ (List.Mem.tail _ (List.Mem.tail _ (List.Mem.tail _ (List.Mem.tail _ (List.Mem.tail _ (List.Mem.head _))))))) (hn _ (List.Mem.tail _ (List.Mem.tail _ (List.Mem.tail _ (List.Mem.tail _ (List.Mem.tail _ (List.Mem.tail _ (List.Mem.head _))))))))
  refine ⟨naPass s x w9, by rw [← hve, e1]; rfl, e2, ?_, hk1.o (by intro t ht; first | exact absurd ht List.not_mem_nil | (simp only [List.mem_cons, List.not_mem_nil, or_false] at ht; omega))⟩
  refine ⟨hin, (putN (putN gr 14 (gr 14)) x (gr 14)), rg, ⟨hk1.at hin (by omega) (by intro t ht; first | exact absurd ht List.not_mem_nil | (simp only [List.mem_cons, List.not_mem_nil, or_false] at ht; omega)) hB.1, hk1.at hin (by omega) (by intro t ht; first | exact absurd ht List.not_mem_nil | (simp only [List.mem_cons, List.not_mem_nil, or_false] at ht; omega)) hB.2.1, hk1.at hin (by omega) (by intro t ht; first | exact absurd ht List.not_mem_nil | (simp only [List.mem_cons, List.not_mem_nil, or_false] at ht; omega)) hB.2.2.1, hq2, hk1.at hin (by omega) (by intro t ht; first | exact absurd ht List.not_mem_nil | (simp only [List.mem_cons, List.not_mem_nil, or_false] at ht; omega)) hB.2.2.2.2.1, hk1.at hin (by omega) (by intro t ht; first | exact absurd ht List.not_mem_nil | (simp only [List.mem_cons, List.not_mem_nil, or_false] at ht; omega)) hB.2.2.2.2.2.1, hk1.at hin (by omega) (by intro t ht; first | exact absurd ht List.not_mem_nil | (simp only [List.mem_cons, List.not_mem_nil, or_false] at ht; omega)) hB.2.2.2.2.2.2⟩, ?_, ?_, hr⟩
  · intro u7 h18
    by_cases hu0 : u7 = x
    · rw [hu0]
      exact GW_mk hq0 hq3 hq4 (hk1.gr hD (by omega) (by intro t ht; first | exact absurd ht List.not_mem_nil | (simp only [List.mem_cons, List.not_mem_nil, or_false] at ht; omega)) g14d) (by rw [putN_at]) (by unfold naPass; dsimp only; rw [putR_at])
    by_cases hu1 : u7 = 14
    · rw [hu1]
      exact GW_mk hq1 hq5 hq6 (hk1.gr hD (by omega) (by intro t ht; first | exact absurd ht List.not_mem_nil | (simp only [List.mem_cons, List.not_mem_nil, or_false] at ht; omega)) g14d) (by rw [putN_ne (show ¬ 14 = x by omega), putN_at]) (by unfold naPass; dsimp only; rw [putR_ne (show ¬ 14 = x by omega), putR_at])
    exact GW_same (by rw [putN_ne hu0, putN_ne hu1]) (by unfold naPass; dsimp only; rw [putR_ne hu0, putR_ne hu1]) (GW_keep hk1 hin hD h18 (by intro t ht; first | exact absurd ht List.not_mem_nil | (simp only [List.mem_cons, List.not_mem_nil, or_false] at ht; omega)) (hG u7 h18))
  · exact (GD_put (x := x) (a := (gr 14)) (GD_put (x := 14) (a := (gr 14)) hD (fun j hj => hD 14 j (by omega) hj)) (fun j hj => hD 14 j (by omega) hj))
theorem o_X7_pass {l : Launch} {z : Nat} {D : va_G} {K : Nat → ClassId} {σ : mwm} {ad : Nat → Nat} {s : OSt} (hO : OB K ad σ s) (hlt : l.stackTraces = false) {v : String ⊕ (Int32 × OSt)} (h : aPass s = some v) : vx_Met l yX7_pass wsX7_pass ({ frames := 6, cells := 1, slots := 6, locals := 99 } : Room) (PCx z D K [.ref (ad 0)] σ) (qwI z D (fun r σ2 => ∃ w9 : Int32 × OSt, v = Sum.inr w9 ∧ r = w9.1 ∧ OB K ad σ2 w9.2 ∧ KEO ad σ σ2)) (XQ z D σ v) 1 6 (zA z) := ox_X7_pass hO (nxtX_lt _) hlt h
def naSet (s : OSt) (x : Nat) (p0 : Int32) (w9 : Int32 × (Int32 × Int32 × Int32 × Int32 × Int64 × Int64 × Int32 × Int32) × (Int32 × Int32 × Int32 × Int32 × Int64 × Int64 × Int32 × Int32) × (Int32 × Int32) × (Nat → Int64) × (Nat → Int64)) : Int32 × OSt := (w9.1, ((putR (putR s.1 14 (w9.2.2.1, (s.1 14).2.1, (s.1 14).2.2.1, (s.1 14).2.2.2)) x (w9.2.1, w9.2.2.2.2.1, w9.2.2.2.2.2, (s.1 14).2.2.2)), w9.2.2.2.1, s.2.2.1, s.2.2.2.1, s.2.2.2.2.1, s.2.2.2.2.2))
def aSetx (s : OSt) (x : Nat) (p0 : Int32) : Option (String ⊕ (Int32 × OSt)) := (fX7_set x (s.1 x).1 (s.1 14).1 s.2.1 (s.1 x).2.1 (s.1 x).2.2.1 rgC (s.1 14).2.1 (s.1 14).2.2.1 p0).map (sMap (naSet s x p0))
def aSet (s : OSt) (p0 : Int32) : Option (String ⊕ (Int32 × OSt)) := aSetx s (nxtX s.2.1) p0
set_option maxHeartbeats 4000000 in
theorem ox_X7_set {l : Launch} {z : Nat} {D : va_G} {K : Nat → ClassId} {σ : mwm} {ad : Nat → Nat} {s : OSt} {p0 : Int32} (hO : OB K ad σ s) {x : Nat} (hx14 : x < 14) (hlt : l.stackTraces = false) {v : String ⊕ (Int32 × OSt)} (h : aSetx s x p0 = some v) : vx_Met l yX7_set wsX7_set ({ frames := 6, cells := 1, slots := 6, locals := 99 } : Room) (PCx z D K [.ref (ad 0), .int p0] σ) (qwI z D (fun r σ2 => ∃ w9 : Int32 × OSt, v = Sum.inr w9 ∧ r = w9.1 ∧ OB K ad σ2 w9.2 ∧ KEO ad σ σ2)) (XQ z D σ v) 1 6 (zA z) := by
  have hO0 := hO
  obtain ⟨hin, gr, rg, hB, hG, hD, hr⟩ := hO
  obtain ⟨g14a, g14b, g14c, g14d⟩ := hG 14 (by omega)
  have g14a : σ (ad 49) = some (cl0 (ad 50) (ad 51) (gr 14) (s.1 14).1) := g14a
  have g14b : σ (ad 50) = some (eJ K 121 (s.1 14).2.1) := g14b
  have g14c : σ (ad 51) = some (eJ K 121 (s.1 14).2.2.1) := g14c
  obtain ⟨gxa, gxb, gxc, gxd⟩ := hG x (by omega)
  obtain ⟨v0, hv0, hve⟩ := map_some h
  replace hv0 := (can_set hr hin hx14 _ _ _ _ _ _ _ _ ).trans hv0
  refine vx_mono2 (c_X7_set (hc_t := hB.1) (hc_x := gxa) (hc_t_now := g14a) (hc_t_memory := hB.2.2.2.1) (hc_x_before0 := gxb) (hc_x_before1 := gxc) (hc_t_memory_ring := hB.2.2.2.2.1) (hc_t_now_before0 := g14b) (hc_t_now_before1 := g14c) (n_t_t_memory := inj_ne hin (by omega) (by omega) (by omega)) (n_t_t_now := inj_ne hin (by omega) (by omega) (by omega)) (n_t_x := inj_ne hin (by omega) (by omega) (by omega)) (n_t_x_before0 := inj_ne hin (by omega) (by omega) (by omega)) (n_t_x_before1 := inj_ne hin (by omega) (by omega) (by omega)) (n_t_memory_t_memory_ring := inj_ne hin (by omega) (by omega) (by omega)) (n_t_memory_t_now := inj_ne hin (by omega) (by omega) (by omega)) (n_t_memory_t_now_before0 := inj_ne hin (by omega) (by omega) (by omega)) (n_t_memory_t_now_before1 := inj_ne hin (by omega) (by omega) (by omega)) (n_t_memory_x := inj_ne hin (by omega) (by omega) (by omega)) (n_t_memory_x_before0 := inj_ne hin (by omega) (by omega) (by omega)) (n_t_memory_x_before1 := inj_ne hin (by omega) (by omega) (by omega)) (n_t_memory_ring_x := inj_ne hin (by omega) (by omega) (by omega)) (n_t_memory_ring_x_before0 := inj_ne hin (by omega) (by omega) (by omega)) (n_t_memory_ring_x_before1 := inj_ne hin (by omega) (by omega) (by omega)) (n_t_now_x := inj_ne hin (by omega) (by omega) (by omega)) (n_t_now_x_before0 := inj_ne hin (by omega) (by omega) (by omega)) (n_t_now_x_before1 := inj_ne hin (by omega) (by omega) (by omega)) (n_t_now_before0_x := inj_ne hin (by omega) (by omega) (by omega)) (n_t_now_before0_x_before0 := inj_ne hin (by omega) (by omega) (by omega)) (n_t_now_before0_x_before1 := inj_ne hin (by omega) (by omega) (by omega)) (n_t_now_before1_x := inj_ne hin (by omega) (by omega) (by omega)) (n_t_now_before1_x_before0 := inj_ne hin (by omega) (by omega) (by omega)) (n_t_now_before1_x_before1 := inj_ne hin (by omega) (by omega) (by omega)) (n_x_x_before0 := inj_ne hin (by omega) (by omega) (by omega)) (n_x_x_before1 := inj_ne hin (by omega) (by omega) (by omega)) (n_x_before0_x_before1 := inj_ne hin (by omega) (by omega) (by omega)) (hlt := hlt) (v := v0) hv0) (fun a st o t q => qwI_mono q (fun r σ2 hp => ?_)) (fun E st t q => XQ_mono q (fun E e => by rw [← hve, e]; rfl))
  obtain ⟨w9, e1, e2, hq0, hq1, hq2, hq3, hq4, ho⟩ := hp
  have hk1 : KE ad [(7 + 3 * x), 49, 3, (8 + 3 * x), (9 + 3 * x)] σ σ2 := fun q f hq hn => ho q f hq (hn _ (List.Mem.head _)) (hn _ (List.Mem.tail _ (List.Mem.head _))) (hn _ (List.Mem.tail _ (List.Mem.tail _ (List.Mem.head _)))) (hn _ (List.Mem.tail _ (List.Mem.tail _ (List.Mem.tail _ (List.Mem.head _))))) (hn _ (List.Mem.tail _ (List.Mem.tail _ (List.Mem.tail _ (List.Mem.tail _ (List.Mem.head _))))))
  refine ⟨naSet s x p0 w9, by rw [← hve, e1]; rfl, e2, ?_, hk1.o (by intro t ht; first | exact absurd ht List.not_mem_nil | (simp only [List.mem_cons, List.not_mem_nil, or_false] at ht; omega))⟩
  refine ⟨hin, (putN (putN gr 14 (gr 14)) x (gr 14)), rg, ⟨hk1.at hin (by omega) (by intro t ht; first | exact absurd ht List.not_mem_nil | (simp only [List.mem_cons, List.not_mem_nil, or_false] at ht; omega)) hB.1, hk1.at hin (by omega) (by intro t ht; first | exact absurd ht List.not_mem_nil | (simp only [List.mem_cons, List.not_mem_nil, or_false] at ht; omega)) hB.2.1, hk1.at hin (by omega) (by intro t ht; first | exact absurd ht List.not_mem_nil | (simp only [List.mem_cons, List.not_mem_nil, or_false] at ht; omega)) hB.2.2.1, hq2, hk1.at hin (by omega) (by intro t ht; first | exact absurd ht List.not_mem_nil | (simp only [List.mem_cons, List.not_mem_nil, or_false] at ht; omega)) hB.2.2.2.2.1, hk1.at hin (by omega) (by intro t ht; first | exact absurd ht List.not_mem_nil | (simp only [List.mem_cons, List.not_mem_nil, or_false] at ht; omega)) hB.2.2.2.2.2.1, hk1.at hin (by omega) (by intro t ht; first | exact absurd ht List.not_mem_nil | (simp only [List.mem_cons, List.not_mem_nil, or_false] at ht; omega)) hB.2.2.2.2.2.2⟩, ?_, ?_, hr⟩
  · intro u7 h18
    by_cases hu0 : u7 = x
    · rw [hu0]
      exact GW_mk hq0 hq3 hq4 (hk1.gr hD (by omega) (by intro t ht; first | exact absurd ht List.not_mem_nil | (simp only [List.mem_cons, List.not_mem_nil, or_false] at ht; omega)) g14d) (by rw [putN_at]) (by unfold naSet; dsimp only; rw [putR_at])
    by_cases hu1 : u7 = 14
    · rw [hu1]
      exact GW_mk hq1 (hk1.at hin (by omega) (by intro t ht; first | exact absurd ht List.not_mem_nil | (simp only [List.mem_cons, List.not_mem_nil, or_false] at ht; omega)) g14b) (hk1.at hin (by omega) (by intro t ht; first | exact absurd ht List.not_mem_nil | (simp only [List.mem_cons, List.not_mem_nil, or_false] at ht; omega)) g14c) (hk1.gr hD (by omega) (by intro t ht; first | exact absurd ht List.not_mem_nil | (simp only [List.mem_cons, List.not_mem_nil, or_false] at ht; omega)) g14d) (by rw [putN_ne (show ¬ 14 = x by omega), putN_at]) (by unfold naSet; dsimp only; rw [putR_ne (show ¬ 14 = x by omega), putR_at])
    exact GW_same (by rw [putN_ne hu0, putN_ne hu1]) (by unfold naSet; dsimp only; rw [putR_ne hu0, putR_ne hu1]) (GW_keep hk1 hin hD h18 (by intro t ht; first | exact absurd ht List.not_mem_nil | (simp only [List.mem_cons, List.not_mem_nil, or_false] at ht; omega)) (hG u7 h18))
  · exact (GD_put (x := x) (a := (gr 14)) (GD_put (x := 14) (a := (gr 14)) hD (fun j hj => hD 14 j (by omega) hj)) (fun j hj => hD 14 j (by omega) hj))
theorem o_X7_set {l : Launch} {z : Nat} {D : va_G} {K : Nat → ClassId} {σ : mwm} {ad : Nat → Nat} {s : OSt} {p0 : Int32} (hO : OB K ad σ s) (hlt : l.stackTraces = false) {v : String ⊕ (Int32 × OSt)} (h : aSet s p0 = some v) : vx_Met l yX7_set wsX7_set ({ frames := 6, cells := 1, slots := 6, locals := 99 } : Room) (PCx z D K [.ref (ad 0), .int p0] σ) (qwI z D (fun r σ2 => ∃ w9 : Int32 × OSt, v = Sum.inr w9 ∧ r = w9.1 ∧ OB K ad σ2 w9.2 ∧ KEO ad σ σ2)) (XQ z D σ v) 1 6 (zA z) := ox_X7_set hO (nxtX_lt _) hlt h
def naUndo (s : OSt) (x : Nat) (w9 : Int32 × (Int32 × Int32 × Int32 × Int32 × Int64 × Int64 × Int32 × Int32) × (Int32 × Int32) × (Nat → Int64) × (Nat → Int64)) : Int32 × OSt := (w9.1, ((putR s.1 14 (w9.2.1, w9.2.2.2.1, w9.2.2.2.2, (s.1 x).2.2.2)), w9.2.2.1, s.2.2.1, s.2.2.2.1, s.2.2.2.2.1, s.2.2.2.2.2))
def aUndox (s : OSt) (x : Nat) : Option (String ⊕ (Int32 × OSt)) := (fX7_undo x (s.1 x).1 (s.1 14).1 s.2.1 (s.1 x).2.1 (s.1 x).2.2.1 rgC (s.1 14).2.1 (s.1 14).2.2.1).map (sMap (naUndo s x))
def aUndo (s : OSt) : Option (String ⊕ (Int32 × OSt)) := aUndox s (lstX s.2.1)
set_option maxHeartbeats 4000000 in
theorem ox_X7_undo {l : Launch} {z : Nat} {D : va_G} {K : Nat → ClassId} {σ : mwm} {ad : Nat → Nat} {s : OSt} (hO : OB K ad σ s) {x : Nat} (hx14 : x < 14) (hlt : l.stackTraces = false) {v : String ⊕ (Int32 × OSt)} (h : aUndox s x = some v) : vx_Met l yX7_undo wsX7_undo ({ frames := 6, cells := 1, slots := 6, locals := 99 } : Room) (PCx z D K [.ref (ad 0)] σ) (qwI z D (fun r σ2 => ∃ w9 : Int32 × OSt, v = Sum.inr w9 ∧ r = w9.1 ∧ OB K ad σ2 w9.2 ∧ KEO ad σ σ2)) (XQ z D σ v) 1 6 (zA z) := by
  have hO0 := hO
  obtain ⟨hin, gr, rg, hB, hG, hD, hr⟩ := hO
  obtain ⟨g14a, g14b, g14c, g14d⟩ := hG 14 (by omega)
  have g14a : σ (ad 49) = some (cl0 (ad 50) (ad 51) (gr 14) (s.1 14).1) := g14a
  have g14b : σ (ad 50) = some (eJ K 121 (s.1 14).2.1) := g14b
  have g14c : σ (ad 51) = some (eJ K 121 (s.1 14).2.2.1) := g14c
  obtain ⟨gxa, gxb, gxc, gxd⟩ := hG x (by omega)
  obtain ⟨v0, hv0, hve⟩ := map_some h
  replace hv0 := (can_undo hr hin hx14 _ _ _ _ _ _ _ ).trans hv0
  refine vx_mono2 (c_X7_undo (hc_t := hB.1) (hc_x := gxa) (hc_t_now := g14a) (hc_t_memory := hB.2.2.2.1) (hc_x_before0 := gxb) (hc_x_before1 := gxc) (hc_t_memory_ring := hB.2.2.2.2.1) (hc_t_now_before0 := g14b) (hc_t_now_before1 := g14c) (n_t_memory_t_now := inj_ne hin (by omega) (by omega) (by omega)) (n_t_memory_t_now_before0 := inj_ne hin (by omega) (by omega) (by omega)) (n_t_memory_t_now_before1 := inj_ne hin (by omega) (by omega) (by omega)) (n_t_now_t_now_before0 := inj_ne hin (by omega) (by omega) (by omega)) (n_t_now_t_now_before1 := inj_ne hin (by omega) (by omega) (by omega)) (n_t_now_x := inj_ne hin (by omega) (by omega) (by omega)) (n_t_now_x_before0 := inj_ne hin (by omega) (by omega) (by omega)) (n_t_now_x_before1 := inj_ne hin (by omega) (by omega) (by omega)) (n_t_now_before0_t_now_before1 := inj_ne hin (by omega) (by omega) (by omega)) (n_t_now_before0_x := inj_ne hin (by omega) (by omega) (by omega)) (n_t_now_before0_x_before0 := inj_ne hin (by omega) (by omega) (by omega)) (n_t_now_before0_x_before1 := inj_ne hin (by omega) (by omega) (by omega)) (n_t_now_before1_x := inj_ne hin (by omega) (by omega) (by omega)) (n_t_now_before1_x_before0 := inj_ne hin (by omega) (by omega) (by omega)) (n_t_now_before1_x_before1 := inj_ne hin (by omega) (by omega) (by omega)) (hlt := hlt) (v := v0) hv0) (fun a st o t q => qwI_mono q (fun r σ2 hp => ?_)) (fun E st t q => XQ_mono q (fun E e => by rw [← hve, e]; rfl))
  obtain ⟨w9, e1, e2, hq0, hq1, hq2, hq3, ho⟩ := hp
  have hk1 : KE ad [49, 3, 50, 51] σ σ2 := fun q f hq hn => ho q f hq (hn _ (List.Mem.head _)) (hn _ (List.Mem.tail _ (List.Mem.head _))) (hn _ (List.Mem.tail _ (List.Mem.tail _ (List.Mem.head _)))) (hn _ (List.Mem.tail _ (List.Mem.tail _ (List.Mem.tail _ (List.Mem.head _)))))
  refine ⟨naUndo s x w9, by rw [← hve, e1]; rfl, e2, ?_, hk1.o (by intro t ht; first | exact absurd ht List.not_mem_nil | (simp only [List.mem_cons, List.not_mem_nil, or_false] at ht; omega))⟩
  refine ⟨hin, (putN gr 14 (gr x)), rg, ⟨hk1.at hin (by omega) (by intro t ht; first | exact absurd ht List.not_mem_nil | (simp only [List.mem_cons, List.not_mem_nil, or_false] at ht; omega)) hB.1, hk1.at hin (by omega) (by intro t ht; first | exact absurd ht List.not_mem_nil | (simp only [List.mem_cons, List.not_mem_nil, or_false] at ht; omega)) hB.2.1, hk1.at hin (by omega) (by intro t ht; first | exact absurd ht List.not_mem_nil | (simp only [List.mem_cons, List.not_mem_nil, or_false] at ht; omega)) hB.2.2.1, hq1, hk1.at hin (by omega) (by intro t ht; first | exact absurd ht List.not_mem_nil | (simp only [List.mem_cons, List.not_mem_nil, or_false] at ht; omega)) hB.2.2.2.2.1, hk1.at hin (by omega) (by intro t ht; first | exact absurd ht List.not_mem_nil | (simp only [List.mem_cons, List.not_mem_nil, or_false] at ht; omega)) hB.2.2.2.2.2.1, hk1.at hin (by omega) (by intro t ht; first | exact absurd ht List.not_mem_nil | (simp only [List.mem_cons, List.not_mem_nil, or_false] at ht; omega)) hB.2.2.2.2.2.2⟩, ?_, ?_, hr⟩
  · intro u7 h18
    by_cases hu0 : u7 = 14
    · rw [hu0]
      exact GW_mk hq0 hq2 hq3 (hk1.gr hD (by omega) (by intro t ht; first | exact absurd ht List.not_mem_nil | (simp only [List.mem_cons, List.not_mem_nil, or_false] at ht; omega)) gxd) (by rw [putN_at]) (by unfold naUndo; dsimp only; rw [putR_at])
    exact GW_same (by rw [putN_ne hu0]) (by unfold naUndo; dsimp only; rw [putR_ne hu0]) (GW_keep hk1 hin hD h18 (by intro t ht; first | exact absurd ht List.not_mem_nil | (simp only [List.mem_cons, List.not_mem_nil, or_false] at ht; omega)) (hG u7 h18))
  · exact (GD_put (x := 14) (a := (gr x)) hD (fun j hj => hD x j (by omega) hj))
theorem o_X7_undo {l : Launch} {z : Nat} {D : va_G} {K : Nat → ClassId} {σ : mwm} {ad : Nat → Nat} {s : OSt} (hO : OB K ad σ s) (hlt : l.stackTraces = false) {v : String ⊕ (Int32 × OSt)} (h : aUndo s = some v) : vx_Met l yX7_undo wsX7_undo ({ frames := 6, cells := 1, slots := 6, locals := 99 } : Room) (PCx z D K [.ref (ad 0)] σ) (qwI z D (fun r σ2 => ∃ w9 : Int32 × OSt, v = Sum.inr w9 ∧ r = w9.1 ∧ OB K ad σ2 w9.2 ∧ KEO ad σ σ2)) (XQ z D σ v) 1 6 (zA z) := ox_X7_undo hO (lstX_lt _) hlt h
def naRunScript (s : OSt) (p0 : Int32) (p1 : Int64) (w9 : Int32 × (Int32 × Int32 × Int32 × Int32 × Int64 × Int64 × Int32 × Int32) × (Nat → Int64) × (Nat → Int64)) : Int32 × OSt := (w9.1, ((putR s.1 15 (w9.2.1, w9.2.2.1, w9.2.2.2, (s.1 14).2.2.2)), s.2.1, s.2.2.1, s.2.2.2.1, s.2.2.2.2.1, s.2.2.2.2.2))
def aRunScriptx (s : OSt) (p0 : Int32) (p1 : Int64) : Option (String ⊕ (Int32 × OSt)) := (fX7_runScript (s.1 14).1 (s.1 15).1 (s.1 15).2.1 (s.1 15).2.2.1 (s.1 14).2.1 (s.1 14).2.2.1 (s.1 14).2.2.2 p0 p1).map (sMap (naRunScript s p0 p1))
def aRunScript (s : OSt) (p0 : Int32) (p1 : Int64) : Option (String ⊕ (Int32 × OSt)) := aRunScriptx s p0 p1
set_option maxHeartbeats 4000000 in
theorem ox_X7_runScript {l : Launch} {z : Nat} {D : va_G} {K : Nat → ClassId} {σ : mwm} {ad : Nat → Nat} {s : OSt} {p0 : Int32} {p1 : Int64} (hO : OB K ad σ s) (hlt : l.stackTraces = false) {v : String ⊕ (Int32 × OSt)} (h : aRunScriptx s p0 p1 = some v) : vx_Met l yX7_runScript wsX7_runScript ({ frames := 73, cells := 1, slots := 6, locals := 3083 } : Room) (PCx z D K [.ref (ad 0), .int p0, .long p1] σ) (qwI z D (fun r σ2 => ∃ w9 : Int32 × OSt, v = Sum.inr w9 ∧ r = w9.1 ∧ OB K ad σ2 w9.2 ∧ KEO ad σ σ2)) (XQ z D σ v) 1 6 (zA z) := by
  have hO0 := hO
  obtain ⟨hin, gr, rg, hB, hG, hD, hr⟩ := hO
  obtain ⟨g14a, g14b, g14c, g14d⟩ := hG 14 (by omega)
  have g14a : σ (ad 49) = some (cl0 (ad 50) (ad 51) (gr 14) (s.1 14).1) := g14a
  have g14b : σ (ad 50) = some (eJ K 121 (s.1 14).2.1) := g14b
  have g14c : σ (ad 51) = some (eJ K 121 (s.1 14).2.2.1) := g14c
  obtain ⟨g15a, g15b, g15c, g15d⟩ := hG 15 (by omega)
  have g15a : σ (ad 52) = some (cl0 (ad 53) (ad 54) (gr 15) (s.1 15).1) := g15a
  have g15b : σ (ad 53) = some (eJ K 121 (s.1 15).2.1) := g15b
  have g15c : σ (ad 54) = some (eJ K 121 (s.1 15).2.2.1) := g15c
  obtain ⟨v0, hv0, hve⟩ := map_some h
  refine vx_mono2 (c_X7_runScript (hc_t := hB.1) (hc_t_now := g14a) (hc_t_copy := g15a) (hc_t_copy_before0 := g15b) (hc_t_copy_before1 := g15c) (hc_t_now_before0 := g14b) (hc_t_now_before1 := g14c) (hc_t_now_grid := g14d) (n_t_t_copy := inj_ne hin (by omega) (by omega) (by omega)) (n_t_t_copy_before0 := inj_ne hin (by omega) (by omega) (by omega)) (n_t_t_copy_before1 := inj_ne hin (by omega) (by omega) (by omega)) (n_t_copy_t_copy_before0 := inj_ne hin (by omega) (by omega) (by omega)) (n_t_copy_t_copy_before1 := inj_ne hin (by omega) (by omega) (by omega)) (n_t_copy_t_now := inj_ne hin (by omega) (by omega) (by omega)) (n_t_copy_t_now_before0 := inj_ne hin (by omega) (by omega) (by omega)) (n_t_copy_t_now_before1 := inj_ne hin (by omega) (by omega) (by omega)) (n_t_copy_t_now_grid := (hD 14 52 (by omega) (by omega)).symm) (n_t_copy_before0_t_copy_before1 := inj_ne hin (by omega) (by omega) (by omega)) (n_t_copy_before0_t_now := inj_ne hin (by omega) (by omega) (by omega)) (n_t_copy_before0_t_now_before0 := inj_ne hin (by omega) (by omega) (by omega)) (n_t_copy_before0_t_now_before1 := inj_ne hin (by omega) (by omega) (by omega)) (n_t_copy_before0_t_now_grid := (hD 14 53 (by omega) (by omega)).symm) (n_t_copy_before1_t_now := inj_ne hin (by omega) (by omega) (by omega)) (n_t_copy_before1_t_now_before0 := inj_ne hin (by omega) (by omega) (by omega)) (n_t_copy_before1_t_now_before1 := inj_ne hin (by omega) (by omega) (by omega)) (n_t_copy_before1_t_now_grid := (hD 14 54 (by omega) (by omega)).symm) (hlt := hlt) (v := v0) hv0) (fun a st o t q => qwI_mono q (fun r σ2 hp => ?_)) (fun E st t q => XQ_mono q (fun E e => by rw [← hve, e]; rfl))
  obtain ⟨w9, e1, e2, hq0, hq1, hq2, ho⟩ := hp
  have hk1 : KE ad [52, 53, 54] σ σ2 := fun q f hq hn => ho q f hq (hn _ (List.Mem.head _)) (hn _ (List.Mem.tail _ (List.Mem.head _))) (hn _ (List.Mem.tail _ (List.Mem.tail _ (List.Mem.head _))))
  refine ⟨naRunScript s p0 p1 w9, by rw [← hve, e1]; rfl, e2, ?_, hk1.o (by intro t ht; first | exact absurd ht List.not_mem_nil | (simp only [List.mem_cons, List.not_mem_nil, or_false] at ht; omega))⟩
  refine ⟨hin, (putN gr 15 (gr 14)), rg, ⟨hk1.at hin (by omega) (by intro t ht; first | exact absurd ht List.not_mem_nil | (simp only [List.mem_cons, List.not_mem_nil, or_false] at ht; omega)) hB.1, hk1.at hin (by omega) (by intro t ht; first | exact absurd ht List.not_mem_nil | (simp only [List.mem_cons, List.not_mem_nil, or_false] at ht; omega)) hB.2.1, hk1.at hin (by omega) (by intro t ht; first | exact absurd ht List.not_mem_nil | (simp only [List.mem_cons, List.not_mem_nil, or_false] at ht; omega)) hB.2.2.1, hk1.at hin (by omega) (by intro t ht; first | exact absurd ht List.not_mem_nil | (simp only [List.mem_cons, List.not_mem_nil, or_false] at ht; omega)) hB.2.2.2.1, hk1.at hin (by omega) (by intro t ht; first | exact absurd ht List.not_mem_nil | (simp only [List.mem_cons, List.not_mem_nil, or_false] at ht; omega)) hB.2.2.2.2.1, hk1.at hin (by omega) (by intro t ht; first | exact absurd ht List.not_mem_nil | (simp only [List.mem_cons, List.not_mem_nil, or_false] at ht; omega)) hB.2.2.2.2.2.1, hk1.at hin (by omega) (by intro t ht; first | exact absurd ht List.not_mem_nil | (simp only [List.mem_cons, List.not_mem_nil, or_false] at ht; omega)) hB.2.2.2.2.2.2⟩, ?_, ?_, hr⟩
  · intro u7 h18
    by_cases hu0 : u7 = 15
    · rw [hu0]
      exact GW_mk hq0 hq1 hq2 (hk1.gr hD (by omega) (by intro t ht; first | exact absurd ht List.not_mem_nil | (simp only [List.mem_cons, List.not_mem_nil, or_false] at ht; omega)) g14d) (by rw [putN_at]) (by unfold naRunScript; dsimp only; rw [putR_at])
    exact GW_same (by rw [putN_ne hu0]) (by unfold naRunScript; dsimp only; rw [putR_ne hu0]) (GW_keep hk1 hin hD h18 (by intro t ht; first | exact absurd ht List.not_mem_nil | (simp only [List.mem_cons, List.not_mem_nil, or_false] at ht; omega)) (hG u7 h18))
  · exact (GD_put (x := 15) (a := (gr 14)) hD (fun j hj => hD 14 j (by omega) hj))
theorem o_X7_runScript {l : Launch} {z : Nat} {D : va_G} {K : Nat → ClassId} {σ : mwm} {ad : Nat → Nat} {s : OSt} {p0 : Int32} {p1 : Int64} (hO : OB K ad σ s) (hlt : l.stackTraces = false) {v : String ⊕ (Int32 × OSt)} (h : aRunScript s p0 p1 = some v) : vx_Met l yX7_runScript wsX7_runScript ({ frames := 73, cells := 1, slots := 6, locals := 3083 } : Room) (PCx z D K [.ref (ad 0), .int p0, .long p1] σ) (qwI z D (fun r σ2 => ∃ w9 : Int32 × OSt, v = Sum.inr w9 ∧ r = w9.1 ∧ OB K ad σ2 w9.2 ∧ KEO ad σ σ2)) (XQ z D σ v) 1 6 (zA z) := ox_X7_runScript hO hlt h
def naSimulate (s : OSt) (p0 : Int64) (p1 : Int32) (w9 : Int32 × (Int32 × Int32 × Int32 × Int32 × Int64 × Int64 × Int32 × Int32) × (Nat → Int64) × (Nat → Int64)) : Int32 × OSt := (w9.1, ((putR s.1 15 (w9.2.1, w9.2.2.1, w9.2.2.2, (s.1 14).2.2.2)), s.2.1, s.2.2.1, s.2.2.2.1, s.2.2.2.2.1, s.2.2.2.2.2))
def aSimulatex (s : OSt) (p0 : Int64) (p1 : Int32) : Option (String ⊕ (Int32 × OSt)) := (fX7_simulate (s.1 14).1 (s.1 15).1 (s.1 15).2.1 (s.1 15).2.2.1 (s.1 14).2.1 (s.1 14).2.2.1 (s.1 14).2.2.2 p0 p1).map (sMap (naSimulate s p0 p1))
def aSimulate (s : OSt) (p0 : Int64) (p1 : Int32) : Option (String ⊕ (Int32 × OSt)) := aSimulatex s p0 p1
set_option maxHeartbeats 4000000 in
theorem ox_X7_simulate {l : Launch} {z : Nat} {D : va_G} {K : Nat → ClassId} {σ : mwm} {ad : Nat → Nat} {s : OSt} {p0 : Int64} {p1 : Int32} (hO : OB K ad σ s) (hlt : l.stackTraces = false) {v : String ⊕ (Int32 × OSt)} (h : aSimulatex s p0 p1 = some v) : vx_Met l yX7_simulate wsX7_simulate ({ frames := 6, cells := 1, slots := 6, locals := 127 } : Room) (PCx z D K [.ref (ad 0), .long p0, .int p1] σ) (qwI z D (fun r σ2 => ∃ w9 : Int32 × OSt, v = Sum.inr w9 ∧ r = w9.1 ∧ OB K ad σ2 w9.2 ∧ KEO ad σ σ2)) (XQ z D σ v) 1 6 (zA z) := by
  have hO0 := hO
  obtain ⟨hin, gr, rg, hB, hG, hD, hr⟩ := hO
  obtain ⟨g14a, g14b, g14c, g14d⟩ := hG 14 (by omega)
  have g14a : σ (ad 49) = some (cl0 (ad 50) (ad 51) (gr 14) (s.1 14).1) := g14a
  have g14b : σ (ad 50) = some (eJ K 121 (s.1 14).2.1) := g14b
  have g14c : σ (ad 51) = some (eJ K 121 (s.1 14).2.2.1) := g14c
  obtain ⟨g15a, g15b, g15c, g15d⟩ := hG 15 (by omega)
  have g15a : σ (ad 52) = some (cl0 (ad 53) (ad 54) (gr 15) (s.1 15).1) := g15a
  have g15b : σ (ad 53) = some (eJ K 121 (s.1 15).2.1) := g15b
  have g15c : σ (ad 54) = some (eJ K 121 (s.1 15).2.2.1) := g15c
  obtain ⟨v0, hv0, hve⟩ := map_some h
  refine vx_mono2 (c_X7_simulate (hc_t := hB.1) (hc_t_now := g14a) (hc_t_copy := g15a) (hc_t_copy_before0 := g15b) (hc_t_copy_before1 := g15c) (hc_t_now_before0 := g14b) (hc_t_now_before1 := g14c) (hc_t_now_grid := g14d) (n_t_t_copy := inj_ne hin (by omega) (by omega) (by omega)) (n_t_t_copy_before0 := inj_ne hin (by omega) (by omega) (by omega)) (n_t_t_copy_before1 := inj_ne hin (by omega) (by omega) (by omega)) (n_t_copy_t_copy_before0 := inj_ne hin (by omega) (by omega) (by omega)) (n_t_copy_t_copy_before1 := inj_ne hin (by omega) (by omega) (by omega)) (n_t_copy_t_now := inj_ne hin (by omega) (by omega) (by omega)) (n_t_copy_t_now_before0 := inj_ne hin (by omega) (by omega) (by omega)) (n_t_copy_t_now_before1 := inj_ne hin (by omega) (by omega) (by omega)) (n_t_copy_t_now_grid := (hD 14 52 (by omega) (by omega)).symm) (n_t_copy_before0_t_copy_before1 := inj_ne hin (by omega) (by omega) (by omega)) (n_t_copy_before0_t_now := inj_ne hin (by omega) (by omega) (by omega)) (n_t_copy_before0_t_now_before0 := inj_ne hin (by omega) (by omega) (by omega)) (n_t_copy_before0_t_now_before1 := inj_ne hin (by omega) (by omega) (by omega)) (n_t_copy_before0_t_now_grid := (hD 14 53 (by omega) (by omega)).symm) (n_t_copy_before1_t_now := inj_ne hin (by omega) (by omega) (by omega)) (n_t_copy_before1_t_now_before0 := inj_ne hin (by omega) (by omega) (by omega)) (n_t_copy_before1_t_now_before1 := inj_ne hin (by omega) (by omega) (by omega)) (n_t_copy_before1_t_now_grid := (hD 14 54 (by omega) (by omega)).symm) (hlt := hlt) (v := v0) hv0) (fun a st o t q => qwI_mono q (fun r σ2 hp => ?_)) (fun E st t q => XQ_mono q (fun E e => by rw [← hve, e]; rfl))
  obtain ⟨w9, e1, e2, hq0, hq1, hq2, ho⟩ := hp
  have hk1 : KE ad [52, 53, 54] σ σ2 := fun q f hq hn => ho q f hq (hn _ (List.Mem.head _)) (hn _ (List.Mem.tail _ (List.Mem.head _))) (hn _ (List.Mem.tail _ (List.Mem.tail _ (List.Mem.head _))))
  refine ⟨naSimulate s p0 p1 w9, by rw [← hve, e1]; rfl, e2, ?_, hk1.o (by intro t ht; first | exact absurd ht List.not_mem_nil | (simp only [List.mem_cons, List.not_mem_nil, or_false] at ht; omega))⟩
  refine ⟨hin, (putN gr 15 (gr 14)), rg, ⟨hk1.at hin (by omega) (by intro t ht; first | exact absurd ht List.not_mem_nil | (simp only [List.mem_cons, List.not_mem_nil, or_false] at ht; omega)) hB.1, hk1.at hin (by omega) (by intro t ht; first | exact absurd ht List.not_mem_nil | (simp only [List.mem_cons, List.not_mem_nil, or_false] at ht; omega)) hB.2.1, hk1.at hin (by omega) (by intro t ht; first | exact absurd ht List.not_mem_nil | (simp only [List.mem_cons, List.not_mem_nil, or_false] at ht; omega)) hB.2.2.1, hk1.at hin (by omega) (by intro t ht; first | exact absurd ht List.not_mem_nil | (simp only [List.mem_cons, List.not_mem_nil, or_false] at ht; omega)) hB.2.2.2.1, hk1.at hin (by omega) (by intro t ht; first | exact absurd ht List.not_mem_nil | (simp only [List.mem_cons, List.not_mem_nil, or_false] at ht; omega)) hB.2.2.2.2.1, hk1.at hin (by omega) (by intro t ht; first | exact absurd ht List.not_mem_nil | (simp only [List.mem_cons, List.not_mem_nil, or_false] at ht; omega)) hB.2.2.2.2.2.1, hk1.at hin (by omega) (by intro t ht; first | exact absurd ht List.not_mem_nil | (simp only [List.mem_cons, List.not_mem_nil, or_false] at ht; omega)) hB.2.2.2.2.2.2⟩, ?_, ?_, hr⟩
  · intro u7 h18
    by_cases hu0 : u7 = 15
    · rw [hu0]
      exact GW_mk hq0 hq1 hq2 (hk1.gr hD (by omega) (by intro t ht; first | exact absurd ht List.not_mem_nil | (simp only [List.mem_cons, List.not_mem_nil, or_false] at ht; omega)) g14d) (by rw [putN_at]) (by unfold naSimulate; dsimp only; rw [putR_at])
    exact GW_same (by rw [putN_ne hu0]) (by unfold naSimulate; dsimp only; rw [putR_ne hu0]) (GW_keep hk1 hin hD h18 (by intro t ht; first | exact absurd ht List.not_mem_nil | (simp only [List.mem_cons, List.not_mem_nil, or_false] at ht; omega)) (hG u7 h18))
  · exact (GD_put (x := 15) (a := (gr 14)) hD (fun j hj => hD 14 j (by omega) hj))
theorem o_X7_simulate {l : Launch} {z : Nat} {D : va_G} {K : Nat → ClassId} {σ : mwm} {ad : Nat → Nat} {s : OSt} {p0 : Int64} {p1 : Int32} (hO : OB K ad σ s) (hlt : l.stackTraces = false) {v : String ⊕ (Int32 × OSt)} (h : aSimulate s p0 p1 = some v) : vx_Met l yX7_simulate wsX7_simulate ({ frames := 6, cells := 1, slots := 6, locals := 127 } : Room) (PCx z D K [.ref (ad 0), .long p0, .int p1] σ) (qwI z D (fun r σ2 => ∃ w9 : Int32 × OSt, v = Sum.inr w9 ∧ r = w9.1 ∧ OB K ad σ2 w9.2 ∧ KEO ad σ σ2)) (XQ z D σ v) 1 6 (zA z) := ox_X7_simulate hO hlt h
def naSave (s : OSt) (p0 : Int32) (w9 : Int32 × Bool × Bool × (Int32 × Int32 × Int32 × Int32 × Int64 × Int64 × Int32 × Int32) × (Nat → Int64) × (Nat → Int64) × (Int32 × Int32 × Int32 × Int32 × Int64 × Int64 × Int32 × Int32) × (Nat → Int64) × (Nat → Int64)) : Int32 × OSt := (w9.1, ((putR (putR s.1 16 (w9.2.2.2.2.2.2.1, w9.2.2.2.2.2.2.2.1, w9.2.2.2.2.2.2.2.2, (if p0 = 0 then (s.1 14).2.2.2 else (s.1 16).2.2.2))) 17 (w9.2.2.2.1, w9.2.2.2.2.1, w9.2.2.2.2.2.1, (if p0 = 0 then (s.1 17).2.2.2 else (s.1 14).2.2.2))), s.2.1, s.2.2.1, s.2.2.2.1, w9.2.1, w9.2.2.1))
def aSavex (s : OSt) (p0 : Int32) : Option (String ⊕ (Int32 × OSt)) := (fX7_save (s.1 14).1 s.2.2.2.2.1 s.2.2.2.2.2 (s.1 17).1 (s.1 17).2.1 (s.1 17).2.2.1 (s.1 14).2.1 (s.1 14).2.2.1 (s.1 16).1 (s.1 16).2.1 (s.1 16).2.2.1 p0).map (sMap (naSave s p0))
def aSave (s : OSt) (p0 : Int32) : Option (String ⊕ (Int32 × OSt)) := aSavex s p0
set_option maxHeartbeats 4000000 in
theorem ox_X7_save {l : Launch} {z : Nat} {D : va_G} {K : Nat → ClassId} {σ : mwm} {ad : Nat → Nat} {s : OSt} {p0 : Int32} (hO : OB K ad σ s) (hlt : l.stackTraces = false) {v : String ⊕ (Int32 × OSt)} (h : aSavex s p0 = some v) : vx_Met l yX7_save wsX7_save ({ frames := 6, cells := 1, slots := 6, locals := 99 } : Room) (PCx z D K [.ref (ad 0), .int p0] σ) (qwI z D (fun r σ2 => ∃ w9 : Int32 × OSt, v = Sum.inr w9 ∧ r = w9.1 ∧ OB K ad σ2 w9.2 ∧ KEO ad σ σ2)) (XQ z D σ v) 1 6 (zA z) := by
  have hO0 := hO
  obtain ⟨hin, gr, rg, hB, hG, hD, hr⟩ := hO
  obtain ⟨g14a, g14b, g14c, g14d⟩ := hG 14 (by omega)
  have g14a : σ (ad 49) = some (cl0 (ad 50) (ad 51) (gr 14) (s.1 14).1) := g14a
  have g14b : σ (ad 50) = some (eJ K 121 (s.1 14).2.1) := g14b
  have g14c : σ (ad 51) = some (eJ K 121 (s.1 14).2.2.1) := g14c
  obtain ⟨g16a, g16b, g16c, g16d⟩ := hG 16 (by omega)
  have g16a : σ (ad 55) = some (cl0 (ad 56) (ad 57) (gr 16) (s.1 16).1) := g16a
  have g16b : σ (ad 56) = some (eJ K 121 (s.1 16).2.1) := g16b
  have g16c : σ (ad 57) = some (eJ K 121 (s.1 16).2.2.1) := g16c
  obtain ⟨g17a, g17b, g17c, g17d⟩ := hG 17 (by omega)
  have g17a : σ (ad 58) = some (cl0 (ad 59) (ad 60) (gr 17) (s.1 17).1) := g17a
  have g17b : σ (ad 59) = some (eJ K 121 (s.1 17).2.1) := g17b
  have g17c : σ (ad 60) = some (eJ K 121 (s.1 17).2.2.1) := g17c
  obtain ⟨v0, hv0, hve⟩ := map_some h
  refine vx_mono2 (c_X7_save (hc_t := hB.1) (hc_t_now := g14a) (hc_t_slot0 := hB.2.2.2.2.2.1) (hc_t_slot1 := hB.2.2.2.2.2.2) (hc_t_slot1_kept := g17a) (hc_t_slot1_kept_before0 := g17b) (hc_t_slot1_kept_before1 := g17c) (hc_t_now_before0 := g14b) (hc_t_now_before1 := g14c) (hc_t_slot0_kept := g16a) (hc_t_slot0_kept_before0 := g16b) (hc_t_slot0_kept_before1 := g16c) (n_t_t_slot0 := inj_ne hin (by omega) (by omega) (by omega)) (n_t_t_slot0_kept := inj_ne hin (by omega) (by omega) (by omega)) (n_t_t_slot0_kept_before0 := inj_ne hin (by omega) (by omega) (by omega)) (n_t_t_slot0_kept_before1 := inj_ne hin (by omega) (by omega) (by omega)) (n_t_t_slot1 := inj_ne hin (by omega) (by omega) (by omega)) (n_t_t_slot1_kept := inj_ne hin (by omega) (by omega) (by omega)) (n_t_t_slot1_kept_before0 := inj_ne hin (by omega) (by omega) (by omega)) (n_t_t_slot1_kept_before1 := inj_ne hin (by omega) (by omega) (by omega)) (n_t_now_t_slot0 := inj_ne hin (by omega) (by omega) (by omega)) (n_t_now_t_slot0_kept := inj_ne hin (by omega) (by omega) (by omega)) (n_t_now_t_slot0_kept_before0 := inj_ne hin (by omega) (by omega) (by omega)) (n_t_now_t_slot0_kept_before1 := inj_ne hin (by omega) (by omega) (by omega)) (n_t_now_t_slot1 := inj_ne hin (by omega) (by omega) (by omega)) (n_t_now_t_slot1_kept := inj_ne hin (by omega) (by omega) (by omega)) (n_t_now_t_slot1_kept_before0 := inj_ne hin (by omega) (by omega) (by omega)) (n_t_now_t_slot1_kept_before1 := inj_ne hin (by omega) (by omega) (by omega)) (n_t_now_before0_t_slot0_kept := inj_ne hin (by omega) (by omega) (by omega)) (n_t_now_before0_t_slot0_kept_before0 := inj_ne hin (by omega) (by omega) (by omega)) (n_t_now_before0_t_slot0_kept_before1 := inj_ne hin (by omega) (by omega) (by omega)) (n_t_now_before0_t_slot1_kept := inj_ne hin (by omega) (by omega) (by omega)) (n_t_now_before0_t_slot1_kept_before0 := inj_ne hin (by omega) (by omega) (by omega)) (n_t_now_before0_t_slot1_kept_before1 := inj_ne hin (by omega) (by omega) (by omega)) (n_t_now_before1_t_slot0_kept := inj_ne hin (by omega) (by omega) (by omega)) (n_t_now_before1_t_slot0_kept_before0 := inj_ne hin (by omega) (by omega) (by omega)) (n_t_now_before1_t_slot0_kept_before1 := inj_ne hin (by omega) (by omega) (by omega)) (n_t_now_before1_t_slot1_kept := inj_ne hin (by omega) (by omega) (by omega)) (n_t_now_before1_t_slot1_kept_before0 := inj_ne hin (by omega) (by omega) (by omega)) (n_t_now_before1_t_slot1_kept_before1 := inj_ne hin (by omega) (by omega) (by omega)) (n_t_slot0_t_slot0_kept := inj_ne hin (by omega) (by omega) (by omega)) (n_t_slot0_t_slot0_kept_before0 := inj_ne hin (by omega) (by omega) (by omega)) (n_t_slot0_t_slot0_kept_before1 := inj_ne hin (by omega) (by omega) (by omega)) (n_t_slot0_t_slot1 := inj_ne hin (by omega) (by omega) (by omega)) (n_t_slot0_t_slot1_kept := inj_ne hin (by omega) (by omega) (by omega)) (n_t_slot0_t_slot1_kept_before0 := inj_ne hin (by omega) (by omega) (by omega)) (n_t_slot0_t_slot1_kept_before1 := inj_ne hin (by omega) (by omega) (by omega)) (n_t_slot0_kept_t_slot0_kept_before0 := inj_ne hin (by omega) (by omega) (by omega)) (n_t_slot0_kept_t_slot0_kept_before1 := inj_ne hin (by omega) (by omega) (by omega)) (n_t_slot0_kept_t_slot1 := inj_ne hin (by omega) (by omega) (by omega)) (n_t_slot0_kept_t_slot1_kept := inj_ne hin (by omega) (by omega) (by omega)) (n_t_slot0_kept_t_slot1_kept_before0 := inj_ne hin (by omega) (by omega) (by omega)) (n_t_slot0_kept_t_slot1_kept_before1 := inj_ne hin (by omega) (by omega) (by omega)) (n_t_slot0_kept_before0_t_slot0_kept_before1 := inj_ne hin (by omega) (by omega) (by omega)) (n_t_slot0_kept_before0_t_slot1 := inj_ne hin (by omega) (by omega) (by omega)) (n_t_slot0_kept_before0_t_slot1_kept := inj_ne hin (by omega) (by omega) (by omega)) (n_t_slot0_kept_before0_t_slot1_kept_before0 := inj_ne hin (by omega) (by omega) (by omega)) (n_t_slot0_kept_before0_t_slot1_kept_before1 := inj_ne hin (by omega) (by omega) (by omega)) (n_t_slot0_kept_before1_t_slot1 := inj_ne hin (by omega) (by omega) (by omega)) (n_t_slot0_kept_before1_t_slot1_kept := inj_ne hin (by omega) (by omega) (by omega)) (n_t_slot0_kept_before1_t_slot1_kept_before0 := inj_ne hin (by omega) (by omega) (by omega)) (n_t_slot0_kept_before1_t_slot1_kept_before1 := inj_ne hin (by omega) (by omega) (by omega)) (n_t_slot1_t_slot1_kept := inj_ne hin (by omega) (by omega) (by omega)) (n_t_slot1_t_slot1_kept_before0 := inj_ne hin (by omega) (by omega) (by omega)) (n_t_slot1_t_slot1_kept_before1 := inj_ne hin (by omega) (by omega) (by omega)) (n_t_slot1_kept_t_slot1_kept_before0 := inj_ne hin (by omega) (by omega) (by omega)) (n_t_slot1_kept_t_slot1_kept_before1 := inj_ne hin (by omega) (by omega) (by omega)) (n_t_slot1_kept_before0_t_slot1_kept_before1 := inj_ne hin (by omega) (by omega) (by omega)) (hlt := hlt) (v := v0) hv0) (fun a st o t q => qwI_mono q (fun r σ2 hp => ?_)) (fun E st t q => XQ_mono q (fun E e => by rw [← hve, e]; rfl))
  obtain ⟨w9, e1, e2, hq0, hq1, hq2, hq3, hq4, hq5, hq6, hq7, ho⟩ := hp
  have hk1 : KE ad [5, 6, 58, 59, 60, 55, 56, 57] σ σ2 := fun q f hq hn => ho q f hq (hn _ (List.Mem.head _)) (hn _ (List.Mem.tail _ (List.Mem.head _))) (hn _ (List.Mem.tail _ (List.Mem.tail _ (List.Mem.head _)))) (hn _ (List.Mem.tail _ (List.Mem.tail _ (List.Mem.tail _ (List.Mem.head _))))) (hn _ (List.Mem.tail _ (List.Mem.tail _ (List.Mem.tail _ (List.Mem.tail _ (List.Mem.head _)))))) (hn _ (List.Mem.tail _ (List.Mem.tail _ (List.Mem.tail _ (List.Mem.tail _ (List.Mem.tail _ (List.Mem.head _))))))) (hn _ (List.Mem.tail _ (List.Mem.tail _ (List.Mem.tail _ (List.Mem.tail _ (List.Mem.tail _ (List.Mem.tail _ (List.Mem.head _)))))))) (hn _ (List.Mem.tail _ (List.Mem.tail _ (List.Mem.tail _ (List.Mem.tail _ (List.Mem.tail _ (List.Mem.tail _ (List.Mem.tail _ (List.Mem.head _)))))))))
  refine ⟨naSave s p0 w9, by rw [← hve, e1]; rfl, e2, ?_, hk1.o (by intro t ht; first | exact absurd ht List.not_mem_nil | (simp only [List.mem_cons, List.not_mem_nil, or_false] at ht; omega))⟩
  have hgd16 : σ2 (if p0 = 0 then gr 14 else gr 16) = some (cl2 (if p0 = 0 then (s.1 14).2.2.2 else (s.1 16).2.2.2)) := by
    by_cases q0 : p0 = 0
    · rw [if_pos q0, if_pos q0]; exact hk1.gr hD (by omega) (by intro t ht; first | exact absurd ht List.not_mem_nil | (simp only [List.mem_cons, List.not_mem_nil, or_false] at ht; omega)) g14d
    · rw [if_neg q0, if_neg q0]; exact hk1.gr hD (by omega) (by intro t ht; first | exact absurd ht List.not_mem_nil | (simp only [List.mem_cons, List.not_mem_nil, or_false] at ht; omega)) g16d
  have hgd17 : σ2 (if p0 = 0 then gr 17 else gr 14) = some (cl2 (if p0 = 0 then (s.1 17).2.2.2 else (s.1 14).2.2.2)) := by
    by_cases q0 : p0 = 0
    · rw [if_pos q0, if_pos q0]; exact hk1.gr hD (by omega) (by intro t ht; first | exact absurd ht List.not_mem_nil | (simp only [List.mem_cons, List.not_mem_nil, or_false] at ht; omega)) g17d
    · rw [if_neg q0, if_neg q0]; exact hk1.gr hD (by omega) (by intro t ht; first | exact absurd ht List.not_mem_nil | (simp only [List.mem_cons, List.not_mem_nil, or_false] at ht; omega)) g14d
  refine ⟨hin, (putN (putN gr 16 (if p0 = 0 then gr 14 else gr 16)) 17 (if p0 = 0 then gr 17 else gr 14)), rg, ⟨hk1.at hin (by omega) (by intro t ht; first | exact absurd ht List.not_mem_nil | (simp only [List.mem_cons, List.not_mem_nil, or_false] at ht; omega)) hB.1, hk1.at hin (by omega) (by intro t ht; first | exact absurd ht List.not_mem_nil | (simp only [List.mem_cons, List.not_mem_nil, or_false] at ht; omega)) hB.2.1, hk1.at hin (by omega) (by intro t ht; first | exact absurd ht List.not_mem_nil | (simp only [List.mem_cons, List.not_mem_nil, or_false] at ht; omega)) hB.2.2.1, hk1.at hin (by omega) (by intro t ht; first | exact absurd ht List.not_mem_nil | (simp only [List.mem_cons, List.not_mem_nil, or_false] at ht; omega)) hB.2.2.2.1, hk1.at hin (by omega) (by intro t ht; first | exact absurd ht List.not_mem_nil | (simp only [List.mem_cons, List.not_mem_nil, or_false] at ht; omega)) hB.2.2.2.2.1, hq0, hq1⟩, ?_, ?_, hr⟩
  · intro u7 h18
    by_cases hu0 : u7 = 17
    · rw [hu0]
      exact GW_mk hq2 hq3 hq4 hgd17 (by rw [putN_at]) (by unfold naSave; dsimp only; rw [putR_at])
    by_cases hu1 : u7 = 16
    · rw [hu1]
      exact GW_mk hq5 hq6 hq7 hgd16 (by rw [putN_ne (show ¬ 16 = 17 by omega), putN_at]) (by unfold naSave; dsimp only; rw [putR_ne (show ¬ 16 = 17 by omega), putR_at])
    exact GW_same (by rw [putN_ne hu0, putN_ne hu1]) (by unfold naSave; dsimp only; rw [putR_ne hu0, putR_ne hu1]) (GW_keep hk1 hin hD h18 (by intro t ht; first | exact absurd ht List.not_mem_nil | (simp only [List.mem_cons, List.not_mem_nil, or_false] at ht; omega)) (hG u7 h18))
  · exact (GD_put (x := 17) (a := (if p0 = 0 then gr 17 else gr 14)) (GD_put (x := 16) (a := (if p0 = 0 then gr 14 else gr 16)) hD (fun j hj => by by_cases q0 : p0 = 0; (rw [if_pos q0]; exact hD 14 j (by omega) hj); (rw [if_neg q0]; exact hD 16 j (by omega) hj))) (fun j hj => by by_cases q0 : p0 = 0; (rw [if_pos q0]; exact hD 17 j (by omega) hj); (rw [if_neg q0]; exact hD 14 j (by omega) hj)))
theorem o_X7_save {l : Launch} {z : Nat} {D : va_G} {K : Nat → ClassId} {σ : mwm} {ad : Nat → Nat} {s : OSt} {p0 : Int32} (hO : OB K ad σ s) (hlt : l.stackTraces = false) {v : String ⊕ (Int32 × OSt)} (h : aSave s p0 = some v) : vx_Met l yX7_save wsX7_save ({ frames := 6, cells := 1, slots := 6, locals := 99 } : Room) (PCx z D K [.ref (ad 0), .int p0] σ) (qwI z D (fun r σ2 => ∃ w9 : Int32 × OSt, v = Sum.inr w9 ∧ r = w9.1 ∧ OB K ad σ2 w9.2 ∧ KEO ad σ σ2)) (XQ z D σ v) 1 6 (zA z) := ox_X7_save hO hlt h
def naRestore (s : OSt) (p0 : Int32) (w9 : Int32 × (Int32 × Int32 × Int32 × Int32 × Int64 × Int64 × Int32 × Int32) × (Int32 × Int32) × (Nat → Int64) × (Nat → Int64)) : Int32 × OSt := (w9.1, ((putR s.1 14 (w9.2.1, w9.2.2.2.1, w9.2.2.2.2, (if p0 = 0 then (s.1 16).2.2.2 else (s.1 17).2.2.2))), w9.2.2.1, s.2.2.1, s.2.2.2.1, s.2.2.2.2.1, s.2.2.2.2.2))
def aRestorex (s : OSt) (p0 : Int32) : Option (String ⊕ (Int32 × OSt)) := (fX7_restore (s.1 14).1 s.2.1 s.2.2.2.2.1 s.2.2.2.2.2 (s.1 17).1 (s.1 14).2.1 (s.1 14).2.2.1 (s.1 17).2.1 (s.1 17).2.2.1 (s.1 16).1 (s.1 16).2.1 (s.1 16).2.2.1 p0).map (sMap (naRestore s p0))
def aRestore (s : OSt) (p0 : Int32) : Option (String ⊕ (Int32 × OSt)) := aRestorex s p0
set_option maxHeartbeats 4000000 in
theorem ox_X7_restore {l : Launch} {z : Nat} {D : va_G} {K : Nat → ClassId} {σ : mwm} {ad : Nat → Nat} {s : OSt} {p0 : Int32} (hO : OB K ad σ s) (hlt : l.stackTraces = false) {v : String ⊕ (Int32 × OSt)} (h : aRestorex s p0 = some v) : vx_Met l yX7_restore wsX7_restore ({ frames := 6, cells := 1, slots := 6, locals := 99 } : Room) (PCx z D K [.ref (ad 0), .int p0] σ) (qwI z D (fun r σ2 => ∃ w9 : Int32 × OSt, v = Sum.inr w9 ∧ r = w9.1 ∧ OB K ad σ2 w9.2 ∧ KEO ad σ σ2)) (XQ z D σ v) 1 6 (zA z) := by
  have hO0 := hO
  obtain ⟨hin, gr, rg, hB, hG, hD, hr⟩ := hO
  obtain ⟨g14a, g14b, g14c, g14d⟩ := hG 14 (by omega)
  have g14a : σ (ad 49) = some (cl0 (ad 50) (ad 51) (gr 14) (s.1 14).1) := g14a
  have g14b : σ (ad 50) = some (eJ K 121 (s.1 14).2.1) := g14b
  have g14c : σ (ad 51) = some (eJ K 121 (s.1 14).2.2.1) := g14c
  obtain ⟨g16a, g16b, g16c, g16d⟩ := hG 16 (by omega)
  have g16a : σ (ad 55) = some (cl0 (ad 56) (ad 57) (gr 16) (s.1 16).1) := g16a
  have g16b : σ (ad 56) = some (eJ K 121 (s.1 16).2.1) := g16b
  have g16c : σ (ad 57) = some (eJ K 121 (s.1 16).2.2.1) := g16c
  obtain ⟨g17a, g17b, g17c, g17d⟩ := hG 17 (by omega)
  have g17a : σ (ad 58) = some (cl0 (ad 59) (ad 60) (gr 17) (s.1 17).1) := g17a
  have g17b : σ (ad 59) = some (eJ K 121 (s.1 17).2.1) := g17b
  have g17c : σ (ad 60) = some (eJ K 121 (s.1 17).2.2.1) := g17c
  obtain ⟨v0, hv0, hve⟩ := map_some h
  refine vx_mono2 (c_X7_restore (hc_t := hB.1) (hc_t_now := g14a) (hc_t_memory := hB.2.2.2.1) (hc_t_slot0 := hB.2.2.2.2.2.1) (hc_t_slot1 := hB.2.2.2.2.2.2) (hc_t_slot1_kept := g17a) (hc_t_now_before0 := g14b) (hc_t_now_before1 := g14c) (hc_t_slot1_kept_before0 := g17b) (hc_t_slot1_kept_before1 := g17c) (hc_t_slot0_kept := g16a) (hc_t_slot0_kept_before0 := g16b) (hc_t_slot0_kept_before1 := g16c) (n_t_t_memory := inj_ne hin (by omega) (by omega) (by omega)) (n_t_t_now := inj_ne hin (by omega) (by omega) (by omega)) (n_t_t_now_before0 := inj_ne hin (by omega) (by omega) (by omega)) (n_t_t_now_before1 := inj_ne hin (by omega) (by omega) (by omega)) (n_t_memory_t_now := inj_ne hin (by omega) (by omega) (by omega)) (n_t_memory_t_now_before0 := inj_ne hin (by omega) (by omega) (by omega)) (n_t_memory_t_now_before1 := inj_ne hin (by omega) (by omega) (by omega)) (n_t_now_t_now_before0 := inj_ne hin (by omega) (by omega) (by omega)) (n_t_now_t_now_before1 := inj_ne hin (by omega) (by omega) (by omega)) (n_t_now_t_slot0_kept := inj_ne hin (by omega) (by omega) (by omega)) (n_t_now_t_slot0_kept_before0 := inj_ne hin (by omega) (by omega) (by omega)) (n_t_now_t_slot0_kept_before1 := inj_ne hin (by omega) (by omega) (by omega)) (n_t_now_t_slot1_kept := inj_ne hin (by omega) (by omega) (by omega)) (n_t_now_t_slot1_kept_before0 := inj_ne hin (by omega) (by omega) (by omega)) (n_t_now_t_slot1_kept_before1 := inj_ne hin (by omega) (by omega) (by omega)) (n_t_now_before0_t_now_before1 := inj_ne hin (by omega) (by omega) (by omega)) (n_t_now_before0_t_slot0_kept := inj_ne hin (by omega) (by omega) (by omega)) (n_t_now_before0_t_slot0_kept_before0 := inj_ne hin (by omega) (by omega) (by omega)) (n_t_now_before0_t_slot0_kept_before1 := inj_ne hin (by omega) (by omega) (by omega)) (n_t_now_before0_t_slot1_kept := inj_ne hin (by omega) (by omega) (by omega)) (n_t_now_before0_t_slot1_kept_before0 := inj_ne hin (by omega) (by omega) (by omega)) (n_t_now_before0_t_slot1_kept_before1 := inj_ne hin (by omega) (by omega) (by omega)) (n_t_now_before1_t_slot0_kept := inj_ne hin (by omega) (by omega) (by omega)) (n_t_now_before1_t_slot0_kept_before0 := inj_ne hin (by omega) (by omega) (by omega)) (n_t_now_before1_t_slot0_kept_before1 := inj_ne hin (by omega) (by omega) (by omega)) (n_t_now_before1_t_slot1_kept := inj_ne hin (by omega) (by omega) (by omega)) (n_t_now_before1_t_slot1_kept_before0 := inj_ne hin (by omega) (by omega) (by omega)) (n_t_now_before1_t_slot1_kept_before1 := inj_ne hin (by omega) (by omega) (by omega)) (hlt := hlt) (v := v0) hv0) (fun a st o t q => qwI_mono q (fun r σ2 hp => ?_)) (fun E st t q => XQ_mono q (fun E e => by rw [← hve, e]; rfl))
  obtain ⟨w9, e1, e2, hq0, hq1, hq2, hq3, ho⟩ := hp
  have hk1 : KE ad [49, 3, 50, 51] σ σ2 := fun q f hq hn => ho q f hq (hn _ (List.Mem.head _)) (hn _ (List.Mem.tail _ (List.Mem.head _))) (hn _ (List.Mem.tail _ (List.Mem.tail _ (List.Mem.head _)))) (hn _ (List.Mem.tail _ (List.Mem.tail _ (List.Mem.tail _ (List.Mem.head _)))))
  refine ⟨naRestore s p0 w9, by rw [← hve, e1]; rfl, e2, ?_, hk1.o (by intro t ht; first | exact absurd ht List.not_mem_nil | (simp only [List.mem_cons, List.not_mem_nil, or_false] at ht; omega))⟩
  have hgd14 : σ2 (if p0 = 0 then gr 16 else gr 17) = some (cl2 (if p0 = 0 then (s.1 16).2.2.2 else (s.1 17).2.2.2)) := by
    by_cases q0 : p0 = 0
    · rw [if_pos q0, if_pos q0]; exact hk1.gr hD (by omega) (by intro t ht; first | exact absurd ht List.not_mem_nil | (simp only [List.mem_cons, List.not_mem_nil, or_false] at ht; omega)) g16d
    · rw [if_neg q0, if_neg q0]; exact hk1.gr hD (by omega) (by intro t ht; first | exact absurd ht List.not_mem_nil | (simp only [List.mem_cons, List.not_mem_nil, or_false] at ht; omega)) g17d
  refine ⟨hin, (putN gr 14 (if p0 = 0 then gr 16 else gr 17)), rg, ⟨hk1.at hin (by omega) (by intro t ht; first | exact absurd ht List.not_mem_nil | (simp only [List.mem_cons, List.not_mem_nil, or_false] at ht; omega)) hB.1, hk1.at hin (by omega) (by intro t ht; first | exact absurd ht List.not_mem_nil | (simp only [List.mem_cons, List.not_mem_nil, or_false] at ht; omega)) hB.2.1, hk1.at hin (by omega) (by intro t ht; first | exact absurd ht List.not_mem_nil | (simp only [List.mem_cons, List.not_mem_nil, or_false] at ht; omega)) hB.2.2.1, hq1, hk1.at hin (by omega) (by intro t ht; first | exact absurd ht List.not_mem_nil | (simp only [List.mem_cons, List.not_mem_nil, or_false] at ht; omega)) hB.2.2.2.2.1, hk1.at hin (by omega) (by intro t ht; first | exact absurd ht List.not_mem_nil | (simp only [List.mem_cons, List.not_mem_nil, or_false] at ht; omega)) hB.2.2.2.2.2.1, hk1.at hin (by omega) (by intro t ht; first | exact absurd ht List.not_mem_nil | (simp only [List.mem_cons, List.not_mem_nil, or_false] at ht; omega)) hB.2.2.2.2.2.2⟩, ?_, ?_, hr⟩
  · intro u7 h18
    by_cases hu0 : u7 = 14
    · rw [hu0]
      exact GW_mk hq0 hq2 hq3 hgd14 (by rw [putN_at]) (by unfold naRestore; dsimp only; rw [putR_at])
    exact GW_same (by rw [putN_ne hu0]) (by unfold naRestore; dsimp only; rw [putR_ne hu0]) (GW_keep hk1 hin hD h18 (by intro t ht; first | exact absurd ht List.not_mem_nil | (simp only [List.mem_cons, List.not_mem_nil, or_false] at ht; omega)) (hG u7 h18))
  · exact (GD_put (x := 14) (a := (if p0 = 0 then gr 16 else gr 17)) hD (fun j hj => by by_cases q0 : p0 = 0; (rw [if_pos q0]; exact hD 16 j (by omega) hj); (rw [if_neg q0]; exact hD 17 j (by omega) hj)))
theorem o_X7_restore {l : Launch} {z : Nat} {D : va_G} {K : Nat → ClassId} {σ : mwm} {ad : Nat → Nat} {s : OSt} {p0 : Int32} (hO : OB K ad σ s) (hlt : l.stackTraces = false) {v : String ⊕ (Int32 × OSt)} (h : aRestore s p0 = some v) : vx_Met l yX7_restore wsX7_restore ({ frames := 6, cells := 1, slots := 6, locals := 99 } : Room) (PCx z D K [.ref (ad 0), .int p0] σ) (qwI z D (fun r σ2 => ∃ w9 : Int32 × OSt, v = Sum.inr w9 ∧ r = w9.1 ∧ OB K ad σ2 w9.2 ∧ KEO ad σ σ2)) (XQ z D σ v) 1 6 (zA z) := ox_X7_restore hO hlt h
