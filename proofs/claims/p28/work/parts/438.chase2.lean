section CHASES
variable {s : OSt} {n rule mv ps pr c0 c1 : Nat}
/-- a stone of a colour, or none -/
theorem stone_or (h : NW s n rule mv ps pr c0 c1) (k : Nat) : (∃ c, c < 2 ∧ tb (sOf (s.1 14).2.1 (s.1 14).2.2.1 mv c) k = true) ∨ ¬ tb ((s.1 14).2.1 mv ||| (s.1 14).2.2.1 mv) k = true := stone_or_free _ _ _ _
theorem chases_ok (hI : INV s) {x : Nat} (hx : x < 2147483648) : ∃ t, fL_chases s s (nI x) = some (true, t, t) ∧ INV t := by
  obtain ⟨n, rule, mv, ps, pr, c0, c1, h⟩ := hI.nw
  have hsq := okN_sq h.okn
  have hall : nI n * nI n = nI (n * n) := nI_mul n n
  have ma : nI x - nI x / nI (n * n) * nI (n * n) = nI (x % (n * n)) := nI_mod (by omega) (by omega)
  have hne : ¬ nI (n * n) = 0 := nIne (b := 0) (by omega) (by omega) (by omega)
  have hk : x % (n * n) < n * n := Nat.mod_lt _ (by omega)
  generalize x % (n * n) = k at ma hk
  have hk64 := pt64 h hk
  unfold fL_chases
  rw [about_0 h, Option.bind_some, Option.bind_some, hall, if_neg hne, ma]
  unfold bnd
  dsimp only
  rcases stone_or h k with ⟨c, hc, q⟩ | q
  · have hcne : ¬ nI c = -1 := nI_ne_m1 (by omega)
    have hpos := h.pos hc
    have l0 : fL_call_12 s (nI k) 0 0 = some (nI (ladV n k 0 (sOf (s.1 14).2.1 (s.1 14).2.2.1 mv c) (sOf (s.1 14).2.1 (s.1 14).2.2.1 mv (1 - c)))) := lad_c h hk hc q (v := 0) (by omega)
    rw [pt0_c h hk hc q, Option.bind_some, l0, Option.bind_some, chase_c h hk hc q, Option.bind_some, if_neg hcne, ladV0]
    by_cases z : ladF n k 12 (sOf (s.1 14).2.1 (s.1 14).2.2.1 mv c) (sOf (s.1 14).2.1 (s.1 14).2.2.1 mv (1 - c)) = 0
    · refine ⟨s, ?_, hI⟩
      rw [if_pos z, if_pos z, if_neg (show ¬ nI 0 = 1 by decide), if_pos rfl, if_neg hcne, if_neg (show ¬ nI 0 = -1 by decide), if_pos rfl]
    · obtain ⟨z2, p, p1, p2, p3, p4⟩ := ladF_spec z
      have hpn : p < n * n := (sbA h.okn).mp lb_sb p p2
      have hr15 : fJ13_bitCount_95d88 (ladF n k 12 (sOf (s.1 14).2.1 (s.1 14).2.2.1 mv c) (sOf (s.1 14).2.1 (s.1 14).2.2.1 mv (1 - c)) - 1) = nI p := by rw [p3]; exact bc_pred p1
      have hlb : lb n (sOf (s.1 14).2.1 (s.1 14).2.2.1 mv c) (sOf (s.1 14).2.1 (s.1 14).2.2.1 mv (1 - c)) (pt k) = fvO n ((s.1 14).2.1 mv ||| (s.1 14).2.2.1 mv) (cl n (sOf (s.1 14).2.1 (s.1 14).2.2.1 mv c) (pt k)) := lb_fvO (sOf_or' hc)
      have r2 := pt2_c (b := 0) h hk hc q
      rw [← hlb] at r2
      have rg := grp1_c h hk hc q
      rw [← hlb] at rg
      rw [if_neg z, if_neg z, hr15, if_pos (show nI 1 = 1 from rfl), r2, Option.bind_some, if_neg (nI_pos (by omega)), rg, Option.bind_some, if_pos ((shr_has _ p1).mpr p2), if_neg (show ¬ 3 ≤ nI (cn (lb n (sOf (s.1 14).2.1 (s.1 14).2.2.1 mv c) (sOf (s.1 14).2.1 (s.1 14).2.2.1 mv (1 - c)) (pt k)) 49) from nI_ge (b := 3) (by omega) (by omega)), if_pos rfl, about_2 h, Option.bind_some]
      by_cases ht : mv % 2 = c
      · refine ⟨s, ?_, hI⟩
        rw [if_pos (by rw [ht])]
      · have ht1 : mv % 2 = 1 - c := by omega
        have ht2 : 1 - mv % 2 = c := by omega
        rw [if_neg (nIne (by omega) (by omega) ht), why_k h hpn, Option.bind_some]
        have hl : whyS s n rule mv p ≤ 4 := why_le p
        by_cases hw : whyS s n rule mv p = 0
        · obtain ⟨t, t1, t2, t3, t4, t5, m, u, hm, u1, u2, u3⟩ := play_ok (a := 0) (b := 0) hI h hpn hw
          obtain ⟨o1, o2, o3⟩ := new_own (n := n) t4 t5
          have hu := u3.nw h
          have hcnT : cn (nT n (s.1 14).2.1 (s.1 14).2.2.1 mv p) 49 ≤ 49 := cn_le _ _
          have hnA : nA (s.1 14).2.1 (s.1 14).2.2.1 mv p = sOf (s.1 14).2.1 (s.1 14).2.2.1 mv (1 - c) ||| pt p := by
            unfold nA
            rw [ht1]
          have hnB : nB n (s.1 14).2.1 (s.1 14).2.2.1 mv p = sOf (s.1 14).2.1 (s.1 14).2.2.1 mv c &&& (tk n (sOf (s.1 14).2.1 (s.1 14).2.2.1 mv (1 - c)) (sOf (s.1 14).2.1 (s.1 14).2.2.1 mv c) (pt p) ^^^ (-1)) := by
            unfold nB nT
            rw [ht2, ht1]
          have hkp : ¬ k = p := fun e => (m_lb.mp p2).2.2.1 (by rw [← e]; exact q)
          have hkA : ¬ tb (nA (s.1 14).2.1 (s.1 14).2.2.1 mv p) k = true := by
            rw [hnA, m_or]
            rintro (r | r)
            · exact m_and0.mp hpos.2.2.1 k q r
            · exact hkp ((m_pt p1).mp r)
          have ul : fL_call_12 u (nI k) 0 0 = some 1 := by
            have e0 : sOf (u.1 14).2.1 (u.1 14).2.2.1 mv = sOf (s.1 14).2.1 (s.1 14).2.2.1 mv := by
              funext c'
              unfold sOf
              rw [(u3.2.2 mv (Nat.le_refl _)).1, (u3.2.2 mv (Nat.le_refl _)).2]
            have := lad_c (b := 0) hu hk hc (by rw [e0]; exact q) (v := 0) (by omega)
            rw [e0, ladV0, if_neg z] at this
            exact this
          refine ⟨u, ?_, u2⟩
          rw [if_pos (show nI (whyS s n rule mv p) ≤ 0 by rw [hw]; decide), t1, Option.bind_some]
          dsimp only
          rw [if_neg (nI_pos (by omega)), Option.bind_some]
          dsimp only
          rw [if_neg (nI_pos (by omega)), if_pos rfl]
          by_cases one : cn (lb n (sOf (s.1 14).2.1 (s.1 14).2.2.1 mv c) (sOf (s.1 14).2.1 (s.1 14).2.2.1 mv (1 - c)) (pt k)) 49 = 1
          · have hkB : ¬ tb (nB n (s.1 14).2.1 (s.1 14).2.2.1 mv p) k = true := by
              rw [hnB]
              exact one_taken h.okn hpos q p2 one
            have tf : fL_call_4 t (nI k) 0 0 = some (-1) := pt0_f t3 hk (by
              rw [o3, m_or]
              rintro (r | r)
              · exact hkA r
              · exact hkB r)
            rw [if_pos (show nI (cn (lb n (sOf (s.1 14).2.1 (s.1 14).2.2.1 mv c) (sOf (s.1 14).2.1 (s.1 14).2.2.1 mv (1 - c)) (pt k)) 49) = 1 by rw [one]; rfl), tf, Option.bind_some, if_pos rfl, if_pos rfl, u1, Option.bind_some]
            dsimp only
            rw [thrown_no (by omega), Option.bind_some, if_neg (by decide), Option.bind_some]
            dsimp only
            rw [thrown_no (by omega), Option.bind_some, if_neg (by decide), ul, Option.bind_some, if_pos rfl]
          · obtain ⟨j, j1, j2⟩ := two_other h.okn one p2
            have kc := keeps h.okn hpos q p1 j1 j2
            have kk := keeps_k h.okn hpos q kc
            rw [← hnB] at kk
            have hqt : tb (sOf (t.1 14).2.1 (t.1 14).2.2.1 (mv + 1) c) k = true := by
              rw [← ht2, o2]
              exact kk
            have oB : sOf (t.1 14).2.1 (t.1 14).2.2.1 (mv + 1) c = nB n (s.1 14).2.1 (s.1 14).2.2.1 mv p := by rw [← ht2]; exact o2
            have oA : sOf (t.1 14).2.1 (t.1 14).2.2.1 (mv + 1) (1 - c) = nA (s.1 14).2.1 (s.1 14).2.2.1 mv p := by rw [← ht1]; exact o1
            have f2 := pt2_c (b := 0) t3 hk hc hqt
            rw [oB, o3, ← lb_fvO (Int64.or_comm _ _)] at f2
            have fl := lad_c (b := 0) t3 hk hc hqt (v := 1) (by omega)
            rw [oB, oA, ladV1] at fl
            unfold okF at p4
            rw [decide_eq_false one, ← hnA, ← hnB] at p4
            by_cases e1 : lb n (nA (s.1 14).2.1 (s.1 14).2.2.1 mv p) (nB n (s.1 14).2.1 (s.1 14).2.2.1 mv p) (pt p) = 0
            · rw [if_pos e1] at p4
              exact absurd p4 (by decide)
            rw [if_neg e1, if_neg (by decide)] at p4
            have p5 := ladO_mono (ladF_mono 11) _ _ p4
            rw [if_pos p5] at fl
            have fn : cn (lb n (nB n (s.1 14).2.1 (s.1 14).2.2.1 mv p) (nA (s.1 14).2.1 (s.1 14).2.2.1 mv p) (pt k)) 49 = 1 := by
              refine Decidable.byContradiction (fun e => ?_)
              unfold ladO at p4
              rw [if_neg e] at p4
              exact absurd p4 (by decide)
            rw [fn] at f2
            have f2' : fL_call_4 t (nI k) 2 0 = some 1 := f2
            have fl' : fL_call_12 t (nI k) 1 0 = some 1 := fl
            rw [if_neg (show ¬ nI (cn (lb n (sOf (s.1 14).2.1 (s.1 14).2.2.1 mv c) (sOf (s.1 14).2.1 (s.1 14).2.2.1 mv (1 - c)) (pt k)) 49) = 1 from nIne (b := 1) (by omega) (by omega) one), f2', Option.bind_some, if_pos rfl, fl', Option.bind_some, if_pos rfl, if_pos rfl, u1, Option.bind_some]
            dsimp only
            rw [thrown_no (by omega), Option.bind_some, if_neg (by decide), Option.bind_some]
            dsimp only
            rw [thrown_no (by omega), Option.bind_some, if_neg (by decide), ul, Option.bind_some, if_pos rfl]
        · refine ⟨s, ?_, hI⟩
          rw [if_neg (show ¬ nI (whyS s n rule mv p) ≤ 0 from fun z => by have := (nI_le_iff (a := whyS s n rule mv p) (b := 0) (by omega) (by omega)).mp z; omega)]
  · refine ⟨s, ?_, hI⟩
    rw [pt0_f h hk q, Option.bind_some, lad_f h hk q, Option.bind_some, chase_f h hk q, Option.bind_some, if_pos rfl, if_pos rfl, if_pos rfl, if_pos rfl, if_pos rfl]
end CHASES
