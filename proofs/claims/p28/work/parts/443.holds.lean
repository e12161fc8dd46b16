section HOLDS
variable {s : OSt} {n rule mv ps pr c0 c1 : Nat}
/-- all that holds on each board -/
theorem holds_ok (h : NW s n rule mv ps pr c0 c1) : fL_holds s = some true := by
  have hsq := okN_sq h.okn
  have hn := h.okn
  have hp : posOK n ((s.1 14).2.1 mv) ((s.1 14).2.2.1 mv) := h.pos (c := 0) (by omega)
  have hall : nI n * nI n = nI (n * n) := nI_mul n n
  have hZ : fL_count ((s.1 14).2.1 mv) = some (nI (cn ((s.1 14).2.1 mv) 49)) := count49 hn hp.1
  have hO : fL_count ((s.1 14).2.2.1 mv) = some (nI (cn ((s.1 14).2.2.1 mv) 49)) := count49 hn hp.2.1
  have hup : ushrL (((s.1 14).2.1 mv) ||| ((s.1 14).2.2.1 mv)) (nI (n * n)) = 0 := by
    refine tb_eq0.mpr (fun i => ?_)
    rw [tb_ushr _ (show n * n < 64 by omega) rfl]
    cases q : tb (((s.1 14).2.1 mv) ||| ((s.1 14).2.2.1 mv)) (i + n * n) with
    | false => rfl
    | true =>
      have := (sbA hn).mp (sb_or hp.1 hp.2.1) _ q
      omega
  have A0 : fL_call_3 s 0 0 0 = some (nI (cn ((s.1 14).2.1 mv) 49)) := colour_0 (b := 0) h (c := 0) (by omega)
  have A1 : fL_call_3 s 1 0 0 = some (nI (cn ((s.1 14).2.2.1 mv) 49)) := colour_0 (b := 0) h (c := 1) (by omega)
  have D0 : fL_call_3 s 0 1 0 = some (nI c0) := colour_1 (b := 0) h (c := 0) (by omega)
  have D1 : fL_call_3 s 1 1 0 = some (nI c1) := colour_1 (b := 0) h (c := 1) (by omega)
  have T0 : fL_call_3 s 0 3 0 = some (nI (cn (eyX n ((s.1 14).2.1 mv) ((s.1 14).2.2.1 mv) 2) 49)) := colour_3 (b := 0) h (c := 0) (by omega)
  have T1 : fL_call_3 s 1 3 0 = some (nI (cn (eyX n ((s.1 14).2.2.1 mv) ((s.1 14).2.1 mv) 2) 49)) := colour_3 (b := 0) h (c := 1) (by omega)
  have P0 : fL_call_3 s 0 4 0 = some (nI (cn (fE n ((s.1 14).2.1 mv) ((s.1 14).2.2.1 mv)) 49)) := colour_4 (b := 0) h (c := 0) (by omega)
  have P1 : fL_call_3 s 1 4 0 = some (nI (cn (fE n ((s.1 14).2.2.1 mv) ((s.1 14).2.1 mv)) 49)) := colour_4 (b := 0) h (c := 1) (by omega)
  have m2 : nI mv - nI mv / 2 * 2 = nI (mv % 2) := nI_mod (b := 2) (by have := h.mvl; omega) (by omega)
  have cE0 : cn (lowS n ((s.1 14).2.1 mv)) (n * n) = cn (lowS n ((s.1 14).2.1 mv)) 49 := cnN2 hn (sb_trans lowS_sb hp.1)
  have cE1 : cn (lowS n ((s.1 14).2.2.1 mv)) (n * n) = cn (lowS n ((s.1 14).2.2.1 mv)) 49 := cnN2 hn (sb_trans lowS_sb hp.2.1)
  have cF0 : cn (oneS n ((s.1 14).2.1 mv) ((s.1 14).2.2.1 mv)) (n * n) = cn (oneS n ((s.1 14).2.1 mv) ((s.1 14).2.2.1 mv)) 49 := cnN2 hn (sb_trans oneS_sb hp.1)
  have cF1 : cn (oneS n ((s.1 14).2.2.1 mv) ((s.1 14).2.1 mv)) (n * n) = cn (oneS n ((s.1 14).2.2.1 mv) ((s.1 14).2.1 mv)) 49 := cnN2 hn (sb_trans oneS_sb hp.2.1)
  have cT0 : cn (eyX n ((s.1 14).2.1 mv) ((s.1 14).2.2.1 mv) 2) (n * n) = cn (eyX n ((s.1 14).2.1 mv) ((s.1 14).2.2.1 mv) 2) 49 := cnN2 hn (eyX_sb hn)
  have cT1 : cn (eyX n ((s.1 14).2.2.1 mv) ((s.1 14).2.1 mv) 2) (n * n) = cn (eyX n ((s.1 14).2.2.1 mv) ((s.1 14).2.1 mv) 2) 49 := cnN2 hn (eyX_sb hn)
  have cP0 : cn (fE n ((s.1 14).2.1 mv) ((s.1 14).2.2.1 mv)) (n * n) = cn (fE n ((s.1 14).2.1 mv) ((s.1 14).2.2.1 mv)) 49 := cnN2 hn (fE_sb hn)
  have cP1 : cn (fE n ((s.1 14).2.2.1 mv) ((s.1 14).2.1 mv)) (n * n) = cn (fE n ((s.1 14).2.2.1 mv) ((s.1 14).2.1 mv)) 49 := cnN2 hn (fE_sb hn)
  have start : ∀ (x : Int64), nI (cn x 0) = 0 := fun _ => rfl
  unfold fL_holds
  rw [about_0 h, Option.bind_some, has_0 h, Option.bind_some, has_1 h, Option.bind_some, hZ, Option.bind_some, hO, Option.bind_some, hall]
  refine bnd_elim (fun k14 hk14 => ?_)
  rw [if_pos hp.2.2.1, if_pos hup, hk14]
  dsimp only
  refine bnd_elim (fun k15 hk15 => ?_)
  have L := holds_loop (u := nI (cn ((s.1 14).2.1 mv) 49) - nI (cn ((s.1 14).2.2.1 mv) 49)) (K := k15) h (n * n) 60 0 (by omega) (by omega)
  have L' : fL_holds_89 s (nI n) (nI (n * n)) ((s.1 14).2.1 mv) ((s.1 14).2.2.1 mv) (nI (cn ((s.1 14).2.1 mv) 49) - nI (cn ((s.1 14).2.2.1 mv) 49)) k15 60 0 0 0 0 0 (-1) 0 true 0 = _ := L
  rw [L', hk15]
  dsimp only
  refine bnd_elim (fun k16 hk16 => ?_)
  rw [area_loop0 h, hk16]
  dsimp only
  refine bnd_elim (fun k17 hk17 => ?_)
  rw [if_pos rfl, about_5 h, Option.bind_some, if_pos (by rw [gN_low hn hp.1, gN_low hn hp.2.1, cE0, cE1])]
  rw [about_6 h, Option.bind_some, if_pos (by rw [gO_one hn hp.1, gO_one hn hp.2.1, cF0, cF1])]
  rw [T0, Option.bind_some, T1, Option.bind_some, if_pos (by rw [nI_add, cT0, cT1])]
  rw [P0, Option.bind_some, P1, Option.bind_some, if_pos (by rw [nI_add, cP0, cP1])]
  rw [choices_s h, Option.bind_some, if_pos rfl, best_s h, Option.bind_some, if_pos rfl, lead_s h, Option.bind_some, if_pos rfl]
  rw [A0, Option.bind_some, A1, Option.bind_some, D0, Option.bind_some, D1, Option.bind_some, about_3 h, Option.bind_some, about_1 h, Option.bind_some, if_pos (by rw [nI_add, nI_add, nI_add, nI_add, h.cnt])]
  rw [about_2 h, Option.bind_some, Option.bind_some, if_pos (by rw [m2]), hk17]
end HOLDS
