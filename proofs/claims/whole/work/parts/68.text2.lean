section ERR
variable {len : Nat} {cd : Nat → Nat} {ch tx : Nat → Int32}
theorem isP (h : textR len cd ch tx) {i : Nat} (hi : i < len) : fX1_isPassAt (nI len) ch (nI i) = some (decide (cd i = 112)) := by
  have h3 := h.2 i hi
  unfold fX1_isPassAt
  rw [at_in h hi, Option.bind_some]
  by_cases c : cd i = 112
  · rw [c, if_pos (show nI 112 = 112 from rfl), decide_eq_true rfl]
  · rw [if_neg (show ¬ nI (cd i) = 112 from fun z => c (nI_inj (b := 112) (by omega) (by omega) z)), decide_eq_false c]
theorem E_end {fe i : Nat} (hi : len ≤ i) (h2 : i < 1000) : fX1_firstError_39 (nI len) ch (fe + 1) (nI i) = some (-1) := by
  rw [fX1_firstError_39]
  rw [if_pos (nI_le hi (by omega))]
theorem E_p (h : textR len cd ch tx) {fe i : Nat} (hi : i < len) (hc : cd i = 112) : fX1_firstError_39 (nI len) ch (fe + 1) (nI i) = fX1_firstError_39 (nI len) ch fe (nI (i + 1)) := by
  have := h.1
  rw [fX1_firstError_39]
  rw [if_neg (nI_ge hi (by omega)), isP h hi, Option.bind_some, if_pos (decide_eq_true hc), nI_succ]
theorem E_bad1 (h : textR len cd ch tx) {fe i : Nat} (hi : i < len) (hc : ¬ cd i = 112) (hd : ¬ (48 ≤ cd i ∧ cd i ≤ 52)) : fX1_firstError_39 (nI len) ch (fe + 1) (nI i) = some (nI i) := by
  have := h.1
  have h3 := h.2 i hi
  rw [fX1_firstError_39]
  rw [if_neg (nI_ge hi (by omega)), isP h hi, Option.bind_some, if_neg (fun z => hc (of_decide_eq_true z)), at_in h hi, Option.bind_some]
  by_cases c : cd i < 48
  · rw [if_pos (show nI (cd i) < 48 from nI_lt (b := 48) c (by decide))]
  · rw [if_neg (show ¬ nI (cd i) < 48 from nI_nlt (b := 48) (by omega) (by omega)), Option.bind_some, if_neg (show ¬ nI (cd i) ≤ 52 from nI_ge (a := 52) (by omega) (by omega))]
theorem E_two (h : textR len cd ch tx) {fe i : Nat} (hi : i < len) (hd : 48 ≤ cd i ∧ cd i ≤ 52) : fX1_firstError_39 (nI len) ch (fe + 1) (nI i) = if i + 1 < len ∧ 48 ≤ cd (i + 1) ∧ cd (i + 1) ≤ (if cd i = 52 then 56 else 57) then fX1_firstError_39 (nI len) ch fe (nI (i + 2)) else some (nI (i + 1)) := by
  have := h.1
  have h3 := h.2 i hi
  have e1 : nI i + 1 = nI (i + 1) := (nI_succ i).symm
  have e2 : nI (i + 1) + 1 = nI (i + 2) := (nI_succ (i + 1)).symm
  have a1 : ¬ nI (cd i) < 48 := nI_nlt (b := 48) (by omega) (by omega)
  have a2 : nI (cd i) ≤ 52 := nI_le (b := 52) (by omega) (by omega)
  rw [fX1_firstError_39]
  rw [if_neg (nI_ge hi (by omega)), isP h hi, Option.bind_some, if_neg (fun z => by have := of_decide_eq_true z; omega), at_in h hi, Option.bind_some, if_neg a1, Option.bind_some, if_pos a2, Option.bind_some, e1, e2]
  by_cases j : i + 1 < len
  · have h4 := h.2 (i + 1) j
    rw [at_in h j]
    by_cases b : cd (i + 1) < 48
    · have b1 : nI (cd (i + 1)) < 48 := nI_lt (b := 48) b (by decide)
      rw [if_neg (show ¬ (i + 1 < len ∧ 48 ≤ cd (i + 1) ∧ cd (i + 1) ≤ (if cd i = 52 then 56 else 57)) from fun z => by omega)]
      split
      · rw [Option.bind_some, if_pos b1]
      · rw [Option.bind_some, if_pos b1]
    · have b1 : ¬ nI (cd (i + 1)) < 48 := nI_nlt (b := 48) (by omega) (by omega)
      by_cases k : cd i = 52
      · rw [if_pos (show nI (cd i) = 52 by rw [k]; rfl), if_pos k, Option.bind_some, if_neg b1, Option.bind_some]
        by_cases l : cd (i + 1) ≤ 56
        · rw [if_pos (show nI (cd (i + 1)) ≤ 56 from nI_le (b := 56) l (by omega)), if_pos ⟨j, by omega, l⟩]
        · rw [if_neg (show ¬ nI (cd (i + 1)) ≤ 56 from nI_ge (a := 56) (by omega) (by omega)), if_neg (fun z => l z.2.2)]
      · rw [if_neg (show ¬ nI (cd i) = 52 from fun z => k (nI_inj (b := 52) (by omega) (by omega) z)), if_neg k, Option.bind_some, if_neg b1, Option.bind_some]
        by_cases l : cd (i + 1) ≤ 57
        · rw [if_pos (show nI (cd (i + 1)) ≤ 57 from nI_le (b := 57) l (by omega)), if_pos ⟨j, by omega, l⟩]
        · rw [if_neg (show ¬ nI (cd (i + 1)) ≤ 57 from nI_ge (a := 57) (by omega) (by omega)), if_neg (fun z => l z.2.2)]
  · rw [at_out (ch := ch) (by omega) (by omega), if_neg (show ¬ (i + 1 < len ∧ 48 ≤ cd (i + 1) ∧ cd (i + 1) ≤ (if cd i = 52 then 56 else 57)) from fun z => j z.1)]
    split
    · rw [Option.bind_some, if_pos (by decide)]
    · rw [Option.bind_some, if_pos (by decide)]
theorem point_at (h : textR len cd ch tx) {i : Nat} (hi : i + 1 < len) (hd : 48 ≤ cd i ∧ cd i ≤ 52) (he : 48 ≤ cd (i + 1) ∧ cd (i + 1) ≤ 57) : fX1_pointAt (nI len) ch (nI i) = some (nI (10 * (cd i - 48) + (cd (i + 1) - 48))) := by
  unfold fX1_pointAt
  rw [at_in h (show i < len by omega), Option.bind_some, ← nI_succ, at_in h hi, Option.bind_some, (dig_b (cd i) (by omega) (by omega) (cd (i + 1)) (by omega) (by omega)).2.2.2]
end ERR
section RM
variable {tx : Nat → Int32} {f f' : Nat → Int64} {mv i : Nat} {y y1 y2 : MSt}
def outS (y : MSt) (o : Int32) : MSt := (y.1, y.2.1, y.2.2.1, y.2.2.2.1, y.2.2.2.2.1, y.2.2.2.2.2.1, y.2.2.2.2.2.2.1, y.2.2.2.2.2.2.2.1, y.2.2.2.2.2.2.2.2.1, o)
theorem rm_pass0 (h3 : f 3 = nL mv) (hm : 120 ≤ mv) (hm2 : mv < 1000) (hs : y.2.2.2.2.2.2.2.2.1 = nI i) (hi : i < 120) (hc : tx i = 112) : fX8_readMove y f tx = some (true, outS (atS y (nI (i + 1))) (y.2.2.2.2.2.2.2.2.2 + 1), f) := by
  unfold fX8_readMove
  rw [moves_eq h3, Option.bind_some, if_pos (show (120 : Int32) ≤ nI mv from nI_le (a := 120) hm (by omega)), hs, if_pos (inB_nI (by omega) (by decide)), nI_clamp (by omega), if_pos hc, if_pos rfl, if_pos rfl, nI_succ]
  rfl
theorem rm_pass1 (h3 : f 3 = nL mv) (hm : mv < 120) (hs : y.2.2.2.2.2.2.2.2.1 = nI i) (hi : i < 120) (hc : tx i = 112) {r : Int32} (hp : fX8_passOn f = some (r, f')) : fX8_readMove y f tx = some (true, outS (atS y (nI (i + 1))) y.2.2.2.2.2.2.2.2.2, f') := by
  unfold fX8_readMove
  rw [moves_eq h3, Option.bind_some, if_neg (show ¬ (120 : Int32) ≤ nI mv from nI_ge (b := 120) hm (by omega)), hs, if_pos (inB_nI (by omega) (by decide)), nI_clamp (by omega), if_pos hc, if_neg (by decide), if_neg (by decide), hp, Option.bind_some, Int32.add_zero, nI_succ]
  rfl
theorem rm_bad (h3 : f 3 = nL mv) (hs : y.2.2.2.2.2.2.2.2.1 = nI i) (hi : i < 120) (hc : ¬ tx i = 112) (hf : fX8_figures y tx 2 0 48 = some (-1, y1)) : fX8_readMove y f tx = some (false, y1, f) := by
  have hin : inB (nI i) 120 = true := inB_nI (by omega) (by decide)
  unfold fX8_readMove
  rw [moves_eq h3, Option.bind_some, hs, nI_clamp (by omega)]
  by_cases c : (120 : Int32) ≤ nI mv
  · rw [if_pos c, if_pos hin, if_neg hc, hf, Option.bind_some]
    dsimp only
    rw [if_pos (show (-1 : Int32) = -1 from rfl)]
  · rw [if_neg c, if_pos hin, if_neg hc, hf, Option.bind_some]
    dsimp only
    rw [if_pos (show (-1 : Int32) = -1 from rfl)]
theorem rm_no1 (h3 : f 3 = nL mv) (hs : y.2.2.2.2.2.2.2.2.1 = nI i) (hi : i < 120) (hc : ¬ tx i = 112) {p : Int32} (hp : ¬ p = -1) (hf : fX8_figures y tx 2 0 48 = some (p, y1)) (hpt : fX8_isPoint f p = some false) : fX8_readMove y f tx = some (true, outS y1 (y1.2.2.2.2.2.2.2.2.2 + 1), f) := by
  have hin : inB (nI i) 120 = true := inB_nI (by omega) (by decide)
  unfold fX8_readMove
  rw [moves_eq h3, Option.bind_some, hs, nI_clamp (by omega)]
  by_cases c : (120 : Int32) ≤ nI mv
  · rw [if_pos c, if_pos hin, if_neg hc, hf, Option.bind_some]
    dsimp only
    rw [if_neg hp, hpt, Option.bind_some, if_neg (show ¬ false = true from Bool.false_ne_true), if_pos (show (0 : Int32) = 0 from rfl), if_pos (show (0 : Int32) = 0 from rfl)]
    rfl
  · rw [if_neg c, if_pos hin, if_neg hc, hf, Option.bind_some]
    dsimp only
    rw [if_neg hp, hpt, Option.bind_some, if_neg (show ¬ false = true from Bool.false_ne_true), if_pos (show (0 : Int32) = 0 from rfl), if_pos (show (0 : Int32) = 0 from rfl)]
    rfl
theorem rm_no2 (h3 : f 3 = nL mv) (hs : y.2.2.2.2.2.2.2.2.1 = nI i) (hi : i < 120) (hc : ¬ tx i = 112) {p v : Int32} (hp : ¬ p = -1) (hf : fX8_figures y tx 2 0 48 = some (p, y1)) (hpt : fX8_isPoint f p = some true) (hv : ¬ v = 0) (hw : fX8_whyNot y1 f p = some (v, y2)) : fX8_readMove y f tx = some (true, outS y2 (y2.2.2.2.2.2.2.2.2.2 + 1), f) := by
  have hin : inB (nI i) 120 = true := inB_nI (by omega) (by decide)
  unfold fX8_readMove
  rw [moves_eq h3, Option.bind_some, hs, nI_clamp (by omega)]
  by_cases c : (120 : Int32) ≤ nI mv
  · rw [if_pos c, if_pos hin, if_neg hc, hf, Option.bind_some]
    dsimp only
    rw [if_neg hp, hpt, Option.bind_some, if_pos (show true = true from rfl), hw, Option.bind_some]
    dsimp only
    rw [if_neg hv, if_pos (show (0 : Int32) = 0 from rfl), if_pos (show (0 : Int32) = 0 from rfl)]
    rfl
  · rw [if_neg c, if_pos hin, if_neg hc, hf, Option.bind_some]
    dsimp only
    rw [if_neg hp, hpt, Option.bind_some, if_pos (show true = true from rfl), hw, Option.bind_some]
    dsimp only
    rw [if_neg hv, if_pos (show (0 : Int32) = 0 from rfl), if_pos (show (0 : Int32) = 0 from rfl)]
    rfl
theorem rm_yes (h3 : f 3 = nL mv) (hs : y.2.2.2.2.2.2.2.2.1 = nI i) (hi : i < 120) (hc : ¬ tx i = 112) {p r : Int32} (hp : ¬ p = -1) (hf : fX8_figures y tx 2 0 48 = some (p, y1)) (hpt : fX8_isPoint f p = some true) (hw : fX8_whyNot y1 f p = some (0, y2)) (hpl : fX8_playOn (outS y2 y2.2.2.2.2.2.2.2.2.2) f = some (r, f')) : fX8_readMove y f tx = some (true, outS y2 y2.2.2.2.2.2.2.2.2.2, f') := by
  have hpl' : fX8_playOn (y2.1, y2.2.1, y2.2.2.1, y2.2.2.2.1, y2.2.2.2.2.1, y2.2.2.2.2.2.1, y2.2.2.2.2.2.2.1, y2.2.2.2.2.2.2.2.1, y2.2.2.2.2.2.2.2.2.1, y2.2.2.2.2.2.2.2.2.2) f = some (r, f') := hpl
  have hin : inB (nI i) 120 = true := inB_nI (by omega) (by decide)
  unfold fX8_readMove
  rw [moves_eq h3, Option.bind_some, hs, nI_clamp (by omega)]
  by_cases c : (120 : Int32) ≤ nI mv
  · rw [if_pos c, if_pos hin, if_neg hc, hf, Option.bind_some]
    dsimp only
    rw [if_neg hp, hpt, Option.bind_some, if_pos (show true = true from rfl), hw, Option.bind_some]
    dsimp only
    rw [if_pos (show (0 : Int32) = 0 from rfl), if_neg (show ¬ (1 : Int32) = 0 from ne1), if_neg (show ¬ (1 : Int32) = 0 from ne1), Int32.add_zero, hpl', Option.bind_some]
    rfl
  · rw [if_neg c, if_pos hin, if_neg hc, hf, Option.bind_some]
    dsimp only
    rw [if_neg hp, hpt, Option.bind_some, if_pos (show true = true from rfl), hw, Option.bind_some]
    dsimp only
    rw [if_pos (show (0 : Int32) = 0 from rfl), if_neg (show ¬ (1 : Int32) = 0 from ne1), if_neg (show ¬ (1 : Int32) = 0 from ne1), Int32.add_zero, hpl', Option.bind_some]
    rfl
end RM
