def ladV (n k v : Nat) (ow ch : Int64) : Nat := if v = 0 then (if ladF n k 12 ow ch = 0 then 0 else 1) else if ladO n k (ladF n k 12) ow ch = true then 1 else 0
theorem ladV0 (n k : Nat) (ow ch : Int64) : ladV n k 0 ow ch = if ladF n k 12 ow ch = 0 then 0 else 1 := rfl
theorem ladV1 (n k : Nat) (ow ch : Int64) : ladV n k 1 ow ch = if ladO n k (ladF n k 12) ow ch = true then 1 else 0 := rfl
theorem cn_below {x : Int64} {p : Nat} (h : ∀ i, i < 64 → tb x i = decide (i < p)) : ∀ m, m ≤ 64 → cn x m = if m ≤ p then m else p := by
  intro m
  induction m with
  | zero => intro _; rw [if_pos (by omega)]; rfl
  | succ m ih =>
    intro hm
    unfold cn
    rw [ih (by omega), h m (by omega)]
    by_cases c : m < p
    · rw [if_pos (by omega), if_pos (decide_eq_true c), if_pos (by omega)]
    · rw [if_neg (show ¬ decide (m < p) = true from fun z => c (of_decide_eq_true z))]
      by_cases d : m ≤ p
      · rw [if_pos d, if_neg (by omega)]
        omega
      · rw [if_neg d, if_neg (by omega), Nat.add_zero]
theorem bc_pred {p : Nat} (hp : p < 64) : fJ13_bitCount_95d88 (pt p - 1) = nI p := by
  rw [bc_eq, cn_below (p := p) ?_ 64 (by omega), if_neg (by omega)]
  intro i hi
  rw [tb_pred _ hi, tb_neg _ hi, tb_pt hp]
  have : (∃ j, j < i ∧ tb (pt p) j = true) ↔ p < i := by
    constructor
    · rintro ⟨j, j1, j2⟩
      have := (m_pt hp).mp j2
      omega
    · intro q
      exact ⟨p, q, pt_self hp⟩
  by_cases c : i < p
  · rw [decide_eq_false (show ¬ i = p by omega), decide_eq_false (fun z => by have := this.mp z; omega), decide_eq_true c]
    rfl
  · rw [decide_eq_false c]
    by_cases d : i = p
    · rw [decide_eq_true d, decide_eq_false (fun z => by have := this.mp z; omega)]
      rfl
    · rw [decide_eq_false d, decide_eq_true (this.mpr (by omega))]
      rfl
section LADL
variable {n rule mv ps pr c0 c1 : Nat} {w : GSt} {b0 b1 : Nat → Int64} {g : RSt}
theorem ladF_c (h : GR n rule mv ps pr c0 c1 w b0 b1 g) {k c : Nat} (hk : k < n * n) (hc : c < 2) (s : tb (sOf b0 b1 mv c) k = true) : fLadF g (fX0_stonesOf w (1 - nI c)) (fX0_stonesOf w (nI c)) (shlL 1 (nI k)) 12 = some (ladF n k 12 (sOf b0 b1 mv c) (sOf b0 b1 mv (1 - c))) := by
  have hn := h.okn
  have hk64 : k < 64 := by have := (okN_sq hn).2; omega
  rw [other_nI hc, h.wc hc, h.wc (c := 1 - c) (by omega), h.grid]
  exact (lad_class hn hk64 12 (by omega)).1 60 (by omega) _ _ (pt k) (h.pos hc) s rfl
theorem ladO_c (h : GR n rule mv ps pr c0 c1 w b0 b1 g) {k c : Nat} (hk : k < n * n) (hc : c < 2) (s : tb (sOf b0 b1 mv c) k = true) : fLadO g (fX0_stonesOf w (1 - nI c)) (fX0_stonesOf w (nI c)) (shlL 1 (nI k)) 12 = some (ladO n k (ladF n k 12) (sOf b0 b1 mv c) (sOf b0 b1 mv (1 - c))) := by
  have hn := h.okn
  have hk64 : k < 64 := by have := (okN_sq hn).2; omega
  rw [other_nI hc, h.wc hc, h.wc (c := 1 - c) (by omega), h.grid]
  exact (lad_class hn hk64 12 (by omega)).2 60 (by omega) _ _ (pt k) (h.pos hc) s rfl
/-- the number of the first stone -/
def frst (z : Int64) : Int32 := if z = 0 then -1 else fJ13_bitCount_95d88 (z - 1)
end LADL
