section AREA
variable {n rule mv ps pr c0 c1 : Nat} {w : GSt} {b0 b1 : Nat → Int64} {g : RSt} {f : Nat → Int64}
def enc (n : Nat) (a b : Int64) : Int64 := cl n (fre n (a ||| b)) (ar n a) &&& (cl n (fre n (a ||| b)) (ar n b) ^^^ (-1))
theorem enc_eq (h : okN n) (a b : Int64) : fX2_enclosed (gridOf n) a b = some (enc n a b) := by
  unfold fX2_enclosed bnd
  dsimp only
  show (fX2_connected (gridOf n) (fre n (a ||| b)) (ar n a)).bind _ = _
  rw [conn_eq h fre_sb, Option.bind_some]
  show (fX2_connected (gridOf n) (fre n (a ||| b)) (ar n b)).bind _ = _
  rw [conn_eq h fre_sb, Option.bind_some]
  rfl
theorem GR.okn (h : GR n rule mv ps pr c0 c1 w b0 b1 g f) : okN n := h.1
theorem GR.grid (h : GR n rule mv ps pr c0 c1 w b0 b1 g f) : g = gridOf n := h.2.1
theorem GR.mvl (h : GR n rule mv ps pr c0 c1 w b0 b1 g f) : mv ≤ 120 := h.2.2.2.1
theorem GR.f0 (h : GR n rule mv ps pr c0 c1 w b0 b1 g f) : f 0 = nL n := h.2.2.2.2.2.2.2.2.2.1
theorem GR.f3 (h : GR n rule mv ps pr c0 c1 w b0 b1 g f) : f 3 = nL mv := h.2.2.2.2.2.2.2.2.2.2.2.2.1
theorem sOf_or' {c : Nat} (hc : c < 2) : sOf b0 b1 mv c ||| sOf b0 b1 mv (1 - c) = b0 mv ||| b1 mv := by
  rcases (show c = 0 ∨ c = 1 by omega) with e | e
  · subst e; rfl
  · subst e; exact Int64.or_comm _ _
theorem enc_sb {a b : Int64} (h : okN n) : sb (enc n a b) (fre n (a ||| b)) := sb_trans (sb_andl _ _) (cl_sb h fre_sb)
theorem areaOf_eq (h : GR n rule mv ps pr c0 c1 w b0 b1 g f) {c : Nat} (hc : c < 2) : fX0_areaOf w g (nI c) = some (nI (cn (sOf b0 b1 mv c) 49 + cn (enc n (sOf b0 b1 mv c) (sOf b0 b1 mv (1 - c))) 49)) := by
  have hn := h.okn
  have hp := h.pos hc
  unfold fX0_areaOf
  rw [other_nI hc, h.wc hc, h.wc (c := 1 - c) (by omega), h.grid, enc_eq hn, Option.bind_some, bc49 hn hp.1, bc49 hn (sb_trans (enc_sb hn) fre_sb), nI_add]
theorem free_eq (h : GR n rule mv ps pr c0 c1 w b0 b1 g f) : ((b0 mv ||| b1 mv) ^^^ (-1)) &&& (shlL 1 (nI (n * n)) - 1) = fre n (b0 mv ||| b1 mv) := by
  have := all_eq h.okn
  rw [nI_mul] at this
  rw [this, Int64.and_comm]
  rfl
theorem partAt_eq (h : GR n rule mv ps pr c0 c1 w b0 b1 g f) {p : Int64} (hp : sb p (fre n (b0 mv ||| b1 mv))) : fX8_partAt f p = some (cl n (fre n (b0 mv ||| b1 mv)) p) := by
  unfold fX8_partAt
  rw [points_eq h.f0, Option.bind_some, if_pos (by decide), h.s0, Option.bind_some, h.s1, Option.bind_some, rows_eq h.f0, free_eq h, grown_eq h.okn fre_sb hp, Option.bind_some]
def aval (n : Nat) (a o r : Int64) : Nat := if (ar n r &&& (r ^^^ (-1))) &&& a = 0 then 0 else if (ar n r &&& (r ^^^ (-1))) &&& o = 0 then cn r 49 else 0
theorem area_loop (h : GR n rule mv ps pr c0 c1 w b0 b1 g f) {c : Nat} (hc : c < 2) : ∀ (d fu s : Nat) (x : Int64), d + 1 ≤ fu → sb x (fre n (b0 mv ||| b1 mv)) → cn x 49 ≤ d →
    fX8_area_40 f (nI c) fu (nI n) (nI s) x = some (nI (s + gsum n (fre n (b0 mv ||| b1 mv)) (aval n (sOf b0 b1 mv c) (sOf b0 b1 mv (1 - c))) d x)) := by
  have hn := h.okn
  intro d
  induction d with
  | zero =>
    intro fu s x hf hx hcx
    obtain ⟨fu, rfl⟩ : ∃ f, fu = f + 1 := ⟨fu - 1, by omega⟩
    have x0 : x = 0 := by
      apply Classical.byContradiction
      intro q
      have := cn_pos hn (sb_trans hx fre_sb) q
      omega
    unfold fX8_area_40
    rw [if_pos x0]
    rfl
  | succ d ih =>
    intro fu s x hf hx hcx
    obtain ⟨fu, rfl⟩ : ∃ f, fu = f + 1 := ⟨fu - 1, by omega⟩
    unfold fX8_area_40 gsum
    by_cases x0 : x = 0
    · rw [if_pos x0, if_pos x0]
      rfl
    · have hd := gsum_dec hn fre_sb hx x0
      have hcs : sb (cl n (fre n (b0 mv ||| b1 mv)) (low x)) (mA n) := sb_trans (cl_sb hn fre_sb) fre_sb
      rw [if_neg x0, if_neg x0, low_eq, partAt_eq h (sb_trans (low_sb x) hx), Option.bind_some, near_eq hn hcs, Option.bind_some, h.sc hc, Option.bind_some, other_nI hc, h.sc (c := 1 - c) (by omega), Option.bind_some, bits_eq, Option.bind_some]
      have hi := ih fu
      unfold aval
      generalize cl n (fre n (b0 mv ||| b1 mv)) (low x) = r at hd ⊢
      by_cases q1 : (ar n r &&& (r ^^^ (-1))) &&& sOf b0 b1 mv c = 0
      · rw [if_pos q1, if_pos q1, Int32.add_zero, Nat.zero_add]
        exact hi s _ (by omega) (sb_trans (sb_andl _ _) hx) (by omega)
      · rw [if_neg q1, if_neg q1]
        by_cases q2 : (ar n r &&& (r ^^^ (-1))) &&& sOf b0 b1 mv (1 - c) = 0
        · rw [if_pos q2, if_pos q2, nI_add]
          have := hi (s + cn r 49) (x &&& (r ^^^ (-1))) (by omega) (sb_trans (sb_andl _ _) hx) (by omega)
          rw [Nat.add_assoc] at this
          exact this
        · rw [if_neg q2, if_neg q2, Int32.add_zero, Nat.zero_add]
          exact hi s _ (by omega) (sb_trans (sb_andl _ _) hx) (by omega)
theorem atom_meet (h : okN n) {F c : Int64} {e : Nat} (hF : sb F (mA n)) (hc : sb c (mA n)) (hd : F &&& c = 0) (he : tb F e = true) : (ar n (cl n F (pt e)) &&& (cl n F (pt e) ^^^ (-1))) &&& c = 0 ↔ ¬ tb (cl n F (ar n c)) e = true := by
  have hr := cl_clo (S := pt e) h hF
  have hself := atom_self h hF he
  have he64 := tb_lt he
  have e1 : (ar n (cl n F (pt e)) &&& (cl n F (pt e) ^^^ (-1))) &&& c = ar n (cl n F (pt e)) &&& c := by
    apply m_ext
    intro i
    rw [m_and, m_dif, m_and]
    exact ⟨fun q => ⟨q.1.1, q.2⟩, fun q => ⟨⟨q.1, fun r => m_and0.mp hd i (hr.1 i r) q.2⟩, q.2⟩⟩
  rw [e1, ar_and0 h (sb_trans hr.1 hF) hc]
  constructor
  · intro q r
    exact m_and0.mp (clo_free h hF hc hr q) e hself r
  · intro q
    have h2 := atom_out h hF (cl_clo (S := ar n c) h hF) he64 (by
      cases z : tb (cl n F (ar n c)) e with
      | false => rfl
      | true => exact absurd z q)
    rw [m_and0]
    intro i hi r
    exact m_and0.mp h2 i hi (cl_seed h hF i (m_and.mpr ⟨r, hr.1 i hi⟩))
theorem area_eq (h : GR n rule mv ps pr c0 c1 w b0 b1 g f) {c : Nat} (hc : c < 2) : fX8_area f (nI c) = some (nI (cn (sOf b0 b1 mv c) 49 + cn (enc n (sOf b0 b1 mv c) (sOf b0 b1 mv (1 - c))) 49)) := by
  have hn := h.okn
  have hp := h.pos hc
  unfold fX8_area bnd
  dsimp only
  rw [if_pos (by decide), h.sc hc, Option.bind_some, bits_eq, Option.bind_some, h.s0, Option.bind_some, h.s1, Option.bind_some, points_eq h.f0, Option.bind_some, rows_eq h.f0, free_eq h]
  rw [area_loop h hc 49 5000 _ _ (by omega) (sb_refl _) (cn_le _ _)]
  have hor := sOf_or' (b0 := b0) (b1 := b1) (mv := mv) hc
  have hE : sb (enc n (sOf b0 b1 mv c) (sOf b0 b1 mv (1 - c))) (fre n (b0 mv ||| b1 mv)) := by
    have := enc_sb (a := sOf b0 b1 mv c) (b := sOf b0 b1 mv (1 - c)) hn
    rw [hor] at this
    exact this
  have hd1 : fre n (b0 mv ||| b1 mv) &&& sOf b0 b1 mv c = 0 := by
    rw [m_and0]
    intro i hi q
    rw [m_fre, ← hor, m_or] at hi
    exact hi.2 (.inl q)
  have hd2 : fre n (b0 mv ||| b1 mv) &&& sOf b0 b1 mv (1 - c) = 0 := by
    rw [m_and0]
    intro i hi q
    rw [m_fre, ← hor, m_or] at hi
    exact hi.2 (.inr q)
  have hEc : clo n (fre n (b0 mv ||| b1 mv)) (enc n (sOf b0 b1 mv c) (sOf b0 b1 mv (1 - c))) := by
    unfold enc
    rw [hor]
    have h1 := cl_clo (S := ar n (sOf b0 b1 mv c)) hn (fre_sb (n := n) (a := b0 mv ||| b1 mv))
    have h2 := clo_rest hn (fre_sb (n := n) (a := b0 mv ||| b1 mv)) (cl_clo (S := ar n (sOf b0 b1 mv (1 - c))) hn (fre_sb (n := n) (a := b0 mv ||| b1 mv)))
    have h3 := clo_and hn fre_sb h1 h2
    have e : cl n (fre n (b0 mv ||| b1 mv)) (ar n (sOf b0 b1 mv c)) &&& (fre n (b0 mv ||| b1 mv) &&& (cl n (fre n (b0 mv ||| b1 mv)) (ar n (sOf b0 b1 mv (1 - c))) ^^^ (-1))) = cl n (fre n (b0 mv ||| b1 mv)) (ar n (sOf b0 b1 mv c)) &&& (cl n (fre n (b0 mv ||| b1 mv)) (ar n (sOf b0 b1 mv (1 - c))) ^^^ (-1)) := by
      apply m_ext
      intro i
      rw [m_and, m_dif, m_dif]
      exact ⟨fun q => ⟨q.1, q.2.2⟩, fun q => ⟨q.1, h1.1 i q.1, q.2⟩⟩
    rw [e] at h3
    exact h3
  have hg := gsum_cn (E := enc n (sOf b0 b1 mv c) (sOf b0 b1 mv (1 - c))) hn (fre_sb (n := n) (a := b0 mv ||| b1 mv)) (aval n (sOf b0 b1 mv c) (sOf b0 b1 mv (1 - c))) (by
    intro e he
    have m1 := atom_meet hn fre_sb hp.1 hd1 he
    have m2 := atom_meet hn fre_sb hp.2.1 hd2 he
    have he64 := tb_lt he
    have hEe : tb (enc n (sOf b0 b1 mv c) (sOf b0 b1 mv (1 - c))) e = true ↔ tb (cl n (fre n (b0 mv ||| b1 mv)) (ar n (sOf b0 b1 mv c))) e = true ∧ ¬ tb (cl n (fre n (b0 mv ||| b1 mv)) (ar n (sOf b0 b1 mv (1 - c)))) e = true := by
      unfold enc
      rw [hor, m_dif]
    have hout : ¬ tb (enc n (sOf b0 b1 mv c) (sOf b0 b1 mv (1 - c))) e = true → cl n (fre n (b0 mv ||| b1 mv)) (pt e) &&& enc n (sOf b0 b1 mv c) (sOf b0 b1 mv (1 - c)) = 0 := fun q => atom_out hn fre_sb hEc he64 (by
      cases z : tb (enc n (sOf b0 b1 mv c) (sOf b0 b1 mv (1 - c))) e with
      | false => rfl
      | true => exact absurd z q)
    unfold aval
    by_cases q1 : (ar n (cl n (fre n (b0 mv ||| b1 mv)) (pt e)) &&& (cl n (fre n (b0 mv ||| b1 mv)) (pt e) ^^^ (-1))) &&& sOf b0 b1 mv c = 0
    · rw [if_pos q1, hout (fun z => m1.mp q1 (hEe.mp z).1), cn_zero]
    · rw [if_neg q1]
      by_cases q2 : (ar n (cl n (fre n (b0 mv ||| b1 mv)) (pt e)) &&& (cl n (fre n (b0 mv ||| b1 mv)) (pt e) ^^^ (-1))) &&& sOf b0 b1 mv (1 - c) = 0
      · rw [if_pos q2]
        have : tb (enc n (sOf b0 b1 mv c) (sOf b0 b1 mv (1 - c))) e = true := hEe.mpr ⟨Classical.byContradiction (fun z => q1 (m1.mpr z)), m2.mp q2⟩
        rw [sb_eq (atom_in hn fre_sb hEc he64 this)]
      · rw [if_neg q2, hout (fun z => q2 (m2.mpr (hEe.mp z).2)), cn_zero]) 49 (fre n (b0 mv ||| b1 mv)) clo_self (cn_le _ _)
  rw [hg]
  have : fre n (b0 mv ||| b1 mv) &&& enc n (sOf b0 b1 mv c) (sOf b0 b1 mv (1 - c)) = enc n (sOf b0 b1 mv c) (sOf b0 b1 mv (1 - c)) := by
    rw [Int64.and_comm]
    exact sb_eq hE
  rw [this]
end AREA
