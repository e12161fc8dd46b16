section AREA
variable {n rule mv ps pr c0 c1 : Nat} {w : GSt} {b0 b1 : Nat → Int64} {g : RSt}
def enc (n : Nat) (a b : Int64) : Int64 := cl n (fre n (a ||| b)) (ar n a) &&& (cl n (fre n (a ||| b)) (ar n b) ^^^ (-1))
theorem enc_eq (h : okN n) (a b : Int64) : fX2_enclosed (gridOf n) a b = some (enc n a b) := by
  unfold fX2_enclosed bnd
  dsimp only
  show (fX2_connected (gridOf n) (fre n (a ||| b)) (ar n a)).bind _ = _
  rw [conn_eq h fre_sb, Option.bind_some]
  show (fX2_connected (gridOf n) (fre n (a ||| b)) (ar n b)).bind _ = _
  rw [conn_eq h fre_sb, Option.bind_some]
  rfl
theorem GR.okn (h : GR n rule mv ps pr c0 c1 w b0 b1 g) : okN n := h.1
theorem GR.grid (h : GR n rule mv ps pr c0 c1 w b0 b1 g) : g = gridOf n := h.2.1
theorem GR.mvl (h : GR n rule mv ps pr c0 c1 w b0 b1 g) : mv ≤ 120 := h.2.2.2.1


theorem sOf_or' {c : Nat} (hc : c < 2) : sOf b0 b1 mv c ||| sOf b0 b1 mv (1 - c) = b0 mv ||| b1 mv := by
  rcases (show c = 0 ∨ c = 1 by omega) with e | e
  · subst e; rfl
  · subst e; exact Int64.or_comm _ _
theorem enc_sb {a b : Int64} (h : okN n) : sb (enc n a b) (fre n (a ||| b)) := sb_trans (sb_andl _ _) (cl_sb h fre_sb)
theorem areaOf_eq (h : GR n rule mv ps pr c0 c1 w b0 b1 g) {c : Nat} (hc : c < 2) : fX0_areaOf w g (nI c) = some (nI (cn (sOf b0 b1 mv c) 49 + cn (enc n (sOf b0 b1 mv c) (sOf b0 b1 mv (1 - c))) 49)) := by
  have hn := h.okn
  have hp := h.pos hc
  unfold fX0_areaOf
  rw [other_nI hc, h.wc hc, h.wc (c := 1 - c) (by omega), h.grid, enc_eq hn, Option.bind_some, bc49 hn hp.1, bc49 hn (sb_trans (enc_sb hn) fre_sb), nI_add]
theorem free_eq (h : GR n rule mv ps pr c0 c1 w b0 b1 g) : ((b0 mv ||| b1 mv) ^^^ (-1)) &&& (shlL 1 (nI (n * n)) - 1) = fre n (b0 mv ||| b1 mv) := by
  have := all_eq h.okn
  rw [nI_mul] at this
  rw [this, Int64.and_comm]
  rfl
def aval (n : Nat) (a o r : Int64) : Nat := if (ar n r &&& (r ^^^ (-1))) &&& a = 0 then 0 else if (ar n r &&& (r ^^^ (-1))) &&& o = 0 then cn r 49 else 0
theorem atom_meet (h : okN n) {F c : Int64} {e : Nat} (hF : sb F (mA n)) (hc : sb c (mA n)) (hd : F &&& c = 0) (he : tb F e = true) : (ar n (cl n F (pt e)) &&& (cl n F (pt e) ^^^ (-1))) &&& c = 0 ↔ ¬ tb (cl n F (ar n c)) e = true := by
  have hr := cl_clo (S := pt e) h hF
  have hself := atom_self h hF he
  have he64 := tb_lt he
  have e1 : (ar n (cl n F (pt e)) &&& (cl n F (pt e) ^^^ (-1))) &&& c = ar n (cl n F (pt e)) &&& c := by
    apply m_ext
    intro i
    rw [m_and, m_dif, m_and]
    exact ⟨fun q => ⟨q.1.1, q.2⟩, fun q => ⟨⟨q.1, fun r => m_and0.mp hd i (hr.1 i r) q.2⟩, q.2⟩⟩
  rw [e1, ar_and0 h (sb_trans hr.1 hF) hc]
  constructor
  · intro q r
    exact m_and0.mp (clo_free h hF hc hr q) e hself r
  · intro q
    have h2 := atom_out h hF (cl_clo (S := ar n c) h hF) he64 (by
      cases z : tb (cl n F (ar n c)) e with
      | false => rfl
      | true => exact absurd z q)
    rw [m_and0]
    intro i hi r
    exact m_and0.mp h2 i hi (cl_seed h hF i (m_and.mpr ⟨r, hr.1 i hi⟩))
end AREA
