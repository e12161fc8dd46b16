section BESIDE
variable {n rule mv ps pr c0 c1 : Nat} {w : GSt} {b0 b1 : Nat → Int64} {g : RSt}
theorem lib_eye (h : GR n rule mv ps pr c0 c1 w b0 b1 g) {c k : Nat} {S : Int64} (hc : c < 2) (q : tb (fvO n (b0 mv ||| b1 mv) (cl n (sOf b0 b1 mv c) S)) k = true) : eyeE n (b0 mv) (b1 mv) k = eyeV n (sOf b0 b1 mv c) (sOf b0 b1 mv (1 - c)) k := by
  have hp := h.pos hc
  have hn := h.okn
  have hs := cl_sb (S := S) hn hp.1
  have hz : eyeV n (sOf b0 b1 mv (1 - c)) (sOf b0 b1 mv c) k = 0 := by
    have hno : ¬ tb (eyS n (sOf b0 b1 mv (1 - c)) (sOf b0 b1 mv c)) k = true := by
      intro r
      rw [m_eyS hn] at r
      have hk : k < n * n := (sbA hn).mp fre_sb k r.1
      unfold fvO at q
      rw [m_dif, m_and, tb_ar hn (sb_trans hs hp.1)] at q
      obtain ⟨⟨⟨j, j1, j2⟩, _⟩, _⟩ := q
      have h1 := r.2 j ((tb_arpt hn hk).mpr (adj_comm.mp j1))
      exact m_and0.mp hp.2.2.1 j (hs j j2) h1
    unfold eyeV
    rw [if_neg (fun z => hno (((fE_ex hn _ _).2 k).mp z).1), if_neg hno]
  unfold eyeE
  rcases (show c = 0 ∨ c = 1 by omega) with e | e
  · subst e
    have hz' : eyeV n (b1 mv) (b0 mv) k = 0 := hz
    rw [hz']
    show (if 0 < eyeV n (b0 mv) (b1 mv) k then eyeV n (b0 mv) (b1 mv) k else 0) = eyeV n (b0 mv) (b1 mv) k
    split <;> omega
  · subst e
    have hz' : eyeV n (b0 mv) (b1 mv) k = 0 := hz
    rw [hz', if_neg (by decide)]
    rfl
theorem trueEyesAt_eq (h : GR n rule mv ps pr c0 c1 w b0 b1 g) {k c : Nat} (hk : k < n * n) (hc : c < 2) (q : tb (sOf b0 b1 mv c) k = true) : fX0_trueEyesAt w g (nI k) = some (nI (cn (fvO n (b0 mv ||| b1 mv) (cl n (sOf b0 b1 mv c) (pt k)) &&& eyX n (sOf b0 b1 mv c) (sOf b0 b1 mv (1 - c)) 2) 49)) := by
  have hk64 : k < 64 := by have := (okN_sq h.okn).2; omega
  unfold fX0_trueEyesAt
  rw [col_stone h hk64 hc q, if_neg (nI_ne_m1 (by omega)), libertiesAt_c h hk hc q, Option.bind_some, trueEyes_eq h hc, Option.bind_some, bc49 h.okn (sb_trans (sb_andl _ _) fvO_sb)]
theorem trueEyesAt_free (h : GR n rule mv ps pr c0 c1 w b0 b1 g) {k : Nat} (hk : k < n * n) (q : ¬ tb (b0 mv ||| b1 mv) k = true) : fX0_trueEyesAt w g (nI k) = some 0 := by
  have hk64 : k < 64 := by have := (okN_sq h.okn).2; omega
  unfold fX0_trueEyesAt
  rw [col_free h hk64 q, if_pos rfl]
end BESIDE
