section LAYS
variable {n k : Nat} {a b : Int64}
theorem lay_new (h : okN n) (hk : k < n * n) (hp : posOK n a b) (hka : ¬ tb a k = true) (hkb : ¬ tb b k = true) :
    live n (b &&& (tk n a b (pt k) ^^^ (-1))) (a ||| pt k) ∧ (¬ lb n (a ||| pt k) (b &&& (tk n a b (pt k) ^^^ (-1))) (pt k) = 0 → posOK n (a ||| pt k) (b &&& (tk n a b (pt k) ^^^ (-1)))) := by
  obtain ⟨ha, hb, hd, la, lb'⟩ := hp
  have hk64 : k < 64 := by have := (okN_sq h).2; omega
  have hpA : sb (pt k) (mA n) := pt_mA h hk
  have ha' : sb (a ||| pt k) (mA n) := sb_or ha hpA
  have hF := fre_sb (n := n) (a := ((a ||| b) ||| pt k))
  -- what is left of b is L
  have eL : b &&& (tk n a b (pt k) ^^^ (-1)) = cl n b (ar n (fre n ((a ||| b) ||| pt k))) := by
    apply m_ext
    intro i
    unfold tk
    rw [m_dif, m_dif]
    constructor
    · intro ⟨q1, q2⟩
      apply Classical.byContradiction
      intro r
      exact q2 ⟨q1, r⟩
    · intro q
      exact ⟨cl_sb h hb i q, fun r => r.2 q⟩
  rw [eL]
  generalize hL : cl n b (ar n (fre n ((a ||| b) ||| pt k))) = L
  have hLb : sb L b := by rw [← hL]; exact cl_sb h hb
  have hLc : clo n b L := by rw [← hL]; exact cl_clo h hb
  have hLA := sb_trans hLb hb
  have hff : sb (fre n ((a ||| b) ||| pt k)) (fre n ((a ||| pt k) ||| L)) := by
    intro i hi
    rw [m_fre] at hi ⊢
    refine ⟨hi.1, fun r => hi.2 ?_⟩
    rw [m_or, m_or] at r ⊢
    rcases r with (r | r) | r
    · exact .inl (.inl r)
    · exact .inr r
    · exact .inl (.inr (hLb i r))
  have hff' : sb (fre n ((a ||| b) ||| pt k)) (fre n (L ||| (a ||| pt k))) := by
    rw [Int64.or_comm L]; exact hff
  have liveL : live n L (a ||| pt k) := by
    unfold live
    intro i hi
    rw [← hL] at hi
    have hY := cl_clo (S := ar n (fre n (L ||| (a ||| pt k)))) h hLA
    refine cl_least h hb ⟨sb_trans hY.1 hLb, ?_⟩ ?_ i hi
    · intro j hj
      rw [m_and] at hj
      have hjL : tb L j = true := hLc.2 j (m_and.mpr ⟨ar_mono h hY.1 hLA j hj.1, hj.2⟩)
      exact hY.2 j (m_and.mpr ⟨hj.1, hjL⟩)
    · intro j hj
      rw [m_and] at hj
      have hjL : tb L j = true := by
        rw [← hL]
        exact cl_seed h hb j (m_and.mpr hj)
      exact cl_seed h hLA j (m_and.mpr ⟨ar_mono h hff' fre_sb j hj.1, hjL⟩)
  refine ⟨liveL, ?_⟩
  intro hne
  refine ⟨ha', hLA, ?_, ?_, liveL⟩
  · rw [m_and0]
    intro i hi r
    rw [m_or, m_pt hk64] at hi
    rcases hi with hi | hi
    · exact m_and0.mp hd i hi (hLb i r)
    · subst hi
      exact hkb (hLb i r)
  · -- the groups of the layer
    unfold live
    generalize hY : cl n (a ||| pt k) (ar n (fre n ((a ||| pt k) ||| L))) = Y
    have hYc : clo n (a ||| pt k) Y := by rw [← hY]; exact cl_clo h ha'
    have hRc := clo_rest h ha' hYc
    have hRf : ((a ||| pt k) &&& (Y ^^^ (-1))) &&& ar n (fre n ((a ||| pt k) ||| L)) = 0 := by
      rw [m_and0]
      intro i hi r
      rw [m_dif] at hi
      apply hi.2
      rw [← hY]
      exact cl_seed h ha' i (m_and.mpr ⟨r, hi.1⟩)
    generalize hR : (a ||| pt k) &&& (Y ^^^ (-1)) = R at hRc hRf
    have hRA : sb R (mA n) := sb_trans hRc.1 ha'
    have R0 : R = 0 := by
      by_cases c : tb R k = true
      · exfalso
        apply hne
        have h1 := atom_in h ha' hRc hk64 c
        have h2 : ar n R &&& fre n ((a ||| pt k) ||| L) = 0 := (ar_and0 h hRA fre_sb).mpr hRf
        unfold lb
        apply sb_to0
        intro i hi
        rw [m_dif, m_and] at hi
        exact absurd (m_fre.mpr ⟨hi.1.2, hi.2⟩) (m_and0.mp h2 i (ar_mono h h1 hRA i hi.1.1))
      · have hRa : sb R a := by
          intro i hi
          have := hRc.1 i hi
          rw [m_or, m_pt hk64] at this
          rcases this with q | q
          · exact q
          · subst q
            exact absurd hi c
        apply live_free h ha la
        · refine ⟨hRa, ?_⟩
          intro i hi
          rw [m_and] at hi
          exact hRc.2 i (m_and.mpr ⟨hi.1, m_or.mpr (.inl hi.2)⟩)
        · rw [m_and0]
          intro i hi r
          rw [tb_ar h fre_sb] at r
          obtain ⟨j, j1, j2⟩ := r
          rw [m_fre, m_or] at j2
          by_cases d : j = k
          · subst d
            have hkY : tb (a ||| pt j) j = true := m_or.mpr (.inr (pt_self hk64))
            have hkR : tb R j = true := by
              apply hRc.2 j
              rw [m_and, tb_ar h hRA]
              exact ⟨⟨i, adj_comm.mp j1, hi⟩, hkY⟩
            exact c hkR
          · refine m_and0.mp hRf i hi ?_
            rw [tb_ar h fre_sb]
            refine ⟨j, j1, ?_⟩
            rw [m_fre, m_or, m_or, m_pt hk64]
            refine ⟨j2.1, ?_⟩
            rintro ((r | r) | r)
            · exact j2.2 (.inl r)
            · exact d r
            · exact j2.2 (.inr (hLb j r))
    intro i hi
    apply Classical.byContradiction
    intro r
    have : tb R i = true := by rw [← hR, m_dif]; exact ⟨hi, r⟩
    rw [R0, tb_zero] at this
    cases this
end LAYS
