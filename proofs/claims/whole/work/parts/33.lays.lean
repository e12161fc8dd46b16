theorem m_and {a b : Int64} {i : Nat} : tb (a &&& b) i = true ↔ tb a i = true ∧ tb b i = true := by rw [tb_and, Bool.and_eq_true]
theorem m_or {a b : Int64} {i : Nat} : tb (a ||| b) i = true ↔ tb a i = true ∨ tb b i = true := by rw [tb_or, Bool.or_eq_true]
theorem m_not {a : Int64} {i : Nat} : tb (a ^^^ (-1)) i = true ↔ i < 64 ∧ ¬ tb a i = true := by
  constructor
  · intro q
    have hl := tb_lt q
    rw [tb_not _ hl] at q
    refine ⟨hl, ?_⟩
    intro r
    rw [r] at q
    cases q
  · intro ⟨hl, q⟩
    rw [tb_not _ hl]
    cases e : tb a i with
    | false => rfl
    | true => exact absurd e q
theorem m_dif {a b : Int64} {i : Nat} : tb (a &&& (b ^^^ (-1))) i = true ↔ tb a i = true ∧ ¬ tb b i = true := by
  rw [m_and, m_not]
  exact ⟨fun ⟨p, _, q⟩ => ⟨p, q⟩, fun ⟨p, q⟩ => ⟨p, tb_lt p, q⟩⟩
theorem m_and0 {a b : Int64} : a &&& b = 0 ↔ ∀ i, tb a i = true → ¬ tb b i = true := by
  rw [and0]
  exact ⟨fun h i q r => by rw [h i q] at r; cases r, fun h i q => by
    cases e : tb b i with
    | false => rfl
    | true => exact absurd e (h i q)⟩
theorem m_ext {a b : Int64} (h : ∀ i, tb a i = true ↔ tb b i = true) : a = b := sb_anti (fun i => (h i).mp) (fun i => (h i).mpr)
theorem m_pt {k : Nat} (hk : k < 64) {i : Nat} : tb (pt k) i = true ↔ i = k := by rw [tb_pt hk, decide_eq_true_eq]
theorem pt_mA {n k : Nat} (h : okN n) (hk : k < n * n) : sb (pt k) (mA n) := by
  have := (okN_sq h).2
  rw [pt_sb (by omega), tb_mA h]
  exact decide_eq_true hk
/-- the points of the board that a leaves free -/
def fre (n : Nat) (a : Int64) : Int64 := mA n &&& (a ^^^ (-1))
theorem m_fre {n : Nat} {a : Int64} {i : Nat} : tb (fre n a) i = true ↔ tb (mA n) i = true ∧ ¬ tb a i = true := m_dif
theorem fre_sb {n : Nat} {a : Int64} : sb (fre n a) (mA n) := sb_andl _ _
def lb (n : Nat) (own oth S : Int64) : Int64 := (ar n (cl n own S) &&& mA n) &&& ((own ||| oth) ^^^ (-1))
theorem lib_eq {n : Nat} (h : okN n) {own oth S : Int64} (ho : sb own (mA n)) : fX2_liberties (gridOf n) own oth S = some (lb n own oth S) := by
  unfold fX2_liberties
  rw [conn_eq h ho, Option.bind_some]
  rfl
theorem mlib_eq {n : Nat} (h : okN n) {g occ : Int64} (hg : sb g (mA n)) (ho : sb g occ) : fX8_liberties (nI n) g occ = some ((ar n g &&& mA n) &&& (occ ^^^ (-1))) := by
  unfold fX8_liberties
  rw [near_eq h hg, Option.bind_some]
  congr 1
  apply m_ext
  intro i
  rw [m_dif, m_dif, m_dif, m_and]
  constructor
  · intro ⟨⟨q1, q2⟩, q3⟩
    exact ⟨⟨q1, ar_all h g i q1⟩, q3⟩
  · intro ⟨⟨q1, q2⟩, q3⟩
    exact ⟨⟨q1, fun r => q3 (ho i r)⟩, q3⟩
def tk (n : Nat) (a b p : Int64) : Int64 := b &&& (cl n b (ar n (fre n ((a ||| b) ||| p))) ^^^ (-1))
theorem taken_eq {n : Nat} (h : okN n) {a b p : Int64} (hb : sb b (mA n)) : fX2_taken (gridOf n) a b p = some (tk n a b p) := by
  unfold fX2_taken bnd
  show (fX2_connected (gridOf n) b (ar n (fre n ((a ||| b) ||| p)))).bind _ = _
  rw [conn_eq h hb, Option.bind_some]
  rfl
/-- each group of a has a liberty -/
def live (n : Nat) (a b : Int64) : Prop := sb a (cl n a (ar n (fre n (a ||| b))))
def posOK (n : Nat) (a b : Int64) : Prop := sb a (mA n) ∧ sb b (mA n) ∧ a &&& b = 0 ∧ live n a b ∧ live n b a
theorem posOK_sym {n : Nat} {a b : Int64} (h : posOK n a b) : posOK n b a := ⟨h.2.1, h.1, and0_comm.mp h.2.2.1, h.2.2.2.2, h.2.2.2.1⟩
/-- a closed part without a free point beside it -/
theorem clo_free {n : Nat} (h : okN n) {W F R : Int64} (hW : sb W (mA n)) (hF : sb F (mA n)) (hR : clo n W R) (q : R &&& ar n F = 0) : R &&& cl n W (ar n F) = 0 := by
  have hs : sb (cl n W (ar n F)) (W &&& (R ^^^ (-1))) := by
    apply cl_least h hW (clo_rest h hW hR)
    intro i hi
    rw [m_and] at hi
    rw [m_dif]
    exact ⟨hi.2, fun r => m_and0.mp q i r hi.1⟩
  rw [m_and0]
  intro i hi r
  have := hs i r
  rw [m_dif] at this
  exact this.2 hi
theorem live_free {n : Nat} (h : okN n) {a b R : Int64} (ha : sb a (mA n)) (hl : live n a b) (hR : clo n a R) (q : R &&& ar n (fre n (a ||| b)) = 0) : R = 0 := by
  have := clo_free h ha fre_sb hR q
  apply sb_to0
  intro i hi
  exact absurd (hl i (hR.1 i hi)) (m_and0.mp this i hi)
theorem ar_and0 {n : Nat} (h : okN n) {a b : Int64} (ha : sb a (mA n)) (hb : sb b (mA n)) : ar n a &&& b = 0 ↔ a &&& ar n b = 0 := by
  constructor
  · intro q
    exact and0_comm.mp (ar_sym h hb ha (and0_comm.mp q))
  · intro q
    exact ar_sym h ha hb q
section LAYS
variable {n k : Nat} {a b : Int64}
theorem lay_new (h : okN n) (hk : k < n * n) (hp : posOK n a b) (hka : ¬ tb a k = true) (hkb : ¬ tb b k = true) :
    live n (b &&& (tk n a b (pt k) ^^^ (-1))) (a ||| pt k) ∧ (¬ lb n (a ||| pt k) (b &&& (tk n a b (pt k) ^^^ (-1))) (pt k) = 0 → posOK n (a ||| pt k) (b &&& (tk n a b (pt k) ^^^ (-1)))) := by
  obtain ⟨ha, hb, hd, la, lb'⟩ := hp
  have hk64 : k < 64 := by have := (okN_sq h).2; omega
  have hpA : sb (pt k) (mA n) := pt_mA h hk
  have ha' : sb (a ||| pt k) (mA n) := sb_or ha hpA
  have hF := fre_sb (n := n) (a := ((a ||| b) ||| pt k))
  -- what is left of b is L
  have eL : b &&& (tk n a b (pt k) ^^^ (-1)) = cl n b (ar n (fre n ((a ||| b) ||| pt k))) := by
    apply m_ext
    intro i
    unfold tk
    rw [m_dif, m_dif]
    constructor
    · intro ⟨q1, q2⟩
      apply Classical.byContradiction
      intro r
      exact q2 ⟨q1, r⟩
    · intro q
      exact ⟨cl_sb h hb i q, fun r => r.2 q⟩
  rw [eL]
  generalize hL : cl n b (ar n (fre n ((a ||| b) ||| pt k))) = L
  have hLb : sb L b := by rw [← hL]; exact cl_sb h hb
  have hLc : clo n b L := by rw [← hL]; exact cl_clo h hb
  have hLA := sb_trans hLb hb
  have hff : sb (fre n ((a ||| b) ||| pt k)) (fre n ((a ||| pt k) ||| L)) := by
    intro i hi
    rw [m_fre] at hi ⊢
    refine ⟨hi.1, fun r => hi.2 ?_⟩
    rw [m_or, m_or] at r ⊢
    rcases r with (r | r) | r
    · exact .inl (.inl r)
    · exact .inr r
    · exact .inl (.inr (hLb i r))
  have hff' : sb (fre n ((a ||| b) ||| pt k)) (fre n (L ||| (a ||| pt k))) := by
    rw [Int64.or_comm L]; exact hff
  have liveL : live n L (a ||| pt k) := by
    unfold live
    intro i hi
    rw [← hL] at hi
    have hY := cl_clo (S := ar n (fre n (L ||| (a ||| pt k)))) h hLA
    refine cl_least h hb ⟨sb_trans hY.1 hLb, ?_⟩ ?_ i hi
    · intro j hj
      rw [m_and] at hj
      have hjL : tb L j = true := hLc.2 j (m_and.mpr ⟨ar_mono h hY.1 hLA j hj.1, hj.2⟩)
      exact hY.2 j (m_and.mpr ⟨hj.1, hjL⟩)
    · intro j hj
      rw [m_and] at hj
      have hjL : tb L j = true := by
        rw [← hL]
        exact cl_seed h hb j (m_and.mpr hj)
      exact cl_seed h hLA j (m_and.mpr ⟨ar_mono h hff' fre_sb j hj.1, hjL⟩)
  refine ⟨liveL, ?_⟩
  intro hne
  refine ⟨ha', hLA, ?_, ?_, liveL⟩
  · rw [m_and0]
    intro i hi r
    rw [m_or, m_pt hk64] at hi
    rcases hi with hi | hi
    · exact m_and0.mp hd i hi (hLb i r)
    · subst hi
      exact hkb (hLb i r)
  · -- the groups of the layer
    unfold live
    generalize hY : cl n (a ||| pt k) (ar n (fre n ((a ||| pt k) ||| L))) = Y
    have hYc : clo n (a ||| pt k) Y := by rw [← hY]; exact cl_clo h ha'
    have hRc := clo_rest h ha' hYc
    have hRf : ((a ||| pt k) &&& (Y ^^^ (-1))) &&& ar n (fre n ((a ||| pt k) ||| L)) = 0 := by
      rw [m_and0]
      intro i hi r
      rw [m_dif] at hi
      apply hi.2
      rw [← hY]
      exact cl_seed h ha' i (m_and.mpr ⟨r, hi.1⟩)
    generalize hR : (a ||| pt k) &&& (Y ^^^ (-1)) = R at hRc hRf
    have hRA : sb R (mA n) := sb_trans hRc.1 ha'
    have R0 : R = 0 := by
      by_cases c : tb R k = true
      · exfalso
        apply hne
        have h1 := atom_in h ha' hRc hk64 c
        have h2 : ar n R &&& fre n ((a ||| pt k) ||| L) = 0 := (ar_and0 h hRA fre_sb).mpr hRf
        unfold lb
        apply sb_to0
        intro i hi
        rw [m_dif, m_and] at hi
        exact absurd (m_fre.mpr ⟨hi.1.2, hi.2⟩) (m_and0.mp h2 i (ar_mono h h1 hRA i hi.1.1))
      · have hRa : sb R a := by
          intro i hi
          have := hRc.1 i hi
          rw [m_or, m_pt hk64] at this
          rcases this with q | q
          · exact q
          · subst q
            exact absurd hi c
        apply live_free h ha la
        · refine ⟨hRa, ?_⟩
          intro i hi
          rw [m_and] at hi
          exact hRc.2 i (m_and.mpr ⟨hi.1, m_or.mpr (.inl hi.2)⟩)
        · rw [m_and0]
          intro i hi r
          rw [tb_ar h fre_sb] at r
          obtain ⟨j, j1, j2⟩ := r
          rw [m_fre, m_or] at j2
          by_cases d : j = k
          · subst d
            have hkY : tb (a ||| pt j) j = true := m_or.mpr (.inr (pt_self hk64))
            have hkR : tb R j = true := by
              apply hRc.2 j
              rw [m_and, tb_ar h hRA]
              exact ⟨⟨i, adj_comm.mp j1, hi⟩, hkY⟩
            exact c hkR
          · refine m_and0.mp hRf i hi ?_
            rw [tb_ar h fre_sb]
            refine ⟨j, j1, ?_⟩
            rw [m_fre, m_or, m_or, m_pt hk64]
            refine ⟨j2.1, ?_⟩
            rintro ((r | r) | r)
            · exact j2.2 (.inl r)
            · exact d r
            · exact j2.2 (.inr (hLb j r))
    intro i hi
    apply Classical.byContradiction
    intro r
    have : tb R i = true := by rw [← hR, m_dif]; exact ⟨hi, r⟩
    rw [R0, tb_zero] at this
    cases this
end LAYS
