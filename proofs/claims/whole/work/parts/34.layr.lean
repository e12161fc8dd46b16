abbrev MSt : Type := Int32 × Int32 × Int32 × Int64 × Int64 × Int32 × Int64 × Int32 × Int32 × Int32
theorem shl_pt (k : Nat) : shlL 1 (nI k) = pt k := rfl
theorem cn49 {n : Nat} (h : okN n) {a : Int64} (ha : sb a (mA n)) : cn a 64 = cn a 49 := by
  have h1 := okN_sq h
  have := cn_top (x := a) (m := 49) (fun i q => by have := (sbA h).mp ha i q; omega) 15
  exact this
theorem bc49 {n : Nat} (h : okN n) {a : Int64} (ha : sb a (mA n)) : fJ13_bitCount_95d88 a = nI (cn a 49) := by rw [bc_eq, cn49 h ha]
theorem low_eq (x : Int64) : x &&& (-x) = low x := rfl
section LAYR
variable {n k : Nat} {a b : Int64}
theorem lays_loop (h : okN n) (hk : k < n * n) (hp : posOK n a b) (hka : ¬ tb a k = true) (hkb : ¬ tb b k = true) (w : MSt) :
    ∀ (d fu : Nat) (x : Int64) (C : Int64) (y : MSt), cn x 49 ≤ d → d + 1 ≤ fu → clo n b C →
      x = (ar n (pt k) &&& b) &&& (C ^^^ (-1)) → y.2.2.2.1 = a ||| pt k → y.2.2.2.2.1 = b &&& ((tk n a b (pt k) &&& C) ^^^ (-1)) → y.2.2.2.2.2.1 = nI (cn (tk n a b (pt k) &&& C) 49) →
      fX8_lays_34 w (nI n) a b (nI k) fu x y = some ((if lb n (a ||| pt k) (b &&& (tk n a b (pt k) ^^^ (-1))) (pt k) = 0 then false else true), (y.1, y.2.1, y.2.2.1, a ||| pt k, b &&& (tk n a b (pt k) ^^^ (-1)), nI (cn (tk n a b (pt k)) 49), lb n (a ||| pt k) (b &&& (tk n a b (pt k) ^^^ (-1))) (pt k), y.2.2.2.2.2.2.2.1, y.2.2.2.2.2.2.2.2.1, y.2.2.2.2.2.2.2.2.2)) := by
  obtain ⟨ha, hb, hd, la, lb'⟩ := hp
  have hsq := okN_sq h
  have hk64 : k < 64 := by omega
  have hpA : sb (pt k) (mA n) := pt_mA h hk
  have ha' : sb (a ||| pt k) (mA n) := sb_or ha hpA
  have hF := fre_sb (n := n) (a := ((a ||| b) ||| pt k))
  have hLc := cl_clo (S := ar n (fre n ((a ||| b) ||| pt k))) h hb
  have hTc : clo n b (tk n a b (pt k)) := clo_rest h hb hLc
  have hTL : ∀ i, tb b i = true → (tb (tk n a b (pt k)) i = true ↔ ¬ tb (cl n b (ar n (fre n ((a ||| b) ||| pt k)))) i = true) := by
    intro i hi
    unfold tk
    rw [m_dif]
    exact ⟨fun q => q.2, fun q => ⟨hi, q⟩⟩
  have hseed := cl_seed (S := ar n (fre n ((a ||| b) ||| pt k))) h hb
  generalize hT : tk n a b (pt k) = T at hTc hTL ⊢
  generalize hL : cl n b (ar n (fre n ((a ||| b) ||| pt k))) = L at hLc hTL hseed
  have hTb : sb T b := hTc.1
  have hTF : T &&& ar n (fre n ((a ||| b) ||| pt k)) = 0 := by
    rw [m_and0]
    intro i hi r
    exact (hTL i (hTb i hi)).mp hi (hseed i (m_and.mpr ⟨r, hTb i hi⟩))
  have hend : ∀ (fu : Nat) (C : Int64) (y : MSt), clo n b C → (0 : Int64) = (ar n (pt k) &&& b) &&& (C ^^^ (-1)) → y.2.2.2.1 = a ||| pt k → y.2.2.2.2.1 = b &&& ((T &&& C) ^^^ (-1)) → y.2.2.2.2.2.1 = nI (cn (T &&& C) 49) →
      fX8_lays_34 w (nI n) a b (nI k) (fu + 1) 0 y = some ((if lb n (a ||| pt k) (b &&& (T ^^^ (-1))) (pt k) = 0 then false else true), (y.1, y.2.1, y.2.2.1, a ||| pt k, b &&& (T ^^^ (-1)), nI (cn T 49), lb n (a ||| pt k) (b &&& (T ^^^ (-1))) (pt k), y.2.2.2.2.2.2.2.1, y.2.2.2.2.2.2.2.2.1, y.2.2.2.2.2.2.2.2.2)) := by
    intro fu C y hC ex ey1 ey2 ey3
    have hRc := clo_and h hb hTc (clo_rest h hb hC)
    have hR0 : T &&& (b &&& (C ^^^ (-1))) = 0 := by
      apply live_free h hb lb' hRc
      rw [m_and0]
      intro i hi r
      rw [m_and, m_dif] at hi
      rw [tb_ar h fre_sb] at r
      obtain ⟨j, j1, j2⟩ := r
      rw [m_fre, m_or] at j2
      by_cases c : j = k
      · subst c
        have : tb ((ar n (pt j) &&& b) &&& (C ^^^ (-1))) i = true := by
          rw [m_dif, m_and, tb_ar h hpA]
          exact ⟨⟨⟨j, j1, pt_self hk64⟩, hi.2.1⟩, hi.2.2⟩
        rw [← ex, tb_zero] at this
        cases this
      · refine m_and0.mp hTF i hi.1 ?_
        rw [tb_ar h fre_sb]
        refine ⟨j, j1, ?_⟩
        rw [m_fre, m_or, m_or, m_pt hk64]
        refine ⟨j2.1, ?_⟩
        rintro ((r | r) | r)
        · exact j2.2 (.inr r)
        · exact j2.2 (.inl r)
        · exact c r
    have hTC : T &&& C = T := by
      apply sb_eq
      intro i hi
      apply Classical.byContradiction
      intro r
      have : tb (T &&& (b &&& (C ^^^ (-1)))) i = true := by
        rw [m_and, m_dif]
        exact ⟨hi, hTb i hi, r⟩
      rw [hR0, tb_zero] at this
      cases this
    rw [hTC] at ey2 ey3
    unfold fX8_lays_34
    rw [if_pos rfl, ey1, ey2, ey3, shl_pt, grown_eq h ha' (sb_orr a (pt k)), Option.bind_some]
    have hg := cl_sb (S := pt k) h ha'
    rw [mlib_eq h (sb_trans hg ha') (sb_trans hg (sb_orl _ _)), Option.bind_some]
    show (if lb n (a ||| pt k) (b &&& (T ^^^ (-1))) (pt k) = 0 then _ else _) = _
    by_cases c : lb n (a ||| pt k) (b &&& (T ^^^ (-1))) (pt k) = 0
    · rw [if_pos c, if_pos c]
      rfl
    · rw [if_neg c, if_neg c]
      rfl
  intro d
  induction d with
  | zero =>
    intro fu x C y hx hf hC ex ey1 ey2 ey3
    obtain ⟨fu, rfl⟩ : ∃ f, fu = f + 1 := ⟨fu - 1, by omega⟩
    have x0 : x = 0 := by
      apply Classical.byContradiction
      intro q
      obtain ⟨i, i1, i2⟩ := tb_ne0 q
      have i3 : tb b i = true := by rw [ex, m_dif, m_and] at i2; exact i2.1.2
      have i4 := (sbA h).mp hb i i3
      have := cn_strict (sb_zero x) i2 (tb_zero i) 49 (by omega)
      omega
    rw [x0] at ex ⊢
    exact hend fu C y hC ex ey1 ey2 ey3
  | succ d ih =>
    intro fu x C y hx hf hC ex ey1 ey2 ey3
    obtain ⟨fu, rfl⟩ : ∃ f, fu = f + 1 := ⟨fu - 1, by omega⟩
    by_cases x0 : x = 0
    · rw [x0] at ex ⊢
      exact hend fu C y hC ex ey1 ey2 ey3
    · obtain ⟨e, e1, e2, _, e4⟩ := low_pt x0
      have e5 : tb ((ar n (pt k) &&& b) &&& (C ^^^ (-1))) e = true := by rw [← ex]; exact e2
      rw [m_dif, m_and] at e5
      have heb : tb b e = true := e5.1.2
      have heN : e < n * n := (sbA h).mp hb e heb
      have hrc := cl_clo (S := pt e) h hb
      have hre := atom_self h hb heb
      have hrC : cl n b (pt e) &&& C = 0 := atom_out h hb hC e1 (by
        cases q : tb C e with
        | false => rfl
        | true => exact absurd q e5.2)
      have hrT : ∀ q : tb T e = true, sb (cl n b (pt e)) T := fun q => atom_in h hb hTc e1 q
      have hrT' : ∀ q : ¬ tb T e = true, cl n b (pt e) &&& T = 0 := fun q => atom_out h hb hTc e1 (by
        cases r : tb T e with
        | false => rfl
        | true => exact absurd r q)
      have hgrow : fX8_grown (nI n) (x &&& (-x)) b = some (cl n b (pt e)) := by
        rw [low_eq, e4]
        exact grown_eq h hb ((pt_sb e1).mpr heb)
      generalize cl n b (pt e) = r at hrc hre hrC hrT hrT' hgrow
      have hrA := sb_trans hrc.1 hb
      unfold fX8_lays_34
      rw [if_neg x0, hgrow, Option.bind_some, ey1, mlib_eq h hrA (sb_trans hrc.1 (sb_orr _ _)), Option.bind_some]
      have hfr : (ar n r &&& mA n) &&& (((a ||| pt k) ||| b) ^^^ (-1)) = ar n r &&& fre n ((a ||| b) ||| pt k) := by
        apply m_ext
        intro i
        rw [m_dif, m_and, m_and, m_fre, m_or, m_or, m_or, m_or]
        constructor
        · intro ⟨⟨q1, q2⟩, q3⟩
          refine ⟨q1, q2, ?_⟩
          rintro ((q | q) | q)
          · exact q3 (.inl (.inl q))
          · exact q3 (.inr q)
          · exact q3 (.inl (.inr q))
        · intro ⟨q1, q2, q3⟩
          refine ⟨⟨q1, q2⟩, ?_⟩
          rintro ((q | q) | q)
          · exact q3 (.inl (.inl q))
          · exact q3 (.inr q)
          · exact q3 (.inl (.inr q))
      rw [hfr]
      have hC' := clo_or h hb hC hrc
      have hxr : x &&& (r ^^^ (-1)) = (ar n (pt k) &&& b) &&& ((C ||| r) ^^^ (-1)) := by
        rw [ex]
        apply m_ext
        intro i
        rw [m_dif, m_dif, m_dif, m_or]
        constructor
        · intro ⟨⟨q1, q2⟩, q3⟩
          exact ⟨q1, fun q => q.elim q2 q3⟩
        · intro ⟨q1, q2⟩
          exact ⟨⟨q1, fun q => q2 (.inl q)⟩, fun q => q2 (.inr q)⟩
      have hcnt : cn (x &&& (r ^^^ (-1))) 49 ≤ d := by
        have : tb (x &&& (r ^^^ (-1))) e = false := by
          cases q : tb (x &&& (r ^^^ (-1))) e with
          | false => rfl
          | true =>
            rw [m_dif] at q
            exact absurd hre q.2
        have := cn_strict (sb_andl x (r ^^^ (-1))) e2 this 49 (by omega)
        omega
      by_cases c : tb T e = true
      · have hrs := hrT c
        have z : ar n r &&& fre n ((a ||| b) ||| pt k) = 0 := by
          rw [ar_and0 h hrA fre_sb]
          exact and0_sb hTF hrs (sb_refl _)
        rw [if_pos z, bits_eq, Option.bind_some]
        have hTC : T &&& (C ||| r) = (T &&& C) ||| r := by
          apply m_ext
          intro i
          rw [m_and, m_or, m_or, m_and]
          constructor
          · intro ⟨q1, q2⟩
            exact q2.elim (fun q => .inl ⟨q1, q⟩) .inr
          · intro q
            rcases q with ⟨q1, q2⟩ | q
            · exact ⟨q1, .inl q2⟩
            · exact ⟨hrs i q, .inr q⟩
        have hdis : (T &&& C) &&& r = 0 := by
          rw [m_and0]
          intro i hi q
          rw [m_and] at hi
          exact m_and0.mp hrC i q hi.2
        refine ih fu _ (C ||| r) _ hcnt (by omega) hC' hxr ?_ ?_ ?_
        · rfl
        · show y.2.2.2.2.1 &&& (r ^^^ (-1)) = _
          rw [ey2, hTC]
          apply m_ext
          intro i
          rw [m_dif, m_dif, m_dif, m_or]
          constructor
          · intro ⟨⟨q1, q2⟩, q3⟩
            exact ⟨q1, fun q => q.elim q2 q3⟩
          · intro ⟨q1, q2⟩
            exact ⟨⟨q1, fun q => q2 (.inl q)⟩, fun q => q2 (.inr q)⟩
        · show y.2.2.2.2.2.1 + nI (cn r 49) = _
          rw [ey3, nI_add, hTC, cn_or hdis]
      · have hrd := hrT' c
        have z : ¬ ar n r &&& fre n ((a ||| b) ||| pt k) = 0 := by
          intro q
          rw [ar_and0 h hrA fre_sb] at q
          have q2 := clo_free h hb hF hrc q
          rw [hL] at q2
          apply c
          rw [hTL e heb]
          exact m_and0.mp q2 e hre
        rw [if_neg z]
        have hTC : T &&& (C ||| r) = T &&& C := by
          apply m_ext
          intro i
          rw [m_and, m_or, m_and]
          constructor
          · intro ⟨q1, q2⟩
            exact ⟨q1, q2.elim id (fun q => absurd q1 (m_and0.mp hrd i q))⟩
          · intro ⟨q1, q2⟩
            exact ⟨q1, .inl q2⟩
        refine ih fu _ (C ||| r) y hcnt (by omega) hC' hxr ey1 ?_ ?_
        · rw [hTC]; exact ey2
        · rw [hTC]; exact ey3
/-- the reference lays a stone as the class does -/
theorem lays_eq (h : okN n) (hk : k < n * n) (hp : posOK n a b) (hka : ¬ tb a k = true) (hkb : ¬ tb b k = true) (w : MSt) :
    fX8_lays w (nI n) a b (nI k) = some ((if lb n (a ||| pt k) (b &&& (tk n a b (pt k) ^^^ (-1))) (pt k) = 0 then false else true), (w.1, w.2.1, w.2.2.1, a ||| pt k, b &&& (tk n a b (pt k) ^^^ (-1)), nI (cn (tk n a b (pt k)) 49), lb n (a ||| pt k) (b &&& (tk n a b (pt k) ^^^ (-1))) (pt k), w.2.2.2.2.2.2.2.1, w.2.2.2.2.2.2.2.2.1, w.2.2.2.2.2.2.2.2.2)) := by
  unfold fX8_lays
  rw [shl_pt, near_eq h (pt_mA h hk), Option.bind_some]
  refine lays_loop h hk hp hka hkb w 49 5000 _ 0 _ (cn_le _ _) (by omega) (clo_zero h) ?_ rfl ?_ ?_
  · apply m_ext
    intro i
    rw [m_dif, tb_zero]
    exact ⟨fun q => ⟨q, by decide⟩, fun q => q.1⟩
  · show b = _
    apply m_ext
    intro i
    rw [m_dif, m_and, tb_zero]
    exact ⟨fun q => ⟨q, fun r => by cases r.2⟩, fun q => q.1⟩
  · show (0 : Int32) = _
    have : tk n a b (pt k) &&& 0 = 0 := sb_to0 (sb_andr _ _)
    rw [this, cn_zero]
    rfl
end LAYR
