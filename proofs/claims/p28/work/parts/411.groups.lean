theorem low_ex {n : Nat} (h : okN n) {W x : Int64} (hW : sb W (mA n)) (hx : sb x W) (x0 : ¬ x = 0) : ∃ e, e < n * n ∧ e < 64 ∧ tb x e = true ∧ tb W e = true ∧ low x = pt e := by
  obtain ⟨e, e1, e2, _, e4⟩ := low_pt x0
  have h2 := hx e e2
  exact ⟨e, (sbA h).mp hW e h2, e1, e2, h2, e4⟩
/-- a sum over the parts of W that x meets -/
def gsum (n : Nat) (W : Int64) (v : Int64 → Nat) : Nat → Int64 → Nat
  | 0, _ => 0
  | d + 1, x => if x = 0 then 0 else v (cl n W (low x)) + gsum n W v d (x &&& (cl n W (low x) ^^^ (-1)))
theorem gsum_dec {n : Nat} (h : okN n) {W x : Int64} (hW : sb W (mA n)) (hx : sb x W) (x0 : ¬ x = 0) : cn (x &&& (cl n W (low x) ^^^ (-1))) 49 < cn x 49 := by
  obtain ⟨e, e1, e2, e3, e4, e5⟩ := low_ex h hW hx x0
  have hs := okN_sq h
  rw [e5]
  refine cn_strict (sb_andl _ _) e3 ?_ 49 (by omega)
  cases q : tb (x &&& (cl n W (pt e) ^^^ (-1))) e with
  | false => rfl
  | true =>
    rw [m_dif] at q
    exact absurd (atom_self h hW e4) q.2
theorem cn_pos {n : Nat} (h : okN n) {x : Int64} (hx : sb x (mA n)) (x0 : ¬ x = 0) : 0 < cn x 49 := by
  have := cn_ne0 x0
  rw [cn49 h hx] at this
  exact this
theorem gsum_congr {n : Nat} (h : okN n) {W : Int64} (hW : sb W (mA n)) {v v' : Int64 → Nat} (hv : ∀ e, tb W e = true → v (cl n W (pt e)) = v' (cl n W (pt e))) : ∀ d x, sb x W → gsum n W v d x = gsum n W v' d x := by
  intro d
  induction d with
  | zero => intro x _; rfl
  | succ d ih =>
    intro x hx
    unfold gsum
    by_cases x0 : x = 0
    · rw [if_pos x0, if_pos x0]
    · rw [if_neg x0, if_neg x0, ih _ (sb_trans (sb_andl _ _) hx)]
      obtain ⟨e, e1, e2, e3, e4, e5⟩ := low_ex h hW hx x0
      rw [e5, hv e e4]
/-- the sum of the points of E, part by part -/
theorem gsum_cn {n : Nat} (h : okN n) {W E : Int64} (hW : sb W (mA n)) (v : Int64 → Nat) (hv : ∀ e, tb W e = true → v (cl n W (pt e)) = cn (cl n W (pt e) &&& E) 49) : ∀ d x, clo n W x → cn x 49 ≤ d → gsum n W v d x = cn (x &&& E) 49 := by
  intro d
  induction d with
  | zero =>
    intro x hx hc
    have x0 : x = 0 := by
      apply Classical.byContradiction
      intro q
      have := cn_pos h (sb_trans hx.1 hW) q
      omega
    rw [x0, sb_to0 (sb_andl 0 E), cn_zero]
    rfl
  | succ d ih =>
    intro x hx hc
    unfold gsum
    by_cases x0 : x = 0
    · rw [if_pos x0, x0, sb_to0 (sb_andl 0 E), cn_zero]
    · rw [if_neg x0]
      have hd := gsum_dec h hW hx.1 x0
      obtain ⟨e, e1, e2, e3, e4, e5⟩ := low_ex h hW hx.1 x0
      rw [e5] at hd ⊢
      have hr := cl_clo (S := pt e) h hW
      have hrx := atom_in h hW hx e2 e3
      rw [hv e e4]
      generalize cl n W (pt e) = r at hr hrx hd ⊢
      have hx' : clo n W (x &&& (r ^^^ (-1))) := by
        have := clo_and h hW hx (clo_rest h hW hr)
        have e : x &&& (W &&& (r ^^^ (-1))) = x &&& (r ^^^ (-1)) := by
          apply m_ext
          intro i
          rw [m_and, m_dif, m_dif]
          exact ⟨fun q => ⟨q.1, q.2.2⟩, fun q => ⟨q.1, hx.1 i q.1, q.2⟩⟩
        rw [e] at this
        exact this
      rw [ih _ hx' (by omega)]
      have hdis : (r &&& E) &&& ((x &&& (r ^^^ (-1))) &&& E) = 0 := by
        rw [m_and0]
        intro i hi q
        rw [m_and] at hi
        rw [m_and, m_dif] at q
        exact q.1.2 hi.1
      rw [← cn_or hdis]
      congr 1
      apply m_ext
      intro i
      rw [m_or, m_and, m_and, m_dif, m_and]
      constructor
      · rintro (⟨q1, q2⟩ | ⟨⟨q1, q2⟩, q3⟩)
        · exact ⟨hrx i q1, q2⟩
        · exact ⟨q1, q3⟩
      · intro ⟨q1, q2⟩
        by_cases c : tb r i = true
        · exact .inl ⟨c, q2⟩
        · exact .inr ⟨⟨q1, c⟩, q2⟩
section GROUPS
variable {n : Nat} {W o : Int64}
theorem groups_loop (h : okN n) (hW : sb W (mA n)) : ∀ (d fu k c : Nat) (x : Int64), k + d = 49 → d + 1 ≤ fu → sb x W → cn x 49 ≤ d → fX2_groups_8 (gridOf n) W fu (nI c) x (nI k) = some (nI (c + gsum n W (fun _ => 1) d x)) := by
  intro d
  induction d with
  | zero =>
    intro fu k c x hk hf hx hc
    obtain ⟨fu, rfl⟩ : ∃ f, fu = f + 1 := ⟨fu - 1, by omega⟩
    unfold fX2_groups_8
    rw [show k = 49 by omega, if_pos (show (49 : Int32) ≤ nI 49 by decide)]
    rfl
  | succ d ih =>
    intro fu k c x hk hf hx hc
    obtain ⟨fu, rfl⟩ : ∃ f, fu = f + 1 := ⟨fu - 1, by omega⟩
    unfold fX2_groups_8 gsum
    rw [if_neg (show ¬ (49 : Int32) ≤ nI k from nI_ge (b := 49) (by omega) (by decide))]
    by_cases x0 : x = 0
    · rw [if_pos x0, if_pos x0]
      rfl
    · rw [if_neg x0, if_neg x0, conn_eq h hW, Option.bind_some, ← nI_succ, ← nI_succ]
      have hd := gsum_dec h hW hx x0
      have := ih fu (k + 1) (c + 1) (x &&& (cl n W (low x) ^^^ (-1))) (by omega) (by omega) (sb_trans (sb_andl _ _) hx) (by omega)
      rw [Nat.add_assoc] at this
      exact this
theorem groups_eq (h : okN n) (hW : sb W (mA n)) : fX2_groups (gridOf n) W = some (nI (gsum n W (fun _ => 1) 49 W)) := by
  have := groups_loop h hW 49 5000 0 0 W rfl (by omega) (sb_refl _) (cn_le _ _)
  rw [Nat.zero_add] at this
  exact this
/-- the liberties of a part -/
def lbs (n : Nat) (W o r : Int64) : Int64 := (ar n r &&& mA n) &&& ((W ||| o) ^^^ (-1))
theorem lbs_sb {r : Int64} : sb (lbs n W o r) (mA n) := sb_trans (sb_andl _ _) (sb_andr _ _)
def oneL (n : Nat) (W o r : Int64) : Nat := if cn (lbs n W o r) 49 = 1 then 1 else 0
theorem nI_eq1 {c : Nat} (h : c ≤ 64) : nI c = 1 ↔ c = 1 :=
  ⟨fun q => nI_inj (b := 1) (by omega) (by omega) q, fun q => by rw [q]; rfl⟩
theorem one_loop (h : okN n) (hW : sb W (mA n)) : ∀ (d fu k c : Nat) (x : Int64), k + d = 49 → d + 1 ≤ fu → sb x W → cn x 49 ≤ d → fX2_groupsWithOneLiberty_9 (gridOf n) W o fu (nI c) x (nI k) = some (nI (c + gsum n W (oneL n W o) d x)) := by
  intro d
  induction d with
  | zero =>
    intro fu k c x hk hf hx hc
    obtain ⟨fu, rfl⟩ : ∃ f, fu = f + 1 := ⟨fu - 1, by omega⟩
    unfold fX2_groupsWithOneLiberty_9
    rw [show k = 49 by omega, if_pos (show (49 : Int32) ≤ nI 49 by decide)]
    rfl
  | succ d ih =>
    intro fu k c x hk hf hx hc
    obtain ⟨fu, rfl⟩ : ∃ f, fu = f + 1 := ⟨fu - 1, by omega⟩
    unfold fX2_groupsWithOneLiberty_9 gsum
    rw [if_neg (show ¬ (49 : Int32) ≤ nI k from nI_ge (b := 49) (by omega) (by decide))]
    by_cases x0 : x = 0
    · rw [if_pos x0, if_pos x0]
      rfl
    · have hd := gsum_dec h hW hx x0
      have e1 : lb n W o (low x) = lbs n W o (cl n W (low x)) := rfl
      rw [if_neg x0, if_neg x0, low_eq, lib_eq h hW, Option.bind_some, conn_eq h hW, Option.bind_some, Option.bind_some, e1, bc49 h lbs_sb]
      unfold oneL
      have hc49 : cn (lbs n W o (cl n W (low x))) 49 ≤ 49 := cn_le _ _
      by_cases q : cn (lbs n W o (cl n W (low x))) 49 = 1
      · rw [if_pos ((nI_eq1 (by omega)).mpr q), if_pos q, ← nI_succ, ← nI_succ]
        have := ih fu (k + 1) (c + 1) (x &&& (cl n W (low x) ^^^ (-1))) (by omega) (by omega) (sb_trans (sb_andl _ _) hx) (by omega)
        rw [Nat.add_assoc] at this
        exact this
      · rw [if_neg (fun r => q ((nI_eq1 (by omega)).mp r)), if_neg q, ← nI_succ, Nat.zero_add]
        exact ih fu (k + 1) c (x &&& (cl n W (low x) ^^^ (-1))) (by omega) (by omega) (sb_trans (sb_andl _ _) hx) (by omega)
theorem one_eq (h : okN n) (hW : sb W (mA n)) : fX2_groupsWithOneLiberty (gridOf n) W o = some (nI (gsum n W (oneL n W o) 49 W)) := by
  have := one_loop (o := o) h hW 49 5000 0 0 W rfl (by omega) (sb_refl _) (cn_le _ _)
  rw [Nat.zero_add] at this
  exact this
/-- the reference counts groups -/
def gval (n : Nat) (W o : Int64) (fl : Bool) (r : Int64) : Nat := if fl = true then oneL n W o r else 1
theorem gval_false : gval n W o false = fun _ => 1 := rfl
theorem gval_true : gval n W o true = oneL n W o := rfl
end GROUPS
