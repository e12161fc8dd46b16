def ClS (n : Nat) (W x X : Int64) : Prop := sb x X ∧ sb X W ∧ sb (ar n X &&& W) X ∧ ∀ Y, sb Y (mA n) → sb x Y → sb (ar n Y &&& W) Y → sb X Y
theorem ClS_uniq {n : Nat} {W x X X' : Int64} (hW : sb W (mA n)) (h : ClS n W x X) (g : ClS n W x X') : X = X' :=
  sb_anti (h.2.2.2 X' (sb_trans g.2.1 hW) g.1 g.2.2.1) (g.2.2.2 X (sb_trans h.2.1 hW) h.1 h.2.2.1)
theorem stp_grow {n : Nat} (h : okN n) {W x y : Int64} (hW : sb W (mA n)) (hx : sb x y) (hy : sb y W) (hne : ¬ y = x) : cn x 49 < cn y 49 := by
  have : ∃ i, tb y i = true ∧ tb x i = false := by
    apply Classical.byContradiction
    intro q
    apply hne
    apply sb_anti _ hx
    intro i hi
    cases e : tb x i with
    | true => rfl
    | false => exact absurd ⟨i, hi, e⟩ q
  obtain ⟨i, i1, i2⟩ := this
  have hi : i < n * n := (sbA h).mp (sb_trans hy hW) i i1
  have := (okN_sq h).2
  exact cn_strict hx i1 i2 49 (by omega)
theorem conn_loop {n : Nat} (h : okN n) {W : Int64} (hW : sb W (mA n)) (S : Int64) : ∀ (d fu k : Nat) (x : Int64), k + d = 49 → d + 1 ≤ fu → sb x W → (x = 0 ∨ k < cn x 49) → ∃ X, fX2_connected_8 (gridOf n) W S fu x (nI k) = some X ∧ ClS n W x X := by
  intro d
  induction d with
  | zero =>
    intro fu k x hk hf hx hc
    obtain ⟨fu, rfl⟩ : ∃ f, fu = f + 1 := ⟨fu - 1, by omega⟩
    have hk' : k = 49 := by omega
    subst hk'
    refine ⟨x, ?_, sb_refl x, hx, ?_, fun Y _ h1 _ => h1⟩
    · unfold fX2_connected_8
      rw [if_pos (show (49 : Int32) ≤ nI 49 from nI_le (Nat.le_refl _) (by decide))]
    · rcases hc with hc | hc
      · subst hc
        rw [ar_zero h]
        exact sb_andl _ _
      · have := cn_le x 49
        omega
  | succ d ih =>
    intro fu k x hk hf hx hc
    obtain ⟨fu, rfl⟩ : ∃ f, fu = f + 1 := ⟨fu - 1, by omega⟩
    unfold fX2_connected_8
    rw [if_neg (show ¬ (49 : Int32) ≤ nI k from nI_ge (b := 49) (by omega) (by decide))]
    show ∃ X, (if x ||| (ar n x &&& W) = x then some x else fX2_connected_8 (gridOf n) W S fu (x ||| (ar n x &&& W)) (nI k + 1)) = some X ∧ _
    by_cases c : x ||| (ar n x &&& W) = x
    · rw [if_pos c]
      refine ⟨x, rfl, sb_refl x, hx, ?_, fun Y _ h1 _ => h1⟩
      have := sb_orr x (ar n x &&& W)
      rw [c] at this
      exact this
    · rw [if_neg c]
      have hy : sb (x ||| (ar n x &&& W)) W := sb_or hx (sb_andr _ _)
      have hg := stp_grow h hW (sb_orl x (ar n x &&& W)) hy c
      rw [← nI_succ]
      obtain ⟨X, X1, X2, X3, X4, X5⟩ := ih fu (k + 1) (x ||| (ar n x &&& W)) (by omega) (by omega) hy (by
        rcases hc with hc | hc
        · exfalso
          apply c
          subst hc
          rw [ar_zero h]
          apply sb_anti
          · exact sb_or (sb_refl _) (sb_andl _ _)
          · exact sb_orl _ _
        · exact .inr (by omega))
      refine ⟨X, X1, sb_trans (sb_orl _ _) X2, X3, X4, ?_⟩
      intro Y hY h1 h2
      apply X5 Y hY _ h2
      apply sb_or h1
      exact sb_trans (sb_and (sb_trans (sb_andl _ _) (ar_mono h h1 hY)) (sb_andr _ _)) h2
/-- what hangs together with S within W -/
def cl (n : Nat) (W S : Int64) : Int64 := match fX2_connected (gridOf n) W S with
  | some x => x
  | none => 0
theorem conn_ex {n : Nat} (h : okN n) {W : Int64} (hW : sb W (mA n)) (S : Int64) : fX2_connected (gridOf n) W S = some (cl n W S) ∧ ClS n W (S &&& W) (cl n W S) := by
  have hx : sb (S &&& W) W := sb_andr _ _
  obtain ⟨X, X1, X2⟩ := conn_loop h hW S 49 5000 0 (S &&& W) rfl (by omega) hx (by
    by_cases c : S &&& W = 0
    · exact .inl c
    · right
      obtain ⟨i, i1, i2⟩ := tb_ne0 c
      have hi : i < n * n := (sbA h).mp (sb_trans hx hW) i i2
      have := (okN_sq h).2
      have q := cn_strict (sb_zero (S &&& W)) i2 (tb_zero i) 49 (by omega)
      omega)
  have e : fX2_connected (gridOf n) W S = some X := X1
  have e2 : cl n W S = X := by unfold cl; rw [e]
  rw [e2]
  exact ⟨e, X2⟩
theorem conn_eq {n : Nat} (h : okN n) {W : Int64} (hW : sb W (mA n)) (S : Int64) : fX2_connected (gridOf n) W S = some (cl n W S) := (conn_ex h hW S).1
section CL
variable {n : Nat} {W S T C b : Int64}
theorem cl_sb (h : okN n) (hW : sb W (mA n)) : sb (cl n W S) W := (conn_ex h hW S).2.2.1
theorem cl_seed (h : okN n) (hW : sb W (mA n)) : sb (S &&& W) (cl n W S) := (conn_ex h hW S).2.1
/-- a part of W that no point of W beside it leaves out -/
def clo (n : Nat) (W C : Int64) : Prop := sb C W ∧ sb (ar n C &&& W) C
theorem cl_clo (h : okN n) (hW : sb W (mA n)) : clo n W (cl n W S) := ⟨cl_sb h hW, (conn_ex h hW S).2.2.2.1⟩
theorem cl_least (h : okN n) (hW : sb W (mA n)) (hC : clo n W C) (hs : sb (S &&& W) C) : sb (cl n W S) C := (conn_ex h hW S).2.2.2.2 C (sb_trans hC.1 hW) hs hC.2
theorem cl_mono (h : okN n) (hW : sb W (mA n)) (hST : sb (S &&& W) T) : sb (cl n W S) (cl n W T) :=
  cl_least h hW (cl_clo h hW) (sb_trans (sb_and hST (sb_andr _ _)) (cl_seed h hW))
/-- what is left of W beside a closed part is closed -/
theorem clo_rest (h : okN n) (hW : sb W (mA n)) (hC : clo n W C) : clo n W (W &&& (C ^^^ (-1))) := by
  refine ⟨sb_andl _ _, ?_⟩
  have h0 : (W &&& (C ^^^ (-1))) &&& ar n C = 0 := by
    rw [and0]
    intro i hi
    rw [tb_and] at hi
    have hi' := Bool.and_eq_true_iff.mp hi
    rw [tb_not _ (tb_lt hi'.1)] at hi'
    cases e : tb (ar n C) i with
    | false => rfl
    | true =>
      have := hC.2 i (by rw [tb_and, e, hi'.1]; rfl)
      rw [this] at hi'
      cases hi'.2
  have h1 := ar_sym h (sb_trans (sb_andl W (C ^^^ (-1))) hW) (sb_trans hC.1 hW) h0
  intro i hi
  rw [tb_and] at hi
  have hi' := Bool.and_eq_true_iff.mp hi
  have := and0.mp h1 i hi'.1
  rw [tb_and, hi'.2, tb_not _ (tb_lt hi'.2), this]
  rfl
theorem clo_and (h : okN n) (hW : sb W (mA n)) (hC : clo n W C) (hT : clo n W T) : clo n W (C &&& T) := by
  refine ⟨sb_trans (sb_andl _ _) hC.1, ?_⟩
  apply sb_and
  · exact sb_trans (sb_and (sb_trans (sb_andl _ _) (ar_mono h (sb_andl C T) (sb_trans hC.1 hW))) (sb_andr _ _)) hC.2
  · exact sb_trans (sb_and (sb_trans (sb_andl _ _) (ar_mono h (sb_andr C T) (sb_trans hT.1 hW))) (sb_andr _ _)) hT.2
theorem clo_or (h : okN n) (hW : sb W (mA n)) (hC : clo n W C) (hT : clo n W T) : clo n W (C ||| T) := by
  refine ⟨sb_or hC.1 hT.1, ?_⟩
  rw [ar_or h (sb_trans hC.1 hW) (sb_trans hT.1 hW)]
  intro i hi
  rw [tb_and, tb_or] at hi
  have hi' := Bool.and_eq_true_iff.mp hi
  rcases Bool.or_eq_true_iff.mp hi'.1 with q | q
  · exact sb_orl C T i (hC.2 i (by rw [tb_and, q, hi'.2]; rfl))
  · exact sb_orr C T i (hT.2 i (by rw [tb_and, q, hi'.2]; rfl))
theorem clo_zero (h : okN n) : clo n W 0 := ⟨sb_zero _, by rw [ar_zero h]; exact sb_andl _ _⟩
theorem clo_self : clo n W W := ⟨sb_refl _, sb_andr _ _⟩
theorem cl_zero (h : okN n) (hW : sb W (mA n)) : cl n W 0 = 0 := sb_to0 (cl_least h hW (clo_zero h) (sb_andl _ _))
theorem cl_self (h : okN n) (hW : sb W (mA n)) (hC : clo n W C) : cl n W C = C :=
  sb_anti (cl_least h hW hC (sb_andl _ _)) (sb_trans (sb_and (sb_refl _) hC.1) (cl_seed h hW))
/-- the part of a single point is within a closed part, or apart from it -/
theorem atom_in {k : Nat} (h : okN n) (hW : sb W (mA n)) (hC : clo n W C) (hk : k < 64) (hc : tb C k = true) : sb (cl n W (pt k)) C :=
  cl_least h hW hC (sb_trans (sb_andl _ _) ((pt_sb hk).mpr hc))
theorem atom_out {k : Nat} (h : okN n) (hW : sb W (mA n)) (hC : clo n W C) (hk : k < 64) (hc : tb C k = false) : cl n W (pt k) &&& C = 0 := by
  have hs : sb (cl n W (pt k)) (W &&& (C ^^^ (-1))) := by
    apply cl_least h hW (clo_rest h hW hC)
    intro i hi
    rw [tb_and, tb_pt hk] at hi
    have hi' := Bool.and_eq_true_iff.mp hi
    have e := of_decide_eq_true hi'.1
    subst e
    rw [tb_and, hi'.2, tb_not _ hk, hc]
    rfl
  rw [and0]
  intro i hi
  have := hs i hi
  rw [tb_and] at this
  have h2 := (Bool.and_eq_true_iff.mp this).2
  rw [tb_not _ (tb_lt hi)] at h2
  cases e : tb C i with
  | false => rfl
  | true => rw [e] at h2; cases h2
theorem atom_self {k : Nat} (h : okN n) (hW : sb W (mA n)) (hk : tb W k = true) : tb (cl n W (pt k)) k = true := by
  apply cl_seed h hW
  rw [tb_and, pt_self (tb_lt hk), hk]
  rfl
/-- symmetry: S's part meets T just where T's part meets S -/
theorem cl_sym (h : okN n) (hW : sb W (mA n)) (q : cl n W S &&& T = 0) : S &&& cl n W T = 0 := by
  have hc := clo_rest h hW (cl_clo (S := S) h hW)
  have h1 : sb (cl n W T) (W &&& (cl n W S ^^^ (-1))) := by
    apply cl_least h hW hc
    intro i hi
    rw [tb_and] at hi
    have hi' := Bool.and_eq_true_iff.mp hi
    rw [tb_and, hi'.2, tb_not _ (tb_lt hi'.1)]
    cases e : tb (cl n W S) i with
    | false => rfl
    | true =>
      have := and0.mp q i e
      rw [this] at hi'
      cases hi'.1
  rw [and0]
  intro i hi
  cases e : tb (cl n W T) i with
  | false => rfl
  | true =>
    have h2 := h1 i e
    rw [tb_and, tb_not _ (tb_lt hi)] at h2
    have h3 := Bool.and_eq_true_iff.mp h2
    have h4 := cl_seed (S := S) h hW i (by rw [tb_and, hi, h3.1]; rfl)
    rw [h4] at h3
    cases h3.2
end CL
