theorem m_and {a b : Int64} {i : Nat} : tb (a &&& b) i = true ↔ tb a i = true ∧ tb b i = true := by rw [tb_and, Bool.and_eq_true]
theorem m_or {a b : Int64} {i : Nat} : tb (a ||| b) i = true ↔ tb a i = true ∨ tb b i = true := by rw [tb_or, Bool.or_eq_true]
theorem m_not {a : Int64} {i : Nat} : tb (a ^^^ (-1)) i = true ↔ i < 64 ∧ ¬ tb a i = true := by
  constructor
  · intro q
    have hl := tb_lt q
    rw [tb_not _ hl] at q
    refine ⟨hl, ?_⟩
    intro r
    rw [r] at q
    cases q
  · intro ⟨hl, q⟩
    rw [tb_not _ hl]
    cases e : tb a i with
    | false => rfl
    | true => exact absurd e q
theorem m_dif {a b : Int64} {i : Nat} : tb (a &&& (b ^^^ (-1))) i = true ↔ tb a i = true ∧ ¬ tb b i = true := by
  rw [m_and, m_not]
  exact ⟨fun ⟨p, _, q⟩ => ⟨p, q⟩, fun ⟨p, q⟩ => ⟨p, tb_lt p, q⟩⟩
theorem m_and0 {a b : Int64} : a &&& b = 0 ↔ ∀ i, tb a i = true → ¬ tb b i = true := by
  rw [and0]
  constructor
  · intro h i q r
    rw [h i q] at r
    cases r
  · intro h i q
    cases e : tb b i with
    | false => rfl
    | true => exact absurd e (h i q)
theorem m_ext {a b : Int64} (h : ∀ i, tb a i = true ↔ tb b i = true) : a = b := sb_anti (fun i => (h i).mp) (fun i => (h i).mpr)
theorem m_pt {k : Nat} (hk : k < 64) {i : Nat} : tb (pt k) i = true ↔ i = k := by rw [tb_pt hk, decide_eq_true_eq]
theorem pt_mA {n k : Nat} (h : okN n) (hk : k < n * n) : sb (pt k) (mA n) := by
  have := (okN_sq h).2
  rw [pt_sb (by omega), tb_mA h]
  exact decide_eq_true hk
/-- the points of the board that a leaves free -/
def fre (n : Nat) (a : Int64) : Int64 := mA n &&& (a ^^^ (-1))
theorem m_fre {n : Nat} {a : Int64} {i : Nat} : tb (fre n a) i = true ↔ tb (mA n) i = true ∧ ¬ tb a i = true := m_dif
theorem fre_sb {n : Nat} {a : Int64} : sb (fre n a) (mA n) := sb_andl _ _
def lb (n : Nat) (own oth S : Int64) : Int64 := (ar n (cl n own S) &&& mA n) &&& ((own ||| oth) ^^^ (-1))
theorem lib_eq {n : Nat} (h : okN n) {own oth S : Int64} (ho : sb own (mA n)) : fX2_liberties (gridOf n) own oth S = some (lb n own oth S) := by
  unfold fX2_liberties
  rw [conn_eq h ho, Option.bind_some]
  rfl
def tk (n : Nat) (a b p : Int64) : Int64 := b &&& (cl n b (ar n (fre n ((a ||| b) ||| p))) ^^^ (-1))
theorem taken_eq {n : Nat} (h : okN n) {a b p : Int64} (hb : sb b (mA n)) : fX2_taken (gridOf n) a b p = some (tk n a b p) := by
  unfold fX2_taken bnd
  show (fX2_connected (gridOf n) b (ar n (fre n ((a ||| b) ||| p)))).bind _ = _
  rw [conn_eq h hb, Option.bind_some]
  rfl
/-- each group of a has a liberty -/
def live (n : Nat) (a b : Int64) : Prop := sb a (cl n a (ar n (fre n (a ||| b))))
def posOK (n : Nat) (a b : Int64) : Prop := sb a (mA n) ∧ sb b (mA n) ∧ a &&& b = 0 ∧ live n a b ∧ live n b a
theorem posOK_sym {n : Nat} {a b : Int64} (h : posOK n a b) : posOK n b a := ⟨h.2.1, h.1, and0_comm.mp h.2.2.1, h.2.2.2.2, h.2.2.2.1⟩
/-- a closed part without a free point beside it -/
theorem clo_free {n : Nat} (h : okN n) {W F R : Int64} (hW : sb W (mA n)) (hF : sb F (mA n)) (hR : clo n W R) (q : R &&& ar n F = 0) : R &&& cl n W (ar n F) = 0 := by
  have hs : sb (cl n W (ar n F)) (W &&& (R ^^^ (-1))) := by
    apply cl_least h hW (clo_rest h hW hR)
    intro i hi
    rw [m_and] at hi
    rw [m_dif]
    exact ⟨hi.2, fun r => m_and0.mp q i r hi.1⟩
  rw [m_and0]
  intro i hi r
  have := hs i r
  rw [m_dif] at this
  exact this.2 hi
theorem live_free {n : Nat} (h : okN n) {a b R : Int64} (ha : sb a (mA n)) (hl : live n a b) (hR : clo n a R) (q : R &&& ar n (fre n (a ||| b)) = 0) : R = 0 := by
  have := clo_free h ha fre_sb hR q
  apply sb_to0
  intro i hi
  exact absurd (hl i (hR.1 i hi)) (m_and0.mp this i hi)
theorem ar_and0 {n : Nat} (h : okN n) {a b : Int64} (ha : sb a (mA n)) (hb : sb b (mA n)) : ar n a &&& b = 0 ↔ a &&& ar n b = 0 := by
  constructor
  · intro q
    exact and0_comm.mp (ar_sym h hb ha (and0_comm.mp q))
  · intro q
    exact ar_sym h ha hb q
