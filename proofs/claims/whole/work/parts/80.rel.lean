/-! the law's world: the cells by number. 0 the object, 1-2 its text, 3-4 its memory, 5-6 its slots, 7 the law's row of one; 8-17 the reference; 18 + 3i, 19 + 3i, 20 + 3i game i: 0-13 the ring, 14 now, 15 the copy, 16 and 17 what the slots keep; gr i: the grid of game i -/
def inj72 (ad : Nat → Nat) : Prop := ∀ i j, i < 72 → j < 72 → ad i = ad j → i = j
theorem inj_ne {ad : Nat → Nat} (h : inj72 ad) {i j : Nat} (hi : i < 72) (hj : j < 72) (hij : ¬ i = j) : ad i ≠ ad j := fun q => hij (h i j hi hj q)
/-- all else stays -/
def KE (ad : Nat → Nat) (chg : List Nat) (σ σ1 : mwm) : Prop := ∀ (q : Nat) (e : va_E), σ q = some e → (∀ j ∈ chg, q ≠ ad j) → σ1 q = some e
theorem KE.refl (ad : Nat → Nat) (chg : List Nat) (σ : mwm) : KE ad chg σ σ := fun _ _ h _ => h
theorem KE.at {ad : Nat → Nat} {chg : List Nat} {σ σ1 : mwm} (h : KE ad chg σ σ1) (hi : inj72 ad) {k : Nat} {e : va_E} (hk : k < 72) (hc : ∀ t ∈ chg, t < 72 ∧ ¬ t = k) (hs : σ (ad k) = some e) : σ1 (ad k) = some e :=
  h _ _ hs (fun j hj => inj_ne hi hk (hc j hj).1 (fun q => (hc j hj).2 q.symm))
def GD (ad gr : Nat → Nat) : Prop := ∀ i j, i < 18 → j < 72 → gr i ≠ ad j
theorem KE.gr {ad gr : Nat → Nat} {chg : List Nat} {σ σ1 : mwm} (h : KE ad chg σ σ1) (hd : GD ad gr) {i : Nat} {e : va_E} (hi : i < 18) (hc : ∀ t ∈ chg, t < 72) (hs : σ (gr i) = some e) : σ1 (gr i) = some e :=
  h _ _ hs (fun j hj => hd i j hi (hc j hj))
def GW (K : Nat → ClassId) (ad gr : Nat → Nat) (G : Nat → GG) (σ : mwm) (i : Nat) : Prop := σ (ad (18 + 3 * i)) = some (cl0 (ad (19 + 3 * i)) (ad (20 + 3 * i)) (gr i) (G i).1) ∧ σ (ad (19 + 3 * i)) = some (eJ K 121 (G i).2.1) ∧ σ (ad (20 + 3 * i)) = some (eJ K 121 (G i).2.2.1) ∧ σ (gr i) = some (cl2 (G i).2.2.2)
def BW (K : Nat → ClassId) (ad : Nat → Nat) (wt : Int32) (ch : Nat → Int32) (mem : Int32 × Int32) (rg : Nat → Option Nat) (S0 S1 : Bool) (o : Nat → Int64) (σ : mwm) : Prop :=
  σ (ad 0) = some (cl5 (ad 1) (ad 60) (ad 63) (ad 3) (ad 5) (ad 6)) ∧ σ (ad 1) = some (cl1 (ad 2) wt) ∧ σ (ad 2) = some (eC K 120 ch) ∧ σ (ad 3) = some (cl3 (ad 4) mem) ∧ σ (ad 4) = some (eQ K 14 rg) ∧ σ (ad 5) = some (cl4 (ad 66) S0) ∧ σ (ad 6) = some (cl4 (ad 69) S1) ∧ σ (ad 7) = some (eJ K 1 o)
def RW (K : Nat → ClassId) (ad : Nat → Nat) (y : MSt) (tx : Nat → Int32) (fn ft fd fk : Nat → Int64) (fik : Nat → Int32) (fo fc : Nat → Int64) (fl : Nat → Int32) (σ : mwm) : Prop :=
  σ (ad 8) = some (cl6 (ad 9) (ad 10) (ad 11) (ad 12) (ad 13) (ad 14) (ad 15) (ad 16) (ad 17) y) ∧ σ (ad 9) = some (eI K 120 tx) ∧ σ (ad 10) = some (eJ K 250 fn) ∧ σ (ad 11) = some (eJ K 250 ft) ∧ σ (ad 12) = some (eJ K 3500 fd) ∧ σ (ad 13) = some (eJ K 500 fk) ∧ σ (ad 14) = some (eZ K 2 fik) ∧ σ (ad 15) = some (eJ K 40 fo) ∧ σ (ad 16) = some (eJ K 40 fc) ∧ σ (ad 17) = some (eI K 40 fl)
theorem BW_keep {K : Nat → ClassId} {ad : Nat → Nat} {wt : Int32} {ch : Nat → Int32} {mem : Int32 × Int32} {rg : Nat → Option Nat} {S0 S1 : Bool} {o : Nat → Int64} {σ σ1 : mwm} {chg : List Nat} (h : KE ad chg σ σ1) (hi : inj72 ad) (hc : ∀ t ∈ chg, 8 ≤ t ∧ t < 72) (hB : BW K ad wt ch mem rg S0 S1 o σ) : BW K ad wt ch mem rg S0 S1 o σ1 := by
  obtain ⟨b0, b1, b2, b3, b4, b5, b6, b7⟩ := hB
  have k : ∀ j, j < 8 → ∀ t ∈ chg, t < 72 ∧ ¬ t = j := fun j hj t ht => by have := hc t ht; omega
  exact ⟨h.at hi (by omega) (k 0 (by omega)) b0, h.at hi (by omega) (k 1 (by omega)) b1, h.at hi (by omega) (k 2 (by omega)) b2, h.at hi (by omega) (k 3 (by omega)) b3, h.at hi (by omega) (k 4 (by omega)) b4, h.at hi (by omega) (k 5 (by omega)) b5, h.at hi (by omega) (k 6 (by omega)) b6, h.at hi (by omega) (k 7 (by omega)) b7⟩
theorem RW_keep {K : Nat → ClassId} {ad : Nat → Nat} {y : MSt} {tx : Nat → Int32} {fn ft fd fk : Nat → Int64} {fik : Nat → Int32} {fo fc : Nat → Int64} {fl : Nat → Int32} {σ σ1 : mwm} {chg : List Nat} (h : KE ad chg σ σ1) (hi : inj72 ad) (hc : ∀ t ∈ chg, t < 72 ∧ (t < 8 ∨ 18 ≤ t)) (hR : RW K ad y tx fn ft fd fk fik fo fc fl σ) : RW K ad y tx fn ft fd fk fik fo fc fl σ1 := by
  obtain ⟨b8, b9, b10, b11, b12, b13, b14, b15, b16, b17⟩ := hR
  have k : ∀ j, 8 ≤ j → j < 18 → ∀ t ∈ chg, t < 72 ∧ ¬ t = j := fun j h1 h2 t ht => by have := hc t ht; omega
  exact ⟨h.at hi (by omega) (k 8 (by omega) (by omega)) b8, h.at hi (by omega) (k 9 (by omega) (by omega)) b9, h.at hi (by omega) (k 10 (by omega) (by omega)) b10, h.at hi (by omega) (k 11 (by omega) (by omega)) b11, h.at hi (by omega) (k 12 (by omega) (by omega)) b12, h.at hi (by omega) (k 13 (by omega) (by omega)) b13, h.at hi (by omega) (k 14 (by omega) (by omega)) b14, h.at hi (by omega) (k 15 (by omega) (by omega)) b15, h.at hi (by omega) (k 16 (by omega) (by omega)) b16, h.at hi (by omega) (k 17 (by omega) (by omega)) b17⟩
theorem GW_keep {K : Nat → ClassId} {ad gr : Nat → Nat} {G : Nat → GG} {σ σ1 : mwm} {chg : List Nat} {i : Nat} (h : KE ad chg σ σ1) (hi : inj72 ad) (hd : GD ad gr) (hi18 : i < 18) (hc : ∀ t ∈ chg, t < 72 ∧ ¬ t = 18 + 3 * i ∧ ¬ t = 19 + 3 * i ∧ ¬ t = 20 + 3 * i) (hG : GW K ad gr G σ i) : GW K ad gr G σ1 i := by
  obtain ⟨g0, g1, g2, g3⟩ := hG
  exact ⟨h.at hi (by omega) (fun t ht => ⟨(hc t ht).1, (hc t ht).2.1⟩) g0, h.at hi (by omega) (fun t ht => ⟨(hc t ht).1, (hc t ht).2.2.1⟩) g1, h.at hi (by omega) (fun t ht => ⟨(hc t ht).1, (hc t ht).2.2.2⟩) g2, h.gr hd hi18 (fun t ht => (hc t ht).1) g3⟩
theorem GA_keep {K : Nat → ClassId} {ad gr : Nat → Nat} {G : Nat → GG} {σ σ1 : mwm} {chg : List Nat} (h : KE ad chg σ σ1) (hi : inj72 ad) (hd : GD ad gr) (hc : ∀ t ∈ chg, t < 18) (hG : ∀ i, i < 18 → GW K ad gr G σ i) : ∀ i, i < 18 → GW K ad gr G σ1 i :=
  fun i hi18 => GW_keep h hi hd hi18 (fun t ht => by have := hc t ht; omega) (hG i hi18)
def PR (ad : Nat → Nat) (G : Nat → GG) (wt : Int32) (ch : Nat → Int32) (mem : Int32 × Int32) (rg : Nat → Option Nat) (S0 S1 : Bool) (y : MSt) (tx : Nat → Int32) (fn fd fk : Nat → Int64) (fik : Nat → Int32) : Prop :=
  ∃ len cd o a, wt = nI len ∧ y.2.1 = nI len ∧ textR len cd ch tx ∧ mem = (nI o, nI a) ∧ y.2.2.1 = nI a ∧ memR o a G fd ∧ (∀ i, i < 14 → rg i = some (ad (18 + 3 * i))) ∧ slotR S0 (fik 0) (G 16) fk ∧ slotR S1 (fik 1) (G 17) (fun i => fk (250 + i)) ∧ gameR (G 14) fn
def REL (K : Nat → ClassId) (ad : Nat → Nat) (σ : mwm) : Prop :=
  ∃ gr G wt ch mem rg S0 S1 o y tx fn ft fd fk fik fo fc fl, BW K ad wt ch mem rg S0 S1 o σ ∧ (∀ i, i < 18 → GW K ad gr G σ i) ∧ GD ad gr ∧ RW K ad y tx fn ft fd fk fik fo fc fl σ ∧ PR ad G wt ch mem rg S0 S1 y tx fn fd fk fik
theorem PR_y {ad : Nat → Nat} {G : Nat → GG} {wt : Int32} {ch : Nat → Int32} {mem : Int32 × Int32} {rg : Nat → Option Nat} {S0 S1 : Bool} {y y' : MSt} {tx : Nat → Int32} {fn fd fk : Nat → Int64} {fik : Nat → Int32} (h : PR ad G wt ch mem rg S0 S1 y tx fn fd fk fik) (hy : sameM y y') : PR ad G wt ch mem rg S0 S1 y' tx fn fd fk fik := by
  obtain ⟨len, cd, o, a, h1, h2, h3, h4, h5, h6⟩ := h
  exact ⟨len, cd, o, a, h1, hy.1.trans h2, h3, h4, hy.2.trans h5, h6⟩
theorem memR_congr {o a : Nat} {R R' : Nat → GG} {dy : Nat → Int64} (h : memR o a R dy) (q : ∀ i, i < 14 → R' i = R i) : memR o a R' dy := by
  obtain ⟨h1, h2, h3⟩ := h
  refine ⟨h1, h2, fun j hj => ?_⟩
  rw [q _ (by omega)]
  exact h3 j hj
theorem memR_less {o a a' : Nat} {R : Nat → GG} {dy : Nat → Int64} (h : memR o a R dy) (q : a' ≤ a) : memR o a' R dy := by
  obtain ⟨h1, h2, h3⟩ := h
  exact ⟨h1, by omega, fun j hj => h3 j (by omega)⟩
/-- a cell that is no grid -/
def noG (e : va_E) : Prop := ∀ w : RS, ¬ e = cl2 w
theorem noG_grid {ad : Nat → Nat} {σ : mwm} {q j : Nat} {e : va_E} {w : RS} (h1 : σ q = some (cl2 w)) (h2 : σ (ad j) = some e) (h3 : noG e) : q ≠ ad j := by
  intro z
  rw [z, h2] at h1
  exact h3 w (Option.some.inj h1)
theorem noG_l {x : ClassId × vp_A} : noG (.inl x) := fun w z => by cases z
theorem noG_r {k : Nat} {fs : List Value} (h : ¬ k = 2) : noG (.inr (k, fs)) := fun w z => by
  have := congrArg (fun e : va_E => match e with | .inl _ => 0 | .inr p => p.1) z
  exact h this
/-- a grid lies apart from all else -/
theorem grid_apart {K : Nat → ClassId} {ad : Nat → Nat} {wt : Int32} {ch : Nat → Int32} {mem : Int32 × Int32} {rg : Nat → Option Nat} {S0 S1 : Bool} {o : Nat → Int64} {y : MSt} {tx : Nat → Int32} {fn ft fd fk : Nat → Int64} {fik : Nat → Int32} {fo fc : Nat → Int64} {fl : Nat → Int32} {σ : mwm} {q : Nat} {w : RS} (hB : BW K ad wt ch mem rg S0 S1 o σ) (hR : RW K ad y tx fn ft fd fk fik fo fc fl σ) (hG : ∀ i, i < 18 → ∃ g0 w0 f0 f1, σ (ad (18 + 3 * i)) = some (cl0 (ad (19 + 3 * i)) (ad (20 + 3 * i)) g0 w0) ∧ σ (ad (19 + 3 * i)) = some (eJ K 121 f0) ∧ σ (ad (20 + 3 * i)) = some (eJ K 121 f1)) (hq : σ q = some (cl2 w)) : ∀ j, j < 72 → q ≠ ad j := by
  obtain ⟨b0, b1, b2, b3, b4, b5, b6, b7⟩ := hB
  obtain ⟨b8, b9, b10, b11, b12, b13, b14, b15, b16, b17⟩ := hR
  intro j hj
  by_cases h18 : 18 ≤ j
  · obtain ⟨i, hi, hji⟩ : ∃ i, i < 18 ∧ (j = 18 + 3 * i ∨ j = 19 + 3 * i ∨ j = 20 + 3 * i) := ⟨(j - 18) / 3, by omega, by omega⟩
    obtain ⟨g0, w0, f0, f1, g1, g2, g3⟩ := hG i hi
    rcases hji with e | e | e
    · subst e; exact noG_grid hq g1 (noG_r (by omega))
    · subst e; exact noG_grid hq g2 noG_l
    · subst e; exact noG_grid hq g3 noG_l
  · rcases (show j = 0 ∨ j = 1 ∨ j = 2 ∨ j = 3 ∨ j = 4 ∨ j = 5 ∨ j = 6 ∨ j = 7 ∨ j = 8 ∨ j = 9 ∨ j = 10 ∨ j = 11 ∨ j = 12 ∨ j = 13 ∨ j = 14 ∨ j = 15 ∨ j = 16 ∨ j = 17 by omega) with e | e | e | e | e | e | e | e | e | e | e | e | e | e | e | e | e | e
    all_goals subst e
    · exact noG_grid hq b0 (noG_r (by omega))
    · exact noG_grid hq b1 (noG_r (by omega))
    · exact noG_grid hq b2 noG_l
    · exact noG_grid hq b3 (noG_r (by omega))
    · exact noG_grid hq b4 noG_l
    · exact noG_grid hq b5 (noG_r (by omega))
    · exact noG_grid hq b6 (noG_r (by omega))
    · exact noG_grid hq b7 noG_l
    · exact noG_grid hq b8 (noG_r (by omega))
    · exact noG_grid hq b9 noG_l
    · exact noG_grid hq b10 noG_l
    · exact noG_grid hq b11 noG_l
    · exact noG_grid hq b12 noG_l
    · exact noG_grid hq b13 noG_l
    · exact noG_grid hq b14 noG_l
    · exact noG_grid hq b15 noG_l
    · exact noG_grid hq b16 noG_l
    · exact noG_grid hq b17 noG_l
