/-! an object of the class in the world: its cells by number. 0 the object, 1-2 its text, 3-4 its memory, 5-6 its slots; 7 + 3i, 8 + 3i, 9 + 3i game i: 0-13 the ring, 14 now, 15 the copy, 16 and 17 what the slots keep; gr i: the grid of game i -/
abbrev GG : Type := GS × (Nat → Int64) × (Nat → Int64) × RS
abbrev OSt : Type := (Nat → GG) × (Int32 × Int32) × Int32 × (Nat → Int32) × Bool × Bool
def inj61 (ad : Nat → Nat) : Prop := ∀ i j, i < 61 → j < 61 → ad i = ad j → i = j
theorem inj_ne {ad : Nat → Nat} (h : inj61 ad) {i j : Nat} (hi : i < 61) (hj : j < 61) (hij : ¬ i = j) : ad i ≠ ad j := fun q => hij (h i j hi hj q)
/-- all else stays -/
def KE (ad : Nat → Nat) (chg : List Nat) (σ σ1 : mwm) : Prop := ∀ (q : Nat) (e : va_E), σ q = some e → (∀ j ∈ chg, q ≠ ad j) → σ1 q = some e
theorem KE.at {ad : Nat → Nat} {chg : List Nat} {σ σ1 : mwm} (h : KE ad chg σ σ1) (hi : inj61 ad) {k : Nat} {e : va_E} (hk : k < 61) (hc : ∀ t ∈ chg, t < 61 ∧ ¬ t = k) (hs : σ (ad k) = some e) : σ1 (ad k) = some e :=
  h _ _ hs (fun j hj => inj_ne hi hk (hc j hj).1 (fun q => (hc j hj).2 q.symm))
def GD (ad gr : Nat → Nat) : Prop := ∀ i j, i < 18 → j < 61 → gr i ≠ ad j
theorem KE.gr {ad gr : Nat → Nat} {chg : List Nat} {σ σ1 : mwm} (h : KE ad chg σ σ1) (hd : GD ad gr) {i : Nat} {e : va_E} (hi : i < 18) (hc : ∀ t ∈ chg, t < 61) (hs : σ (gr i) = some e) : σ1 (gr i) = some e :=
  h _ _ hs (fun j hj => hd i j hi (hc j hj))
/-- all but the object's own cells stays -/
def KEO (ad : Nat → Nat) (σ σ1 : mwm) : Prop := ∀ (q : Nat) (e : va_E), σ q = some e → (∀ j, j < 61 → q ≠ ad j) → σ1 q = some e
theorem KEO.rf (ad : Nat → Nat) (σ : mwm) : KEO ad σ σ := fun _ _ h _ => h
theorem KEO.tr {ad : Nat → Nat} {σ σ1 σ2 : mwm} (h : KEO ad σ σ1) (g : KEO ad σ1 σ2) : KEO ad σ σ2 := fun q e hq hn => g q e (h q e hq hn) hn
theorem KE.o {ad : Nat → Nat} {chg : List Nat} {σ σ1 : mwm} (h : KE ad chg σ σ1) (hc : ∀ t ∈ chg, t < 61) : KEO ad σ σ1 := fun q e hq hn => h q e hq (fun j hj => hn j (hc j hj))
def GW (K : Nat → ClassId) (ad gr : Nat → Nat) (G : Nat → GG) (σ : mwm) (i : Nat) : Prop := σ (ad (7 + 3 * i)) = some (cl0 (ad (8 + 3 * i)) (ad (9 + 3 * i)) (gr i) (G i).1) ∧ σ (ad (8 + 3 * i)) = some (eJ K 121 (G i).2.1) ∧ σ (ad (9 + 3 * i)) = some (eJ K 121 (G i).2.2.1) ∧ σ (gr i) = some (cl2 (G i).2.2.2)
def BW (K : Nat → ClassId) (ad : Nat → Nat) (wt : Int32) (ch : Nat → Int32) (mem : Int32 × Int32) (rg : Nat → Option Nat) (S0 S1 : Bool) (σ : mwm) : Prop :=
  σ (ad 0) = some (cl5 (ad 1) (ad 49) (ad 52) (ad 3) (ad 5) (ad 6)) ∧ σ (ad 1) = some (cl1 (ad 2) wt) ∧ σ (ad 2) = some (eC K 120 ch) ∧ σ (ad 3) = some (cl3 (ad 4) mem) ∧ σ (ad 4) = some (eQ K 14 rg) ∧ σ (ad 5) = some (cl4 (ad 55) S0) ∧ σ (ad 6) = some (cl4 (ad 58) S1)
theorem GW_keep {K : Nat → ClassId} {ad gr : Nat → Nat} {G : Nat → GG} {σ σ1 : mwm} {chg : List Nat} {i : Nat} (h : KE ad chg σ σ1) (hi : inj61 ad) (hd : GD ad gr) (hi18 : i < 18) (hc : ∀ t ∈ chg, t < 61 ∧ ¬ t = 7 + 3 * i ∧ ¬ t = 8 + 3 * i ∧ ¬ t = 9 + 3 * i) (hG : GW K ad gr G σ i) : GW K ad gr G σ1 i := by
  obtain ⟨g0, g1, g2, g3⟩ := hG
  exact ⟨h.at hi (by omega) (fun t ht => ⟨(hc t ht).1, (hc t ht).2.1⟩) g0, h.at hi (by omega) (fun t ht => ⟨(hc t ht).1, (hc t ht).2.2.1⟩) g1, h.at hi (by omega) (fun t ht => ⟨(hc t ht).1, (hc t ht).2.2.2⟩) g2, h.gr hd hi18 (fun t ht => (hc t ht).1) g3⟩
def OB (K : Nat → ClassId) (ad : Nat → Nat) (σ : mwm) (s : OSt) : Prop :=
  inj61 ad ∧ ∃ (gr : Nat → Nat) (rg : Nat → Option Nat), BW K ad s.2.2.1 s.2.2.2.1 s.2.1 rg s.2.2.2.2.1 s.2.2.2.2.2 σ ∧ (∀ i, i < 18 → GW K ad gr s.1 σ i) ∧ GD ad gr ∧ ∀ i, i < 14 → rg i = some (ad (7 + 3 * i))
theorem OB.same {K : Nat → ClassId} {ad : Nat → Nat} {σ σ1 : mwm} {s : OSt} (h : OB K ad σ s) (hk : ∀ (q : Nat) (e : va_E), σ q = some e → σ1 q = some e) : OB K ad σ1 s := by
  obtain ⟨hi, gr, rg, ⟨b0, b1, b2, b3, b4, b5, b6⟩, hG, hD, hr⟩ := h
  exact ⟨hi, gr, rg, ⟨hk _ _ b0, hk _ _ b1, hk _ _ b2, hk _ _ b3, hk _ _ b4, hk _ _ b5, hk _ _ b6⟩, fun i h18 => ⟨hk _ _ (hG i h18).1, hk _ _ (hG i h18).2.1, hk _ _ (hG i h18).2.2.1, hk _ _ (hG i h18).2.2.2⟩, hD, hr⟩
/-- a cell that is no grid -/
def noG (e : va_E) : Prop := ∀ w : RS, ¬ e = cl2 w
theorem noG_grid {ad : Nat → Nat} {σ : mwm} {q j : Nat} {e : va_E} {w : RS} (h1 : σ q = some (cl2 w)) (h2 : σ (ad j) = some e) (h3 : noG e) : q ≠ ad j := by
  intro z
  rw [z, h2] at h1
  exact h3 w (Option.some.inj h1)
theorem noG_l {x : ClassId × vp_A} : noG (.inl x) := fun w z => by cases z
theorem noG_r {k : Nat} {fs : List Value} (h : ¬ k = 2) : noG (.inr (k, fs)) := fun w z => by
  have := congrArg (fun e : va_E => match e with | .inl _ => 0 | .inr p => p.1) z
  exact h this
/-- a grid lies apart from an object's cells -/
theorem grid_apart {K : Nat → ClassId} {ad : Nat → Nat} {wt : Int32} {ch : Nat → Int32} {mem : Int32 × Int32} {rg : Nat → Option Nat} {S0 S1 : Bool} {σ : mwm} {q : Nat} {w : RS} (hB : BW K ad wt ch mem rg S0 S1 σ) (hG : ∀ i, i < 18 → ∃ g0 w0 f0 f1, σ (ad (7 + 3 * i)) = some (cl0 (ad (8 + 3 * i)) (ad (9 + 3 * i)) g0 w0) ∧ σ (ad (8 + 3 * i)) = some (eJ K 121 f0) ∧ σ (ad (9 + 3 * i)) = some (eJ K 121 f1)) (hq : σ q = some (cl2 w)) : ∀ j, j < 61 → q ≠ ad j := by
  obtain ⟨b0, b1, b2, b3, b4, b5, b6⟩ := hB
  intro j hj
  by_cases h7 : 7 ≤ j
  · obtain ⟨i, hi, hji⟩ : ∃ i, i < 18 ∧ (j = 7 + 3 * i ∨ j = 8 + 3 * i ∨ j = 9 + 3 * i) := ⟨(j - 7) / 3, by omega, by omega⟩
    obtain ⟨g0, w0, f0, f1, g1, g2, g3⟩ := hG i hi
    rcases hji with e | e | e
    · subst e; exact noG_grid hq g1 (noG_r (by omega))
    · subst e; exact noG_grid hq g2 noG_l
    · subst e; exact noG_grid hq g3 noG_l
  · rcases (show j = 0 ∨ j = 1 ∨ j = 2 ∨ j = 3 ∨ j = 4 ∨ j = 5 ∨ j = 6 by omega) with e | e | e | e | e | e | e
    all_goals subst e
    · exact noG_grid hq b0 (noG_r (by omega))
    · exact noG_grid hq b1 (noG_r (by omega))
    · exact noG_grid hq b2 noG_l
    · exact noG_grid hq b3 (noG_r (by omega))
    · exact noG_grid hq b4 noG_l
    · exact noG_grid hq b5 (noG_r (by omega))
    · exact noG_grid hq b6 (noG_r (by omega))
theorem OB.apart {K : Nat → ClassId} {ad : Nat → Nat} {σ : mwm} {s : OSt} (h : OB K ad σ s) {q : Nat} {w : RS} (hq : σ q = some (cl2 w)) : ∀ j, j < 61 → q ≠ ad j := by
  obtain ⟨hi, gr, rg, hB, hG, hD, hr⟩ := h
  exact grid_apart hB (fun i h18 => ⟨_, _, _, _, (hG i h18).1, (hG i h18).2.1, (hG i h18).2.2.1⟩) hq
/-- two objects apart -/
def apt (a1 a2 : Nat → Nat) : Prop := ∀ i j, i < 61 → j < 61 → a1 i ≠ a2 j
theorem apt.symm {a1 a2 : Nat → Nat} (h : apt a1 a2) : apt a2 a1 := fun i j hi hj q => h j i hj hi q.symm
theorem OB.keep {K : Nat → ClassId} {a1 a2 : Nat → Nat} {σ σ1 : mwm} {s1 s2 : OSt} (h2 : OB K a2 σ s2) (h1 : OB K a1 σ s1) (hap : apt a1 a2) (hk : KEO a1 σ σ1) : OB K a2 σ1 s2 := by
  have hk' : ∀ {j : Nat} {e : va_E}, j < 61 → σ (a2 j) = some e → σ1 (a2 j) = some e := fun {j e} hj hs => hk _ _ hs (fun i hi q => hap i j hi hj q.symm)
  have hg : ∀ {q : Nat} {w : RS}, σ q = some (cl2 w) → σ1 q = some (cl2 w) := fun {q w} hs => hk _ _ hs (h1.apart hs)
  obtain ⟨hi, gr, rg, ⟨b0, b1, b2, b3, b4, b5, b6⟩, hG, hD, hr⟩ := h2
  exact ⟨hi, gr, rg, ⟨hk' (by omega) b0, hk' (by omega) b1, hk' (by omega) b2, hk' (by omega) b3, hk' (by omega) b4, hk' (by omega) b5, hk' (by omega) b6⟩, fun i h18 => ⟨hk' (by omega) (hG i h18).1, hk' (by omega) (hG i h18).2.1, hk' (by omega) (hG i h18).2.2.1, hg (hG i h18).2.2.2⟩, hD, hr⟩
def putN (f : Nat → Nat) (x a : Nat) : Nat → Nat := fun i => if i = x then a else f i
theorem putN_at (f : Nat → Nat) (x a : Nat) : putN f x a x = a := by unfold putN; rw [if_pos rfl]
theorem putN_ne {f : Nat → Nat} {x i a : Nat} (h : ¬ i = x) : putN f x a i = f i := by unfold putN; rw [if_neg h]
def putR (R : Nat → GG) (x : Nat) (G : GG) : Nat → GG := fun i => if i = x then G else R i
theorem putR_at (R : Nat → GG) (x : Nat) (G : GG) : putR R x G x = G := by unfold putR; rw [if_pos rfl]
theorem putR_ne {R : Nat → GG} {x i : Nat} {G : GG} (h : ¬ i = x) : putR R x G i = R i := by unfold putR; rw [if_neg h]
theorem GD_put {ad gr : Nat → Nat} {x a : Nat} (h : GD ad gr) (q : ∀ j, j < 61 → a ≠ ad j) : GD ad (putN gr x a) := by
  intro i j hi hj
  by_cases c : i = x
  · rw [c, putN_at]
    exact q j hj
  · rw [putN_ne c]
    exact h i j hi hj
theorem GW_mk {K : Nat → ClassId} {ad gr : Nat → Nat} {G : Nat → GG} {σ : mwm} {i g : Nat} {w : GS} {f0 f1 : Nat → Int64} {r : RS} (h0 : σ (ad (7 + 3 * i)) = some (cl0 (ad (8 + 3 * i)) (ad (9 + 3 * i)) g w)) (h1 : σ (ad (8 + 3 * i)) = some (eJ K 121 f0)) (h2 : σ (ad (9 + 3 * i)) = some (eJ K 121 f1)) (h3 : σ g = some (cl2 r)) (hg : gr i = g) (hG : G i = (w, f0, f1, r)) : GW K ad gr G σ i := by
  unfold GW
  rw [hg, hG]
  exact ⟨h0, h1, h2, h3⟩
theorem GW_same {K : Nat → ClassId} {ad gr gr' : Nat → Nat} {G G' : Nat → GG} {σ : mwm} {i : Nat} (hg : gr' i = gr i) (hG : G' i = G i) (h : GW K ad gr G σ i) : GW K ad gr' G' σ i := by
  unfold GW
  rw [hg, hG]
  exact h
theorem vx_mono {l : Launch} {y : MethodName} {ws : List Cond} {rm : Room} {Pc : Array Value → State → Prop} {Qc Qc' : Array Value → State → Outcome → State → Prop} {XC : String → State → State → Prop} {mc ms : Nat} {free : Addr → Prop} (h : vx_Met l y ws rm Pc Qc XC mc ms free) (hq : ∀ a st o t, Qc a st o t → Qc' a st o t) : vx_Met l y ws rm Pc Qc' XC mc ms free :=
  MetFree.mono h (fun _ _ h => h) (fun _ _ _ _ _ h => h) (fun a st o t _ h => h.elim (fun h => Or.inl ⟨hq _ _ _ _ h.1, h.2⟩) (fun h => Or.inr h))
theorem vx_mono2 {l : Launch} {y : MethodName} {ws : List Cond} {rm : Room} {Pc : Array Value → State → Prop} {Qc Qc' : Array Value → State → Outcome → State → Prop} {XC XC' : String → State → State → Prop} {mc ms : Nat} {free : Addr → Prop} (h : vx_Met l y ws rm Pc Qc XC mc ms free) (hq : ∀ a st o t, Qc a st o t → Qc' a st o t) (hx : ∀ E st t, XC E st t → XC' E st t) : vx_Met l y ws rm Pc Qc' XC' mc ms free :=
  MetFree.mono h (fun _ _ h => h) (fun _ _ _ _ _ h => h) (fun a st o t _ h => h.elim (fun h => Or.inl ⟨hq _ _ _ _ h.1, h.2⟩) (fun h => Or.inr (by
    obtain ⟨q, h1, E, ce, L, h2, h3⟩ := h
    exact ⟨q, h1, E, ce, L, hx _ _ _ h2, h3⟩)))
theorem qwI_mono {z : Nat} {D : va_G} {p p' : Int32 → mwm → Prop} {a : Array Value} {st t : State} {o : Outcome} (h : qwI z D p a st o t) (hp : ∀ r σ, p r σ → p' r σ) : qwI z D p' a st o t := by
  obtain ⟨⟨r, u, h1, h2, h3⟩, h4⟩ := h
  exact ⟨⟨r, u, h1, hp _ _ h2, h3⟩, h4⟩
theorem qwL_mono {z : Nat} {D : va_G} {p p' : Int64 → mwm → Prop} {a : Array Value} {st t : State} {o : Outcome} (h : qwL z D p a st o t) (hp : ∀ r σ, p r σ → p' r σ) : qwL z D p' a st o t := by
  obtain ⟨⟨r, u, h1, h2, h3⟩, h4⟩ := h
  exact ⟨⟨r, u, h1, hp _ _ h2, h3⟩, h4⟩
theorem XQ_mono {R R' : Type} {z : Nat} {D : va_G} {σ : mwm} {v : String ⊕ R} {v' : String ⊕ R'} {E : String} {st t : State} (h : XQ z D σ v E st t) (hv : ∀ E, v = Sum.inl E → v' = Sum.inl E) : XQ z D σ v' E st t := by
  obtain ⟨u, h1, ⟨h2, h3⟩, h4⟩ := h
  exact ⟨u, h1, ⟨hv _ h2, h3⟩, h4⟩
/-! the ring, without addresses -/
/-- the place of the ring that is written next -/
def nxtX (m : Int32 × Int32) : Nat := (if m.2 < 14 then (m.1 + m.2) - (m.1 + m.2) / 14 * 14 else ((m.1 + 1) - (m.1 + 1) / 14 * 14 + 13) - ((m.1 + 1) - (m.1 + 1) / 14 * 14 + 13) / 14 * 14).toNatClampNeg % 14
/-- the place of the ring that was written last -/
def lstX (m : Int32 × Int32) : Nat := ((m.1 + (m.2 - 1)) - (m.1 + (m.2 - 1)) / 14 * 14).toNatClampNeg % 14
abbrev rgC : Nat → Option Nat := fun i => some i
theorem nxtX_lt (m : Int32 × Int32) : nxtX m < 14 := Nat.mod_lt _ (by omega)
theorem lstX_lt (m : Int32 × Int32) : lstX m < 14 := Nat.mod_lt _ (by omega)
