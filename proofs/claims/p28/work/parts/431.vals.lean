theorem isCol_c (c : Int32) : fX7_isColour c = true ↔ c = 0 ∨ c = 1 := by
  unfold fX7_isColour
  by_cases h : c = 0
  · rw [if_pos h]
    exact ⟨fun _ => .inl h, fun _ => rfl⟩
  · rw [if_neg h]
    by_cases q : c = 1
    · rw [if_pos q]
      exact ⟨fun _ => .inr q, fun _ => rfl⟩
    · rw [if_neg q]
      exact ⟨fun z => absurd z (by decide), fun z => absurd z (fun z => z.elim h q)⟩
theorem isCol_nI {c : Nat} (hc : c < 2) : fX7_isColour (nI c) = true := by
  rcases (show c = 0 ∨ c = 1 by omega) with e | e
  · subst e; decide
  · subst e; decide
/-- a colour's captives -/
def cap (c0 c1 c : Nat) : Nat := if c = 0 then c0 else c1
theorem fE_sb {n : Nat} {a b : Int64} (h : okN n) : sb (fE n a b) (mA n) := fun i q => eyS_sb h i (((fE_ex h a b).2 i).mp q).1
section VALS
variable {s : OSt} {n rule mv ps pr c0 c1 : Nat} {a b : Int32}
theorem w_rows (h : NW s n rule mv ps pr c0 c1) : (s.1 14).2.2.2.1 = nI n := by rw [h.grid]; exact grid_rows h.okn
theorem w_pts (h : NW s n rule mv ps pr c0 c1) : (s.1 14).2.2.2.2.1 = nI (n * n) := by rw [h.grid]; exact grid_points h.okn
theorem about_0 (h : NW s n rule mv ps pr c0 c1) : fL_call_2 s 0 a b = some (nI n) := call_2_v (by unfold aAbout fX7_about; rw [if_pos rfl, w_rows h])
theorem about_1 (h : NW s n rule mv ps pr c0 c1) : fL_call_2 s 1 a b = some (nI mv) := call_2_v (by unfold aAbout fX7_about; rw [if_neg (by decide), if_pos rfl, h.weq])
theorem about_2 (h : NW s n rule mv ps pr c0 c1) : fL_call_2 s 2 a b = some (nI (mv % 2)) := call_2_v (by unfold aAbout fX7_about; rw [if_neg (by decide), if_neg (by decide), if_pos rfl, h.turn.1])
theorem about_3 (h : NW s n rule mv ps pr c0 c1) : fL_call_2 s 3 a b = some (nI ps) := call_2_v (by unfold aAbout fX7_about; rw [if_neg (by decide), if_neg (by decide), if_neg (by decide), if_pos rfl, h.weq])
theorem about_4 (h : NW s n rule mv ps pr c0 c1) : ∃ r, fL_call_2 s 4 a b = some r := by
  by_cases q : (s.1 14).1.2.2.2.1 < 2
  · exact ⟨0, call_2_v (by unfold aAbout fX7_about; rw [if_neg (by decide), if_neg (by decide), if_neg (by decide), if_neg (by decide), if_pos rfl, if_pos q])⟩
  · exact ⟨1, call_2_v (by unfold aAbout fX7_about; rw [if_neg (by decide), if_neg (by decide), if_neg (by decide), if_neg (by decide), if_pos rfl, if_neg q])⟩
/-- how many groups of a colour -/
def gN (n : Nat) (S : Int64) : Nat := gsum n S (fun _ => 1) 49 S
/-- how many groups with one liberty -/
def gO (n : Nat) (S O : Int64) : Nat := gsum n S (oneL n S O) 49 S
theorem groups_c (h : NW s n rule mv ps pr c0 c1) {c : Nat} (hc : c < 2) : fX0_groupsOf (s.1 14).1 (s.1 14).2.2.2 (nI c) = some (nI (gN n (sOf (s.1 14).2.1 (s.1 14).2.2.1 mv c))) := groupsOf_eq h hc
theorem about_5 (h : NW s n rule mv ps pr c0 c1) : fL_call_2 s 5 a b = some (nI (gN n ((s.1 14).2.1 mv) + gN n ((s.1 14).2.2.1 mv))) := by
  have G0 : fX0_groupsOf (s.1 14).1 (s.1 14).2.2.2 0 = some (nI (gN n ((s.1 14).2.1 mv))) := groups_c h (c := 0) (by omega)
  have G1 : fX0_groupsOf (s.1 14).1 (s.1 14).2.2.2 1 = some (nI (gN n ((s.1 14).2.2.1 mv))) := groups_c h (c := 1) (by omega)
  exact call_2_v (by unfold aAbout fX7_about; rw [if_neg (by decide), if_neg (by decide), if_neg (by decide), if_neg (by decide), if_neg (by decide), if_pos rfl, G0, Option.bind_some, G1, Option.bind_some, nI_add])
theorem about_6 (h : NW s n rule mv ps pr c0 c1) : fL_call_2 s 6 a b = some (nI (gO n ((s.1 14).2.1 mv) ((s.1 14).2.2.1 mv) + gO n ((s.1 14).2.2.1 mv) ((s.1 14).2.1 mv))) := by
  have O := oneOf_eq h
  exact call_2_v (by unfold aAbout fX7_about; rw [if_neg (by decide), if_neg (by decide), if_neg (by decide), if_neg (by decide), if_neg (by decide), if_neg (by decide), if_pos rfl, O, Option.bind_some, nI_add]; rfl)
theorem about_7 (h : NW s n rule mv ps pr c0 c1) : fL_call_2 s 7 a b = some (nI rule) := call_2_v (by unfold aAbout fX7_about; rw [if_neg (by decide), if_neg (by decide), if_neg (by decide), if_neg (by decide), if_neg (by decide), if_neg (by decide), if_neg (by decide), if_pos rfl, h.weq])
theorem about_bad {p : Int32} (hp : ¬ p = 0 ∧ ¬ p = 1 ∧ ¬ p = 2 ∧ ¬ p = 3 ∧ ¬ p = 4 ∧ ¬ p = 5 ∧ ¬ p = 6 ∧ ¬ p = 7) : fL_call_2 s p a b = some (-9999002) := by
  obtain ⟨h0, h1, h2, h3, h4, h5, h6, h7⟩ := hp
  exact call_2_A (by unfold aAbout fX7_about; rw [if_neg h0, if_neg h1, if_neg h2, if_neg h3, if_neg h4, if_neg h5, if_neg h6, if_neg h7])
theorem about_tot (h : NW s n rule mv ps pr c0 c1) (p : Int32) : ∃ r, fL_call_2 s p a b = some r := by
  by_cases h0 : p = 0
  · subst h0; exact ⟨_, about_0 h⟩
  by_cases h1 : p = 1
  · subst h1; exact ⟨_, about_1 h⟩
  by_cases h2 : p = 2
  · subst h2; exact ⟨_, about_2 h⟩
  by_cases h3 : p = 3
  · subst h3; exact ⟨_, about_3 h⟩
  by_cases h4 : p = 4
  · subst h4; exact about_4 h
  by_cases h5 : p = 5
  · subst h5; exact ⟨_, about_5 h⟩
  by_cases h6 : p = 6
  · subst h6; exact ⟨_, about_6 h⟩
  by_cases h7 : p = 7
  · subst h7; exact ⟨_, about_7 h⟩
  exact ⟨_, about_bad ⟨h0, h1, h2, h3, h4, h5, h6, h7⟩⟩
/-! the stones of a colour -/
theorem has_c (h : NW s n rule mv ps pr c0 c1) {c : Nat} (hc : c < 2) : fL_has s (nI c) = some (sOf (s.1 14).2.1 (s.1 14).2.2.1 mv c) := has_v (by unfold aStones fX7_stones; rw [if_pos (isCol_nI hc), h.wc hc])
theorem has_0 (h : NW s n rule mv ps pr c0 c1) : fL_has s 0 = some ((s.1 14).2.1 mv) := has_c h (c := 0) (by omega)
theorem has_1 (h : NW s n rule mv ps pr c0 c1) : fL_has s 1 = some ((s.1 14).2.2.1 mv) := has_c h (c := 1) (by omega)
theorem has_bad {p : Int32} (hp : ¬ p = 0 ∧ ¬ p = 1) : fL_has s p = some (-9999001) := has_O (by unfold aStones fX7_stones; rw [if_neg (fun z => ((isCol_c p).mp z).elim hp.1 hp.2)])
/-! numbers of a colour -/
theorem colour_0 (h : NW s n rule mv ps pr c0 c1) {c : Nat} (hc : c < 2) : fL_call_3 s (nI c) 0 b = some (nI (cn (sOf (s.1 14).2.1 (s.1 14).2.2.1 mv c) 49)) := call_3_v (by unfold aColour fX7_colour; rw [if_pos (isCol_nI hc), if_pos rfl, h.wc hc, bc49 h.okn (h.pos hc).1])
theorem colour_1 (h : NW s n rule mv ps pr c0 c1) {c : Nat} (hc : c < 2) : fL_call_3 s (nI c) 1 b = some (nI (cap c0 c1 c)) := call_3_v (by
  unfold aColour fX7_colour
  rw [if_pos (isCol_nI hc), if_neg (by decide), if_pos rfl]
  unfold fX0_captivesOf cap
  rw [h.weq]
  rcases (show c = 0 ∨ c = 1 by omega) with e | e
  · subst e; rfl
  · subst e; rfl)
def arN (n : Nat) (S O : Int64) : Nat := cn S 49 + cn (enc n S O) 49
theorem area_c (h : NW s n rule mv ps pr c0 c1) {c : Nat} (hc : c < 2) : fX0_areaOf (s.1 14).1 (s.1 14).2.2.2 (nI c) = some (nI (arN n (sOf (s.1 14).2.1 (s.1 14).2.2.1 mv c) (sOf (s.1 14).2.1 (s.1 14).2.2.1 mv (1 - c)))) := areaOf_eq h hc
theorem colour_2 (h : NW s n rule mv ps pr c0 c1) {c : Nat} (hc : c < 2) : fL_call_3 s (nI c) 2 b = some (nI (arN n (sOf (s.1 14).2.1 (s.1 14).2.2.1 mv c) (sOf (s.1 14).2.1 (s.1 14).2.2.1 mv (1 - c)))) := call_3_v (by
  unfold aColour fX7_colour
  rw [if_pos (isCol_nI hc), if_neg (by decide), if_neg (by decide), if_pos rfl, area_c h hc, Option.bind_some])
theorem colour_3 (h : NW s n rule mv ps pr c0 c1) {c : Nat} (hc : c < 2) : fL_call_3 s (nI c) 3 b = some (nI (cn (eyX n (sOf (s.1 14).2.1 (s.1 14).2.2.1 mv c) (sOf (s.1 14).2.1 (s.1 14).2.2.1 mv (1 - c)) 2) 49)) := call_3_v (by
  unfold aColour fX7_colour
  rw [if_pos (isCol_nI hc), if_neg (by decide), if_neg (by decide), if_neg (by decide), if_pos rfl, trueEyes_eq h hc, Option.bind_some, bc49 h.okn (eyX_sb h.okn)])
theorem colour_4 (h : NW s n rule mv ps pr c0 c1) {c : Nat} (hc : c < 2) : fL_call_3 s (nI c) 4 b = some (nI (cn (fE n (sOf (s.1 14).2.1 (s.1 14).2.2.1 mv c) (sOf (s.1 14).2.1 (s.1 14).2.2.1 mv (1 - c))) 49)) := call_3_v (by
  unfold aColour fX7_colour
  rw [if_pos (isCol_nI hc), if_neg (by decide), if_neg (by decide), if_neg (by decide), if_neg (by decide), if_pos rfl, falseEyes_eq h hc, Option.bind_some, bc49 h.okn (fE_sb h.okn)])
theorem colour_5 (h : NW s n rule mv ps pr c0 c1) {c : Nat} (hc : c < 2) : fL_call_3 s (nI c) 5 b = some (nI (gN n (sOf (s.1 14).2.1 (s.1 14).2.2.1 mv c))) := call_3_v (by
  unfold aColour fX7_colour
  rw [if_pos (isCol_nI hc), if_neg (by decide), if_neg (by decide), if_neg (by decide), if_neg (by decide), if_neg (by decide), if_pos rfl, groups_c h hc, Option.bind_some])
theorem colour_bad {p q : Int32} (hp : ¬ p = 0 ∧ ¬ p = 1) : fL_call_3 s p q b = some (-9999001) := call_3_O (by unfold aColour fX7_colour; rw [if_neg (fun z => ((isCol_c p).mp z).elim hp.1 hp.2)])
theorem colour_bad2 {c : Nat} (hc : c < 2) {q : Int32} (hp : ¬ q = 0 ∧ ¬ q = 1 ∧ ¬ q = 2 ∧ ¬ q = 3 ∧ ¬ q = 4 ∧ ¬ q = 5) : fL_call_3 s (nI c) q b = some (-9999002) := by
  obtain ⟨h0, h1, h2, h3, h4, h5⟩ := hp
  exact call_3_A (by unfold aColour fX7_colour; rw [if_pos (isCol_nI hc), if_neg h0, if_neg h1, if_neg h2, if_neg h3, if_neg h4, if_neg h5])
theorem colour_tot (h : NW s n rule mv ps pr c0 c1) (p q : Int32) : ∃ r, fL_call_3 s p q b = some r := by
  by_cases hp : ¬ p = 0 ∧ ¬ p = 1
  · exact ⟨_, colour_bad hp⟩
  obtain ⟨c, hc, rfl⟩ : ∃ c, c < 2 ∧ p = nI c := by
    by_cases e : p = 0
    · exact ⟨0, by omega, e⟩
    · by_cases e1 : p = 1
      · exact ⟨1, by omega, e1⟩
      · exact absurd ⟨e, e1⟩ hp
  by_cases h0 : q = 0
  · subst h0; exact ⟨_, colour_0 h hc⟩
  by_cases h1 : q = 1
  · subst h1; exact ⟨_, colour_1 h hc⟩
  by_cases h2 : q = 2
  · subst h2; exact ⟨_, colour_2 h hc⟩
  by_cases h3 : q = 3
  · subst h3; exact ⟨_, colour_3 h hc⟩
  by_cases h4 : q = 4
  · subst h4; exact ⟨_, colour_4 h hc⟩
  by_cases h5 : q = 5
  · subst h5; exact ⟨_, colour_5 h hc⟩
  exact ⟨_, colour_bad2 hc ⟨h0, h1, h2, h3, h4, h5⟩⟩
/-! numbers of a point -/
theorem hasK (h : NW s n rule mv ps pr c0 c1) {k : Nat} (hk : k < n * n) : fX2_has (s.1 14).2.2.2 (nI k) = true := by rw [h.grid]; exact hasG_nI h.okn hk
theorem pt64 (h : NW s n rule mv ps pr c0 c1) {k : Nat} (hk : k < n * n) : k < 64 := by have := (okN_sq h.okn).2; omega
variable {k c : Nat}
theorem pt0_c (h : NW s n rule mv ps pr c0 c1) (hk : k < n * n) (hc : c < 2) (q : tb (sOf (s.1 14).2.1 (s.1 14).2.2.1 mv c) k = true) : fL_call_4 s (nI k) 0 b = some (nI c) := call_4_v (by
  unfold aPoint fX7_point
  rw [if_pos (hasK h hk), if_pos rfl, col_stone h (pt64 h hk) hc q])
theorem pt0_f (h : NW s n rule mv ps pr c0 c1) (hk : k < n * n) (q : ¬ tb ((s.1 14).2.1 mv ||| (s.1 14).2.2.1 mv) k = true) : fL_call_4 s (nI k) 0 b = some (-1) := call_4_v (by
  unfold aPoint fX7_point
  rw [if_pos (hasK h hk), if_pos rfl, col_free h (pt64 h hk) q])
theorem grp_sb (h : NW s n rule mv ps pr c0 c1) (hc : c < 2) {S : Int64} : sb (cl n (sOf (s.1 14).2.1 (s.1 14).2.2.1 mv c) S) (mA n) := sb_trans (cl_sb h.okn (h.pos hc).1) (h.pos hc).1
theorem pt1_c (h : NW s n rule mv ps pr c0 c1) (hk : k < n * n) (hc : c < 2) (q : tb (sOf (s.1 14).2.1 (s.1 14).2.2.1 mv c) k = true) : fL_call_4 s (nI k) 1 b = some (nI (cn (cl n (sOf (s.1 14).2.1 (s.1 14).2.2.1 mv c) (pt k)) 49)) := call_4_v (by
  unfold aPoint fX7_point
  rw [if_pos (hasK h hk), if_neg (by decide), if_pos rfl, groupAt_c h hk hc q, Option.bind_some, bc49 h.okn (grp_sb h hc)])
theorem pt2_c (h : NW s n rule mv ps pr c0 c1) (hk : k < n * n) (hc : c < 2) (q : tb (sOf (s.1 14).2.1 (s.1 14).2.2.1 mv c) k = true) : fL_call_4 s (nI k) 2 b = some (nI (cn (fvO n ((s.1 14).2.1 mv ||| (s.1 14).2.2.1 mv) (cl n (sOf (s.1 14).2.1 (s.1 14).2.2.1 mv c) (pt k))) 49)) := call_4_v (by
  unfold aPoint fX7_point
  rw [if_pos (hasK h hk), if_neg (by decide), if_neg (by decide), if_pos rfl, libertiesAt_c h hk hc q, Option.bind_some, bc49 h.okn fvO_sb])
theorem pt3_a (h : NW s n rule mv ps pr c0 c1) (hk : k < n * n) : fL_call_4 s (nI k) 3 b = some (nI (eyeE n ((s.1 14).2.1 mv) ((s.1 14).2.2.1 mv) k)) := call_4_v (by
  unfold aPoint fX7_point
  rw [if_pos (hasK h hk), if_neg (by decide), if_neg (by decide), if_neg (by decide), if_pos rfl, eyeAt_eq h hk, Option.bind_some])
theorem pt4_a (h : NW s n rule mv ps pr c0 c1) (hk : k < n * n) : fL_call_4 s (nI k) 4 b = some (nI (cn (cl n (fre n ((s.1 14).2.1 mv ||| (s.1 14).2.2.1 mv)) (pt k)) 49)) := call_4_v (by
  unfold aPoint fX7_point
  rw [if_pos (hasK h hk), if_neg (by decide), if_neg (by decide), if_neg (by decide), if_neg (by decide), if_pos rfl, partAt_c h k, Option.bind_some, bc49 h.okn (sb_trans (cl_sb h.okn fre_sb) fre_sb)])
theorem pt5_c (h : NW s n rule mv ps pr c0 c1) (hk : k < n * n) (hc : c < 2) (q : tb (sOf (s.1 14).2.1 (s.1 14).2.2.1 mv c) k = true) : fL_call_4 s (nI k) 5 b = some (nI (cn (fvO n ((s.1 14).2.1 mv ||| (s.1 14).2.2.1 mv) (cl n (sOf (s.1 14).2.1 (s.1 14).2.2.1 mv c) (pt k)) &&& eyX n (sOf (s.1 14).2.1 (s.1 14).2.2.1 mv c) (sOf (s.1 14).2.1 (s.1 14).2.2.1 mv (1 - c)) 2) 49)) := call_4_v (by
  unfold aPoint fX7_point
  rw [if_pos (hasK h hk), if_neg (by decide), if_neg (by decide), if_neg (by decide), if_neg (by decide), if_neg (by decide), if_pos rfl, trueEyesAt_eq h hk hc q, Option.bind_some])
theorem pt_bad {p q : Int32} (hp : fX2_has (s.1 14).2.2.2 p = false) : fL_call_4 s p q b = some (-9999001) := call_4_O (by unfold aPoint fX7_point; rw [if_neg (by rw [hp]; decide)])
theorem pt_bad2 {p q : Int32} (hp : fX2_has (s.1 14).2.2.2 p = true) (hq : ¬ q = 0 ∧ ¬ q = 1 ∧ ¬ q = 2 ∧ ¬ q = 3 ∧ ¬ q = 4 ∧ ¬ q = 5) : fL_call_4 s p q b = some (-9999002) := by
  obtain ⟨h0, h1, h2, h3, h4, h5⟩ := hq
  exact call_4_A (by unfold aPoint fX7_point; rw [if_pos hp, if_neg h0, if_neg h1, if_neg h2, if_neg h3, if_neg h4, if_neg h5])
/-! a group -/
theorem grp0_c (h : NW s n rule mv ps pr c0 c1) (hk : k < n * n) (hc : c < 2) (q : tb (sOf (s.1 14).2.1 (s.1 14).2.2.1 mv c) k = true) : fL_groups s (nI k) 0 = some (cl n (sOf (s.1 14).2.1 (s.1 14).2.2.1 mv c) (pt k)) := groups_v (by
  unfold aGroup fX7_group
  rw [if_pos (hasK h hk), if_pos rfl, if_pos rfl, groupAt_c h hk hc q, Option.bind_some])
theorem grp1_c (h : NW s n rule mv ps pr c0 c1) (hk : k < n * n) (hc : c < 2) (q : tb (sOf (s.1 14).2.1 (s.1 14).2.2.1 mv c) k = true) : fL_groups s (nI k) 1 = some (fvO n ((s.1 14).2.1 mv ||| (s.1 14).2.2.1 mv) (cl n (sOf (s.1 14).2.1 (s.1 14).2.2.1 mv c) (pt k))) := groups_v (by
  unfold aGroup fX7_group
  rw [if_pos (hasK h hk), if_neg (by decide), if_pos rfl, if_neg (by decide), libertiesAt_c h hk hc q, Option.bind_some])
theorem grp0_f (h : NW s n rule mv ps pr c0 c1) (hk : k < n * n) (q : ¬ tb ((s.1 14).2.1 mv ||| (s.1 14).2.2.1 mv) k = true) : fL_groups s (nI k) 0 = some 0 := groups_v (by
  unfold aGroup fX7_group
  rw [if_pos (hasK h hk), if_pos rfl, if_pos rfl, (at_free h hk q).1, Option.bind_some])
theorem grp1_f (h : NW s n rule mv ps pr c0 c1) (hk : k < n * n) (q : ¬ tb ((s.1 14).2.1 mv ||| (s.1 14).2.2.1 mv) k = true) : fL_groups s (nI k) 1 = some 0 := groups_v (by
  unfold aGroup fX7_group
  rw [if_pos (hasK h hk), if_neg (by decide), if_pos rfl, if_neg (by decide), (at_free h hk q).2, Option.bind_some])
theorem grp_bad {p q : Int32} (hp : fX2_has (s.1 14).2.2.2 p = false) : fL_groups s p q = some (-9999001) := groups_O (by unfold aGroup fX7_group; rw [if_neg (by rw [hp]; decide)])
theorem grp_bad2 {p q : Int32} (hp : fX2_has (s.1 14).2.2.2 p = true) (hq : ¬ q = 0 ∧ ¬ q = 1) : fL_groups s p q = some (-9999002) := groups_A (by unfold aGroup fX7_group; rw [if_pos hp, if_neg hq.1, if_neg hq.2])
/-! why, what a stone would do, ladders -/
abbrev whyS (s : OSt) (n rule mv k : Nat) : Nat := why n rule mv (s.1 14).2.1 (s.1 14).2.2.1 k
theorem why_k (h : NW s n rule mv ps pr c0 c1) (hk : k < n * n) : fL_call_5 s (nI k) a b = some (nI (whyS s n rule mv k)) := call_5_v (by
  unfold aWhy fX7_why
  rw [if_pos (hasK h hk), reason_eq h hk, Option.bind_some])
theorem why_bad {p : Int32} (hp : fX2_has (s.1 14).2.2.2 p = false) : fL_call_5 s p a b = some (-9999001) := call_5_O (by unfold aWhy fX7_why; rw [if_neg (by rw [hp]; decide)])
theorem why_tot (h : NW s n rule mv ps pr c0 c1) (p : Int32) : ∃ r, fL_call_5 s p a b = some r := by
  by_cases q : fX2_has (s.1 14).2.2.2 p = true
  · have q' := q
    rw [h.grid] at q'
    obtain ⟨k, hk, rfl⟩ := hasG_pt h.okn q'
    exact ⟨_, why_k h hk⟩
  · exact ⟨_, why_bad (by revert q; cases fX2_has (s.1 14).2.2.2 p <;> simp)⟩
theorem if_k (h : NW s n rule mv ps pr c0 c1) (hk : k < n * n) {v : Nat} (hv : v < 4) (hw : whyS s n rule mv k = 0) : fL_call_11 s (nI k) (nI v) b = some (nI (eff n (s.1 14).2.1 (s.1 14).2.2.1 mv k v)) := call_11_v (by
  unfold aIfPlayed fX7_ifPlayed
  rw [if_pos (hasK h hk), if_neg (nI_pos (by omega)), if_pos (show nI v ≤ 3 from nI_le (b := 3) (by omega) (by omega)), reason_eq h hk, Option.bind_some, if_pos (by rw [show why n rule mv (s.1 14).2.1 (s.1 14).2.2.1 k = 0 from hw]; rfl), effect_eq h hk hv, Option.bind_some])
theorem if_n (h : NW s n rule mv ps pr c0 c1) (hk : k < n * n) {v : Nat} (hv : v < 4) (hw : ¬ whyS s n rule mv k = 0) : fL_call_11 s (nI k) (nI v) b = some (-1) := call_11_v (by
  have hl : whyS s n rule mv k ≤ 4 := why_le k
  unfold aIfPlayed fX7_ifPlayed
  rw [if_pos (hasK h hk), if_neg (nI_pos (by omega)), if_pos (show nI v ≤ 3 from nI_le (b := 3) (by omega) (by omega)), reason_eq h hk, Option.bind_some, if_neg (show ¬ nI (whyS s n rule mv k) = 0 from fun z => hw ((nI_eq0 (by omega)).mp z))])
theorem if_bad {p q : Int32} (hp : fX2_has (s.1 14).2.2.2 p = false) : fL_call_11 s p q b = some (-9999001) := call_11_O (by unfold aIfPlayed fX7_ifPlayed; rw [if_neg (by rw [hp]; decide)])
theorem if_bad2 {p q : Int32} (hp : fX2_has (s.1 14).2.2.2 p = true) (hq : ¬ q < 0) (hq2 : ¬ q ≤ 3) : fL_call_11 s p q b = some (-9999002) := call_11_A (by unfold aIfPlayed fX7_ifPlayed; rw [if_pos hp, if_neg hq, if_neg hq2])
theorem lad_c (h : NW s n rule mv ps pr c0 c1) (hk : k < n * n) (hc : c < 2) (q : tb (sOf (s.1 14).2.1 (s.1 14).2.2.1 mv c) k = true) {v : Nat} (hv : v < 2) : fL_call_12 s (nI k) (nI v) b = some (nI (ladV n k v (sOf (s.1 14).2.1 (s.1 14).2.2.1 mv c) (sOf (s.1 14).2.1 (s.1 14).2.2.1 mv (1 - c)))) := call_12_v (by
  have hne : ¬ nI c = -1 := nI_ne_m1 (by omega)
  unfold aLadder fX7_ladder bnd
  dsimp only
  rw [if_pos (hasK h hk), col_stone h (pt64 h hk) hc q]
  rcases (show v = 0 ∨ v = 1 by omega) with e | e
  · subst e
    rw [if_pos (show nI 0 = 0 from rfl), if_neg hne, if_pos (show nI 0 = 0 from rfl), ladF_c h hk hc q, Option.bind_some, ladV0]
    by_cases z : ladF n k 12 (sOf (s.1 14).2.1 (s.1 14).2.2.1 mv c) (sOf (s.1 14).2.1 (s.1 14).2.2.1 mv (1 - c)) = 0
    · rw [if_pos z, if_pos rfl, if_pos z]
      rfl
    · rw [if_neg z, if_neg (by decide), if_neg z]
      rfl
  · subst e
    rw [if_neg (show ¬ nI 1 = 0 by decide), if_pos (show nI 1 = 1 from rfl), if_neg hne, if_neg (show ¬ nI 1 = 0 by decide), ladO_c h hk hc q, Option.bind_some, ladV1]
    by_cases z : ladO n k (ladF n k 12) (sOf (s.1 14).2.1 (s.1 14).2.2.1 mv c) (sOf (s.1 14).2.1 (s.1 14).2.2.1 mv (1 - c)) = true
    · rw [if_pos z, if_pos z]
      rfl
    · rw [if_neg z, if_neg z]
      rfl)
theorem lad_f (h : NW s n rule mv ps pr c0 c1) (hk : k < n * n) (q : ¬ tb ((s.1 14).2.1 mv ||| (s.1 14).2.2.1 mv) k = true) : fL_call_12 s (nI k) 0 b = some (-1) := call_12_v (by
  unfold aLadder fX7_ladder bnd
  dsimp only
  rw [if_pos (hasK h hk), col_free h (pt64 h hk) q, if_pos rfl, if_pos rfl])
theorem lad_bad {p q : Int32} (hp : fX2_has (s.1 14).2.2.2 p = false) : fL_call_12 s p q b = some (-9999001) := call_12_O (by unfold aLadder fX7_ladder; rw [if_neg (by rw [hp]; decide)])
theorem lad_bad2 {p q : Int32} (hp : fX2_has (s.1 14).2.2.2 p = true) (hq : ¬ q = 0 ∧ ¬ q = 1) : fL_call_12 s p q b = some (-9999002) := call_12_A (by unfold aLadder fX7_ladder; rw [if_pos hp, if_neg hq.1, if_neg hq.2])
theorem chase_c (h : NW s n rule mv ps pr c0 c1) (hk : k < n * n) (hc : c < 2) (q : tb (sOf (s.1 14).2.1 (s.1 14).2.2.1 mv c) k = true) : fL_call_13 s (nI k) a b = some (if ladF n k 12 (sOf (s.1 14).2.1 (s.1 14).2.2.1 mv c) (sOf (s.1 14).2.1 (s.1 14).2.2.1 mv (1 - c)) = 0 then -1 else fJ13_bitCount_95d88 (ladF n k 12 (sOf (s.1 14).2.1 (s.1 14).2.2.1 mv c) (sOf (s.1 14).2.1 (s.1 14).2.2.1 mv (1 - c)) - 1)) := call_13_v (by
  have hne : ¬ nI c = -1 := nI_ne_m1 (by omega)
  unfold aChase fX7_chase bnd
  dsimp only
  rw [if_pos (hasK h hk), col_stone h (pt64 h hk) hc q, if_neg hne, ladF_c h hk hc q, Option.bind_some]
  by_cases z : ladF n k 12 (sOf (s.1 14).2.1 (s.1 14).2.2.1 mv c) (sOf (s.1 14).2.1 (s.1 14).2.2.1 mv (1 - c)) = 0
  · rw [if_pos z, if_pos z]
  · rw [if_neg z, if_neg z])
theorem chase_f (h : NW s n rule mv ps pr c0 c1) (hk : k < n * n) (q : ¬ tb ((s.1 14).2.1 mv ||| (s.1 14).2.2.1 mv) k = true) : fL_call_13 s (nI k) a b = some (-1) := call_13_v (by
  unfold aChase fX7_chase bnd
  dsimp only
  rw [if_pos (hasK h hk), col_free h (pt64 h hk) q, if_pos rfl])
theorem chase_bad {p : Int32} (hp : fX2_has (s.1 14).2.2.2 p = false) : fL_call_13 s p a b = some (-9999001) := call_13_O (by unfold aChase fX7_chase; rw [if_neg (by rw [hp]; decide)])
theorem choices_s (h : NW s n rule mv ps pr c0 c1) : aChoices s = some (nI (chN n rule mv (s.1 14).2.1 (s.1 14).2.2.1 (n * n))) := choices_GR h
theorem best_s (h : NW s n rule mv ps pr c0 c1) : aBestTake s = some (bst n rule mv (s.1 14).2.1 (s.1 14).2.2.1 (n * n)).1 := best_GR h
theorem lead_s (h : NW s n rule mv ps pr c0 c1) : aLead s = some (nI (arN n ((s.1 14).2.1 mv) ((s.1 14).2.2.1 mv)) - nI (arN n ((s.1 14).2.2.1 mv) ((s.1 14).2.1 mv))) := by
  have A0 : fX0_areaOf (s.1 14).1 (s.1 14).2.2.2 0 = some (nI (arN n ((s.1 14).2.1 mv) ((s.1 14).2.2.1 mv))) := area_c h (c := 0) (by omega)
  have A1 : fX0_areaOf (s.1 14).1 (s.1 14).2.2.2 1 = some (nI (arN n ((s.1 14).2.2.1 mv) ((s.1 14).2.1 mv))) := area_c h (c := 1) (by omega)
  unfold aLead fX7_lead
  rw [A0, Option.bind_some, A1, Option.bind_some]
end VALS
