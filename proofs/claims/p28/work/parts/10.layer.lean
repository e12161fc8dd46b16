/-! worlds as maps from addresses to entries: a world that is changed keeps all else -/
abbrev mwm : Type := Nat → Option va_E
def zA (z : Nat) : Nat → Prop := fun q => z ≤ q
def ktys (K : Nat → ClassId) : List (ClassId × FieldType) := [(K 0, .long), (K 0, .long), (K 2, .char), (K 2, .char), (K 4, .object RX0)]
def MW (z : Nat) (D : va_G) (σ : mwm) (H : Heap) : Prop := ∃ ws : va_W, va_P D vwCl ws H ∧ va_D (zA z) ws ∧ ∀ a e, σ a = some e → (a, e) ∈ ws
def mup (σ : mwm) (a : Nat) (e : va_E) : mwm := fun q => if q = a then some e else σ q
theorem mup_self {σ : mwm} {a : Nat} {e : va_E} : mup σ a e a = some e := if_pos rfl
theorem mup_ne {σ : mwm} {a q : Nat} {e : va_E} (h : q ≠ a) : mup σ a e q = σ q := if_neg h
theorem MW.one {z : Nat} {D : va_G} {σ : mwm} {H : Heap} {a : Nat} {e : va_E} (h : MW z D σ H) (ha : σ a = some e) : va_P D vwCl [(a, e)] H := by
  obtain ⟨ws, hP, hD, hw⟩ := h
  obtain ⟨i, hi⟩ := List.getElem?_of_mem (hw a e ha)
  intro k q hk
  have hq : q ∈ [(a, e)] := List.mem_of_getElem? hk
  rw [List.mem_singleton.mp hq]
  exact hP i _ hi
theorem MW.set {z : Nat} {σ : mwm} {ws : va_W} {a i : Nat} {e e' : va_E} (hw : ∀ b f, σ b = some f → (b, f) ∈ ws) (hi : ws[i]? = some (a, e)) : ∀ b f, mup σ a e' b = some f → (b, f) ∈ ws.set i (a, e') := by
  intro b f h
  have hlt := (List.getElem?_eq_some_iff.mp hi).1
  by_cases hb : b = a
  · subst hb
    rw [mup_self] at h
    cases h
    exact List.mem_of_getElem? (i := i) (by rw [List.getElem?_set_self hlt])
  · rw [mup_ne hb] at h
    obtain ⟨j, hj⟩ := List.getElem?_of_mem (hw b f h)
    have hji : i ≠ j := by
      intro hij
      subst hij
      rw [hi] at hj
      exact hb (congrArg Prod.fst (Option.some.inj hj)).symm
    exact List.mem_of_getElem? (i := j) (by rw [List.getElem?_set_ne hji]; exact hj)
theorem MW.push {z : Nat} {σ : mwm} {ws : va_W} {a : Nat} {e : va_E} (hw : ∀ b f, σ b = some f → (b, f) ∈ ws) : ∀ b f, mup σ a e b = some f → (b, f) ∈ ws ++ [(a, e)] := by
  intro b f h
  by_cases hb : b = a
  · subst hb
    rw [mup_self] at h
    cases h
    exact List.mem_append_right _ (List.mem_singleton.mpr rfl)
  · rw [mup_ne hb] at h
    exact List.mem_append_left _ (hw b f h)
theorem MW.fresh {z : Nat} {σ : mwm} {ws : va_W} {a : Nat} {e : va_E} (hw : ∀ b f, σ b = some f → (b, f) ∈ ws) (hD : va_D (zA z) (ws ++ [(a, e)])) : ∀ b f, σ b = some f → b ≠ a := by
  intro b f h hb
  subst hb
  obtain ⟨j, hj⟩ := List.getElem?_of_mem (hw b f h)
  have hlt := (List.getElem?_eq_some_iff.mp hj).1
  have e := hD.1 j ws.length (b, f) (b, e) (by rw [List.getElem?_append_left hlt]; exact hj) (by rw [List.getElem?_append_right (Nat.le_refl _), Nat.sub_self]; rfl) rfl
  omega
/-! the links between nest mates: no word of a method bears them, so every contract takes them along -/
def NX (U : State) : Prop := va_Nw (.fieldLinkNest RX7 114 "CornerStones$Slot" "used" "Z" "CornerStones") U ∧ va_Nw (.fieldLinkNest RX7 118 "CornerStones$Game" "grid" "LCornerStones$Grid;" "CornerStones") U ∧ va_Nw (.fieldLinkNest RX7 124 "CornerStones$Game" "moves" "I" "CornerStones") U ∧ va_Nw (.fieldLinkNest RX7 130 "CornerStones$Game" "passes" "I" "CornerStones") U ∧ va_Nw (.fieldLinkNest RX7 133 "CornerStones$Game" "passesInRow" "I" "CornerStones") U ∧ va_Nw (.fieldLinkNest RX7 222 "CornerStones$Memory" "count" "I" "CornerStones") U ∧ va_Nw (.fieldLinkNest RX7 275 "CornerStones$Slot" "kept" "LCornerStones$Game;" "CornerStones") U ∧ va_Nw (.fieldLinkNest RX7 88 "CornerStones$Game" "setting" "I" "CornerStones") U ∧ va_Nw (.fieldLinkNest RX7 94 "CornerStones$GameText" "length" "I" "CornerStones") U ∧ va_Nw (.fieldLinkNest RX5 40 "CornerStones$Game" "grid" "LCornerStones$Grid;" "CornerStones") U ∧ va_Nw (.methodLinkNest RX7 237 yX3_firstStone "CornerStones") U ∧ va_Nw (.methodLinkNest RX7 243 yX3_holdsOwner "CornerStones") U ∧ va_Nw (.methodLinkNest RX5 30 yX7_isColour "CornerStones") U ∧ va_Nw (.methodLinkNest RX5 68 yX3_firstStone "CornerStones") U
theorem NX.same {u U : State} (e : u.vm = U.vm) (h : NX u) : NX U := by
  obtain ⟨h0, h1, h2, h3, h4, h5, h6, h7, h8, h9, h10, h11, h12, h13⟩ := h
  exact ⟨va_Nw.same rfl e h0, va_Nw.same rfl e h1, va_Nw.same rfl e h2, va_Nw.same rfl e h3, va_Nw.same rfl e h4, va_Nw.same rfl e h5, va_Nw.same rfl e h6, va_Nw.same rfl e h7, va_Nw.same rfl e h8, va_Nw.same rfl e h9, va_Nw.same rfl e h10, va_Nw.same rfl e h11, va_Nw.same rfl e h12, va_Nw.same rfl e h13⟩
theorem NX.warm {s U : State} (hW : s.WarmedH U.vm) (h : NX s) : NX U := by
  obtain ⟨h0, h1, h2, h3, h4, h5, h6, h7, h8, h9, h10, h11, h12, h13⟩ := h
  exact ⟨va_Nw.warmF hW h0, va_Nw.warmF hW h1, va_Nw.warmF hW h2, va_Nw.warmF hW h3, va_Nw.warmF hW h4, va_Nw.warmF hW h5, va_Nw.warmF hW h6, va_Nw.warmF hW h7, va_Nw.warmF hW h8, va_Nw.warmF hW h9, va_Nw.warmM hW h10, va_Nw.warmM hW h11, va_Nw.warmM hW h12, va_Nw.warmM hW h13⟩
theorem nx_RX7_114 {s : State} (h : NX s) : va_Nw (.fieldLinkNest RX7 114 "CornerStones$Slot" "used" "Z" "CornerStones") s := h.1
theorem nx_RX7_118 {s : State} (h : NX s) : va_Nw (.fieldLinkNest RX7 118 "CornerStones$Game" "grid" "LCornerStones$Grid;" "CornerStones") s := h.2.1
theorem nx_RX7_124 {s : State} (h : NX s) : va_Nw (.fieldLinkNest RX7 124 "CornerStones$Game" "moves" "I" "CornerStones") s := h.2.2.1
theorem nx_RX7_130 {s : State} (h : NX s) : va_Nw (.fieldLinkNest RX7 130 "CornerStones$Game" "passes" "I" "CornerStones") s := h.2.2.2.1
theorem nx_RX7_133 {s : State} (h : NX s) : va_Nw (.fieldLinkNest RX7 133 "CornerStones$Game" "passesInRow" "I" "CornerStones") s := h.2.2.2.2.1
theorem nx_RX7_222 {s : State} (h : NX s) : va_Nw (.fieldLinkNest RX7 222 "CornerStones$Memory" "count" "I" "CornerStones") s := h.2.2.2.2.2.1
theorem nx_RX7_275 {s : State} (h : NX s) : va_Nw (.fieldLinkNest RX7 275 "CornerStones$Slot" "kept" "LCornerStones$Game;" "CornerStones") s := h.2.2.2.2.2.2.1
theorem nx_RX7_88 {s : State} (h : NX s) : va_Nw (.fieldLinkNest RX7 88 "CornerStones$Game" "setting" "I" "CornerStones") s := h.2.2.2.2.2.2.2.1
theorem nx_RX7_94 {s : State} (h : NX s) : va_Nw (.fieldLinkNest RX7 94 "CornerStones$GameText" "length" "I" "CornerStones") s := h.2.2.2.2.2.2.2.2.1
theorem nx_RX5_40 {s : State} (h : NX s) : va_Nw (.fieldLinkNest RX5 40 "CornerStones$Game" "grid" "LCornerStones$Grid;" "CornerStones") s := h.2.2.2.2.2.2.2.2.2.1
theorem nx_RX7_237 {s : State} (h : NX s) : va_Nw (.methodLinkNest RX7 237 yX3_firstStone "CornerStones") s := h.2.2.2.2.2.2.2.2.2.2.1
theorem nx_RX7_243 {s : State} (h : NX s) : va_Nw (.methodLinkNest RX7 243 yX3_holdsOwner "CornerStones") s := h.2.2.2.2.2.2.2.2.2.2.2.1
theorem nx_RX5_30 {s : State} (h : NX s) : va_Nw (.methodLinkNest RX5 30 yX7_isColour "CornerStones") s := h.2.2.2.2.2.2.2.2.2.2.2.2.1
theorem nx_RX5_68 {s : State} (h : NX s) : va_Nw (.methodLinkNest RX5 68 yX3_firstStone "CornerStones") s := h.2.2.2.2.2.2.2.2.2.2.2.2.2
def PCm (z : Nat) (D : va_G) (K : Nat → ClassId) (av : List Value) (σ : mwm) : Array Value → State → Prop := va_Pc av (fun U => MW z D σ U.heap ∧ va_K D vwCl (ktys K) U ∧ z ≤ U.heap.size ∧ NX U)
theorem PCm_blind {z : Nat} {D : va_G} {K : Nat → ClassId} {av : List Value} {σ : mwm} : FrameBlind (PCm z D K av σ) := by
  intro a U g mk h
  obtain ⟨q0, q1, qK, q2, q3⟩ := h
  exact ⟨q0, q1, va_K.moved (u := U) (U := U.calling g mk a) (Vm.Alike.refl U.vm) qK, q2, NX.same (u := U) (U := U.calling g mk a) rfl q3⟩
theorem PCm_of {z : Nat} {D : va_G} {K : Nat → ClassId} {av : List Value} {σ : mwm} {s : State} {H : Heap} {locs : List Loc} (hK : va_K D vwCl (ktys K) s) (hz : z ≤ s.heap.size ∧ NX s) (hM : MW z D σ H) (hS : va_S (zA z) s.heap H locs) : ∀ U : State, U.heap = H → s.WarmedH U.vm → PCm z D K av σ av.toArray U :=
  fun U hU hW => ⟨rfl, by rw [hU]; exact hM, va_K.moved hW.alike hK, by rw [hU]; exact Nat.le_trans hz.1 hS.1, NX.warm hW hz.2⟩
/-- what holds all through a method's body -/
def CF (p : Program) (m : MethodId) (c : Code) (cc : ByteArray) (nL : Nat) (s : State) (args : Array Value) (Ts : List Cond) (own : String) (z : Nat) (D : va_G) (K : Nat → ClassId) : Prop := CallFix p m c cc nL s args Ts own ∧ va_K D vwCl (ktys K) s ∧ z ≤ s.heap.size ∧ NX s
theorem mt_enter {l : Launch} {y : MethodName} {ws ws' : List Cond} {rm : Room} {z : Nat} {D : va_G} {K : Nat → ClassId} {σ : mwm} {av : List Value} {Qc : Array Value → State → Outcome → State → Prop} {mc ms : Nat} {free : Addr → Prop} {cc : ByteArray} {maxL : Nat} {ret : Option FieldType} {own : String} {lv : List (Nat × Value)}
    (hy : plainName y.cls = true) (ho : y.cls = own) (hw : ws = Cond.code y cc maxL ret :: ws') (hlen : (lg_sl av).length ≤ maxL) (hlv : lv_args 0 av = lv)
    (body : ∀ (p : Program) (e : Env) (s : State) (m : MethodId) (below : List Frame) (meth : Method) (c : Code) (ls : Array Slot), CF p m c cc maxL s av.toArray ws own z D K → p.tables.exec = Jvm.exec → c.code = cc → s.vm.findClass own = some m.cls → (∀ w ∈ ws, w.before av.toArray s = true) → va_K D vwCl (ktys K) s → meth.sig.returnType = ret → meth.locks = false → meth.name = y.name → z ≤ s.heap.size → MW z D σ s.heap → va_S (zA z) s.heap s.heap [] → lv_has ls maxL lv →
      W p l e rm s m av.toArray below meth c s.heap [] 0 0 (MQ below Qc av.toArray s mc ms free) (F0 m 0 ls [])) : Met l y ws rm (PCm z D K av σ) Qc mc ms free := by
  refine Met.ofW (cc := cc) (maxL := maxL) (ret := ret) hy hw ?_
  intro p e s m args below meth c s₁ B hml hv
  obtain ⟨rfl, hM, hK, hz, hN⟩ := hv
  have hts := atoms_spec (ws := ws) B.pre
  have hown : s.vm.findClass own = some m.cls := by rw [← ho]; exact findClass_of_methodNamed B.named
  have hl := lv_entry av (n := maxL) hlen
  rw [hlv] at hl
  rw [lg_entry_eq]
  exact body p e s m below meth c _ ⟨⟨B.exec, B.bytes, hml, hown, hts⟩, hK, hz, hN⟩ B.exec B.bytes hown hts hK B.returns B.notSynchronized (name_of_methodNamed B.named B.method).1 hz hM va_S.rf hl
def b2i (b : Bool) : Int32 := if b = true then 1 else 0
theorem b2i_eq0 {b : Bool} : b2i b = 0 ↔ ¬ b = true := by cases b <;> decide
theorem b2i_ne0 {b : Bool} : ¬ b2i b = 0 ↔ b = true := by cases b <;> decide
theorem b2i_nar (b : Bool) : narrow .boolean (.int (b2i b)) = .int (b2i b) := by cases b <;> decide
def bnd {α : Type} {β : Sort _} (x : α) (f : α → β) : β := f x
theorem ob_some {α β : Type} {o : Option α} {f : α → Option β} {v : β} (h : o.bind f = some v) : ∃ r, o = some r ∧ f r = some v := by
  cases o with
  | none => cases h
  | some r => exact ⟨r, rfl, h⟩
abbrev eJ (K : Nat → ClassId) (n : Nat) (f : Nat → Int64) : va_E := .inl (K 0, n, .inr (.inl f))
abbrev eC (K : Nat → ClassId) (n : Nat) (f : Nat → Int32) : va_E := .inl (K 2, n, .inl f)
abbrev eQ (K : Nat → ClassId) (n : Nat) (f : Nat → Option Nat) : va_E := .inl (K 4, n, .inr (.inr (.inr (.inr f))))
abbrev qsI (v : Int32) : Array Value → State → Outcome → State → Prop := vp_Si (fun r => r = v)
abbrev qsL (v : Int64) : Array Value → State → Outcome → State → Prop := vp_Sl (fun r => r = v)
abbrev qwI (z : Nat) (D : va_G) (post : Int32 → mwm → Prop) : Array Value → State → Outcome → State → Prop := va_Qi post (fun σ' t => MW z D σ' t.heap) (zA z)
abbrev qwL (z : Nat) (D : va_G) (post : Int64 → mwm → Prop) : Array Value → State → Outcome → State → Prop := va_Ql post (fun σ' t => MW z D σ' t.heap) (zA z)
abbrev qwV (z : Nat) (D : va_G) (post : mwm → Prop) : Array Value → State → Outcome → State → Prop := va_Qv post (fun σ' t => MW z D σ' t.heap) (zA z)
theorem RA_uniq {U : State} {cA cB : ClassId} {ty : FieldType} (h1 : va_RA U cA ty) (h2 : va_RA U cB ty) : cA = cB := by
  cases ty with
  | object C =>
    obtain ⟨_, _, _, _, _, e1⟩ := h1
    obtain ⟨_, _, _, _, _, e2⟩ := h2
    exact Option.some.inj (e1.symm.trans e2)
  | _ => exact Option.some.inj (Eq.trans (Eq.symm h1) h2)
def imax (x y : Int32) : Int32 := if x < y then y else x
section MWR
variable {p : Program} {l : Launch} {e : Env} {R : Room} {s : State} {m : MethodId} {args : Array Value} {below : List Frame} {meth : Method} {c : Code} {H : Heap} {locs : List Loc} {cells slots : Nat} {Q : State → Prop}
variable {cc : ByteArray} {pc : Nat} {ls : Array Slot} {rest : List Value} {z : Nat} {D : va_G} {K : Nat → ClassId} {σ : mwm} {a : Nat} {Ts : List Cond} {own : String} {nL : Nat}
theorem mw_get {ref C : String} {T : u_T} {N ci index : Nat} (hC : CF p m c cc nL s args Ts own z D K) (hin : ∀ w ∈ u_ws C T N, w ∈ Ts) (hM : MW z D σ H) {fs : List Value} (hσ : σ a = some (.inr (ci, fs))) (hc : vwCl[ci]? = some (C, T, N)) (k : Nat) (hk : k < N) (hlink : Cond.fieldLink own index ref (T k).2.1 (T k).2.2.1 ∈ Ts) (hre : ref = (T k).1) {v : Value} (hv : fs[k]? = some v) (hdg : decode cc pc = .ok (.getfield index, 3))
    (kk : W p l e R s m args below meth c H locs cells slots Q (F0 m (pc + 3) ls (v :: rest))) : W p l e R s m args below meth c H locs cells slots Q (F0 m pc ls (.ref a :: rest)) := by
  obtain ⟨⟨hx, hb, hml, hown, hts⟩, hK, hz⟩ := hC
  subst hre
  exact va_get (ws := [(a, .inr (ci, fs))]) hx hb hts hin hown hK (hM.one hσ) 0 rfl hc k hk (hts _ hlink) (fun _ h9 => h9) hv hdg kk
theorem mw_put {ref C : String} {T : u_T} {N ci index : Nat} (hC : CF p m c cc nL s args Ts own z D K) (hin : ∀ w ∈ u_ws C T N, w ∈ Ts) (ty0 : Nat → FieldType) (hty : ∀ k, k < N → parseFieldDescriptor (T k).2.2.1 = some (ty0 k)) (hnm : ∀ a, a < N → ∀ b, b < N → a ≠ b → (T a).2.1 ≠ (T b).2.1) (hM : MW z D σ H) (hS : va_S (zA z) s.heap H locs) {fs : List Value} (hσ : σ a = some (.inr (ci, fs))) (hc : vwCl[ci]? = some (C, T, N)) (k : Nat) (hk : k < N) (hlink : Cond.fieldLink own index ref (T k).2.1 (T k).2.2.1 ∈ Ts) (hre : ref = (T k).1) (hfin : (T k).2.2.2 = false) {ty : FieldType} {v : Value} (hd : parseFieldDescriptor (T k).2.2.1 = some ty) (hn : narrow ty v = v) (hfit : fits ty v = true) (hl : k < fs.length) (hdg : decode cc pc = .ok (.putfield index, 3))
    (kk : ∀ (H1 : Heap) (locs1 : List Loc) (σ1 : mwm), MW z D σ1 H1 → va_S (zA z) s.heap H1 locs1 → σ1 a = some (.inr (ci, fs.set k v)) → (∀ q f, σ q = some f → q ≠ a → σ1 q = some f) → W p l e R s m args below meth c H1 locs1 cells slots Q (F0 m (pc + 3) ls rest)) : W p l e R s m args below meth c H locs cells slots Q (F0 m pc ls (v :: .ref a :: rest)) := by
  obtain ⟨⟨hx, hb, hml, hown, hts⟩, hK, hz⟩ := hC
  obtain ⟨ws, hP, hD, hw⟩ := hM
  obtain ⟨i, hi⟩ := List.getElem?_of_mem (hw a _ hσ)
  subst hre
  exact va_put hx hb hts hin ty0 hty hnm hown hK hP hD hS i hi hc k hk (hts _ hlink) (fun _ h9 => h9) hfin hd hn hfit hl hdg (fun H1 locs1 hP1 hD1 hS1 => kk H1 locs1 (mup σ a _) ⟨_, hP1, hD1, MW.set (z := z) hw hi⟩ hS1 mup_self (fun q f hq h => (mup_ne h).trans hq))
theorem mw_putF {ref C : String} {T : u_T} {N ci index : Nat} (hC : CF p m c cc nL s args Ts own z D K) (hin : ∀ w ∈ u_ws C T N, w ∈ Ts) (ty0 : Nat → FieldType) (hty : ∀ k, k < N → parseFieldDescriptor (T k).2.2.1 = some (ty0 k)) (hnm : ∀ a, a < N → ∀ b, b < N → a ≠ b → (T a).2.1 ≠ (T b).2.1) (hM : MW z D σ H) (hS : va_S (zA z) s.heap H locs) {fs : List Value} (hσ : σ a = some (.inr (ci, fs))) (hc : vwCl[ci]? = some (C, T, N)) (k : Nat) (hk : k < N) (hlink : Cond.fieldLink own index ref (T k).2.1 (T k).2.2.1 ∈ Ts) (hre : ref = (T k).1) (hfin : (T k).2.2.2 = true) (hin2 : meth.name = "<init>") (hdecl : (T k).1 = own) {ty : FieldType} {v : Value} (hd : parseFieldDescriptor (T k).2.2.1 = some ty) (hn : narrow ty v = v) (hfit : fits ty v = true) (hl : k < fs.length) (hdg : decode cc pc = .ok (.putfield index, 3))
    (kk : ∀ (H1 : Heap) (locs1 : List Loc) (σ1 : mwm), MW z D σ1 H1 → va_S (zA z) s.heap H1 locs1 → σ1 a = some (.inr (ci, fs.set k v)) → (∀ q f, σ q = some f → q ≠ a → σ1 q = some f) → W p l e R s m args below meth c H1 locs1 cells slots Q (F0 m (pc + 3) ls rest)) : W p l e R s m args below meth c H locs cells slots Q (F0 m pc ls (v :: .ref a :: rest)) := by
  obtain ⟨⟨hx, hb, hml, hown, hts⟩, hK, hz⟩ := hC
  obtain ⟨ws, hP, hD, hw⟩ := hM
  obtain ⟨i, hi⟩ := List.getElem?_of_mem (hw a _ hσ)
  subst hre
  exact va_putF hx hb hts hin ty0 hty hnm hown hK hP hD hS i hi hc k hk (hts _ hlink) (fun _ h9 => h9) hfin hin2 hdecl hd hn hfit hl hdg (fun H1 locs1 hP1 hD1 hS1 => kk H1 locs1 (mup σ a _) ⟨_, hP1, hD1, MW.set (z := z) hw hi⟩ hS1 mup_self (fun q f hq h => (mup_ne h).trans hq))
theorem mw_getN {ref C host : String} {T : u_T} {N ci index : Nat} (hC : CF p m c cc nL s args Ts own z D K) (hin : ∀ w ∈ u_ws C T N, w ∈ Ts) (hM : MW z D σ H) {fs : List Value} (hσ : σ a = some (.inr (ci, fs))) (hc : vwCl[ci]? = some (C, T, N)) (k : Nat) (hk : k < N) (hlink : va_Nw (.fieldLinkNest own index ref (T k).2.1 (T k).2.2.1 host) s) (hre : ref = (T k).1) {v : Value} (hv : fs[k]? = some v) (hdg : decode cc pc = .ok (.getfield index, 3))
    (kk : W p l e R s m args below meth c H locs cells slots Q (F0 m (pc + 3) ls (v :: rest))) : W p l e R s m args below meth c H locs cells slots Q (F0 m pc ls (.ref a :: rest)) := by
  obtain ⟨⟨hx, hb, hml, hown, hts⟩, hK, hz⟩ := hC
  subst hre
  exact va_getN (ws := [(a, .inr (ci, fs))]) hx hb hts hin hown hK (hM.one hσ) 0 rfl hc k hk (va_Nw.use rfl hlink) (fun _ h9 => h9) hv hdg kk
theorem mw_putN {ref C host : String} {T : u_T} {N ci index : Nat} (hC : CF p m c cc nL s args Ts own z D K) (hin : ∀ w ∈ u_ws C T N, w ∈ Ts) (ty0 : Nat → FieldType) (hty : ∀ k, k < N → parseFieldDescriptor (T k).2.2.1 = some (ty0 k)) (hnm : ∀ a, a < N → ∀ b, b < N → a ≠ b → (T a).2.1 ≠ (T b).2.1) (hM : MW z D σ H) (hS : va_S (zA z) s.heap H locs) {fs : List Value} (hσ : σ a = some (.inr (ci, fs))) (hc : vwCl[ci]? = some (C, T, N)) (k : Nat) (hk : k < N) (hlink : va_Nw (.fieldLinkNest own index ref (T k).2.1 (T k).2.2.1 host) s) (hre : ref = (T k).1) (hfin : (T k).2.2.2 = false) {ty : FieldType} {v : Value} (hd : parseFieldDescriptor (T k).2.2.1 = some ty) (hn : narrow ty v = v) (hfit : fits ty v = true) (hl : k < fs.length) (hdg : decode cc pc = .ok (.putfield index, 3))
    (kk : ∀ (H1 : Heap) (locs1 : List Loc) (σ1 : mwm), MW z D σ1 H1 → va_S (zA z) s.heap H1 locs1 → σ1 a = some (.inr (ci, fs.set k v)) → (∀ q f, σ q = some f → q ≠ a → σ1 q = some f) → W p l e R s m args below meth c H1 locs1 cells slots Q (F0 m (pc + 3) ls rest)) : W p l e R s m args below meth c H locs cells slots Q (F0 m pc ls (v :: .ref a :: rest)) := by
  obtain ⟨⟨hx, hb, hml, hown, hts⟩, hK, hz⟩ := hC
  obtain ⟨ws, hP, hD, hw⟩ := hM
  obtain ⟨i, hi⟩ := List.getElem?_of_mem (hw a _ hσ)
  subst hre
  exact va_putN hx hb hts hin ty0 hty hnm hown hK hP hD hS i hi hc k hk (va_Nw.use rfl hlink) (fun _ h9 => h9) hfin hd hn hfit hl hdg (fun H1 locs1 hP1 hD1 hS1 => kk H1 locs1 (mup σ a _) ⟨_, hP1, hD1, MW.set (z := z) hw hi⟩ hS1 mup_self (fun q f hq h => (mup_ne h).trans hq))
theorem mw_ldJ (hC : CF p m c cc nL s args Ts own z D K) (hM : MW z D σ H) {n : Nat} {f : Nat → Int64} (hσ : σ a = some (eJ K n f)) {i : Int32} (hin : vp_in i n) (hdg : decode cc pc = .ok (.laload, 1)) (kk : W p l e R s m args below meth c H locs cells slots Q (F0 m (pc + 1) ls (.long (f i.toNatClampNeg) :: rest))) : W p l e R s m args below meth c H locs cells slots Q (F0 m pc ls (.int i :: .ref a :: rest)) :=
  va_lald hC.1.1 hC.1.2.1 hC.2.1 (hM.one hσ) 0 0 rfl rfl hin hdg kk
theorem mw_ldC (hC : CF p m c cc nL s args Ts own z D K) (hM : MW z D σ H) {n : Nat} {f : Nat → Int32} (hσ : σ a = some (eC K n f)) {i : Int32} (hin : vp_in i n) (hdg : decode cc pc = .ok (.caload, 1)) (kk : W p l e R s m args below meth c H locs cells slots Q (F0 m (pc + 1) ls (.int (f i.toNatClampNeg) :: rest))) : W p l e R s m args below meth c H locs cells slots Q (F0 m pc ls (.int i :: .ref a :: rest)) :=
  va_cald hC.1.1 hC.1.2.1 hC.2.1 (hM.one hσ) 0 2 rfl rfl hin hdg kk
theorem mw_ldQ (hC : CF p m c cc nL s args Ts own z D K) (hM : MW z D σ H) {n : Nat} {f : Nat → Option Nat} (hσ : σ a = some (eQ K n f)) {i : Int32} (hin : vp_in i n) (hdg : decode cc pc = .ok (.aaload, 1)) (kk : W p l e R s m args below meth c H locs cells slots Q (F0 m (pc + 1) ls (va_rf (f i.toNatClampNeg) :: rest))) : W p l e R s m args below meth c H locs cells slots Q (F0 m pc ls (.int i :: .ref a :: rest)) :=
  va_aldq (C := RX0) hC.1.1 hC.1.2.1 hC.2.1 (hM.one hσ) 0 4 rfl rfl hin hdg kk
theorem mw_stJ (hC : CF p m c cc nL s args Ts own z D K) (hM : MW z D σ H) (hS : va_S (zA z) s.heap H locs) {n : Nat} {f : Nat → Int64} (hσ : σ a = some (eJ K n f)) {i : Int32} {x : Int64} (hin : vp_in i n) (hdg : decode cc pc = .ok (.lastore, 1))
    (kk : ∀ (H1 : Heap) (locs1 : List Loc) (σ1 : mwm), MW z D σ1 H1 → va_S (zA z) s.heap H1 locs1 → σ1 a = some (eJ K n (vp_updL f i.toNatClampNeg x)) → (∀ q f, σ q = some f → q ≠ a → σ1 q = some f) → W p l e R s m args below meth c H1 locs1 cells slots Q (F0 m (pc + 1) ls rest)) : W p l e R s m args below meth c H locs cells slots Q (F0 m pc ls (.long x :: .int i :: .ref a :: rest)) := by
  obtain ⟨⟨hx, hb, hml, hown, hts⟩, hK, hz⟩ := hC
  obtain ⟨ws, hP, hD, hw⟩ := hM
  obtain ⟨k, hi⟩ := List.getElem?_of_mem (hw a _ hσ)
  exact va_last hx hb hK hP hD hS k 0 hi rfl hin hdg (fun H1 locs1 hP1 hD1 hS1 => kk H1 locs1 (mup σ a _) ⟨_, hP1, hD1, MW.set (z := z) hw hi⟩ hS1 mup_self (fun q f hq h => (mup_ne h).trans hq))
theorem mw_stC (hC : CF p m c cc nL s args Ts own z D K) (hM : MW z D σ H) (hS : va_S (zA z) s.heap H locs) {n : Nat} {f : Nat → Int32} (hσ : σ a = some (eC K n f)) {i : Int32} {x : Int32} (hin : vp_in i n) (hdg : decode cc pc = .ok (.castore, 1))
    (kk : ∀ (H1 : Heap) (locs1 : List Loc) (σ1 : mwm), MW z D σ1 H1 → va_S (zA z) s.heap H1 locs1 → σ1 a = some (eC K n (upd f i.toNatClampNeg (vp_nar .char x))) → (∀ q f, σ q = some f → q ≠ a → σ1 q = some f) → W p l e R s m args below meth c H1 locs1 cells slots Q (F0 m (pc + 1) ls rest)) : W p l e R s m args below meth c H locs cells slots Q (F0 m pc ls (.int x :: .int i :: .ref a :: rest)) := by
  obtain ⟨⟨hx, hb, hml, hown, hts⟩, hK, hz⟩ := hC
  obtain ⟨ws, hP, hD, hw⟩ := hM
  obtain ⟨k, hi⟩ := List.getElem?_of_mem (hw a _ hσ)
  exact va_cast hx hb hK hP hD hS k 2 hi rfl hin hdg (fun H1 locs1 hP1 hD1 hS1 => kk H1 locs1 (mup σ a _) ⟨_, hP1, hD1, MW.set (z := z) hw hi⟩ hS1 mup_self (fun q f hq h => (mup_ne h).trans hq))
theorem mw_len (hC : CF p m c cc nL s args Ts own z D K) (hM : MW z D σ H) {cA : ClassId} {x : vp_A} (hσ : σ a = some (.inl (cA, x))) {ty : FieldType} (t0 : Nat) (ht : (ktys K)[t0]? = some (cA, ty)) {v : Int32} (hv : Int32.ofNat x.1 = v) (hdg : decode cc pc = .ok (.arraylength, 1)) (kk : W p l e R s m args below meth c H locs cells slots Q (F0 m (pc + 1) ls (.int v :: rest))) : W p l e R s m args below meth c H locs cells slots Q (F0 m pc ls (.ref a :: rest)) :=
  va_alen hC.1.1 hC.1.2.1 hC.2.1 (hM.one hσ) 0 t0 rfl ht hv hdg kk
theorem mw_new {C : String} {T : u_T} {N ci index : Nat} (hC : CF p m c cc nL s args Ts own z D K) (hin : ∀ w ∈ u_ws C T N, w ∈ Ts) (ty : Nat → FieldType) (hty : ∀ k, k < N → parseFieldDescriptor (T k).2.2.1 = some (ty k)) (hcl : Cond.classLink own index C ∈ Ts) (hinst : Cond.instantiable C N ∈ Ts) (hini : Cond.initialized C ∈ Ts) (hM : MW z D σ H) (hS : va_S (zA z) s.heap H locs) (hc : vwCl[ci]? = some (C, T, N)) {fs : List Value} (hfs : ∀ j, j < N → defaultValue (ty j) = vp_V fs j) (hcells : cells + 1 ≤ R.cells) (hslots : slots + N ≤ R.slots) (hdg : decode cc pc = .ok (.new index, 3))
    (kk : ∀ (q : Nat) (H1 : Heap) (σ1 : mwm), MW z D σ1 H1 → va_S (zA z) s.heap H1 locs → σ1 q = some (.inr (ci, fs)) → (∀ b f, σ b = some f → σ1 b = some f) → (∀ b f, σ b = some f → b ≠ q) → W p l e R s m args below meth c H1 locs (cells + 1) (slots + N) Q (F0 m (pc + 3) ls (.ref q :: rest))) : W p l e R s m args below meth c H locs cells slots Q (F0 m pc ls rest) := by
  obtain ⟨⟨hx, hb, hml, hown, hts⟩, hK, hz⟩ := hC
  obtain ⟨ws, hP, hD, hw⟩ := hM
  exact va_new hx hb hts hin ty hty hown (hts _ hcl) (hts _ hinst) (hts _ hini) hK hP hD hS (fun q h => Nat.le_trans hz.1 h) hc hfs hcells hslots hdg (fun q H1 hP1 hD1 hS1 => kk q H1 (mup σ q _) ⟨_, hP1, hD1, MW.push (z := z) hw⟩ hS1 mup_self (fun b f h => (mup_ne (MW.fresh hw hD1 b f h)).trans h) (MW.fresh hw hD1))
theorem mw_newa {atype : ArrayType} {ty : FieldType} (t0 : Nat) {cA : ClassId} (hC : CF p m c cc nL s args Ts own z D K) (harr : Cond.arrayClass (newarray.typeOf atype) ∈ Ts) (hty : newarray.typeOf atype = ty) (htA : (ktys K)[t0]? = some (cA, ty)) (hM : MW z D σ H) (hS : va_S (zA z) s.heap H locs) {n : Int32} {N' : Nat} {a0 : vp_A} (ha : ∀ cA : ClassId, vp_cell cA a0 = arrV cA N' (fun _ => defaultValue ty)) (hn : ¬ n < 0) (hN : n.toNatClampNeg = N') (hbytes : N' * componentBytes ty ≤ 536870912) (hcells : cells + 1 ≤ R.cells) (hslots : slots + N' ≤ R.slots) (hdg : decode cc pc = .ok (.newarray atype, 2))
    (kk : ∀ (q : Nat) (H1 : Heap) (σ1 : mwm), MW z D σ1 H1 → va_S (zA z) s.heap H1 locs → σ1 q = some (.inl (cA, a0)) → (∀ b f, σ b = some f → σ1 b = some f) → (∀ b f, σ b = some f → b ≠ q) → W p l e R s m args below meth c H1 locs (cells + 1) (slots + N') Q (F0 m (pc + 2) ls (.ref q :: rest))) : W p l e R s m args below meth c H locs cells slots Q (F0 m pc ls (.int n :: rest)) := by
  obtain ⟨⟨hx, hb, hml, hown, hts⟩, hK, hz⟩ := hC
  obtain ⟨ws, hP, hD, hw⟩ := hM
  refine va_newa (ws := ws) hx hb (hts _ harr) hty hK hP hD hS (fun q h => Nat.le_trans hz.1 h) ha hn hN hbytes hcells hslots hdg (fun q cB H1 hKq hP1 hD1 hS1 => ?_)
  have e1 : cB = cA := RA_uniq (hKq.2 5 (cB, ty) rfl).2 (hK.2 t0 (cA, ty) htA).2
  subst e1
  exact kk q H1 (mup σ q _) ⟨_, hP1, hD1, MW.push (z := z) hw⟩ hS1 mup_self (fun b f h => (mup_ne (MW.fresh hw hD1 b f h)).trans h) (MW.fresh hw hD1)
theorem mw_newq {index : Nat} (hC : CF p m c cc nL s args Ts own z D K) (hcl : Cond.classLink own index RX0 ∈ Ts) (hov : Cond.arrayOver (.object RX0) ∈ Ts) (hM : MW z D σ H) (hS : va_S (zA z) s.heap H locs) {n : Int32} {N' : Nat} (hn : ¬ n < 0) (hN : n.toNatClampNeg = N') (hbytes : N' * 4 ≤ 536870912) (hcells : cells + 1 ≤ R.cells) (hslots : slots + N' ≤ R.slots) (hdg : decode cc pc = .ok (.anewarray index, 3))
    (kk : ∀ (q : Nat) (H1 : Heap) (σ1 : mwm), MW z D σ1 H1 → va_S (zA z) s.heap H1 locs → σ1 q = some (eQ K N' (fun _ => none)) → (∀ b f, σ b = some f → σ1 b = some f) → (∀ b f, σ b = some f → b ≠ q) → W p l e R s m args below meth c H1 locs (cells + 1) (slots + N') Q (F0 m (pc + 3) ls (.ref q :: rest))) : W p l e R s m args below meth c H locs cells slots Q (F0 m pc ls (.int n :: rest)) := by
  obtain ⟨⟨hx, hb, hml, hown, hts⟩, hK, hz⟩ := hC
  obtain ⟨ws, hP, hD, hw⟩ := hM
  refine va_newq (ws := ws) (C := RX0) hx hb hown (hts _ hcl) (va_AO.of (hts _ hov)) hK hP hD hS (fun q h => Nat.le_trans hz.1 h) hn hN hbytes hcells hslots hdg (fun q cB H1 hKq hP1 hD1 hS1 => ?_)
  have e1 : cB = K 4 := RA_uniq (hKq.2 5 (cB, .object RX0) rfl).2 (hK.2 4 (K 4, .object RX0) rfl).2
  subst e1
  exact kk q H1 (mup σ q _) ⟨_, hP1, hD1, MW.push (z := z) hw⟩ hS1 mup_self (fun b f h => (mup_ne (MW.fresh hw hD1 b f h)).trans h) (MW.fresh hw hD1)
theorem mw_max {index : Nat} (hC : CF p m c cc nL s args Ts own z D K) (hli : Cond.methodLink own index Lib.Math.max.name ∈ Ts) (hstat : Cond.static Lib.Math.max.name ∈ Ts) (hini : Cond.initialized "java/lang/Math" ∈ Ts) (hcode : Cond.code Lib.Math.max.name Lib.Math.max.code 2 (some .int) ∈ Ts) (hls : ls.size = nL) (hframes : 1 ≤ R.frames) (hlocals : (rest.map fun v => v.category).sum + 13 ≤ R.locals) (hc : cells ≤ R.cells) (hs : slots ≤ R.slots) {x y : Int32} (hdg : decode cc pc = .ok (.invokestatic index, 3))
    (kk : W p l e R s m args below meth c H locs cells slots Q (F0 m (pc + 3) ls (.int (imax x y) :: rest))) : W p l e R s m args below meth c H locs cells slots Q (F0 m pc ls (.int y :: .int x :: rest)) :=
  va_mmax hC.1.1 hC.1.2.1 (hC.1.2.2.1.trans hls.symm) hC.1.2.2.2.1 (hC.1.2.2.2.2 _ hli) (hC.1.2.2.2.2 _ hstat) (hC.1.2.2.2.2 _ hini) (hC.1.2.2.2.2 _ hcode) hframes hlocals hc hs hdg kk
end MWR
theorem it_pos {α : Type} {c : Prop} [inst : Decidable c] {a b v : α} (hc : c) (h : (if c then a else b) = v) : a = v := by rw [if_pos hc] at h; exact h
theorem it_neg {α : Type} {c : Prop} [inst : Decidable c] {a b v : α} (hc : ¬ c) (h : (if c then a else b) = v) : b = v := by rw [if_neg hc] at h; exact h
def inB (i : Int32) (n : Nat) : Bool := !(decide (i < 0) || decide (n ≤ i.toNatClampNeg))
theorem inB_ok {i : Int32} {n : Nat} (h : inB i n = true) : vp_in i n := by
  unfold inB at h
  unfold vp_in
  simpa using h
theorem gd_some {α : Type} {b : Bool} {T : Option α} {v : α} (h : (if b = true then T else none) = some v) : b = true ∧ T = some v := by
  by_cases c : b = true
  · rw [if_pos c] at h; exact ⟨c, h⟩
  · rw [if_neg c] at h; cases h
theorem bnd_at {α β : Type} {x y : α} {f : α → β} {v : β} (e : y = x) (h : bnd x f = v) : f y = v := by subst e; exact h
section MWC
variable {p : Program} {l : Launch} {e : Env} {R : Room} {s : State} {m : MethodId} {args : Array Value} {below : List Frame} {meth : Method} {c : Code} {H : Heap} {locs : List Loc} {cells slots : Nat} {Q : State → Prop}
variable {cc : ByteArray} {pc : Nat} {ls : Array Slot} {rest st0 As : List Value} {z : Nat} {D : va_G} {K : Nat → ClassId} {σ : mwm} {b : Nat} {Ts : List Cond} {own : String} {nL : Nat}
variable {y : MethodName} {bytes : ByteArray} {maxL n index mc ms : Nat} {ret : Option FieldType} {ws ws' : List Cond} {rm : Room} {Qc : Array Value → State → Outcome → State → Prop} {free : Addr → Prop}
theorem mw_runS (hC : CF p m c cc nL s args Ts own z D K) (hM : MW z D σ H) (hS : va_S (zA z) s.heap H locs) (hc : Met l y ws rm (PCm z D K As σ) Qc mc ms free) (gg : GoodIn Ts (va_wsS own index y ws)) (hw : ws = Cond.code y bytes maxL ret :: ws') (hrc : rm.cells = mc) (hrs : rm.slots = ms)
    (hd : y.cls ≠ "java/lang/invoke/MethodHandle" ∧ y.cls ≠ "java/lang/invoke/VarHandle" ∧ (parseMethodDescriptor y.desc).map (fun d => d.parameters.length) = some n) (hR : rm.frames + 1 ≤ R.frames ∧ 8 + (maxL + 11) + rm.locals ≤ R.locals) (hn : As.length = n) (hst : st0 = As.reverse ++ rest) (hrest : (rest.map fun v => v.category).sum ≤ 8) (hls : ls.size = nL) (hdg : decode cc pc = .ok (.invokestatic index, 3)) (hf : cells + mc ≤ R.cells ∧ slots + ms ≤ R.slots) :
    va_Run p l e R s m args below meth c H locs cells slots mc ms (F0 m pc ls st0) rest (Qc As.toArray) free :=
  va_runS hC.1 hc (va_cwS n hC.1.2.2.2.2 gg hw hrc hrs hd hR) ⟨PCm_blind, PCm_of hC.2.1 hC.2.2 hM hS⟩ rfl hn hls hst (lv_room (rest := st0) (pc := pc) (ls := ls) hrest) hdg hf
theorem mw_runV {C : String} {T : u_T} {N ci : Nat} {fs : List Value} (hC : CF p m c cc nL s args Ts own z D K) (hM : MW z D σ H) (hS : va_S (zA z) s.heap H locs) (hσ : σ b = some (.inr (ci, fs))) (hci : vwCl[ci]? = some (C, T, N)) (hc : Met l y ws rm (PCm z D K (.ref b :: As) σ) Qc mc ms free) (gg : GoodIn Ts (wsV own index C y ws)) (hw : ws = Cond.code y bytes maxL ret :: ws') (hrc : rm.cells = mc) (hrs : rm.slots = ms) (hyC : y.cls = C)
    (hd : y.cls ≠ "java/lang/invoke/MethodHandle" ∧ y.cls ≠ "java/lang/invoke/VarHandle" ∧ (parseMethodDescriptor y.desc).map (fun d => d.parameters.length) = some n) (hR : rm.frames + 1 ≤ R.frames ∧ 8 + (maxL + 11) + rm.locals ≤ R.locals) (hn : As.length = n) (hst : st0 = As.reverse ++ .ref b :: rest) (hrest : (rest.map fun v => v.category).sum ≤ 8) (hls : ls.size = nL) (hdg : decode cc pc = .ok (.invokevirtual index, 3)) (hf : cells + mc ≤ R.cells ∧ slots + ms ≤ R.slots) :
    va_Run p l e R s m args below meth c H locs cells slots mc ms (F0 m pc ls st0) rest (Qc (Value.ref b :: As).toArray) free :=
  va_runV hC.1 hc (cwV n hC.1.2.2.2.2 gg hw hrc hrs ⟨hyC, hd⟩ hR) ⟨PCm_blind, va_recv hC.2.1 (hM.one hσ) (q0 := 0) hci rfl, PCm_of hC.2.1 hC.2.2 hM hS⟩ rfl hn hls hst (lv_room (rest := st0) (pc := pc) (ls := ls) hrest) hdg hf
theorem mw_runSN {host : String} (hC : CF p m c cc nL s args Ts own z D K) (hM : MW z D σ H) (hS : va_S (zA z) s.heap H locs) (hc : Met l y ws rm (PCm z D K As σ) Qc mc ms free) (gg : GoodIn Ts ws) (hw : ws = Cond.code y bytes maxL ret :: ws') (hrc : rm.cells = mc) (hrs : rm.slots = ms) (hli : va_Nw (.methodLinkNest own index y host) s) (hini : Cond.initialized y.cls ∈ Ts) (hst9 : Cond.static y ∈ Ts)
    (hd : y.cls ≠ "java/lang/invoke/MethodHandle" ∧ y.cls ≠ "java/lang/invoke/VarHandle" ∧ (parseMethodDescriptor y.desc).map (fun d => d.parameters.length) = some n) (hR : rm.frames + 1 ≤ R.frames ∧ 8 + (maxL + 11) + rm.locals ≤ R.locals) (hn : As.length = n) (hst : st0 = As.reverse ++ rest) (hrest : (rest.map fun v => v.category).sum ≤ 8) (hls : ls.size = nL) (hdg : decode cc pc = .ok (.invokestatic index, 3)) (hf : cells + mc ≤ R.cells ∧ slots + ms ≤ R.slots) :
    va_Run p l e R s m args below meth c H locs cells slots mc ms (F0 m pc ls st0) rest (Qc As.toArray) free :=
  va_runSN hC.1 hc ⟨va_cnB n hC.1.2.2.2.2 gg hw hrc hrs hli (hC.1.2.2.2.2 _ hini) hd hR, hC.1.2.2.2.2 _ hst9, trivial⟩ ⟨PCm_blind, PCm_of hC.2.1 hC.2.2 hM hS⟩ rfl hn hls hst (lv_room (rest := st0) (pc := pc) (ls := ls) hrest) hdg hf
theorem mw_runI (hC : CF p m c cc nL s args Ts own z D K) (hM : MW z D σ H) (hS : va_S (zA z) s.heap H locs) (hc : Met l y ws rm (PCm z D K (.ref b :: As) σ) Qc mc ms free) (gg : GoodIn Ts ws) (hw : ws = Cond.code y bytes maxL none :: ws') (hrc : rm.cells = mc) (hrs : rm.slots = ms) (hini : Cond.initialized y.cls ∈ Ts) (hli : Cond.methodLink own index y ∈ Ts) (hins : Cond.instanceMethod y ∈ Ts) (hy1 : y.name = "<init>")
    (hd : y.cls ≠ "java/lang/invoke/MethodHandle" ∧ y.cls ≠ "java/lang/invoke/VarHandle" ∧ (parseMethodDescriptor y.desc).map (fun d => d.parameters.length) = some n) (hR : rm.frames + 1 ≤ R.frames ∧ 8 + (maxL + 11) + rm.locals ≤ R.locals) (hn : As.length = n) (hst : st0 = As.reverse ++ .ref b :: rest) (hrest : (rest.map fun v => v.category).sum ≤ 8) (hls : ls.size = nL) (hdg : decode cc pc = .ok (.invokespecial index, 3)) (hf : cells + mc ≤ R.cells ∧ slots + ms ≤ R.slots) :
    va_Run p l e R s m args below meth c H locs cells slots mc ms (F0 m pc ls st0) rest (Qc (Value.ref b :: As).toArray) free :=
  va_runI hC.1 hc (cwI n hC.1.2.2.2.2 gg hw hrc hrs (hC.1.2.2.2.2 _ hini) (hC.1.2.2.2.2 _ hli) (hC.1.2.2.2.2 _ hins) hy1 hd hR) ⟨PCm_blind, PCm_of hC.2.1 hC.2.2 hM hS⟩ rfl hn hls hst (lv_room (rest := st0) (pc := pc) (ls := ls) hrest) hdg hf
theorem mw_ci {v : Int32} {a : Array Value} (hr : va_Run p l e R s m args below meth c H locs cells slots 0 0 (F0 m pc ls st0) rest (qsI v a) (fun _ => False)) (kk : W p l e R s m args below meth c H locs cells slots Q (F0 m (pc + 3) ls (.int v :: rest))) : W p l e R s m args below meth c H locs cells slots Q (F0 m pc ls st0) :=
  vp_callSi hr.run (fun r h => by subst h; exact kk)
theorem mw_cl {v : Int64} {a : Array Value} (hr : va_Run p l e R s m args below meth c H locs cells slots 0 0 (F0 m pc ls st0) rest (qsL v a) (fun _ => False)) (kk : W p l e R s m args below meth c H locs cells slots Q (F0 m (pc + 3) ls (.long v :: rest))) : W p l e R s m args below meth c H locs cells slots Q (F0 m pc ls st0) :=
  vp_callSl hr.run (fun r h => by subst h; exact kk)
theorem mw_wi {post : Int32 → mwm → Prop} {a : Array Value} (hr : va_Run p l e R s m args below meth c H locs cells slots mc ms (F0 m pc ls st0) rest (qwI z D post a) (zA z)) (hS : va_S (zA z) s.heap H locs) (kk : ∀ (r : Int32) (H1 : Heap) (locs1 : List Loc) (σ1 : mwm), post r σ1 → MW z D σ1 H1 → va_S (zA z) s.heap H1 locs1 → W p l e R s m args below meth c H1 locs1 (cells + mc) (slots + ms) Q (F0 m (pc + 3) ls (.int r :: rest))) : W p l e R s m args below meth c H locs cells slots Q (F0 m pc ls st0) :=
  va_calli hr hS (fun _ _ h => h) (fun _ h => h) (fun r u t H1 locs1 e1 _ hp hB _ _ hS1 => kk r H1 locs1 u hp (by rw [← e1]; exact hB) hS1)
theorem mw_wl {post : Int64 → mwm → Prop} {a : Array Value} (hr : va_Run p l e R s m args below meth c H locs cells slots mc ms (F0 m pc ls st0) rest (qwL z D post a) (zA z)) (hS : va_S (zA z) s.heap H locs) (kk : ∀ (r : Int64) (H1 : Heap) (locs1 : List Loc) (σ1 : mwm), post r σ1 → MW z D σ1 H1 → va_S (zA z) s.heap H1 locs1 → W p l e R s m args below meth c H1 locs1 (cells + mc) (slots + ms) Q (F0 m (pc + 3) ls (.long r :: rest))) : W p l e R s m args below meth c H locs cells slots Q (F0 m pc ls st0) :=
  va_calll hr hS (fun _ _ h => h) (fun _ h => h) (fun r u t H1 locs1 e1 _ hp hB _ _ hS1 => kk r H1 locs1 u hp (by rw [← e1]; exact hB) hS1)
theorem mw_wv {post : mwm → Prop} {a : Array Value} (hr : va_Run p l e R s m args below meth c H locs cells slots mc ms (F0 m pc ls st0) rest (qwV z D post a) (zA z)) (hS : va_S (zA z) s.heap H locs) (kk : ∀ (H1 : Heap) (locs1 : List Loc) (σ1 : mwm), post σ1 → MW z D σ1 H1 → va_S (zA z) s.heap H1 locs1 → W p l e R s m args below meth c H1 locs1 (cells + mc) (slots + ms) Q (F0 m (pc + 3) ls rest)) : W p l e R s m args below meth c H locs cells slots Q (F0 m pc ls st0) :=
  va_callv hr hS (fun _ _ h => h) (fun _ h => h) (fun u t H1 locs1 e1 _ hp hB _ _ hS1 => kk H1 locs1 u hp (by rw [← e1]; exact hB) hS1)
end MWC
/-! what the cells of each class hold, out of the numbers -/
abbrev GS : Type := Int32 × Int32 × Int32 × Int32 × Int64 × Int64 × Int32 × Int32
abbrev cl0 (a0 a1 ag : Nat) (w : GS) : va_E := .inr (0, [.ref a0, .ref a1, .ref ag, .int w.1, .int w.2.1, .int w.2.2.1, .int w.2.2.2.1, .long w.2.2.2.2.1, .long w.2.2.2.2.2.1, .int w.2.2.2.2.2.2.1, .int w.2.2.2.2.2.2.2])
abbrev cl1 (a : Nat) (w : Int32) : va_E := .inr (1, [.ref a, .int w])
abbrev RS : Type := Int32 × Int32 × Int64 × Int64 × Int64
abbrev cl2 (w : RS) : va_E := .inr (2, [.int w.1, .int w.2.1, .long w.2.2.1, .long w.2.2.2.1, .long w.2.2.2.2])
abbrev ES : Type := Int32 × Int32
abbrev cl3 (a : Nat) (w : ES) : va_E := .inr (3, [.ref a, .int w.1, .int w.2])
abbrev cl4 (a : Nat) (w : Bool) : va_E := .inr (4, [.ref a, .int (b2i w)])
abbrev cl5 (a0 a1 a2 a3 a4 a5 : Nat) : va_E := .inr (5, [.ref a0, .ref a1, .ref a2, .ref a3, .ref a4, .ref a5])
theorem b2i_fit (b : Bool) : fits .boolean (.int (b2i b)) = true := by cases b <;> decide
def shlL (x : Int64) (y : Int32) : Int64 := x <<< (y.toInt64 &&& 63)
def ushrL (x : Int64) (y : Int32) : Int64 := (x.toUInt64 >>> (y.toInt64.toUInt64 &&& Int64.toUInt64 63)).toInt64
theorem gd_someP {α β : Type} {x y : α} [inst : DecidableEq α] {T : Option β} {v : β} (h : (if x = y then T else none) = some v) : x = y ∧ T = some v := by
  by_cases c : x = y
  · rw [if_pos c] at h; exact ⟨c, h⟩
  · rw [if_neg c] at h; cases h
