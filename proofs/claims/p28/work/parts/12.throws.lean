/-! methods that throw: what an exception needs of the state, and the two ways out -/
def SXs (U : State) : Prop := (∃ a : Nat, vk_R RX7 142 "what is not 0 to 7" a U) ∧ (∃ a : Nat, vk_R RX7 149 "no such colour" a U) ∧ (∃ a : Nat, vk_R RX7 174 "what is not 0 to 5" a U) ∧ (∃ a : Nat, vk_R RX7 179 "no such point" a U) ∧ (∃ a : Nat, vk_R RX7 199 "what is neither 0 nor 1" a U) ∧ (∃ a : Nat, vk_R RX7 204 "rows is not 3 to 7" a U) ∧ (∃ a : Nat, vk_R RX7 213 "the stone may not be laid" a U) ∧ (∃ a : Nat, vk_R RX7 218 "there are 120 moves" a U) ∧ (∃ a : Nat, vk_R RX7 220 "v is neither 0 nor 1" a U) ∧ (∃ a : Nat, vk_R RX7 225 "no state is remembered" a U) ∧ (∃ a : Nat, vk_R RX7 231 "what is not 0 to 3" a U) ∧ (∃ a : Nat, vk_R RX7 247 "n is not 1 to 4" a U) ∧ (∃ a : Nat, vk_R RX7 252 "the script is negative or too long" a U) ∧ (∃ a : Nat, vk_R RX7 267 "m is not 1 to 100" a U) ∧ (∃ a : Nat, vk_R RX7 273 "no such save slot" a U) ∧ (∃ a : Nat, vk_R RX7 278 "nothing has been saved in it" a U) ∧ (∃ a : Nat, vk_R RX7 52 "no such character" a U) ∧ (∃ a : Nat, vk_R RX7 63 "the text is full" a U) ∧ (∃ a : Nat, vk_R RX7 77 "the text is not a game" a U)
def SXw (U : State) : Prop := va_Nw (.declares (Bundle.initS "java/lang/RuntimeException")) U ∧ va_Nw (.declares (Bundle.initS "java/lang/Exception")) U ∧ va_Nw (.declares (Bundle.initS Bundle.tN)) U ∧ va_Nw (.castable "java/lang/IllegalArgumentException" "java/lang/IllegalArgumentException") U ∧ va_Nw (.castable "java/lang/IllegalStateException" "java/lang/IllegalStateException") U ∧ va_Nw (.castable "java/lang/IndexOutOfBoundsException" "java/lang/IndexOutOfBoundsException") U
def SXn (U : State) : Prop := va_Nc "java/lang/IllegalArgumentException" "java/lang/IllegalStateException" U ∧ va_Nc "java/lang/IllegalArgumentException" "java/lang/IndexOutOfBoundsException" U ∧ va_Nc "java/lang/IllegalStateException" "java/lang/IllegalArgumentException" U ∧ va_Nc "java/lang/IllegalStateException" "java/lang/IndexOutOfBoundsException" U ∧ va_Nc "java/lang/IndexOutOfBoundsException" "java/lang/IllegalArgumentException" U ∧ va_Nc "java/lang/IndexOutOfBoundsException" "java/lang/IllegalStateException" U ∧ va_AO RX0 U
theorem SXs.same {u U : State} (e : U.vm = u.vm) (h : SXs u) : SXs U := by
  obtain ⟨⟨a0, h0⟩, ⟨a1, h1⟩, ⟨a2, h2⟩, ⟨a3, h3⟩, ⟨a4, h4⟩, ⟨a5, h5⟩, ⟨a6, h6⟩, ⟨a7, h7⟩, ⟨a8, h8⟩, ⟨a9, h9⟩, ⟨a10, h10⟩, ⟨a11, h11⟩, ⟨a12, h12⟩, ⟨a13, h13⟩, ⟨a14, h14⟩, ⟨a15, h15⟩, ⟨a16, h16⟩, ⟨a17, h17⟩, ⟨a18, h18⟩⟩ := h
  exact ⟨⟨a0, h0.same e⟩, ⟨a1, h1.same e⟩, ⟨a2, h2.same e⟩, ⟨a3, h3.same e⟩, ⟨a4, h4.same e⟩, ⟨a5, h5.same e⟩, ⟨a6, h6.same e⟩, ⟨a7, h7.same e⟩, ⟨a8, h8.same e⟩, ⟨a9, h9.same e⟩, ⟨a10, h10.same e⟩, ⟨a11, h11.same e⟩, ⟨a12, h12.same e⟩, ⟨a13, h13.same e⟩, ⟨a14, h14.same e⟩, ⟨a15, h15.same e⟩, ⟨a16, h16.same e⟩, ⟨a17, h17.same e⟩, ⟨a18, h18.same e⟩⟩
theorem SXs.warm {s U : State} (hW : s.WarmedH U.vm) (h : SXs s) : SXs U := by
  obtain ⟨⟨a0, h0⟩, ⟨a1, h1⟩, ⟨a2, h2⟩, ⟨a3, h3⟩, ⟨a4, h4⟩, ⟨a5, h5⟩, ⟨a6, h6⟩, ⟨a7, h7⟩, ⟨a8, h8⟩, ⟨a9, h9⟩, ⟨a10, h10⟩, ⟨a11, h11⟩, ⟨a12, h12⟩, ⟨a13, h13⟩, ⟨a14, h14⟩, ⟨a15, h15⟩, ⟨a16, h16⟩, ⟨a17, h17⟩, ⟨a18, h18⟩⟩ := h
  exact ⟨⟨a0, h0.warm hW⟩, ⟨a1, h1.warm hW⟩, ⟨a2, h2.warm hW⟩, ⟨a3, h3.warm hW⟩, ⟨a4, h4.warm hW⟩, ⟨a5, h5.warm hW⟩, ⟨a6, h6.warm hW⟩, ⟨a7, h7.warm hW⟩, ⟨a8, h8.warm hW⟩, ⟨a9, h9.warm hW⟩, ⟨a10, h10.warm hW⟩, ⟨a11, h11.warm hW⟩, ⟨a12, h12.warm hW⟩, ⟨a13, h13.warm hW⟩, ⟨a14, h14.warm hW⟩, ⟨a15, h15.warm hW⟩, ⟨a16, h16.warm hW⟩, ⟨a17, h17.warm hW⟩, ⟨a18, h18.warm hW⟩⟩
theorem SXw.same {u U : State} (e : u.vm = U.vm) (h : SXw u) : SXw U := by
  obtain ⟨h0, h1, h2, h3, h4, h5⟩ := h
  exact ⟨va_Nw.same rfl e h0, va_Nw.same rfl e h1, va_Nw.same rfl e h2, va_Nw.same rfl e h3, va_Nw.same rfl e h4, va_Nw.same rfl e h5⟩
theorem SXw.warm {s U : State} (hW : s.WarmedH U.vm) (h : SXw s) : SXw U := by
  obtain ⟨h0, h1, h2, h3, h4, h5⟩ := h
  exact ⟨va_Nw.warmD hW h0, va_Nw.warmD hW h1, va_Nw.warmD hW h2, va_Nw.warmC hW h3, va_Nw.warmC hW h4, va_Nw.warmC hW h5⟩
theorem SXn.moved {u U : State} (hvm : u.vm.Alike U.vm) (h : SXn u) : SXn U := by
  obtain ⟨h0, h1, h2, h3, h4, h5, h6⟩ := h
  exact ⟨h0.moved hvm, h1.moved hvm, h2.moved hvm, h3.moved hvm, h4.moved hvm, h5.moved hvm, h6.moved hvm⟩
theorem sx_142 {U : State} (h : SXs U) : ∃ a : Nat, vk_R RX7 142 "what is not 0 to 7" a U := h.1
theorem sx_149 {U : State} (h : SXs U) : ∃ a : Nat, vk_R RX7 149 "no such colour" a U := h.2.1
theorem sx_174 {U : State} (h : SXs U) : ∃ a : Nat, vk_R RX7 174 "what is not 0 to 5" a U := h.2.2.1
theorem sx_179 {U : State} (h : SXs U) : ∃ a : Nat, vk_R RX7 179 "no such point" a U := h.2.2.2.1
theorem sx_199 {U : State} (h : SXs U) : ∃ a : Nat, vk_R RX7 199 "what is neither 0 nor 1" a U := h.2.2.2.2.1
theorem sx_204 {U : State} (h : SXs U) : ∃ a : Nat, vk_R RX7 204 "rows is not 3 to 7" a U := h.2.2.2.2.2.1
theorem sx_213 {U : State} (h : SXs U) : ∃ a : Nat, vk_R RX7 213 "the stone may not be laid" a U := h.2.2.2.2.2.2.1
theorem sx_218 {U : State} (h : SXs U) : ∃ a : Nat, vk_R RX7 218 "there are 120 moves" a U := h.2.2.2.2.2.2.2.1
theorem sx_220 {U : State} (h : SXs U) : ∃ a : Nat, vk_R RX7 220 "v is neither 0 nor 1" a U := h.2.2.2.2.2.2.2.2.1
theorem sx_225 {U : State} (h : SXs U) : ∃ a : Nat, vk_R RX7 225 "no state is remembered" a U := h.2.2.2.2.2.2.2.2.2.1
theorem sx_231 {U : State} (h : SXs U) : ∃ a : Nat, vk_R RX7 231 "what is not 0 to 3" a U := h.2.2.2.2.2.2.2.2.2.2.1
theorem sx_247 {U : State} (h : SXs U) : ∃ a : Nat, vk_R RX7 247 "n is not 1 to 4" a U := h.2.2.2.2.2.2.2.2.2.2.2.1
theorem sx_252 {U : State} (h : SXs U) : ∃ a : Nat, vk_R RX7 252 "the script is negative or too long" a U := h.2.2.2.2.2.2.2.2.2.2.2.2.1
theorem sx_267 {U : State} (h : SXs U) : ∃ a : Nat, vk_R RX7 267 "m is not 1 to 100" a U := h.2.2.2.2.2.2.2.2.2.2.2.2.2.1
theorem sx_273 {U : State} (h : SXs U) : ∃ a : Nat, vk_R RX7 273 "no such save slot" a U := h.2.2.2.2.2.2.2.2.2.2.2.2.2.2.1
theorem sx_278 {U : State} (h : SXs U) : ∃ a : Nat, vk_R RX7 278 "nothing has been saved in it" a U := h.2.2.2.2.2.2.2.2.2.2.2.2.2.2.2.1
theorem sx_52 {U : State} (h : SXs U) : ∃ a : Nat, vk_R RX7 52 "no such character" a U := h.2.2.2.2.2.2.2.2.2.2.2.2.2.2.2.2.1
theorem sx_63 {U : State} (h : SXs U) : ∃ a : Nat, vk_R RX7 63 "the text is full" a U := h.2.2.2.2.2.2.2.2.2.2.2.2.2.2.2.2.2.1
theorem sx_77 {U : State} (h : SXs U) : ∃ a : Nat, vk_R RX7 77 "the text is not a game" a U := h.2.2.2.2.2.2.2.2.2.2.2.2.2.2.2.2.2.2
def SX (z : Nat) (U : State) : Prop := vx_Zq Bundle.tN "UNASSIGNED_STACK" Bundle.steD (zA z) U U.heap ∧ vx_Zq Bundle.tN "SUPPRESSED_SENTINEL" Bundle.listD (zA z) U U.heap ∧ SXs U ∧ SXw U ∧ SXn U
def PCx (z : Nat) (D : va_G) (K : Nat → ClassId) (av : List Value) (σ : mwm) : Array Value → State → Prop := va_Pc av (fun U => MW z D σ U.heap ∧ va_K D vwCl (ktys K) U ∧ z ≤ U.heap.size ∧ NX U ∧ SX z U)
theorem PCx_blind {z : Nat} {D : va_G} {K : Nat → ClassId} {av : List Value} {σ : mwm} : FrameBlind (PCx z D K av σ) := by
  intro a U g mk h
  obtain ⟨q0, q1, qK, q2, q3, x1, x2, x3, x4, x5⟩ := h
  exact ⟨q0, q1, va_K.moved (u := U) (U := U.calling g mk a) (Vm.Alike.refl U.vm) qK, q2, NX.same (u := U) (U := U.calling g mk a) rfl q3, vx_Zq.moved (u := U) (U := U.calling g mk a) (Vm.Alike.refl U.vm) x1, vx_Zq.moved (u := U) (U := U.calling g mk a) (Vm.Alike.refl U.vm) x2, SXs.same (u := U) (U := U.calling g mk a) rfl x3, SXw.same (u := U) (U := U.calling g mk a) rfl x4, SXn.moved (u := U) (U := U.calling g mk a) (Vm.Alike.refl U.vm) x5⟩
theorem PCx_of {z : Nat} {D : va_G} {K : Nat → ClassId} {av : List Value} {σ : mwm} {s : State} {H : Heap} {locs : List Loc} (hK : va_K D vwCl (ktys K) s) (hz : z ≤ s.heap.size ∧ NX s) (hX : SX z s) (hM : MW z D σ H) (hS : va_S (zA z) s.heap H locs) : ∀ U : State, U.heap = H → s.WarmedH U.vm → PCx z D K av σ av.toArray U := by
  intro U hU hW
  obtain ⟨x1, x2, x3, x4, x5⟩ := hX
  exact ⟨rfl, by rw [hU]; exact hM, va_K.moved hW.alike hK, by rw [hU]; exact Nat.le_trans hz.1 hS.1, NX.warm hW hz.2, by rw [hU]; exact vx_Zq.moved hW.alike (x1.kept hS.2.1), by rw [hU]; exact vx_Zq.moved hW.alike (x2.kept hS.2.1), SXs.warm hW x3, SXw.warm hW x4, SXn.moved hW.alike x5⟩
theorem MW.kept {z : Nat} {D : va_G} {σ : mwm} {H H1 : Heap} (h : MW z D σ H) (hq : ∀ q : Nat, q < H.size → H1[q]? = H[q]?) : MW z D σ H1 := by
  obtain ⟨ws, hP, hD, hw⟩ := h
  exact ⟨ws, hP.kept (fun k q hk => hq q.1 (hP k q hk).lt), hD, hw⟩
abbrev XQ {R : Type} (z : Nat) (D : va_G) (σ : mwm) (v : String ⊕ R) : String → State → State → Prop := vx_X (S := Unit) (fun _ => True) (fun E _ t => v = Sum.inl E ∧ MW z D σ t.heap) (zA z)
def rsum {R α : Type} (r : String ⊕ R) (f : String → α) (g : R → α) : α := match r with | .inl E => f E | .inr w => g w
theorem mx_enter {l : Launch} {y : MethodName} {ws ws' : List Cond} {rm : Room} {z : Nat} {D : va_G} {K : Nat → ClassId} {σ : mwm} {av : List Value} {Qc : Array Value → State → Outcome → State → Prop} {XC : String → State → State → Prop} {mc ms : Nat} {free : Addr → Prop} {cc : ByteArray} {maxL : Nat} {ret : Option FieldType} {own : String} {lv : List (Nat × Value)}
    (hy : plainName y.cls = true) (ho : y.cls = own) (hw : ws = Cond.code y cc maxL ret :: ws') (hlen : (lg_sl av).length ≤ maxL) (hlv : lv_args 0 av = lv)
    (body : ∀ (p : Program) (e : Env) (s : State) (m : MethodId) (below : List Frame) (meth : Method) (c : Code) (ls : Array Slot), CF p m c cc maxL s av.toArray ws own z D K → p.tables.exec = Jvm.exec → c.code = cc → s.vm.findClass own = some m.cls → (∀ w ∈ ws, w.before av.toArray s = true) → va_K D vwCl (ktys K) s → meth.sig.returnType = ret → meth.locks = false → meth.name = y.name → z ≤ s.heap.size → MW z D σ s.heap → va_S (zA z) s.heap s.heap [] → lv_has ls maxL lv → SX z s → (∀ x ∈ c.exceptionTable.toList, False) →
      W p l e rm s m av.toArray below meth c s.heap [] 0 0 (vx_MQ below Qc XC av.toArray s mc ms free) (F0 m 0 ls [])) : vx_Met l y ws rm (PCx z D K av σ) Qc XC mc ms free := by
  refine vx_ofW (cc := cc) (maxL := maxL) (ret := ret) hy hw ?_
  intro p e s m args below meth c s₁ B hml hex hv
  obtain ⟨rfl, hM, hK, hz, hN, hX⟩ := hv
  have hts := atoms_spec (ws := ws) B.pre
  have hown : s.vm.findClass own = some m.cls := by rw [← ho]; exact findClass_of_methodNamed B.named
  have hl := lv_entry av (n := maxL) hlen
  rw [hlv] at hl
  rw [lg_entry_eq]
  exact body p e s m below meth c _ ⟨⟨B.exec, B.bytes, hml, hown, hts⟩, hK, hz, hN⟩ B.exec B.bytes hown hts hK B.returns B.notSynchronized (name_of_methodNamed B.named B.method).1 hz hM va_S.rf hl hX hex
def BX (X : String) : List Cond := [.declares (Bundle.initS "java/lang/RuntimeException"), .declares (Bundle.initS "java/lang/Exception"), .declares (Bundle.initS Bundle.tN), .castable X X]
theorem mx_throw {R : Type} {p : Program} {l : Launch} {e : Env} {Rm : Room} {s : State} {m : MethodId} {args : Array Value} {below : List Frame} {meth : Method} {c : Code} {H : Heap} {locs : List Loc} {cells slots : Nat} {cc : ByteArray} {pc : Nat} {ls : Array Slot} {rest : List Value} {z : Nat} {D : va_G} {K : Nat → ClassId} {σ : mwm} {Ts : List Cond} {own : String} {nL : Nat} {Qc : Array Value → State → Outcome → State → Prop} {mc ms : Nat} {cls text : String} {ik is ic : Nat} {v : String ⊕ R}
    (hC : CF p m c cc nL s args Ts own z D K) (hX : SX z s) (hl : l.stackTraces = false) (hM : MW z D σ H) (hS : va_S (zA z) s.heap H locs) (hv : v = Sum.inl cls) (hcls : Bundle.fit cls = true)
    (hk : Cond.classLink own ik cls ∈ Ts) (hini : Cond.initialized cls ∈ Ts) (hstr : ∃ sa : Nat, vk_R own is text sa s) (hat : ∀ w ∈ (vx_atS own ic cls ["java/lang/RuntimeException", "java/lang/Exception"]).filter goodWord, w ∈ Ts) (hbx : ∀ w ∈ (vx_atS own ic cls ["java/lang/RuntimeException", "java/lang/Exception"]).filter (fun w => !goodWord w), w ∈ BX cls) (hca : va_Nw (.castable cls cls) s)
    (hgood : ∀ w ∈ Cond.classLink own ik cls :: Cond.initialized cls :: vx_atS own ic cls ["java/lang/RuntimeException", "java/lang/Exception"], vx_ot w = true) (hls : ls.size = nL)
    (d0 : decode cc pc = .ok (.new ik, 3)) (d3 : decode cc (pc + 3) = .ok (.dup, 1)) (d4 : decode cc (pc + 4) = .ok (.ldc is, 2)) (d6 : decode cc (pc + 6) = .ok (.invokespecial ic, 3)) (d9 : decode cc (pc + 9) = .ok (.athrow, 1))
    (hex : ∀ x ∈ c.exceptionTable.toList, False) (hRf : 6 ≤ Rm.frames) (hRl : (rest.map fun v => v.category).sum + 82 ≤ Rm.locals) (hRc : cells + 1 ≤ Rm.cells) (hRs : slots + 6 ≤ Rm.slots) (hlocks : meth.locks = false) (hc : cells + 1 ≤ mc) (hs : slots + 6 ≤ ms) :
    W p l e Rm s m args below meth c H locs cells slots (vx_MQ below Qc (XQ z D σ v) args s mc ms (zA z)) (F0 m pc ls rest) := by
  obtain ⟨⟨hx, hb, hml, hown, hts⟩, hK, hz⟩ := hC
  obtain ⟨x1, x2, x3, x4, x5⟩ := hX
  obtain ⟨sa, hsa⟩ := hstr
  have hB : ∀ w ∈ BX cls, w.before args s = true := by
    intro w hw
    obtain ⟨w0, w1, w2, w3, w4, w5⟩ := x4
    rcases List.mem_cons.mp hw with rfl | hw
    · exact va_Nw.use rfl w0
    rcases List.mem_cons.mp hw with rfl | hw
    · exact va_Nw.use rfl w1
    rcases List.mem_cons.mp hw with rfl | hw
    · exact va_Nw.use rfl w2
    rcases List.mem_cons.mp hw with rfl | hw
    · exact va_Nw.use rfl hca
    · cases hw
  exact vx_throwS (names := ["java/lang/RuntimeException", "java/lang/Exception"]) hx hb hl hown hcls (by decide +kernel) (hts _ hk) (hts _ hini) hsa (vx_hat (fun w hw => hts w (hat w hw)) hbx hB) hgood x1 x2 hS (hls.trans hml.symm) d0 d3 d4 d6 d9 (fun x h => absurd (hex x h) id) (show 5 < Rm.frames by omega) (show _ + 82 ≤ Rm.locals from hRl) hRc hRs hlocks
    (fun t hvm hz1 hk1 => ⟨(), trivial, ⟨hv, hM.kept hk1⟩, Nat.le_trans hS.1 hz1, fun q h1 h2 => (hk1 q (Nat.lt_of_lt_of_le h1 hS.1)).trans (hS.2.1 q h1 h2)⟩) hS.2.2 hc hs
theorem mx_throwW {R : Type} {p : Program} {l : Launch} {e : Env} {Rm : Room} {s : State} {m : MethodId} {args : Array Value} {below : List Frame} {meth : Method} {c : Code} {H : Heap} {locs : List Loc} {cells slots : Nat} {cc : ByteArray} {pc : Nat} {ls : Array Slot} {rest : List Value} {z : Nat} {D : va_G} {K : Nat → ClassId} {σ : mwm} {Ts : List Cond} {own : String} {nL : Nat} {Qc : Array Value → State → Outcome → State → Prop} {mc ms : Nat} {cls text : String} {ik is ic : Nat} {v : String ⊕ R}
    (hC : CF p m c cc nL s args Ts own z D K) (hX : SX z s) (hl : l.stackTraces = false) (hM : MW z D σ H) (hS : va_S (zA z) s.heap H locs) (hv : v = Sum.inl cls) (hcls : Bundle.fit cls = true)
    (hk : Cond.classLink own ik cls ∈ Ts) (hini : Cond.initialized cls ∈ Ts) (hstr : ∃ sa : Nat, vk_R own is text sa s) (hat : ∀ w ∈ (vx_atS own ic cls ["java/lang/RuntimeException", "java/lang/Exception"]).filter goodWord, w ∈ Ts) (hbx : ∀ w ∈ (vx_atS own ic cls ["java/lang/RuntimeException", "java/lang/Exception"]).filter (fun w => !goodWord w), w ∈ BX cls) (hca : va_Nw (.castable cls cls) s)
    (hgood : ∀ w ∈ Cond.classLink own ik cls :: Cond.initialized cls :: vx_atS own ic cls ["java/lang/RuntimeException", "java/lang/Exception"], vx_ot w = true) (hls : ls.size = nL)
    (d0 : decode cc pc = .ok (.new ik, 3)) (d3 : decode cc (pc + 3) = .ok (.dup, 1)) (d4 : decode cc (pc + 4) = .ok (.ldc_w is, 3)) (d6 : decode cc (pc + 7) = .ok (.invokespecial ic, 3)) (d9 : decode cc (pc + 10) = .ok (.athrow, 1))
    (hex : ∀ x ∈ c.exceptionTable.toList, False) (hRf : 6 ≤ Rm.frames) (hRl : (rest.map fun v => v.category).sum + 82 ≤ Rm.locals) (hRc : cells + 1 ≤ Rm.cells) (hRs : slots + 6 ≤ Rm.slots) (hlocks : meth.locks = false) (hc : cells + 1 ≤ mc) (hs : slots + 6 ≤ ms) :
    W p l e Rm s m args below meth c H locs cells slots (vx_MQ below Qc (XQ z D σ v) args s mc ms (zA z)) (F0 m pc ls rest) := by
  obtain ⟨⟨hx, hb, hml, hown, hts⟩, hK, hz⟩ := hC
  obtain ⟨x1, x2, x3, x4, x5⟩ := hX
  obtain ⟨sa, hsa⟩ := hstr
  have hB : ∀ w ∈ BX cls, w.before args s = true := by
    intro w hw
    obtain ⟨w0, w1, w2, w3, w4, w5⟩ := x4
    rcases List.mem_cons.mp hw with rfl | hw
    · exact va_Nw.use rfl w0
    rcases List.mem_cons.mp hw with rfl | hw
    · exact va_Nw.use rfl w1
    rcases List.mem_cons.mp hw with rfl | hw
    · exact va_Nw.use rfl w2
    rcases List.mem_cons.mp hw with rfl | hw
    · exact va_Nw.use rfl hca
    · cases hw
  exact vx_throwSW (names := ["java/lang/RuntimeException", "java/lang/Exception"]) hx hb hl hown hcls (by decide +kernel) (hts _ hk) (hts _ hini) hsa (vx_hat (fun w hw => hts w (hat w hw)) hbx hB) hgood x1 x2 hS (hls.trans hml.symm) d0 d3 d4 d6 d9 (fun x h => absurd (hex x h) id) (show 5 < Rm.frames by omega) (show _ + 82 ≤ Rm.locals from hRl) hRc hRs hlocks
    (fun t hvm hz1 hk1 => ⟨(), trivial, ⟨hv, hM.kept hk1⟩, Nat.le_trans hS.1 hz1, fun q h1 h2 => (hk1 q (Nat.lt_of_lt_of_le h1 hS.1)).trans (hS.2.1 q h1 h2)⟩) hS.2.2 hc hs
theorem xg_A : ∀ w ∈ Cond.classLink RX7 50 "java/lang/IllegalArgumentException" :: Cond.initialized "java/lang/IllegalArgumentException" :: vx_atS RX7 54 "java/lang/IllegalArgumentException" ["java/lang/RuntimeException", "java/lang/Exception"], vx_ot w = true := by decide +kernel
theorem xb_A : ∀ w ∈ (vx_atS RX7 54 "java/lang/IllegalArgumentException" ["java/lang/RuntimeException", "java/lang/Exception"]).filter (fun w => !goodWord w), w ∈ BX "java/lang/IllegalArgumentException" := by decide +kernel
theorem xc_A {z : Nat} {s : State} (h : SX z s) : va_Nw (.castable "java/lang/IllegalArgumentException" "java/lang/IllegalArgumentException") s := h.2.2.2.1.2.2.2.1
theorem xg_S : ∀ w ∈ Cond.classLink RX7 61 "java/lang/IllegalStateException" :: Cond.initialized "java/lang/IllegalStateException" :: vx_atS RX7 65 "java/lang/IllegalStateException" ["java/lang/RuntimeException", "java/lang/Exception"], vx_ot w = true := by decide +kernel
theorem xb_S : ∀ w ∈ (vx_atS RX7 65 "java/lang/IllegalStateException" ["java/lang/RuntimeException", "java/lang/Exception"]).filter (fun w => !goodWord w), w ∈ BX "java/lang/IllegalStateException" := by decide +kernel
theorem xc_S {z : Nat} {s : State} (h : SX z s) : va_Nw (.castable "java/lang/IllegalStateException" "java/lang/IllegalStateException") s := h.2.2.2.1.2.2.2.2.1
theorem xg_O : ∀ w ∈ Cond.classLink RX7 147 "java/lang/IndexOutOfBoundsException" :: Cond.initialized "java/lang/IndexOutOfBoundsException" :: vx_atS RX7 151 "java/lang/IndexOutOfBoundsException" ["java/lang/RuntimeException", "java/lang/Exception"], vx_ot w = true := by decide +kernel
theorem xb_O : ∀ w ∈ (vx_atS RX7 151 "java/lang/IndexOutOfBoundsException" ["java/lang/RuntimeException", "java/lang/Exception"]).filter (fun w => !goodWord w), w ∈ BX "java/lang/IndexOutOfBoundsException" := by decide +kernel
theorem xc_O {z : Nat} {s : State} (h : SX z s) : va_Nw (.castable "java/lang/IndexOutOfBoundsException" "java/lang/IndexOutOfBoundsException") s := h.2.2.2.1.2.2.2.2.2
