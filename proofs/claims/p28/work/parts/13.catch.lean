/-! methods that catch: the law's own, each round one call of the class -/
theorem rsum_inl {R α : Type} {E : String} {f : String → α} {g : R → α} {v : α} (h : rsum (Sum.inl E) f g = v) : f E = v := h
theorem rsum_inr {R α : Type} {w : R} {f : String → α} {g : R → α} {v : α} (h : rsum (Sum.inr w) f g = v) : g w = v := h
theorem mh_enter {l : Launch} {y : MethodName} {ws ws' : List Cond} {rm : Room} {z : Nat} {D : va_G} {K : Nat → ClassId} {σ : mwm} {av : List Value} {Qc : Array Value → State → Outcome → State → Prop} {mc ms : Nat} {free : Addr → Prop} {cc : ByteArray} {maxL : Nat} {ret : Option FieldType} {hh : List (Nat × Nat × Nat × Nat)} {own : String} {lv : List (Nat × Value)}
    (hy : plainName y.cls = true) (ho : y.cls = own) (hw : ws = Cond.codeWith y cc maxL ret hh :: ws') (hlen : (lg_sl av).length ≤ maxL) (hlv : lv_args 0 av = lv)
    (body : ∀ (p : Program) (e : Env) (s : State) (m : MethodId) (below : List Frame) (meth : Method) (c : Code) (ls : Array Slot), CF p m c cc maxL s av.toArray ws own z D K → p.tables.exec = Jvm.exec → c.code = cc → s.vm.findClass own = some m.cls → (∀ w ∈ ws, w.before av.toArray s = true) → va_K D vwCl (ktys K) s → meth.sig.returnType = ret → meth.locks = false → meth.name = y.name → z ≤ s.heap.size → MW z D σ s.heap → va_S (zA z) s.heap s.heap [] → lv_has ls maxL lv → SX z s → c.exceptionTable.toList = tableOf hh →
      W p l e rm s m av.toArray below meth c s.heap [] 0 0 (MQ below Qc av.toArray s mc ms free) (F0 m 0 ls [])) : Met l y ws rm (PCx z D K av σ) Qc mc ms free := by
  refine va_MetW (cc := cc) (maxL := maxL) (ret := ret) (hh := hh) hy hw ?_
  intro p e s m args below meth c s₁ B hml hv
  obtain ⟨rfl, hM, hK, hz, hN, hX⟩ := hv
  have hts := atoms_spec (ws := ws) B.pre
  have hown : s.vm.findClass own = some m.cls := by rw [← ho]; exact findClass_of_methodNamed B.named
  have hex := vx_table (x := y) B (hts _ (by rw [hw]; exact List.mem_cons_self))
  have hl := lv_entry av (n := maxL) hlen
  rw [hlv] at hl
  rw [lg_entry_eq]
  exact body p e s m below meth c _ ⟨⟨B.exec, B.bytes, hml, hown, hts⟩, hK, hz, hN⟩ B.exec B.bytes hown hts hK B.returns B.notSynchronized (name_of_methodNamed B.named B.method).1 hz hM va_S.rf hl hX hex
section MXC
variable {p : Program} {l : Launch} {e : Env} {R : Room} {s : State} {m : MethodId} {args : Array Value} {below : List Frame} {meth : Method} {c : Code} {H : Heap} {locs : List Loc} {cells slots : Nat} {Q : State → Prop}
variable {cc : ByteArray} {pc : Nat} {ls : Array Slot} {rest st0 As : List Value} {z : Nat} {D : va_G} {K : Nat → ClassId} {σ : mwm} {b : Nat} {Ts : List Cond} {own : String} {nL : Nat}
variable {y : MethodName} {bytes : ByteArray} {maxL n index mc ms : Nat} {ret : Option FieldType} {ws ws' : List Cond} {rm : Room} {Qc : Array Value → State → Outcome → State → Prop} {XC : String → State → State → Prop} {free : Addr → Prop}
theorem mx_runV {C : String} {T : u_T} {N ci : Nat} {fs : List Value} (hC : CF p m c cc nL s args Ts own z D K) (hX : SX z s) (hM : MW z D σ H) (hS : va_S (zA z) s.heap H locs) (hσ : σ b = some (.inr (ci, fs))) (hci : vwCl[ci]? = some (C, T, N)) (hc : vx_Met l y ws rm (PCx z D K (.ref b :: As) σ) Qc XC mc ms free) (gg : GoodIn Ts (wsV own index C y ws)) (hw : ws = Cond.code y bytes maxL ret :: ws') (hrc : rm.cells = mc) (hrs : rm.slots = ms) (hyC : y.cls = C)
    (hd : y.cls ≠ "java/lang/invoke/MethodHandle" ∧ y.cls ≠ "java/lang/invoke/VarHandle" ∧ (parseMethodDescriptor y.desc).map (fun d => d.parameters.length) = some n) (hR : rm.frames + 1 ≤ R.frames ∧ 8 + (maxL + 11) + rm.locals ≤ R.locals) (hn : As.length = n) (hst : st0 = As.reverse ++ .ref b :: rest) (hrest : (rest.map fun v => v.category).sum ≤ 8) (hls : ls.size = nL) (hdg : decode cc pc = .ok (.invokevirtual index, 3)) (hf : cells + mc ≤ R.cells ∧ slots + ms ≤ R.slots) :
    vx_Run p l e R s m args below meth c H locs cells slots mc ms (F0 m pc ls st0) rest (Qc (Value.ref b :: As).toArray) XC free :=
  vx_runV hC.1 hc (cwV n hC.1.2.2.2.2 gg hw hrc hrs ⟨hyC, hd⟩ hR) ⟨PCx_blind, va_recv hC.2.1 (hM.one hσ) (q0 := 0) hci rfl, PCx_of hC.2.1 hC.2.2 hX hM hS⟩ rfl hn hls hst (lv_room (rest := st0) (pc := pc) (ls := ls) hrest) hdg hf
theorem mx_ci {R9 : Type} {post : Int32 → mwm → Prop} {v : String ⊕ R9} {a : Array Value} (hr : vx_Run p l e R s m args below meth c H locs cells slots mc ms (F0 m pc ls st0) rest (qwI z D post a) (XQ z D σ v) (zA z)) (hS : va_S (zA z) s.heap H locs)
    (kx : ∀ (E : String) (ce : Cell) (q9 : Nat) (H1 : Heap) (locs1 : List Loc), v = Sum.inl E → MW z D σ H1 → va_S (zA z) s.heap H1 locs1 → H1[q9]? = some ce → ce.vm = .none → s.vm.findClass E = some ce.cls → vx_W p l e R s m args below meth c H1 locs1 (cells + mc) (slots + ms) Q (F0 m pc ls rest) q9)
    (kk : ∀ (r : Int32) (H1 : Heap) (locs1 : List Loc) (σ1 : mwm), post r σ1 → MW z D σ1 H1 → va_S (zA z) s.heap H1 locs1 → W p l e R s m args below meth c H1 locs1 (cells + mc) (slots + ms) Q (F0 m (pc + 3) ls (.int r :: rest))) : W p l e R s m args below meth c H locs cells slots Q (F0 m pc ls st0) :=
  vx_calli hr hS (fun _ _ h => h) (fun _ h => h) (fun _ _ h => h) (fun E ce q9 _ t H1 locs1 e1 _ _ hB _ _ hS1 h1 h2 h3 => kx E ce q9 H1 locs1 hB.1 (by rw [← e1]; exact hB.2) hS1 h1 h2 h3)
    (fun r u t H1 locs1 e1 _ hp hB _ _ hS1 => kk r H1 locs1 u hp (by rw [← e1]; exact hB) hS1)
theorem mx_cl {R9 : Type} {post : Int64 → mwm → Prop} {v : String ⊕ R9} {a : Array Value} (hr : vx_Run p l e R s m args below meth c H locs cells slots mc ms (F0 m pc ls st0) rest (qwL z D post a) (XQ z D σ v) (zA z)) (hS : va_S (zA z) s.heap H locs)
    (kx : ∀ (E : String) (ce : Cell) (q9 : Nat) (H1 : Heap) (locs1 : List Loc), v = Sum.inl E → MW z D σ H1 → va_S (zA z) s.heap H1 locs1 → H1[q9]? = some ce → ce.vm = .none → s.vm.findClass E = some ce.cls → vx_W p l e R s m args below meth c H1 locs1 (cells + mc) (slots + ms) Q (F0 m pc ls rest) q9)
    (kk : ∀ (r : Int64) (H1 : Heap) (locs1 : List Loc) (σ1 : mwm), post r σ1 → MW z D σ1 H1 → va_S (zA z) s.heap H1 locs1 → W p l e R s m args below meth c H1 locs1 (cells + mc) (slots + ms) Q (F0 m (pc + 3) ls (.long r :: rest))) : W p l e R s m args below meth c H locs cells slots Q (F0 m pc ls st0) :=
  vx_calll hr hS (fun _ _ h => h) (fun _ h => h) (fun _ _ h => h) (fun E ce q9 _ t H1 locs1 e1 _ _ hB _ _ hS1 h1 h2 h3 => kx E ce q9 H1 locs1 hB.1 (by rw [← e1]; exact hB.2) hS1 h1 h2 h3)
    (fun r u t H1 locs1 e1 _ hp hB _ _ hS1 => kk r H1 locs1 u hp (by rw [← e1]; exact hB) hS1)
/-- a call of a static method that catches -/
theorem mw_runSW {hh : List (Nat × Nat × Nat × Nat)} (hC : CF p m c cc nL s args Ts own z D K) (hX : SX z s) (hM : MW z D σ H) (hS : va_S (zA z) s.heap H locs) (hc : Met l y ws rm (PCx z D K As σ) Qc mc ms free) (gg : GoodIn Ts (va_wsS own index y ws)) (hw : ws = Cond.codeWith y bytes maxL ret hh :: ws') (hrc : rm.cells = mc) (hrs : rm.slots = ms)
    (hd : y.cls ≠ "java/lang/invoke/MethodHandle" ∧ y.cls ≠ "java/lang/invoke/VarHandle" ∧ (parseMethodDescriptor y.desc).map (fun d => d.parameters.length) = some n) (hR : rm.frames + 1 ≤ R.frames ∧ 8 + (maxL + 11) + rm.locals ≤ R.locals) (hn : As.length = n) (hst : st0 = As.reverse ++ rest) (hrest : (rest.map fun v => v.category).sum ≤ 8) (hls : ls.size = nL) (hdg : decode cc pc = .ok (.invokestatic index, 3)) (hf : cells + mc ≤ R.cells ∧ slots + ms ≤ R.slots) :
    va_Run p l e R s m args below meth c H locs cells slots mc ms (F0 m pc ls st0) rest (Qc As.toArray) free :=
  vx_runSW hC.1 hc (vx_cwSW n hC.1.2.2.2.2 gg hw hrc hrs hd hR) ⟨PCx_blind, PCx_of hC.2.1 hC.2.2 hX hM hS⟩ rfl hn hls hst (lv_room (rest := st0) (pc := pc) (ls := ls) hrest) hdg hf
end MXC
