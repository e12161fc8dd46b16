theorem mx_runI {p : Program} {l : Launch} {e : Env} {R : Room} {s : State} {m : MethodId} {args : Array Value} {below : List Frame} {meth : Method} {c : Code} {H : Heap} {locs : List Loc} {cells slots : Nat} {cc : ByteArray} {pc : Nat} {ls : Array Slot} {rest st0 As : List Value} {z : Nat} {D : va_G} {K : Nat → ClassId} {σ : mwm} {b : Nat} {Ts : List Cond} {own : String} {nL : Nat} {y : MethodName} {bytes : ByteArray} {maxL n index mc ms : Nat} {ws ws' : List Cond} {rm : Room} {Qc : Array Value → State → Outcome → State → Prop} {free : Addr → Prop} (hC : CF p m c cc nL s args Ts own z D K) (hX : SX z s) (hM : MW z D σ H) (hS : va_S (zA z) s.heap H locs) (hc : Met l y ws rm (PCx z D K (.ref b :: As) σ) Qc mc ms free) (gg : GoodIn Ts ws) (hw : ws = Cond.code y bytes maxL none :: ws') (hrc : rm.cells = mc) (hrs : rm.slots = ms) (hini : Cond.initialized y.cls ∈ Ts) (hli : Cond.methodLink own index y ∈ Ts) (hins : Cond.instanceMethod y ∈ Ts) (hy1 : y.name = "<init>")
    (hd : y.cls ≠ "java/lang/invoke/MethodHandle" ∧ y.cls ≠ "java/lang/invoke/VarHandle" ∧ (parseMethodDescriptor y.desc).map (fun d => d.parameters.length) = some n) (hR : rm.frames + 1 ≤ R.frames ∧ 8 + (maxL + 11) + rm.locals ≤ R.locals) (hn : As.length = n) (hst : st0 = As.reverse ++ .ref b :: rest) (hrest : (rest.map fun v => v.category).sum ≤ 8) (hls : ls.size = nL) (hdg : decode cc pc = .ok (.invokespecial index, 3)) (hf : cells + mc ≤ R.cells ∧ slots + ms ≤ R.slots) :
    va_Run p l e R s m args below meth c H locs cells slots mc ms (F0 m pc ls st0) rest (Qc (Value.ref b :: As).toArray) free :=
  va_runI hC.1 hc (cwI n hC.1.2.2.2.2 gg hw hrc hrs (hC.1.2.2.2.2 _ hini) (hC.1.2.2.2.2 _ hli) (hC.1.2.2.2.2 _ hins) hy1 hd hR) ⟨PCx_blind, PCx_of hC.2.1 hC.2.2 hX hM hS⟩ rfl hn hls hst (lv_room (rest := st0) (pc := pc) (ls := ls) hrest) hdg hf
theorem l_law (i : Nat) {w : Cond} (h : wsL_law[i]? = some w) : w ∈ wsL_law := List.mem_of_getElem? h
theorem l_law_a : Cond.classLink RL 8 RX7 ∈ wsL_law := l_law 0 rfl
theorem l_law_b : Cond.instantiable RX7 6 ∈ wsL_law := l_law 1 rfl
theorem l_law_c : Cond.initialized RX7 ∈ wsL_law := l_law 2 rfl
theorem l_law_d : Cond.classLink RL 83 RX8 ∈ wsL_law := l_law 3 rfl
theorem l_law_e : Cond.instantiable RX8 19 ∈ wsL_law := l_law 4 rfl
theorem l_law_f : Cond.initialized RX8 ∈ wsL_law := l_law 5 rfl
theorem l_law_g : Cond.arrayClass .long ∈ wsL_law := l_law 6 rfl
theorem l_law_h : Cond.methodLink RL 82 yX7_init ∈ wsL_law := l_law 8 rfl
theorem l_law_i : Cond.instanceMethod yX7_init ∈ wsL_law := l_law 9 rfl
theorem l_law_j : Cond.methodLink RL 85 yX8_init ∈ wsL_law := l_law 72 rfl
theorem l_law_k : Cond.instanceMethod yX8_init ∈ wsL_law := l_law 73 rfl
set_option maxHeartbeats 4000000 in
set_option maxRecDepth 100000 in
/-- from the entry, for every script of at most 2048 ints, the law comes to its end with true -/
theorem whole_start {p : Program} {e : Env} {s : State} {m : MethodId} {below : List Frame} {meth : Method} {c : Code} (l : Launch) (hflags : l.flags = flags0) {b L : Nat} {xs : Nat → Int32} (hL : L ≤ 2048) (C0 : lw_At p s m meth c b L xs) : W p l e room_1 s m #[Value.ref b] below meth c s.heap [] 0 0 (lw_Z below #[Value.ref b] s) (entryFrame m ([Value.ref b] : List Value).toArray 8) := by
  obtain ⟨hx, hb, hr, hml, hown, hts, hXs, hbl, hlocks, hgv⟩ := C0
  have hlt : l.stackTraces = false := by
    unfold Launch.stackTraces
    rw [hflags]
    decide +kernel
  have hn : ∀ w ∈ st_flat, w.before #[Value.ref b] s = true := flat_of_before _ hgv
  have hNX := st_NX hts
  have hSX := st_SX hts hn
  have hk162 : (Cond.constantLong RL 162 4294967295).before #[Value.ref b] s = true := hts _ st_t47
  obtain ⟨D, K, hK⟩ := st_K hts
  have hC : CF p m c cL_law 8 s #[Value.ref b] wsL_law RL s.heap.size D K := ⟨⟨hx, hb, hml, hown, fun w h => hts w (wsL_law_in w h)⟩, hK, Nat.le_refl _, hNX⟩
  obtain ⟨y, hf8, y0, y1, y2⟩ := fX8_init_eq
  have hf7 := fX7_init_eq
  have hGR := zero_GR rfl y0 y1 y2
  generalize gridOf 5 = g at hf7 hGR
  have hM : MW s.heap.size D (fun _ => none) s.heap := ⟨[], fun k q h => by simp at h, ⟨fun i j p q h => by simp at h, fun k q h => by simp at h⟩, fun a e h => by cases h⟩
  have hS : va_S (zA s.heap.size) s.heap s.heap [] := va_S.rf
  have hl := lv_entry [Value.ref b] (n := 8) (Nat.le_of_ble_eq_true rfl)
  rw [show lv_args 0 [Value.ref b] = [(0, .ref b)] from rfl] at hl
  rw [lg_entry_eq]
  refine mw_new (ci := 5) (C := RX7) (T := TX7) (N := 6) (fs := [.null, .null, .null, .null, .null, .null]) hC inlX7 tyX7 tyX7_ok l_law_a l_law_b l_law_c hM hS rfl (fun j hj => by rcases (show j = 0 ∨ j = 1 ∨ j = 2 ∨ j = 3 ∨ j = 4 ∨ j = 5 by omega) with rfl | rfl | rfl | rfl | rfl | rfl <;> rfl) (Nat.le_of_ble_eq_true rfl) (Nat.le_of_ble_eq_true rfl) dL_law_0 (fun a H1 σ1 hM1 hS1 ha _ _ => ?_)
  refine lv_dup hx hb dL_law_3 rfl ?_
  refine mw_wv (mx_runI (As := []) (rest := [.ref a]) hC hSX hM1 hS1 (c_X7_init (a_t := a) (hc_t := ha) (v := v7 g) hf7) gL_law_X7_init rfl rfl rfl l_law_c l_law_h l_law_i rfl q_X7_init ⟨(Nat.le_of_ble_eq_true rfl), (Nat.le_of_ble_eq_true rfl)⟩ rfl rfl (Nat.le_of_ble_eq_true rfl) hl.1 dL_law_4 ⟨(Nat.le_of_ble_eq_true rfl), (Nat.le_of_ble_eq_true rfl)⟩) hS1 (fun H2 locs2 σ2 h7 hM2 hS2 => ?_)
  refine lv_astore_n hx hb dL_law_7 rfl hl (by decide) rfl (fun ls1 hl1 => ?_)
  refine mw_new (ci := 6) (C := RX8) (T := TX8) (N := 19) (fs := [.int 0, .null, .int 0, .null, .null, .null, .int 0, .null, .null, .long 0, .long 0, .int 0, .long 0, .null, .null, .null, .int 0, .int 0, .int 0]) hC inlX8 tyX8 tyX8_ok l_law_d l_law_e l_law_f hM2 hS2 rfl (fun j hj => by rcases (show j = 0 ∨ j = 1 ∨ j = 2 ∨ j = 3 ∨ j = 4 ∨ j = 5 ∨ j = 6 ∨ j = 7 ∨ j = 8 ∨ j = 9 ∨ j = 10 ∨ j = 11 ∨ j = 12 ∨ j = 13 ∨ j = 14 ∨ j = 15 ∨ j = 16 ∨ j = 17 ∨ j = 18 by omega) with rfl | rfl | rfl | rfl | rfl | rfl | rfl | rfl | rfl | rfl | rfl | rfl | rfl | rfl | rfl | rfl | rfl | rfl | rfl <;> rfl) (Nat.le_of_ble_eq_true rfl) (Nat.le_of_ble_eq_true rfl) dL_law_8 (fun r H3 σ3 hM3 hS3 hr3 k3 n3 => ?_)
  refine lv_dup hx hb dL_law_11 rfl ?_
  refine mw_wv (mw_runI (As := []) (rest := [.ref r]) hC hM3 hS3 (c_X8_init (a_t := r) (hc_t := hr3) (v := v8 y) hf8) gL_law_X8_init rfl rfl rfl l_law_f l_law_j l_law_k rfl q_X8_init ⟨(Nat.le_of_ble_eq_true rfl), (Nat.le_of_ble_eq_true rfl)⟩ rfl rfl (Nat.le_of_ble_eq_true rfl) hl1.1 dL_law_12 ⟨(Nat.le_of_ble_eq_true rfl), (Nat.le_of_ble_eq_true rfl)⟩) hS3 (fun H4 locs4 σ4 h8 hM4 hS4 => ?_)
  refine lv_astore_n hx hb dL_law_15 rfl hl1 (by decide) rfl (fun ls2 hl2 => ?_)
  refine lv_iconst (v := 1) hx hb dL_law_16 (by decide) ?_
  refine mw_newa (atype := .long) (ty := .long) (a0 := (1, .inr (.inl (fun _ => (0 : Int64))))) 0 hC l_law_g rfl rfl hM4 hS4 (fun _ => rfl) (by decide) (by decide) (Nat.le_of_ble_eq_true rfl) (Nat.le_of_ble_eq_true rfl) (Nat.le_of_ble_eq_true rfl) dL_law_17 (fun w H5 σ5 hM5 hS5 hw k5 n5 => ?_)
  refine lv_astore_n hx hb dL_law_19 rfl hl2 (by decide) rfl (fun ls3 hl3 => ?_)
  refine lv_iconst (v := 0) hx hb dL_law_20 (by decide) ?_
  refine lv_istore hx hb dL_law_21 hl3 (by decide) rfl (fun ls4 hl4 => ?_)
  obtain ⟨ad, e0, e8, e7, hin, hREL⟩ := init_REL hGR hw (init_apart ⟨_, ha⟩ h7 k3 n3 ⟨_, hr3⟩ h8 k5 n5)
  have hl5 : lv_has ls4 8 [(0, .ref b), (1, .ref (ad 0)), (2, .ref (ad 8)), (3, .ref (ad 7)), (4, .int (nI 0))] := by
    rw [e0, e8, e7, nI_0]
    exact lv_sub hl4 [4, 3, 2, 1, 0] rfl
  exact law_loop hC hSX hlt hk162 hXs hbl hin hL (fun H9 ls9 => lv_iconst (v := 1) hx hb dL_law_1453 (by decide) (lw_ret hx hb hr hlocks dL_law_1454)) 513 0 _ _ H5 _ σ5 ls4 (by omega) (by omega) (Nat.le_of_ble_eq_true rfl) (Nat.le_of_ble_eq_true rfl) hREL hM5 hS5 hl5
