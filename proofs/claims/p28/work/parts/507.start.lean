theorem mx_runI {p : Program} {l : Launch} {e : Env} {R : Room} {s : State} {m : MethodId} {args : Array Value} {below : List Frame} {meth : Method} {c : Code} {H : Heap} {locs : List Loc} {cells slots : Nat} {cc : ByteArray} {pc : Nat} {ls : Array Slot} {rest st0 As : List Value} {z : Nat} {D : va_G} {K : Nat → ClassId} {σ : mwm} {b : Nat} {Ts : List Cond} {own : String} {nL : Nat} {y : MethodName} {bytes : ByteArray} {maxL n index mc ms : Nat} {ws ws' : List Cond} {rm : Room} {Qc : Array Value → State → Outcome → State → Prop} {free : Addr → Prop} (hC : CF p m c cc nL s args Ts own z D K) (hX : SX z s) (hM : MW z D σ H) (hS : va_S (zA z) s.heap H locs) (hc : Met l y ws rm (PCx z D K (.ref b :: As) σ) Qc mc ms free) (gg : GoodIn Ts ws) (hw : ws = Cond.code y bytes maxL none :: ws') (hrc : rm.cells = mc) (hrs : rm.slots = ms) (hini : Cond.initialized y.cls ∈ Ts) (hli : Cond.methodLink own index y ∈ Ts) (hins : Cond.instanceMethod y ∈ Ts) (hy1 : y.name = "<init>")
    (hd : y.cls ≠ "java/lang/invoke/MethodHandle" ∧ y.cls ≠ "java/lang/invoke/VarHandle" ∧ (parseMethodDescriptor y.desc).map (fun d => d.parameters.length) = some n) (hR : rm.frames + 1 ≤ R.frames ∧ 8 + (maxL + 11) + rm.locals ≤ R.locals) (hn : As.length = n) (hst : st0 = As.reverse ++ .ref b :: rest) (hrest : (rest.map fun v => v.category).sum ≤ 8) (hls : ls.size = nL) (hdg : decode cc pc = .ok (.invokespecial index, 3)) (hf : cells + mc ≤ R.cells ∧ slots + ms ≤ R.slots) :
    va_Run p l e R s m args below meth c H locs cells slots mc ms (F0 m pc ls st0) rest (Qc (Value.ref b :: As).toArray) free :=
  va_runI hC.1 hc (cwI n hC.1.2.2.2.2 gg hw hrc hrs (hC.1.2.2.2.2 _ hini) (hC.1.2.2.2.2 _ hli) (hC.1.2.2.2.2 _ hins) hy1 hd hR) ⟨PCx_blind, PCx_of hC.2.1 hC.2.2 hX hM hS⟩ rfl hn hls hst (lv_room (rest := st0) (pc := pc) (ls := ls) hrest) hdg hf
theorem l_law (i : Nat) {w : Cond} (h : wsL_law[i]? = some w) : w ∈ wsL_law := List.mem_of_getElem? h
theorem l_law_a : Cond.classLink RL 8 RX7 ∈ wsL_law := l_law 0 rfl
theorem l_law_b : Cond.instantiable RX7 6 ∈ wsL_law := l_law 1 rfl
theorem l_law_c : Cond.initialized RX7 ∈ wsL_law := l_law 19 rfl
theorem l_law_h : Cond.methodLink RL 184 yX7_init ∈ wsL_law := l_law 2 rfl
theorem l_law_i : Cond.instanceMethod yX7_init ∈ wsL_law := l_law 3 rfl
set_option maxHeartbeats 4000000 in
set_option maxRecDepth 100000 in
/-- from the entry, for every script of at most 260 ints, the law comes to its end with true -/
theorem whole_start {p : Program} {e : Env} {s : State} {m : MethodId} {below : List Frame} {meth : Method} {c : Code} (l : Launch) (hflags : l.flags = flags0) {b L : Nat} {xs : Nat → Int32} (hL : L ≤ 260) (C0 : lw_At p s m meth c b L xs) : W p l e room_1 s m #[Value.ref b] below meth c s.heap [] 0 0 (lw_Z below #[Value.ref b] s) (entryFrame m ([Value.ref b] : List Value).toArray 8) := by
  obtain ⟨hx, hb, hr, hml, hown, hts, hXs, hbl, hlocks, hgv⟩ := C0
  have hlt : l.stackTraces = false := by
    unfold Launch.stackTraces
    rw [hflags]
    decide +kernel
  have hn : ∀ w ∈ st_flat, w.before #[Value.ref b] s = true := flat_of_before _ hgv
  have hNX := st_NX hts
  have hSX := st_SX hts hn
  obtain ⟨D, K, hK⟩ := st_K hts
  have hC : CF p m c cL_law 8 s #[Value.ref b] wsL_law RL s.heap.size D K := ⟨⟨hx, hb, hml, hown, fun w h => hts w (wl_wsL_law w h)⟩, hK, Nat.le_refl _, hNX⟩
  have hf7 := fX7_init_eq
  have hINV := s0_INV
  generalize gridOf 5 = g at hf7 hINV
  have hbA : ¬ zA s.heap.size b := Nat.not_le.mpr hbl
  have hM : MW s.heap.size D (fun _ => none) s.heap := ⟨[], fun k q h => by simp at h, ⟨fun i j p q h => by simp at h, fun k q h => by simp at h⟩, fun a e h => by cases h⟩
  have hS : va_S (zA s.heap.size) s.heap s.heap [] := va_S.rf
  have hl := lv_entry [Value.ref b] (n := 8) (Nat.le_of_ble_eq_true rfl)
  rw [show lv_args 0 [Value.ref b] = [(0, .ref b)] from rfl] at hl
  rw [lg_entry_eq]
  refine mw_new (ci := 5) (C := RX7) (T := TX7) (N := 6) (fs := [.null, .null, .null, .null, .null, .null]) hC inlX7 tyX7 tyX7_ok l_law_a l_law_b l_law_c hM hS rfl (fun j hj => by rcases (show j = 0 ∨ j = 1 ∨ j = 2 ∨ j = 3 ∨ j = 4 ∨ j = 5 by omega) with rfl | rfl | rfl | rfl | rfl | rfl <;> rfl) (Nat.le_of_ble_eq_true rfl) (Nat.le_of_ble_eq_true rfl) dL_law_0 (fun a H1 σ1 hM1 hS1 ha _ _ => ?_)
  refine lv_dup hx hb dL_law_3 rfl ?_
  refine mw_wv (mx_runI (As := []) (rest := [.ref a]) hC hSX hM1 hS1 (c_X7_init (a_t := a) (hc_t := ha) (v := v7 g) hf7) gL_law_X7_init rfl rfl rfl l_law_c l_law_h l_law_i rfl q_X7_init ⟨(Nat.le_of_ble_eq_true rfl), (Nat.le_of_ble_eq_true rfl)⟩ rfl rfl (Nat.le_of_ble_eq_true rfl) hl.1 dL_law_4 ⟨(Nat.le_of_ble_eq_true rfl), (Nat.le_of_ble_eq_true rfl)⟩) hS1 (fun H2 locs2 σ2 h7 hM2 hS2 => ?_)
  refine lv_astore_n hx hb dL_law_7 rfl hl (by decide) rfl (fun ls1 hl1 => ?_)
  refine mw_new (ci := 5) (C := RX7) (T := TX7) (N := 6) (fs := [.null, .null, .null, .null, .null, .null]) hC inlX7 tyX7 tyX7_ok l_law_a l_law_b l_law_c hM2 hS2 rfl (fun j hj => by rcases (show j = 0 ∨ j = 1 ∨ j = 2 ∨ j = 3 ∨ j = 4 ∨ j = 5 by omega) with rfl | rfl | rfl | rfl | rfl | rfl <;> rfl) (Nat.le_of_ble_eq_true rfl) (Nat.le_of_ble_eq_true rfl) dL_law_8 (fun r H3 σ3 hM3 hS3 hr3 k3 n3 => ?_)
  refine lv_dup hx hb dL_law_11 rfl ?_
  refine mw_wv (mx_runI (As := []) (rest := [.ref r]) hC hSX hM3 hS3 (c_X7_init (a_t := r) (hc_t := hr3) (v := v7 g) hf7) gL_law_X7_init rfl rfl rfl l_law_c l_law_h l_law_i rfl q_X7_init ⟨(Nat.le_of_ble_eq_true rfl), (Nat.le_of_ble_eq_true rfl)⟩ rfl rfl (Nat.le_of_ble_eq_true rfl) hl1.1 dL_law_12 ⟨(Nat.le_of_ble_eq_true rfl), (Nat.le_of_ble_eq_true rfl)⟩) hS3 (fun H4 locs4 σ4 h8 hM4 hS4 => ?_)
  refine lv_astore_n hx hb dL_law_15 rfl hl1 (by decide) rfl (fun ls2 hl2 => ?_)
  obtain ⟨a1, e1, hO1, -, -⟩ := init_OB (σ0 := fun _ => none) ha (fun b f h => by cases h) (fun b f h => by cases h) h7
  obtain ⟨a2, e2, hO2, hk2, hf2⟩ := init_OB (σ0 := σ2) hr3 k3 n3 h8
  have hap : apt a1 a2 := fun i j hi hj => (hO1.hasA hi).elim fun e he => hf2 j hj (a1 i) e he
  replace hO1 := OB.same hO1 hk2
  refine lv_bipush (v := 12) hx hb dL_law_16 (by decide) ?_
  refine lv_aload_n hx hb dL_law_18 rfl (lv_at hl2 2 rfl) ?_
  refine lv_iconst (v := nI 0) hx hb dL_law_19 (by decide) ?_
  refine mw_cell (b := b) (L := L) (xs := xs) (j := 0) (rest := [.int 12]) (by omega) (by omega) hC hXs hbl hbA hS4 gL_law_L_cell ⟨(Nat.le_of_ble_eq_true rfl), (Nat.le_of_ble_eq_true rfl)⟩ (Nat.le_of_ble_eq_true rfl) hl2.1 dL_law_20 ⟨(Nat.le_of_ble_eq_true rfl), (Nat.le_of_ble_eq_true rfl)⟩ (fun x hx31 => ?_)
  refine lv_bipush (v := 25) hx hb dL_law_23 (by decide) ?_
  refine lv_irem hx hb dL_law_25 (by decide) ?_
  rw [show nI x - nI x / 25 * 25 = nI (x % 25) from nI_mod (b := 25) hx31 (by omega)]
  refine lv_iadd hx hb dL_law_26 ?_
  rw [show (12 : Int32) + nI (x % 25) = nI (12 + x % 25) from nI_add 12 _]
  refine lv_istore_n hx hb dL_law_27 rfl hl2 (by decide) rfl (fun ls3 hl3 => ?_)
  refine lv_iconst (v := 1) hx hb dL_law_28 (by decide) ?_
  refine lv_istore hx hb dL_law_29 hl3 (by decide) rfl (fun ls4 hl4 => ?_)
  refine lv_iconst (v := nI 0) hx hb dL_law_31 (by decide) ?_
  refine lv_istore hx hb dL_law_32 hl4 (by decide) rfl (fun ls5 hl5 => ?_)
  have hl6 : lv_has ls5 8 [(0, .ref b), (1, .ref (a1 0)), (2, .ref (a2 0)), (3, .int (nI (12 + x % 25))), (4, .int 1), (5, .int (nI 0))] := by
    rw [e1, e2]
    exact lv_sub hl5 [5, 4, 3, 2, 1, 0] rfl
  exact law_loop (N := 12 + x % 25) (by omega) hC hSX hlt hXs hbl hap (by omega) (fun H9 ls9 => lw_ret hx hb hr hlocks dL_law_186) (12 + x % 25) 0 _ _ H4 _ σ4 (s0 g) ls5 (by omega) (by omega) (by omega) hO1 hO2 hINV hM4 hS4 hl6
