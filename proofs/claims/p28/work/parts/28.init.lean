/-! the two constructors with the ring of fourteen games -/
def zGS : GS := ((0 : Int32), (0 : Int32), (0 : Int32), (0 : Int32), (0 : Int64), (0 : Int64), (0 : Int32), (0 : Int32))
def RGm (K : Nat → ClassId) (adr : Nat → Nat) (n : Nat) (f : Nat → Option Nat) (G : Nat → Nat) (W : Nat → GS) (F0 F1 : Nat → Nat → Int64) (σ : mwm) : Prop := ∀ i : Nat, i < n → f i = some (adr (3 * i)) ∧ σ (adr (3 * i)) = some (cl0 (adr (3 * i + 1)) (adr (3 * i + 2)) (G i) (W i)) ∧ σ (adr (3 * i + 1)) = some (eJ K 121 (F0 i)) ∧ σ (adr (3 * i + 2)) = some (eJ K 121 (F1 i))
def adI (adr : Nat → Nat) (n : Nat) : Prop := ∀ i j : Nat, i < n → j < n → adr i = adr j → i = j
theorem my_enter {l : Launch} {y : MethodName} {ws ws' : List Cond} {rm : Room} {z : Nat} {D : va_G} {K : Nat → ClassId} {σ : mwm} {av : List Value} {Qc : Array Value → State → Outcome → State → Prop} {mc ms : Nat} {free : Addr → Prop} {cc : ByteArray} {maxL : Nat} {ret : Option FieldType} {own : String} {lv : List (Nat × Value)}
    (hy : plainName y.cls = true) (ho : y.cls = own) (hw : ws = Cond.code y cc maxL ret :: ws') (hlen : (lg_sl av).length ≤ maxL) (hlv : lv_args 0 av = lv)
    (body : ∀ (p : Program) (e : Env) (s : State) (m : MethodId) (below : List Frame) (meth : Method) (c : Code) (ls : Array Slot), CF p m c cc maxL s av.toArray ws own z D K → p.tables.exec = Jvm.exec → c.code = cc → s.vm.findClass own = some m.cls → (∀ w ∈ ws, w.before av.toArray s = true) → va_K D vwCl (ktys K) s → meth.sig.returnType = ret → meth.locks = false → meth.name = y.name → z ≤ s.heap.size → MW z D σ s.heap → va_S (zA z) s.heap s.heap [] → lv_has ls maxL lv → SX z s →
      W p l e rm s m av.toArray below meth c s.heap [] 0 0 (MQ below Qc av.toArray s mc ms free) (F0 m 0 ls [])) : Met l y ws rm (PCx z D K av σ) Qc mc ms free := by
  refine Met.ofW (cc := cc) (maxL := maxL) (ret := ret) hy hw ?_
  intro p e s m args below meth c s₁ B hml hv
  obtain ⟨rfl, hM, hK, hz, hN, hX⟩ := hv
  have hts := atoms_spec (ws := ws) B.pre
  have hown : s.vm.findClass own = some m.cls := by rw [← ho]; exact findClass_of_methodNamed B.named
  have hl := lv_entry av (n := maxL) hlen
  rw [hlv] at hl
  rw [lg_entry_eq]
  exact body p e s m below meth c _ ⟨⟨B.exec, B.bytes, hml, hown, hts⟩, hK, hz, hN⟩ B.exec B.bytes hown hts hK B.returns B.notSynchronized (name_of_methodNamed B.named B.method).1 hz hM va_S.rf hl hX
section MYI
variable {p : Program} {l : Launch} {e : Env} {R : Room} {s : State} {m : MethodId} {args : Array Value} {below : List Frame} {meth : Method} {c : Code} {H : Heap} {locs : List Loc} {cells slots : Nat} {Q : State → Prop}
variable {cc : ByteArray} {pc : Nat} {ls : Array Slot} {rest st0 As : List Value} {z : Nat} {D : va_G} {K : Nat → ClassId} {σ : mwm} {a b : Nat} {Ts : List Cond} {own : String} {nL : Nat}
theorem mw_newqX {index : Nat} (hC : CF p m c cc nL s args Ts own z D K) (hX : SX z s) (hcl : Cond.classLink own index RX0 ∈ Ts) (hM : MW z D σ H) (hS : va_S (zA z) s.heap H locs) {n : Int32} {N' : Nat} (hn : ¬ n < 0) (hN : n.toNatClampNeg = N') (hbytes : N' * 4 ≤ 536870912) (hcells : cells + 1 ≤ R.cells) (hslots : slots + N' ≤ R.slots) (hdg : decode cc pc = .ok (.anewarray index, 3))
    (kk : ∀ (q : Nat) (H1 : Heap) (σ1 : mwm), MW z D σ1 H1 → va_S (zA z) s.heap H1 locs → σ1 q = some (eQ K N' (fun _ => none)) → (∀ b f, σ b = some f → σ1 b = some f) → (∀ b f, σ b = some f → b ≠ q) → W p l e R s m args below meth c H1 locs (cells + 1) (slots + N') Q (F0 m (pc + 3) ls (.ref q :: rest))) : W p l e R s m args below meth c H locs cells slots Q (F0 m pc ls (.int n :: rest)) := by
  obtain ⟨⟨hx, hb, hml, hown, hts⟩, hK, hz⟩ := hC
  obtain ⟨ws, hP, hD, hw⟩ := hM
  refine va_newq (ws := ws) (C := RX0) hx hb hown (hts _ hcl) hX.2.2.2.2.2.2.2.2.2.2 hK hP hD hS (fun q h => Nat.le_trans hz.1 h) hn hN hbytes hcells hslots hdg (fun q cB H1 hKq hP1 hD1 hS1 => ?_)
  have e1 : cB = K 4 := RA_uniq (hKq.2 5 (cB, .object RX0) rfl).2 (hK.2 4 (K 4, .object RX0) rfl).2
  subst e1
  exact kk q H1 (mup σ q _) ⟨_, hP1, hD1, MW.push (z := z) hw⟩ hS1 mup_self (fun b f h => (mup_ne (MW.fresh hw hD1 b f h)).trans h) (MW.fresh hw hD1)
theorem mw_stQ (hC : CF p m c cc nL s args Ts own z D K) (hM : MW z D σ H) (hS : va_S (zA z) s.heap H locs) {n v : Nat} {f : Nat → Option Nat} {vs : List Value} (hσ : σ a = some (eQ K n f)) (hv : σ v = some (.inr (0, vs))) {i : Int32} (hin : vp_in i n) (hdg : decode cc pc = .ok (.aastore, 1))
    (kk : ∀ (H1 : Heap) (locs1 : List Loc) (σ1 : mwm), MW z D σ1 H1 → va_S (zA z) s.heap H1 locs1 → σ1 a = some (eQ K n (va_up f i.toNatClampNeg (some v))) → (∀ q f, σ q = some f → q ≠ a → σ1 q = some f) → W p l e R s m args below meth c H1 locs1 cells slots Q (F0 m (pc + 1) ls rest)) : W p l e R s m args below meth c H locs cells slots Q (F0 m pc ls (.ref v :: .int i :: .ref a :: rest)) := by
  obtain ⟨⟨hx, hb, hml, hown, hts⟩, hK, hz⟩ := hC
  obtain ⟨ws, hP, hD, hw⟩ := hM
  obtain ⟨k, hi⟩ := List.getElem?_of_mem (hw a _ hσ)
  obtain ⟨kv, hkv⟩ := List.getElem?_of_mem (hw v _ hv)
  exact va_astq (r := (RX0, TX0, 11)) hx hb hK hP hD hS k 4 kv 0 hi rfl hkv rfl hin hdg (fun H1 locs1 hP1 hD1 hS1 => kk H1 locs1 (mup σ a _) ⟨_, hP1, hD1, MW.set (z := z) hw hi⟩ hS1 mup_self (fun q f hq h => (mup_ne h).trans hq))
end MYI
theorem q_X4_init : yX4_init.cls ≠ "java/lang/invoke/MethodHandle" ∧ yX4_init.cls ≠ "java/lang/invoke/VarHandle" ∧ (parseMethodDescriptor yX4_init.desc).map (fun d => d.parameters.length) = some 1 := by decide +kernel
theorem i_X4_init_X4 : ∀ w ∈ wsX40, w ∈ wsX4_init := fun _ h => (List.mem_cons_of_mem _ (List.mem_append_left _ (List.mem_append_right _ h)))
theorem i_X4_init_X0 : ∀ w ∈ wsX00, w ∈ wsX4_init := fun _ h => (List.mem_cons_of_mem _ (List.mem_append_right _ h))
theorem l_X4_init (i : Nat) {w : Cond} (h : ([.methodLink RX4 3 objectInit, .instanceMethod objectInit, .code objectInit ⟨#[0xb1]⟩ 1 none, .classLink RX4 9 RX0, .fieldLink RX4 11 "CornerStones$Memory" "ring" "[LCornerStones$Game;", .instantiable RX0 11, .initialized RX0, .methodLink RX4 17 yX0_init, .instanceMethod yX0_init] : List Cond)[i]? = some w) : w ∈ wsX4_init := by
  have h1 := List.mem_of_getElem? h
  refine List.mem_cons_of_mem _ (List.mem_append_left _ (List.mem_append_left _ ?_))
  revert h1
  intro h1
  rw [show ∀ (a b c d e f g h i : Cond) (r : List Cond), a :: b :: c :: d :: e :: f :: g :: h :: i :: r = [a, b, c, d, e, f, g, h, i] ++ r from fun _ _ _ _ _ _ _ _ _ _ => rfl]
  exact List.mem_append_left _ h1
/-- what a made ring is -/
def RGnew (K : Nat → ClassId) (a_p0 : Nat) (σ σ2 : mwm) (qr : Nat) (adr : Nat → Nat) (f : Nat → Option Nat) (n : Nat) : Prop :=
  σ2 qr = some (eQ K 14 f) ∧ RGm K adr n f (fun _ => a_p0) (fun _ => zGS) (fun _ _ => 0) (fun _ _ => 0) σ2 ∧ adI adr (3 * n) ∧ (∀ k : Nat, k < 3 * n → adr k ≠ qr) ∧ (∀ k : Nat, k < 3 * n → ∀ (b : Nat) (e : va_E), σ b = some e → b ≠ adr k) ∧ (∀ (b : Nat) (e : va_E), σ b = some e → b ≠ qr)
set_option maxHeartbeats 4000000 in
set_option maxRecDepth 100000 in
theorem c_X4_init {l : Launch} {z : Nat} {D : va_G} {K : Nat → ClassId} {σ : mwm} {a_t a_p0 : Nat} (hc_t : σ a_t = some (.inr (3, [.null, .int 0, .int 0]))) : Met l yX4_init wsX4_init ({ frames := 2, cells := 43, slots := 3556, locals := 45 } : Room) (PCx z D K [.ref a_t, .ref a_p0] σ) (qwV z D (fun σ2 => ∃ (qr : Nat) (adr : Nat → Nat) (f : Nat → Option Nat), σ2 a_t = some (cl3 qr (0, 0)) ∧ RGnew K a_p0 σ σ2 qr adr f 14 ∧ ∀ (q : Nat) (f : va_E), σ q = some f → q ≠ a_t → σ2 q = some f)) 43 3556 (zA z) := by
  refine my_enter (cc := cX4_init) (maxL := 3) (ret := none) (own := RX4) (lv := [(0, .ref a_t), (1, .ref a_p0)]) (by decide) rfl rfl (Nat.le_of_ble_eq_true rfl) rfl ?_
  intro p e s m below meth c ls hC hx hb hown hts hK hr hlocks hnm hz hM hS hl hX
  refine lv_aload_n hx hb dX4_init_0 rfl (lv_at hl 0 rfl) ?_
  refine W.objInit hx hb hown (hts _ (l_X4_init 0 rfl)) (hts _ (l_X4_init 1 rfl)) (hts _ (l_X4_init 2 rfl)) rfl (by rw [hC.1.2.2.1]; exact hl.1) rfl dX4_init_1 (Nat.le_of_ble_eq_true rfl) (Nat.le_of_ble_eq_true rfl) ?_
  refine W.eq (g2 := F0 m 4 ls []) rfl ?_
  refine lv_aload_n hx hb dX4_init_4 rfl (lv_at hl 0 rfl) ?_
  refine lv_bipush (v := 14) hx hb dX4_init_5 (by decide) ?_
  refine mw_newqX hC hX (l_X4_init 3 rfl) hM hS (by decide) (N' := 14) (by decide) (Nat.le_of_ble_eq_true rfl) (Nat.le_of_ble_eq_true rfl) (Nat.le_of_ble_eq_true rfl) dX4_init_7 (fun qr H σ1 hM hS hc_r ho1 hq1 => ?_)
  have n_t_r : a_t ≠ qr := hq1 a_t _ hc_t
  have hc_t1 := ho1 a_t _ hc_t
  refine W.widen (k := 1) (n := 14) (Nat.le_of_ble_eq_true rfl) (Nat.le_of_ble_eq_true rfl) ?_
  refine mw_putF (ci := 3) (C := RX4) (T := TX4) (N := 3) (ty := (tyX4 0)) hC i_X4_init_X4 tyX4 tyX4_ok nmX4 hM hS hc_t1 rfl 0 (by decide) (l_X4_init 4 rfl) rfl rfl hnm rfl (by decide +kernel) rfl rfl (Nat.le_of_ble_eq_true rfl) dX4_init_10 (fun H locs σ2 hM hS hc_t2 ho2 => ?_)
  replace hc_t2 : σ2 a_t = some (cl3 qr (0, 0)) := hc_t2
  have hc_r2 := ho2 qr _ hc_r (Ne.symm n_t_r)
  have hfr2 : ∀ (q : Nat) (f : va_E), σ q = some f → q ≠ a_t → σ2 q = some f := fun q f h hn => ho2 q f (ho1 q f h) hn
  refine lv_iconst (v := 0) hx hb dX4_init_13 (by decide) ?_
  refine lv_istore_n (lv' := [(2, .int 0), (0, .ref a_t), (1, .ref a_p0)]) hx hb dX4_init_14 rfl hl (by decide) rfl (fun ls hl => ?_)
  have L15 : ∀ (k n : Nat), n + k = 14 → ∀ (x2 : Int32), x2 = nI n → ∀ (H : Heap) (locs : List Loc) (σ1 : mwm), MW z D σ1 H → va_S (zA z) s.heap H locs → ∀ (adr : Nat → Nat) (f : Nat → Option Nat), σ1 a_t = some (cl3 qr (0, 0)) → RGnew K a_p0 σ σ1 qr adr f n → (∀ (q : Nat) (f : va_E), σ q = some f → q ≠ a_t → σ1 q = some f) → ∀ ls : Array Slot, lv_has ls 3 [(2, .int x2), (0, .ref a_t), (1, .ref a_p0)] → W p l e ({ frames := 2, cells := 43, slots := 3556, locals := 45 } : Room) s m ([.ref a_t, .ref a_p0] : List Value).toArray below meth c H locs (1 + 3 * n) (14 + 253 * n) (MQ below (qwV z D (fun σ2 => ∃ (qr : Nat) (adr : Nat → Nat) (f : Nat → Option Nat), σ2 a_t = some (cl3 qr (0, 0)) ∧ RGnew K a_p0 σ σ2 qr adr f 14 ∧ ∀ (q : Nat) (f : va_E), σ q = some f → q ≠ a_t → σ2 q = some f)) ([.ref a_t, .ref a_p0] : List Value).toArray s 43 3556 (zA z)) (F0 m 15 ls []) := by
    intro k
    induction k with
    | zero =>
      intro n hn x2 ex2 H locs σ1 hM hS adr f hc_t hG hfr ls hl
      have hn14 : n = 14 := by omega
      subst hn14
      refine lv_iload_n hx hb dX4_init_15 rfl (lv_at hl 0 rfl) ?_
      refine lv_bipush (v := 14) hx hb dX4_init_16 (by decide) ?_
      refine lv_icmp_ge (tgt := 41) hx hb dX4_init_18 (by decide) (fun c1 => ?_) (fun c1 => ?_)
      · exact W.vret hx hb hr (fun t ht hW => ⟨⟨_, rfl, ⟨qr, adr, f, hc_t, hG, hfr⟩, by show MW z D _ t.heap; rw [ht]; exact hM⟩, hS.F ht⟩) hS.2.2 dX4_init_41 hlocks
      · exact absurd (by rw [ex2]; decide) c1
    | succ k ih =>
      intro n hn x2 ex2 H locs σ1 hM hS adr f hc_t hG hfr ls hl
      obtain ⟨hc_r, hR, hI, hN1, hN2, hN3⟩ := hG
      have hn14 : n < 14 := by omega
      refine lv_iload_n hx hb dX4_init_15 rfl (lv_at hl 0 rfl) ?_
      refine lv_bipush (v := 14) hx hb dX4_init_16 (by decide) ?_
      refine lv_icmp_ge (tgt := 41) hx hb dX4_init_18 (by decide) (fun c1 => ?_) (fun c1 => ?_)
      · exact absurd c1 (by rw [ex2]; exact nI_ge (a := n) (b := 14) hn14 (by decide))
      refine lv_aload_n hx hb dX4_init_21 rfl (lv_at hl 1 rfl) ?_
      refine mw_get (ci := 3) (C := RX4) (T := TX4) (N := 3) (v := .ref qr) hC i_X4_init_X4 hM hc_t rfl 0 (by decide) (l_X4_init 4 rfl) rfl rfl dX4_init_22 ?_
      refine lv_iload_n hx hb dX4_init_25 rfl (lv_at hl 0 rfl) ?_
      refine mw_new (ci := 0) (C := RX0) (T := TX0) (N := 11) (fs := [.null, .null, .null, .int 0, .int 0, .int 0, .int 0, .long 0, .long 0, .int 0, .int 0]) hC i_X4_init_X0 tyX0 tyX0_ok (l_X4_init 3 rfl) (l_X4_init 5 rfl) (l_X4_init 6 rfl) hM hS rfl (fun j hj => by rcases (show j = 0 ∨ j = 1 ∨ j = 2 ∨ j = 3 ∨ j = 4 ∨ j = 5 ∨ j = 6 ∨ j = 7 ∨ j = 8 ∨ j = 9 ∨ j = 10 by omega) with rfl | rfl | rfl | rfl | rfl | rfl | rfl | rfl | rfl | rfl | rfl <;> rfl) (by dsimp only; omega) (by dsimp only; omega) dX4_init_26 (fun g0 H σ2 hM hS hc_g ho2 hq2 => ?_)
      refine lv_dup hx hb dX4_init_29 rfl ?_
      refine lv_aload_n hx hb dX4_init_30 rfl (lv_at hl 2 rfl) ?_
      refine mw_wv (mw_runI (As := [.ref a_p0]) (rest := [.ref g0, .int x2, .ref qr]) hC hM hS (c_X0_init (a_t := g0) (a_p0 := a_p0) (hc_t := hc_g) (v := fX0_init) rfl) gX4_init_X0_init rfl rfl rfl (l_X4_init 6 rfl) (l_X4_init 7 rfl) (l_X4_init 8 rfl) rfl q_X0_init ⟨Nat.le_of_ble_eq_true rfl, Nat.le_of_ble_eq_true rfl⟩ rfl rfl (Nat.le_of_ble_eq_true rfl) hl.1 dX4_init_31 ⟨by dsimp only; omega, by dsimp only; omega⟩) hS (fun H locs σ3 hp hM hS => ?_)
      obtain ⟨g1, g2, hf1, hf2, hg12, hc_g0, hc_g1, hc_g2, ho3⟩ := hp
      have n_t_g : a_t ≠ g0 := hq2 _ _ hc_t
      have n_r_g : qr ≠ g0 := hq2 _ _ hc_r
      have old2 : ∀ (q : Nat) (e : va_E), σ1 q = some e → σ3 q = some e := fun q e h => ho3 q e (ho2 q e h) (hq2 q e h)
      have n1_of : ∀ (q : Nat) (e : va_E), σ1 q = some e → q ≠ g1 := fun q e h => hf1 q e (ho2 q e h)
      have n2_of : ∀ (q : Nat) (e : va_E), σ1 q = some e → q ≠ g2 := fun q e h => hf2 q e (ho2 q e h)
      have hc_r3 := old2 _ _ hc_r
      refine mw_stQ hC hM hS hc_r3 hc_g0 (by rw [ex2]; exact vp_in_nI hn14 (by decide)) dX4_init_34 (fun H locs σ4 hM hS hc_r4 ho4 => ?_)
      have hclm : x2.toNatClampNeg = n := by rw [ex2]; exact nI_clamp (by omega)
      rw [hclm] at hc_r4
      refine lv_iinc (v := (x2 + 1)) (lv' := [(2, .int (x2 + 1)), (0, .ref a_t), (1, .ref a_p0)]) hx hb dX4_init_35 hl (k := 0) rfl rfl (by decide) rfl (fun ls hl => ?_)
      refine lv_goto (tgt := 15) hx hb dX4_init_38 (by decide) ?_
      have n_r_1 : qr ≠ g1 := n1_of _ _ hc_r
      have n_r_2 : qr ≠ g2 := n2_of _ _ hc_r
      have hA4 : ∀ (q : Nat) (e : va_E), σ1 q = some e → q ≠ qr → σ4 q = some e := fun q e h hn => ho4 q e (old2 q e h) hn
      have hold : ∀ j, j < 3 * n → ∃ e : va_E, σ1 (adr j) = some e := by
        intro j hj
        obtain ⟨-, r1, r2, r3⟩ := hR (j / 3) (by omega)
        have hj3 : j = 3 * (j / 3) + j % 3 := by omega
        have hm : j % 3 = 0 ∨ j % 3 = 1 ∨ j % 3 = 2 := by omega
        rcases hm with h | h | h
        · rw [hj3, h, Nat.add_zero]; exact ⟨_, r1⟩
        · rw [hj3, h]; exact ⟨_, r2⟩
        · rw [hj3, h]; exact ⟨_, r3⟩
      refine W.widen (k := 1 + 3 * (n + 1)) (n := 14 + 253 * (n + 1)) (by omega) (by omega) ?_
      refine ih (n + 1) (by omega) (x2 + 1) (by rw [ex2]; exact (nI_succ n).symm) _ _ _ hM hS (fun j => if j = 3 * n then g0 else if j = 3 * n + 1 then g1 else if j = 3 * n + 2 then g2 else adr j) (va_up f n (some g0)) (hA4 _ _ hc_t n_t_r) ⟨hc_r4, ?_, ?_, ?_, ?_, hN3⟩ (fun q e h hn => hA4 q e (hfr q e h hn) (hN3 q e h)) ls hl
      · intro i hi
        dsimp only
        by_cases hin : i = n
        · subst hin
          rw [if_pos rfl, if_neg (by omega), if_pos rfl, if_neg (by omega), if_neg (by omega), if_pos rfl]
          exact ⟨by simp [va_up], ho4 _ _ hc_g0 (Ne.symm n_r_g), ho4 _ _ hc_g1 (Ne.symm n_r_1), ho4 _ _ hc_g2 (Ne.symm n_r_2)⟩
        · have hlt : i < n := by omega
          obtain ⟨r0, r1, r2, r3⟩ := hR i hlt
          rw [if_neg (by omega), if_neg (by omega), if_neg (by omega), if_neg (by omega), if_neg (by omega), if_neg (by omega), if_neg (by omega), if_neg (by omega), if_neg (by omega)]
          exact ⟨by simp [va_up, hin]; exact r0, hA4 _ _ r1 (hN1 _ (by omega)), hA4 _ _ r2 (hN1 _ (by omega)), hA4 _ _ r3 (hN1 _ (by omega))⟩
      · intro i j hi hj hij
        dsimp only at hij
        have ng0 : ∀ j, j < 3 * n → adr j ≠ g0 := fun j hj => by obtain ⟨e, he⟩ := hold j hj; exact hq2 _ _ he
        have ng1 : ∀ j, j < 3 * n → adr j ≠ g1 := fun j hj => by obtain ⟨e, he⟩ := hold j hj; exact n1_of _ _ he
        have ng2 : ∀ j, j < 3 * n → adr j ≠ g2 := fun j hj => by obtain ⟨e, he⟩ := hold j hj; exact n2_of _ _ he
        have h01 : g0 ≠ g1 := hf1 _ _ hc_g
        have h02 : g0 ≠ g2 := hf2 _ _ hc_g
        have hci : i = 3 * n ∨ i = 3 * n + 1 ∨ i = 3 * n + 2 ∨ i < 3 * n := by omega
        have hcj : j = 3 * n ∨ j = 3 * n + 1 ∨ j = 3 * n + 2 ∨ j < 3 * n := by omega
        rcases hci with rfl | rfl | rfl | h1 <;> rcases hcj with rfl | rfl | rfl | h2
        all_goals first
          | rfl
          | (exfalso
             first
             | (rw [if_pos rfl, if_neg (by omega), if_pos rfl] at hij; exact h01 hij)
             | (rw [if_pos rfl, if_neg (by omega), if_neg (by omega), if_pos rfl] at hij; exact h02 hij)
             | (rw [if_pos rfl, if_neg (by omega), if_neg (by omega), if_neg (by omega)] at hij; exact ng0 _ h2 hij.symm)
             | (rw [if_neg (by omega), if_pos rfl, if_pos rfl] at hij; exact h01 hij.symm)
             | (rw [if_neg (by omega), if_pos rfl, if_neg (by omega), if_neg (by omega), if_pos rfl] at hij; exact hg12 hij)
             | (rw [if_neg (by omega), if_pos rfl, if_neg (by omega), if_neg (by omega), if_neg (by omega)] at hij; exact ng1 _ h2 hij.symm)
             | (rw [if_neg (by omega), if_neg (by omega), if_pos rfl, if_pos rfl] at hij; exact h02 hij.symm)
             | (rw [if_neg (by omega), if_neg (by omega), if_pos rfl, if_neg (by omega), if_pos rfl] at hij; exact hg12 hij.symm)
             | (rw [if_neg (by omega), if_neg (by omega), if_pos rfl, if_neg (by omega), if_neg (by omega), if_neg (by omega)] at hij; exact ng2 _ h2 hij.symm)
             | (rw [if_neg (by omega), if_neg (by omega), if_neg (by omega), if_pos rfl] at hij; exact ng0 _ h1 hij)
             | (rw [if_neg (by omega), if_neg (by omega), if_neg (by omega), if_neg (by omega), if_pos rfl] at hij; exact ng1 _ h1 hij)
             | (rw [if_neg (by omega), if_neg (by omega), if_neg (by omega), if_neg (by omega), if_neg (by omega), if_pos rfl] at hij; exact ng2 _ h1 hij)
             done)
          | (rw [if_neg (by omega), if_neg (by omega), if_neg (by omega), if_neg (by omega), if_neg (by omega), if_neg (by omega)] at hij; exact hI i j h1 h2 hij)
      · intro j hj
        dsimp only
        have hcj : j = 3 * n ∨ j = 3 * n + 1 ∨ j = 3 * n + 2 ∨ j < 3 * n := by omega
        rcases hcj with rfl | rfl | rfl | h2
        · rw [if_pos rfl]; exact Ne.symm n_r_g
        · rw [if_neg (by omega), if_pos rfl]; exact Ne.symm n_r_1
        · rw [if_neg (by omega), if_neg (by omega), if_pos rfl]; exact Ne.symm n_r_2
        · rw [if_neg (by omega), if_neg (by omega), if_neg (by omega)]; exact hN1 j h2
      · intro j hj b e hb
        dsimp only
        have hb1 : ∃ e', σ1 b = some e' := by
          by_cases hbt : b = a_t
          · rw [hbt]; exact ⟨_, hc_t⟩
          · exact ⟨_, hfr b e hb hbt⟩
        obtain ⟨e', he'⟩ := hb1
        have hcj : j = 3 * n ∨ j = 3 * n + 1 ∨ j = 3 * n + 2 ∨ j < 3 * n := by omega
        rcases hcj with rfl | rfl | rfl | h2
        · rw [if_pos rfl]; exact hq2 _ _ he'
        · rw [if_neg (by omega), if_pos rfl]; exact n1_of _ _ he'
        · rw [if_neg (by omega), if_neg (by omega), if_pos rfl]; exact n2_of _ _ he'
        · rw [if_neg (by omega), if_neg (by omega), if_neg (by omega)]; exact hN2 j h2 b e hb
  exact L15 14 0 rfl 0 nI_0.symm _ _ _ hM hS (fun _ => 0) (fun _ => none) hc_t2 ⟨hc_r2, fun i hi => absurd hi (Nat.not_lt_zero i), fun i j hi => absurd hi (Nat.not_lt_zero i), fun k hk => absurd hk (Nat.not_lt_zero k), fun k hk => absurd hk (Nat.not_lt_zero k), hq1⟩ hfr2 ls hl
theorem RGm.some {K : Nat → ClassId} {adr : Nat → Nat} {n : Nat} {f : Nat → Option Nat} {G : Nat → Nat} {W : Nat → GS} {F0 F1 : Nat → Nat → Int64} {σ : mwm} (h : RGm K adr n f G W F0 F1 σ) (k : Nat) (hk : k < 3 * n) : ∃ e : va_E, σ (adr k) = Option.some e := by
  obtain ⟨-, r1, r2, r3⟩ := h (k / 3) (by omega)
  have hk3 : k = 3 * (k / 3) + k % 3 := by omega
  have hm : k % 3 = 0 ∨ k % 3 = 1 ∨ k % 3 = 2 := by omega
  rcases hm with h | h | h
  · rw [hk3, h, Nat.add_zero]; exact ⟨_, r1⟩
  · rw [hk3, h]; exact ⟨_, r2⟩
  · rw [hk3, h]; exact ⟨_, r3⟩
theorem RGm.keep {K : Nat → ClassId} {adr : Nat → Nat} {n : Nat} {f : Nat → Option Nat} {G : Nat → Nat} {W : Nat → GS} {F0 F1 : Nat → Nat → Int64} {σ σ1 : mwm} (h : RGm K adr n f G W F0 F1 σ) (hk : ∀ (k : Nat) (e : va_E), k < 3 * n → σ (adr k) = Option.some e → σ1 (adr k) = Option.some e) : RGm K adr n f G W F0 F1 σ1 := by
  intro i hi
  obtain ⟨r0, r1, r2, r3⟩ := h i hi
  exact ⟨r0, hk _ _ (by omega) r1, hk _ _ (by omega) r2, hk _ _ (by omega) r3⟩
section MYJ
variable {p : Program} {l : Launch} {e : Env} {R : Room} {s : State} {m : MethodId} {args : Array Value} {below : List Frame} {meth : Method} {c : Code} {H : Heap} {locs : List Loc} {cells slots : Nat} {Q : State → Prop}
variable {cc : ByteArray} {pc : Nat} {ls : Array Slot} {rest st0 As : List Value} {z : Nat} {D : va_G} {K : Nat → ClassId} {σ : mwm} {b : Nat} {Ts : List Cond} {own : String} {nL : Nat}
variable {y : MethodName} {bytes : ByteArray} {maxL n index mc ms : Nat} {ret : Option FieldType} {ws ws' : List Cond} {rm : Room} {Qc : Array Value → State → Outcome → State → Prop} {free : Addr → Prop}
theorem my_runI (hC : CF p m c cc nL s args Ts own z D K) (hX : SX z s) (hM : MW z D σ H) (hS : va_S (zA z) s.heap H locs) (hc : Met l y ws rm (PCx z D K (.ref b :: As) σ) Qc mc ms free) (gg : GoodIn Ts ws) (hw : ws = Cond.code y bytes maxL none :: ws') (hrc : rm.cells = mc) (hrs : rm.slots = ms) (hini : Cond.initialized y.cls ∈ Ts) (hli : Cond.methodLink own index y ∈ Ts) (hins : Cond.instanceMethod y ∈ Ts) (hy1 : y.name = "<init>")
    (hd : y.cls ≠ "java/lang/invoke/MethodHandle" ∧ y.cls ≠ "java/lang/invoke/VarHandle" ∧ (parseMethodDescriptor y.desc).map (fun d => d.parameters.length) = some n) (hR : rm.frames + 1 ≤ R.frames ∧ 8 + (maxL + 11) + rm.locals ≤ R.locals) (hn : As.length = n) (hst : st0 = As.reverse ++ .ref b :: rest) (hrest : (rest.map fun v => v.category).sum ≤ 8) (hls : ls.size = nL) (hdg : decode cc pc = .ok (.invokespecial index, 3)) (hf : cells + mc ≤ R.cells ∧ slots + ms ≤ R.slots) :
    va_Run p l e R s m args below meth c H locs cells slots mc ms (F0 m pc ls st0) rest (Qc (Value.ref b :: As).toArray) free :=
  va_runI hC.1 hc (cwI n hC.1.2.2.2.2 gg hw hrc hrs (hC.1.2.2.2.2 _ hini) (hC.1.2.2.2.2 _ hli) (hC.1.2.2.2.2 _ hins) hy1 hd hR) ⟨PCx_blind, PCx_of hC.2.1 hC.2.2 hX hM hS⟩ rfl hn hls hst (lv_room (rest := st0) (pc := pc) (ls := ls) hrest) hdg hf
end MYJ
