/-! the script, read by the law -/
theorem and31 (a : Int32) : ∃ x : Nat, x < 2147483648 ∧ a &&& 2147483647 = nI x := by
  refine ⟨(a.toBitVec &&& (2147483647 : Int32).toBitVec).toNat, ?_, ?_⟩
  · rw [BitVec.toNat_and]
    have h : a.toBitVec.toNat &&& (2147483647 : Int32).toBitVec.toNat ≤ (2147483647 : Int32).toBitVec.toNat := Nat.and_le_right
    have h2 : (2147483647 : Int32).toBitVec.toNat = 2147483647 := by decide
    omega
  · apply Int32.toBitVec_inj.mp
    apply BitVec.eq_of_toNat_eq
    rw [Int32.toBitVec_and]
    show _ = (BitVec.ofNat 32 _).toNat
    rw [BitVec.toNat_ofNat, Nat.mod_eq_of_lt]
    exact (a.toBitVec &&& (2147483647 : Int32).toBitVec).isLt
def cellV (L : Nat) (xs : Nat → Int32) (k : Int32) : Int32 := (if Int32.ofNat L ≤ k then 15519503 * (k + 3) + 11519 else xs k.toNatClampNeg) &&& 2147483647
def PCs (b L : Nat) (xs : Nat → Int32) (k : Int32) : Array Value → State → Prop := va_Pc [.ref b, .int k] (fun U => va_X b L xs U U.heap ∧ b < U.heap.size)
theorem PCs_blind {b L : Nat} {xs : Nat → Int32} {k : Int32} : FrameBlind (PCs b L xs k) := by
  intro a U g mk h
  obtain ⟨q0, q1, q2⟩ := h
  exact ⟨q0, va_X.moved (u := U) (U := U.calling g mk a) (Vm.Alike.refl U.vm) q1, q2⟩
theorem PCs_of {b L : Nat} {xs : Nat → Int32} {k : Int32} {s : State} {H : Heap} {locs : List Loc} {z : Nat} (hX : va_X b L xs s s.heap) (hbl : b < s.heap.size) (hbA : ¬ zA z b) (hS : va_S (zA z) s.heap H locs) : ∀ U : State, U.heap = H → s.WarmedH U.vm → PCs b L xs k ([.ref b, .int k] : List Value).toArray U := by
  intro U hU hW
  refine ⟨rfl, ?_, ?_⟩
  · rw [hU]
    exact va_X.kept (va_X.moved hW.alike hX) (hS.2.1 b hbl hbA)
  · rw [hU]
    exact Nat.lt_of_lt_of_le hbl hS.1
theorem q_L_cell : yL_cell.cls ≠ "java/lang/invoke/MethodHandle" ∧ yL_cell.cls ≠ "java/lang/invoke/VarHandle" ∧ (parseMethodDescriptor yL_cell.desc).map (fun d => d.parameters.length) = some 2 := by decide +kernel
theorem l_L_cell_0 : Cond.constant RL 142 (15519503) ∈ wsL_cell := List.mem_of_getElem? (i := 1) rfl
theorem l_L_cell_1 : Cond.constant RL 143 (2147483647) ∈ wsL_cell := List.mem_of_getElem? (i := 2) rfl
set_option maxHeartbeats 4000000 in
theorem c_L_cell {l : Launch} {b L : Nat} {xs : Nat → Int32} {j : Nat} (hj : j < 2147483648) (hL : L < 2147483648) : Met l yL_cell wsL_cell ({ frames := 0, cells := 0, slots := 0, locals := 0 } : Room) (PCs b L xs (nI j)) (qsI (cellV L xs (nI j))) 0 0 (fun _ => False) := by
  refine Met.ofW (cc := cL_cell) (maxL := 2) (ret := some .int) (by decide) rfl ?_
  intro p e s m args below meth c s₁ B hml hv
  obtain ⟨rfl, hxs, hbl⟩ := hv
  have hts := atoms_spec (ws := wsL_cell) B.pre
  have hown : s.vm.findClass RL = some m.cls := findClass_of_methodNamed B.named
  have hl := lv_entry ([.ref b, .int (nI j)] : List Value) (n := 2) (Nat.le_of_ble_eq_true rfl)
  rw [show lv_args 0 ([.ref b, .int (nI j)] : List Value) = [(0, .ref b), (1, .int (nI j))] from rfl] at hl
  rw [lg_entry_eq]
  have hx := B.exec
  have hb := B.bytes
  have hr := B.returns
  have hlocks := B.notSynchronized
  have hS : va_S (fun _ => False) s.heap s.heap [] := va_S.rf
  have kend : ∀ (ls : Array Slot) (y : Int32), cellV L xs (nI j) = y &&& 2147483647 → W p l e (headSpec wsL_cell ({ frames := 0, cells := 0, slots := 0, locals := 0 } : Room)).room s m ([.ref b, .int (nI j)] : List Value).toArray below meth c s.heap [] 0 0 (MQ below (qsI (cellV L xs (nI j))) ([.ref b, .int (nI j)] : List Value).toArray s 0 0 (fun _ => False)) (F0 m 22 ls [.int y]) := by
    intro ls y hy
    refine lv_ldc hx hb hown (hts _ l_L_cell_1) dL_cell_22 ?_
    refine lv_iand hx hb dL_cell_24 ?_
    rw [← hy]
    exact W.iret hx hb hr (fun t ht hW => ⟨_, rfl, rfl, ht⟩) (fun _ h9 => by cases h9) dL_cell_25 hlocks
  refine lv_iload_n hx hb dL_cell_0 rfl (lv_at hl 1 rfl) ?_
  refine lv_aload_n hx hb dL_cell_1 rfl (lv_at hl 0 rfl) ?_
  refine va_slen hx hb hxs hbl (fun h => h) hS dL_cell_2 ?_
  refine lv_icmp_ge (tgt := 12) hx hb dL_cell_3 (by decide) (fun c1 => ?_) (fun c1 => ?_)
  · refine lv_ldc hx hb hown (hts _ l_L_cell_0) dL_cell_12 ?_
    refine lv_iload_n hx hb dL_cell_14 rfl (lv_at hl 1 rfl) ?_
    refine lv_iconst (v := 3) hx hb dL_cell_15 (by decide) ?_
    refine lv_iadd hx hb dL_cell_16 ?_
    refine lv_imul hx hb dL_cell_17 ?_
    refine lv_sipush (v := 11519) hx hb dL_cell_18 (by decide) ?_
    refine lv_iadd hx hb dL_cell_21 ?_
    refine kend _ _ ?_
    unfold cellV
    rw [if_pos c1]
  · have hjL : j < L := by
      refine Classical.byContradiction fun q => c1 ?_
      exact (nI_le_iff (a := L) (b := j) hL hj).mpr (by omega)
    refine lv_aload_n hx hb dL_cell_6 rfl (lv_at hl 0 rfl) ?_
    refine lv_iload_n hx hb dL_cell_7 rfl (lv_at hl 1 rfl) ?_
    refine va_sld hx hb hxs hbl (fun h => h) hS (vp_in_nI hjL (by omega)) dL_cell_8 ?_
    refine lv_goto (tgt := 22) hx hb dL_cell_9 (by decide) ?_
    refine kend _ _ ?_
    unfold cellV
    rw [if_neg c1]
theorem cellV_nat (L : Nat) (xs : Nat → Int32) (k : Int32) : ∃ x : Nat, x < 2147483648 ∧ cellV L xs k = nI x := and31 _
section CELL
variable {p : Program} {l : Launch} {e : Env} {R : Room} {s : State} {m : MethodId} {args : Array Value} {below : List Frame} {meth : Method} {c : Code} {H : Heap} {locs : List Loc} {cells slots : Nat} {Q : State → Prop}
variable {cc : ByteArray} {pc : Nat} {ls : Array Slot} {rest : List Value} {z : Nat} {D : va_G} {K : Nat → ClassId} {σ : mwm} {Ts : List Cond} {own : String} {nL index : Nat}
theorem mw_cell {b L : Nat} {xs : Nat → Int32} {j : Nat} (hj : j < 2147483648) (hL : L < 2147483648) (hC : CF p m c cc nL s args Ts own z D K) (hX : va_X b L xs s s.heap) (hbl : b < s.heap.size) (hbA : ¬ zA z b) (hS : va_S (zA z) s.heap H locs) (gg : GoodIn Ts (va_wsS own index yL_cell wsL_cell)) (hR : 0 + 1 ≤ R.frames ∧ 8 + (2 + 11) + 0 ≤ R.locals) (hrest : (rest.map fun v => v.category).sum ≤ 8) (hls : ls.size = nL) (hdg : decode cc pc = .ok (.invokestatic index, 3)) (hf : cells + 0 ≤ R.cells ∧ slots + 0 ≤ R.slots)
    (kk : ∀ x : Nat, x < 2147483648 → W p l e R s m args below meth c H locs cells slots Q (F0 m (pc + 3) ls (.int (nI x) :: rest))) : W p l e R s m args below meth c H locs cells slots Q (F0 m pc ls (.int (nI j) :: .ref b :: rest)) := by
  obtain ⟨x, hx, e⟩ := cellV_nat L xs (nI j)
  refine mw_ci (v := cellV L xs (nI j)) (a := ([.ref b, .int (nI j)] : List Value).toArray) (rest := rest) ?_ (by rw [e]; exact kk x hx)
  exact va_runS hC.1 (c_L_cell (b := b) (L := L) (xs := xs) hj hL) (va_cwS 2 hC.1.2.2.2.2 gg rfl rfl rfl q_L_cell hR) ⟨PCs_blind, PCs_of hX hbl hbA hS⟩ rfl rfl hls rfl (lv_room (rest := .int (nI j) :: .ref b :: rest) (pc := pc) (ls := ls) hrest) hdg hf
end CELL
