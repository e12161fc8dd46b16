theorem st_J {s : State} {A : Array Value} (h : (Cond.arrayClass .long).before A s = true) : ∃ cA, ArrOfT s cA .long ∧ va_RA s cA .long := by
  obtain ⟨cA, kA, comp, h1, h2, h3⟩ := Cond.arrayClass_spec h
  exact ⟨cA, fun n z => ⟨fun k h => (by cases h), kA, h2, comp, h3⟩, h1⟩
theorem st_C {s : State} {A : Array Value} (h : (Cond.arrayClass .char).before A s = true) : ∃ cA, ArrOfT s cA .char ∧ va_RA s cA .char := by
  obtain ⟨cA, kA, comp, h1, h2, h3⟩ := Cond.arrayClass_spec h
  exact ⟨cA, fun n z => ⟨fun k h => (by cases h), kA, h2, comp, h3⟩, h1⟩
theorem st_Q {s : State} {A : Array Value} (h : (Cond.arrayOver (.object RX0)).before A s = true) : ∃ cA, ArrOfT s cA (.object RX0) ∧ va_RA s cA (.object RX0) := by
  obtain ⟨comp, cA, kA, h1, h2, h3, h4, h5⟩ := Cond.arrayOver_spec h
  exact ⟨cA, fun N z => ⟨(fun k h => by cases h), kA, h3, comp, h4⟩, kA, comp, h3, h4, h1, h5⟩
theorem st_str {s : State} {A : Array Value} {k : Nat} {tx : String} (h1 : (Cond.stringRef RX7 k tx).before A s = true) (h2 : (Cond.exactly (Term.string RX7 k) "java/lang/String").before A s = true) : ∃ a : Nat, vk_R RX7 k tx a s := by
  obtain ⟨a, c, cell, kk, h3, -⟩ := Cond.exactly_spec h2
  exact ⟨a, vk_R.of h1 h3⟩
theorem st_NX {s : State} {A : Array Value} (hts : ∀ w ∈ lw_tbl, w.before A s = true) : NX s :=
  ⟨va_Nw.of rfl (hts _ st_t0), va_Nw.of rfl (hts _ st_t1), va_Nw.of rfl (hts _ st_t2), va_Nw.of rfl (hts _ st_t3), va_Nw.of rfl (hts _ st_t4), va_Nw.of rfl (hts _ st_t5), va_Nw.of rfl (hts _ st_t6), va_Nw.of rfl (hts _ st_t7), va_Nw.of rfl (hts _ st_t8), va_Nw.of rfl (hts _ st_t9), va_Nw.of rfl (hts _ st_t10), va_Nw.of rfl (hts _ st_t11), va_Nw.of rfl (hts _ st_t12), va_Nw.of rfl (hts _ st_t13)⟩
theorem st_SXs {s : State} {A : Array Value} (hts : ∀ w ∈ lw_tbl, w.before A s = true) (hn : ∀ w ∈ st_flat, w.before A s = true) : SXs s :=
  ⟨st_str (hts _ st_t14) (hn _ st_n0), st_str (hts _ st_t15) (hn _ st_n1), st_str (hts _ st_t16) (hn _ st_n2), st_str (hts _ st_t17) (hn _ st_n3), st_str (hts _ st_t18) (hn _ st_n4), st_str (hts _ st_t19) (hn _ st_n5), st_str (hts _ st_t20) (hn _ st_n6), st_str (hts _ st_t21) (hn _ st_n7), st_str (hts _ st_t22) (hn _ st_n8), st_str (hts _ st_t23) (hn _ st_n9), st_str (hts _ st_t24) (hn _ st_n10), st_str (hts _ st_t25) (hn _ st_n11), st_str (hts _ st_t26) (hn _ st_n12), st_str (hts _ st_t27) (hn _ st_n13), st_str (hts _ st_t28) (hn _ st_n14), st_str (hts _ st_t29) (hn _ st_n15), st_str (hts _ st_t30) (hn _ st_n16), st_str (hts _ st_t31) (hn _ st_n17), st_str (hts _ st_t32) (hn _ st_n18)⟩
theorem st_SX {s : State} {A : Array Value} (hts : ∀ w ∈ lw_tbl, w.before A s = true) (hn : ∀ w ∈ st_flat, w.before A s = true) : SX s.heap.size s := by
  refine ⟨vx_Zqof (hts _ st_t40) (hts _ st_t42) (hn _ st_n25) (fun a h q => absurd h (Nat.not_lt.mpr q)), vx_Zqof (hts _ st_t41) (hts _ st_t42) (hn _ st_n26) (fun a h q => absurd h (Nat.not_lt.mpr q)), st_SXs hts hn, ?_, ?_⟩
  · exact ⟨va_Nw.of rfl (hts _ st_t33), va_Nw.of rfl (hts _ st_t34), va_Nw.of rfl (hts _ st_t35), va_Nw.of rfl (hts _ st_t36), va_Nw.of rfl (hts _ st_t37), va_Nw.of rfl (hts _ st_t38)⟩
  · exact ⟨va_Nc.of (hn _ st_n19), va_Nc.of (hn _ st_n20), va_Nc.of (hn _ st_n21), va_Nc.of (hn _ st_n22), va_Nc.of (hn _ st_n23), va_Nc.of (hn _ st_n24), va_AO.of (hts _ st_t39)⟩
theorem st_K {s : State} {A : Array Value} (hts : ∀ w ∈ lw_tbl, w.before A s = true) : ∃ (D : va_G) (K : Nat → ClassId), va_K D vwCl (ktys K) s := by
  obtain ⟨c0, i0, h0⟩ := u_known (C := RX0) (T := TX0) (N := 11) (n := 11) hts inX0 (hts _ st_t45)
  obtain ⟨c1, i1, h1⟩ := u_known (C := RX1) (T := TX1) (N := 2) (n := 2) hts inX1 (hts _ st_t46)
  obtain ⟨c2, i2, h2⟩ := u_known (C := RX2) (T := TX2) (N := 5) (n := 5) hts inX2 (hts _ st_t47)
  obtain ⟨c3, i3, h3⟩ := u_known (C := RX4) (T := TX4) (N := 3) (n := 3) hts inX4 (hts _ st_t48)
  obtain ⟨c4, i4, h4⟩ := u_known (C := RX6) (T := TX6) (N := 2) (n := 2) hts inX6 (hts _ st_t49)
  obtain ⟨c5, i5, h5⟩ := u_known (C := RX7) (T := TX7) (N := 6) (n := 6) hts inX7 (hts _ st_t50)
  obtain ⟨kJ, aJ, rJ⟩ := st_J (hts _ st_t43)
  obtain ⟨kC, aC, rC⟩ := st_C (hts _ st_t44)
  obtain ⟨kQ, aQ, rQ⟩ := st_Q (hts _ st_t39)
  refine ⟨(fun k => if k = 0 then c0 else if k = 1 then c1 else if k = 2 then c2 else if k = 3 then c3 else if k = 4 then c4 else c5, fun k => if k = 0 then i0 else if k = 1 then i1 else if k = 2 then i2 else if k = 3 then i3 else if k = 4 then i4 else i5), fun k => if k = 0 then kJ else if k = 1 then kJ else if k = 2 then kC else if k = 3 then kC else kQ, ?_, ?_⟩
  · intro k q hq
    match k, hq with
    | 0, hq => cases hq; exact h0
    | 1, hq => cases hq; exact h1
    | 2, hq => cases hq; exact h2
    | 3, hq => cases hq; exact h3
    | 4, hq => cases hq; exact h4
    | 5, hq => cases hq; exact h5
    | k + 6, hq => simp at hq
  · intro k q hq
    match k, hq with
    | 0, hq => cases hq; exact ⟨aJ, rJ⟩
    | 1, hq => cases hq; exact ⟨aJ, rJ⟩
    | 2, hq => cases hq; exact ⟨aC, rC⟩
    | 3, hq => cases hq; exact ⟨aC, rC⟩
    | 4, hq => cases hq; exact ⟨aQ, rQ⟩
    | k + 5, hq => simp [ktys] at hq
