theorem l_X7_init_0 : Cond.methodLink RX7 1 objectInit ∈ wsX7_init := (List.mem_cons_of_mem _ (List.mem_append_left _ (List.mem_append_left _ (List.mem_append_left _ (List.mem_append_left _ (List.mem_append_left _ (List.mem_append_left _ (List.mem_append_left _ (List.mem_of_getElem? (i := 0) rfl)))))))))
theorem l_X7_init_1 : Cond.instanceMethod objectInit ∈ wsX7_init := (List.mem_cons_of_mem _ (List.mem_append_left _ (List.mem_append_left _ (List.mem_append_left _ (List.mem_append_left _ (List.mem_append_left _ (List.mem_append_left _ (List.mem_append_left _ (List.mem_of_getElem? (i := 1) rfl)))))))))
theorem l_X7_init_2 : Cond.code objectInit ⟨#[0xb1]⟩ 1 none ∈ wsX7_init := (List.mem_cons_of_mem _ (List.mem_append_left _ (List.mem_append_left _ (List.mem_append_left _ (List.mem_append_left _ (List.mem_append_left _ (List.mem_append_left _ (List.mem_append_left _ (List.mem_of_getElem? (i := 2) rfl)))))))))
theorem l_X7_init_3 : Cond.classLink RX7 7 RX2 ∈ wsX7_init := (List.mem_cons_of_mem _ (List.mem_append_left _ (List.mem_append_left _ (List.mem_append_left _ (List.mem_append_left _ (List.mem_append_left _ (List.mem_append_left _ (List.mem_append_left _ (List.mem_of_getElem? (i := 3) rfl)))))))))
theorem l_X7_init_4 : Cond.instantiable RX2 5 ∈ wsX7_init := (List.mem_cons_of_mem _ (List.mem_append_left _ (List.mem_append_left _ (List.mem_append_left _ (List.mem_append_left _ (List.mem_append_left _ (List.mem_append_left _ (List.mem_append_left _ (List.mem_of_getElem? (i := 4) rfl)))))))))
theorem l_X7_init_5 : Cond.initialized RX2 ∈ wsX7_init := (List.mem_cons_of_mem _ (List.mem_append_left _ (List.mem_append_left _ (List.mem_append_left _ (List.mem_append_left _ (List.mem_append_left _ (List.mem_append_left _ (List.mem_append_left _ (List.mem_of_getElem? (i := 5) rfl)))))))))
theorem i_X7_init_X2 : ∀ w ∈ wsX20, w ∈ wsX7_init := fun _ h => (List.mem_cons_of_mem _ (List.mem_append_left _ (List.mem_append_left _ (List.mem_append_left _ (List.mem_append_left _ (List.mem_append_left _ (List.mem_append_right _ h)))))))
theorem l_X7_init_7 : Cond.methodLink RX7 11 yX2_init ∈ wsX7_init := (List.mem_cons_of_mem _ (List.mem_append_left _ (List.mem_append_left _ (List.mem_append_left _ (List.mem_append_left _ (List.mem_append_left _ (List.mem_append_left _ (List.mem_append_right _ (List.mem_append_left _ (List.mem_of_getElem? (i := 0) rfl))))))))))
theorem l_X7_init_8 : Cond.instanceMethod yX2_init ∈ wsX7_init := (List.mem_cons_of_mem _ (List.mem_append_left _ (List.mem_append_left _ (List.mem_append_left _ (List.mem_append_left _ (List.mem_append_left _ (List.mem_append_left _ (List.mem_append_right _ (List.mem_append_left _ (List.mem_of_getElem? (i := 1) rfl))))))))))
theorem l_X7_init_9 : Cond.classLink RX7 14 RX1 ∈ wsX7_init := (List.mem_cons_of_mem _ (List.mem_append_left _ (List.mem_append_left _ (List.mem_append_left _ (List.mem_append_left _ (List.mem_append_left _ (List.mem_append_left _ (List.mem_append_left _ (List.mem_of_getElem? (i := 6) rfl)))))))))
theorem l_X7_init_10 : Cond.instantiable RX1 2 ∈ wsX7_init := (List.mem_cons_of_mem _ (List.mem_append_left _ (List.mem_append_left _ (List.mem_append_left _ (List.mem_append_left _ (List.mem_append_left _ (List.mem_append_left _ (List.mem_append_left _ (List.mem_of_getElem? (i := 7) rfl)))))))))
theorem l_X7_init_11 : Cond.initialized RX1 ∈ wsX7_init := (List.mem_cons_of_mem _ (List.mem_append_left _ (List.mem_append_left _ (List.mem_append_left _ (List.mem_append_left _ (List.mem_append_left _ (List.mem_append_left _ (List.mem_append_left _ (List.mem_of_getElem? (i := 8) rfl)))))))))
theorem i_X7_init_X1 : ∀ w ∈ wsX10, w ∈ wsX7_init := fun _ h => (List.mem_cons_of_mem _ (List.mem_append_left _ (List.mem_append_left _ (List.mem_append_left _ (List.mem_append_left _ (List.mem_append_right _ h))))))
theorem l_X7_init_13 : Cond.methodLink RX7 16 yX1_init ∈ wsX7_init := (List.mem_cons_of_mem _ (List.mem_append_left _ (List.mem_append_left _ (List.mem_append_left _ (List.mem_append_left _ (List.mem_append_left _ (List.mem_append_left _ (List.mem_append_right _ (List.mem_append_left _ (List.mem_of_getElem? (i := 10) rfl))))))))))
theorem l_X7_init_14 : Cond.instanceMethod yX1_init ∈ wsX7_init := (List.mem_cons_of_mem _ (List.mem_append_left _ (List.mem_append_left _ (List.mem_append_left _ (List.mem_append_left _ (List.mem_append_left _ (List.mem_append_left _ (List.mem_append_right _ (List.mem_append_left _ (List.mem_of_getElem? (i := 11) rfl))))))))))
theorem l_X7_init_15 : Cond.fieldLink RX7 17 "CornerStones" "text" "LCornerStones$GameText;" ∈ wsX7_init := (List.mem_cons_of_mem _ (List.mem_append_left _ (List.mem_append_left _ (List.mem_append_left _ (List.mem_append_left _ (List.mem_append_left _ (List.mem_append_left _ (List.mem_append_left _ (List.mem_of_getElem? (i := 9) rfl)))))))))
theorem i_X7_init_X7 : ∀ w ∈ wsX70, w ∈ wsX7_init := fun _ h => (List.mem_cons_of_mem _ (List.mem_append_left _ (List.mem_append_left _ (List.mem_append_left _ (List.mem_append_right _ h)))))
theorem l_X7_init_17 : Cond.classLink RX7 21 RX0 ∈ wsX7_init := (List.mem_cons_of_mem _ (List.mem_append_left _ (List.mem_append_left _ (List.mem_append_left _ (List.mem_append_left _ (List.mem_append_left _ (List.mem_append_left _ (List.mem_append_left _ (List.mem_of_getElem? (i := 10) rfl)))))))))
theorem l_X7_init_18 : Cond.instantiable RX0 11 ∈ wsX7_init := (List.mem_cons_of_mem _ (List.mem_append_left _ (List.mem_append_left _ (List.mem_append_left _ (List.mem_append_left _ (List.mem_append_left _ (List.mem_append_left _ (List.mem_append_left _ (List.mem_of_getElem? (i := 11) rfl)))))))))
theorem l_X7_init_19 : Cond.initialized RX0 ∈ wsX7_init := (List.mem_cons_of_mem _ (List.mem_append_left _ (List.mem_append_left _ (List.mem_append_left _ (List.mem_append_left _ (List.mem_append_left _ (List.mem_append_left _ (List.mem_append_left _ (List.mem_of_getElem? (i := 12) rfl)))))))))
theorem i_X7_init_X0 : ∀ w ∈ wsX00, w ∈ wsX7_init := fun _ h => (List.mem_cons_of_mem _ (List.mem_append_left _ (List.mem_append_left _ (List.mem_append_right _ h))))
theorem l_X7_init_21 : Cond.methodLink RX7 23 yX0_init ∈ wsX7_init := (List.mem_cons_of_mem _ (List.mem_append_left _ (List.mem_append_left _ (List.mem_append_left _ (List.mem_append_left _ (List.mem_append_left _ (List.mem_append_left _ (List.mem_append_right _ (List.mem_append_left _ (List.mem_of_getElem? (i := 16) rfl))))))))))
theorem l_X7_init_22 : Cond.instanceMethod yX0_init ∈ wsX7_init := (List.mem_cons_of_mem _ (List.mem_append_left _ (List.mem_append_left _ (List.mem_append_left _ (List.mem_append_left _ (List.mem_append_left _ (List.mem_append_left _ (List.mem_append_right _ (List.mem_append_left _ (List.mem_of_getElem? (i := 17) rfl))))))))))
theorem l_X7_init_23 : Cond.fieldLink RX7 26 "CornerStones" "now" "LCornerStones$Game;" ∈ wsX7_init := (List.mem_cons_of_mem _ (List.mem_append_left _ (List.mem_append_left _ (List.mem_append_left _ (List.mem_append_left _ (List.mem_append_left _ (List.mem_append_left _ (List.mem_append_left _ (List.mem_of_getElem? (i := 13) rfl)))))))))
theorem l_X7_init_24 : Cond.fieldLink RX7 30 "CornerStones" "copy" "LCornerStones$Game;" ∈ wsX7_init := (List.mem_cons_of_mem _ (List.mem_append_left _ (List.mem_append_left _ (List.mem_append_left _ (List.mem_append_left _ (List.mem_append_left _ (List.mem_append_left _ (List.mem_append_left _ (List.mem_of_getElem? (i := 14) rfl)))))))))
theorem l_X7_init_25 : Cond.classLink RX7 33 RX4 ∈ wsX7_init := (List.mem_cons_of_mem _ (List.mem_append_left _ (List.mem_append_left _ (List.mem_append_left _ (List.mem_append_left _ (List.mem_append_left _ (List.mem_append_left _ (List.mem_append_left _ (List.mem_of_getElem? (i := 15) rfl)))))))))
theorem l_X7_init_26 : Cond.instantiable RX4 3 ∈ wsX7_init := (List.mem_cons_of_mem _ (List.mem_append_left _ (List.mem_append_left _ (List.mem_append_left _ (List.mem_append_left _ (List.mem_append_left _ (List.mem_append_left _ (List.mem_append_left _ (List.mem_of_getElem? (i := 16) rfl)))))))))
theorem l_X7_init_27 : Cond.initialized RX4 ∈ wsX7_init := (List.mem_cons_of_mem _ (List.mem_append_left _ (List.mem_append_left _ (List.mem_append_left _ (List.mem_append_left _ (List.mem_append_left _ (List.mem_append_left _ (List.mem_append_left _ (List.mem_of_getElem? (i := 17) rfl)))))))))
theorem i_X7_init_X4 : ∀ w ∈ wsX40, w ∈ wsX7_init := fun _ h => (List.mem_cons_of_mem _ (List.mem_append_left _ (List.mem_append_right _ h)))
theorem l_X7_init_29 : Cond.methodLink RX7 35 yX4_init ∈ wsX7_init := (List.mem_cons_of_mem _ (List.mem_append_left _ (List.mem_append_left _ (List.mem_append_left _ (List.mem_append_left _ (List.mem_append_left _ (List.mem_append_left _ (List.mem_append_right _ (List.mem_append_right _ (List.mem_of_getElem? (i := 0) rfl))))))))))
theorem l_X7_init_30 : Cond.instanceMethod yX4_init ∈ wsX7_init := (List.mem_cons_of_mem _ (List.mem_append_left _ (List.mem_append_left _ (List.mem_append_left _ (List.mem_append_left _ (List.mem_append_left _ (List.mem_append_left _ (List.mem_append_right _ (List.mem_append_right _ (List.mem_of_getElem? (i := 1) rfl))))))))))
theorem l_X7_init_31 : Cond.fieldLink RX7 36 "CornerStones" "memory" "LCornerStones$Memory;" ∈ wsX7_init := (List.mem_cons_of_mem _ (List.mem_append_left _ (List.mem_append_left _ (List.mem_append_left _ (List.mem_append_left _ (List.mem_append_left _ (List.mem_append_left _ (List.mem_append_left _ (List.mem_of_getElem? (i := 18) rfl)))))))))
theorem l_X7_init_32 : Cond.classLink RX7 40 RX6 ∈ wsX7_init := (List.mem_cons_of_mem _ (List.mem_append_left _ (List.mem_append_left _ (List.mem_append_left _ (List.mem_append_left _ (List.mem_append_left _ (List.mem_append_left _ (List.mem_append_left _ (List.mem_of_getElem? (i := 19) rfl)))))))))
theorem l_X7_init_33 : Cond.instantiable RX6 2 ∈ wsX7_init := (List.mem_cons_of_mem _ (List.mem_append_left _ (List.mem_append_left _ (List.mem_append_left _ (List.mem_append_left _ (List.mem_append_left _ (List.mem_append_left _ (List.mem_append_left _ (List.mem_of_getElem? (i := 20) rfl)))))))))
theorem l_X7_init_34 : Cond.initialized RX6 ∈ wsX7_init := (List.mem_cons_of_mem _ (List.mem_append_left _ (List.mem_append_left _ (List.mem_append_left _ (List.mem_append_left _ (List.mem_append_left _ (List.mem_append_left _ (List.mem_append_left _ (List.mem_of_getElem? (i := 21) rfl)))))))))
theorem i_X7_init_X6 : ∀ w ∈ wsX60, w ∈ wsX7_init := fun _ h => (List.mem_cons_of_mem _ (List.mem_append_right _ h))
theorem l_X7_init_36 : Cond.methodLink RX7 42 yX6_init ∈ wsX7_init := (List.mem_cons_of_mem _ (List.mem_append_left _ (List.mem_append_left _ (List.mem_append_left _ (List.mem_append_left _ (List.mem_append_left _ (List.mem_append_left _ (List.mem_append_right _ (List.mem_append_right _ (List.mem_of_getElem? (i := 7) rfl))))))))))
theorem l_X7_init_37 : Cond.instanceMethod yX6_init ∈ wsX7_init := (List.mem_cons_of_mem _ (List.mem_append_left _ (List.mem_append_left _ (List.mem_append_left _ (List.mem_append_left _ (List.mem_append_left _ (List.mem_append_left _ (List.mem_append_right _ (List.mem_append_right _ (List.mem_of_getElem? (i := 8) rfl))))))))))
theorem l_X7_init_38 : Cond.fieldLink RX7 43 "CornerStones" "slot0" "LCornerStones$Slot;" ∈ wsX7_init := (List.mem_cons_of_mem _ (List.mem_append_left _ (List.mem_append_left _ (List.mem_append_left _ (List.mem_append_left _ (List.mem_append_left _ (List.mem_append_left _ (List.mem_append_left _ (List.mem_of_getElem? (i := 22) rfl)))))))))
theorem l_X7_init_39 : Cond.fieldLink RX7 47 "CornerStones" "slot1" "LCornerStones$Slot;" ∈ wsX7_init := (List.mem_cons_of_mem _ (List.mem_append_left _ (List.mem_append_left _ (List.mem_append_left _ (List.mem_append_left _ (List.mem_append_left _ (List.mem_append_left _ (List.mem_append_left _ (List.mem_of_getElem? (i := 23) rfl)))))))))
theorem q_X7_init : yX7_init.cls ≠ "java/lang/invoke/MethodHandle" ∧ yX7_init.cls ≠ "java/lang/invoke/VarHandle" ∧ (parseMethodDescriptor yX7_init.desc).map (fun d => d.parameters.length) = some 0 := by decide +kernel
def fX7_init  : Option ((Int32 × Int32 × Int64 × Int64 × Int64) × Int32 × (Nat → Int32) × (Int32 × Int32 × Int32 × Int32 × Int64 × Int64 × Int32 × Int32) × (Nat → Int64) × (Nat → Int64) × (Int32 × Int32 × Int32 × Int32 × Int64 × Int64 × Int32 × Int32) × (Nat → Int64) × (Nat → Int64) × (Int32 × Int32) × Bool × (Int32 × Int32 × Int32 × Int32 × Int64 × Int64 × Int32 × Int32) × (Nat → Int64) × (Nat → Int64) × Bool × (Int32 × Int32 × Int32 × Int32 × Int64 × Int64 × Int32 × Int32) × (Nat → Int64) × (Nat → Int64)) := (fX2_init 5).bind fun r4 => bnd (fX1_init ) fun r11 => bnd (fX0_init ) fun r21 => bnd (fX0_init ) fun r32 => bnd (fX6_init ) fun r52 => bnd (fX6_init ) fun r64 => some ((r4, r11.1, r11.2, r21.1, r21.2.1, r21.2.2, r32.1, r32.2.1, r32.2.2, ((0 : Int32), (0 : Int32)), r52.1, r52.2.1, r52.2.2.1, r52.2.2.2, r64.1, r64.2.1, r64.2.2.1, r64.2.2.2))
set_option maxHeartbeats 4000000 in
set_option maxRecDepth 100000 in
theorem c_X7_init {l : Launch} {z : Nat} {D : va_G} {K : Nat → ClassId} {σ : mwm} {a_t : Nat}  (hc_t : σ a_t = some (.inr (5, [.null, .null, .null, .null, .null, .null]))) {v : (Int32 × Int32 × Int64 × Int64 × Int64) × Int32 × (Nat → Int32) × (Int32 × Int32 × Int32 × Int32 × Int64 × Int64 × Int32 × Int32) × (Nat → Int64) × (Nat → Int64) × (Int32 × Int32 × Int32 × Int32 × Int64 × Int64 × Int32 × Int32) × (Nat → Int64) × (Nat → Int64) × (Int32 × Int32) × Bool × (Int32 × Int32 × Int32 × Int32 × Int64 × Int64 × Int32 × Int32) × (Nat → Int64) × (Nat → Int64) × Bool × (Int32 × Int32 × Int32 × Int32 × Int64 × Int64 × Int32 × Int32) × (Nat → Int64) × (Nat → Int64)} (h : fX7_init  = some v) : Met l yX7_init wsX7_init ({ frames := 3, cells := 61, slots := 4702, locals := 67 } : Room) (PCx z D K [.ref a_t] σ) (qwV z D (fun σ2 => ∃ a_q1 a_q2 a_q3 a_q4 a_q5 a_q6 a_q7 a_q8 a_q9 a_q10 a_q11 a_q12 a_q13 a_q14 a_q15 a_q16 a_q17 a_q18 a_q19 : Nat, ∃ (adr : Nat → Nat) (fr : Nat → Option Nat), RGm K adr 14 fr (fun _ => a_q1) (fun _ => zGS) (fun _ _ => 0) (fun _ _ => 0) σ2 ∧ adI adr 42 ∧ (∀ k : Nat, k < 42 → adr k ≠ a_t) ∧ (∀ k : Nat, k < 42 → adr k ≠ a_q1) ∧ (∀ k : Nat, k < 42 → adr k ≠ a_q2) ∧ (∀ k : Nat, k < 42 → adr k ≠ a_q3) ∧ (∀ k : Nat, k < 42 → adr k ≠ a_q4) ∧ (∀ k : Nat, k < 42 → adr k ≠ a_q5) ∧ (∀ k : Nat, k < 42 → adr k ≠ a_q6) ∧ (∀ k : Nat, k < 42 → adr k ≠ a_q7) ∧ (∀ k : Nat, k < 42 → adr k ≠ a_q8) ∧ (∀ k : Nat, k < 42 → adr k ≠ a_q9) ∧ (∀ k : Nat, k < 42 → adr k ≠ a_q10) ∧ (∀ k : Nat, k < 42 → adr k ≠ a_q11) ∧ (∀ k : Nat, k < 42 → adr k ≠ a_q12) ∧ (∀ k : Nat, k < 42 → adr k ≠ a_q13) ∧ (∀ k : Nat, k < 42 → adr k ≠ a_q14) ∧ (∀ k : Nat, k < 42 → adr k ≠ a_q15) ∧ (∀ k : Nat, k < 42 → adr k ≠ a_q16) ∧ (∀ k : Nat, k < 42 → adr k ≠ a_q17) ∧ (∀ k : Nat, k < 42 → adr k ≠ a_q18) ∧ (∀ k : Nat, k < 42 → adr k ≠ a_q19) ∧ (∀ k : Nat, k < 42 → ∀ (b : Nat) (e : va_E), σ b = some e → b ≠ adr k) ∧ (∀ (b : Nat) (f : va_E), σ b = some f → b ≠ a_q1) ∧ (∀ (b : Nat) (f : va_E), σ b = some f → b ≠ a_q2) ∧ (∀ (b : Nat) (f : va_E), σ b = some f → b ≠ a_q3) ∧ (∀ (b : Nat) (f : va_E), σ b = some f → b ≠ a_q4) ∧ (∀ (b : Nat) (f : va_E), σ b = some f → b ≠ a_q5) ∧ (∀ (b : Nat) (f : va_E), σ b = some f → b ≠ a_q6) ∧ (∀ (b : Nat) (f : va_E), σ b = some f → b ≠ a_q7) ∧ (∀ (b : Nat) (f : va_E), σ b = some f → b ≠ a_q8) ∧ (∀ (b : Nat) (f : va_E), σ b = some f → b ≠ a_q9) ∧ (∀ (b : Nat) (f : va_E), σ b = some f → b ≠ a_q10) ∧ (∀ (b : Nat) (f : va_E), σ b = some f → b ≠ a_q11) ∧ (∀ (b : Nat) (f : va_E), σ b = some f → b ≠ a_q12) ∧ (∀ (b : Nat) (f : va_E), σ b = some f → b ≠ a_q13) ∧ (∀ (b : Nat) (f : va_E), σ b = some f → b ≠ a_q14) ∧ (∀ (b : Nat) (f : va_E), σ b = some f → b ≠ a_q15) ∧ (∀ (b : Nat) (f : va_E), σ b = some f → b ≠ a_q16) ∧ (∀ (b : Nat) (f : va_E), σ b = some f → b ≠ a_q17) ∧ (∀ (b : Nat) (f : va_E), σ b = some f → b ≠ a_q18) ∧ (∀ (b : Nat) (f : va_E), σ b = some f → b ≠ a_q19) ∧ a_q1 ≠ a_q2 ∧ a_q1 ≠ a_q3 ∧ a_q1 ≠ a_q4 ∧ a_q1 ≠ a_q5 ∧ a_q1 ≠ a_q6 ∧ a_q1 ≠ a_q7 ∧ a_q1 ≠ a_q8 ∧ a_q1 ≠ a_q9 ∧ a_q1 ≠ a_q10 ∧ a_q1 ≠ a_q11 ∧ a_q1 ≠ a_q12 ∧ a_q1 ≠ a_q13 ∧ a_q1 ≠ a_q14 ∧ a_q1 ≠ a_q15 ∧ a_q1 ≠ a_q16 ∧ a_q1 ≠ a_q17 ∧ a_q1 ≠ a_q18 ∧ a_q1 ≠ a_q19 ∧ a_q2 ≠ a_q3 ∧ a_q2 ≠ a_q4 ∧ a_q2 ≠ a_q5 ∧ a_q2 ≠ a_q6 ∧ a_q2 ≠ a_q7 ∧ a_q2 ≠ a_q8 ∧ a_q2 ≠ a_q9 ∧ a_q2 ≠ a_q10 ∧ a_q2 ≠ a_q11 ∧ a_q2 ≠ a_q12 ∧ a_q2 ≠ a_q13 ∧ a_q2 ≠ a_q14 ∧ a_q2 ≠ a_q15 ∧ a_q2 ≠ a_q16 ∧ a_q2 ≠ a_q17 ∧ a_q2 ≠ a_q18 ∧ a_q2 ≠ a_q19 ∧ a_q3 ≠ a_q4 ∧ a_q3 ≠ a_q5 ∧ a_q3 ≠ a_q6 ∧ a_q3 ≠ a_q7 ∧ a_q3 ≠ a_q8 ∧ a_q3 ≠ a_q9 ∧ a_q3 ≠ a_q10 ∧ a_q3 ≠ a_q11 ∧ a_q3 ≠ a_q12 ∧ a_q3 ≠ a_q13 ∧ a_q3 ≠ a_q14 ∧ a_q3 ≠ a_q15 ∧ a_q3 ≠ a_q16 ∧ a_q3 ≠ a_q17 ∧ a_q3 ≠ a_q18 ∧ a_q3 ≠ a_q19 ∧ a_q4 ≠ a_q5 ∧ a_q4 ≠ a_q6 ∧ a_q4 ≠ a_q7 ∧ a_q4 ≠ a_q8 ∧ a_q4 ≠ a_q9 ∧ a_q4 ≠ a_q10 ∧ a_q4 ≠ a_q11 ∧ a_q4 ≠ a_q12 ∧ a_q4 ≠ a_q13 ∧ a_q4 ≠ a_q14 ∧ a_q4 ≠ a_q15 ∧ a_q4 ≠ a_q16 ∧ a_q4 ≠ a_q17 ∧ a_q4 ≠ a_q18 ∧ a_q4 ≠ a_q19 ∧ a_q5 ≠ a_q6 ∧ a_q5 ≠ a_q7 ∧ a_q5 ≠ a_q8 ∧ a_q5 ≠ a_q9 ∧ a_q5 ≠ a_q10 ∧ a_q5 ≠ a_q11 ∧ a_q5 ≠ a_q12 ∧ a_q5 ≠ a_q13 ∧ a_q5 ≠ a_q14 ∧ a_q5 ≠ a_q15 ∧ a_q5 ≠ a_q16 ∧ a_q5 ≠ a_q17 ∧ a_q5 ≠ a_q18 ∧ a_q5 ≠ a_q19 ∧ a_q6 ≠ a_q7 ∧ a_q6 ≠ a_q8 ∧ a_q6 ≠ a_q9 ∧ a_q6 ≠ a_q10 ∧ a_q6 ≠ a_q11 ∧ a_q6 ≠ a_q12 ∧ a_q6 ≠ a_q13 ∧ a_q6 ≠ a_q14 ∧ a_q6 ≠ a_q15 ∧ a_q6 ≠ a_q16 ∧ a_q6 ≠ a_q17 ∧ a_q6 ≠ a_q18 ∧ a_q6 ≠ a_q19 ∧ a_q7 ≠ a_q8 ∧ a_q7 ≠ a_q9 ∧ a_q7 ≠ a_q10 ∧ a_q7 ≠ a_q11 ∧ a_q7 ≠ a_q12 ∧ a_q7 ≠ a_q13 ∧ a_q7 ≠ a_q14 ∧ a_q7 ≠ a_q15 ∧ a_q7 ≠ a_q16 ∧ a_q7 ≠ a_q17 ∧ a_q7 ≠ a_q18 ∧ a_q7 ≠ a_q19 ∧ a_q8 ≠ a_q9 ∧ a_q8 ≠ a_q10 ∧ a_q8 ≠ a_q11 ∧ a_q8 ≠ a_q12 ∧ a_q8 ≠ a_q13 ∧ a_q8 ≠ a_q14 ∧ a_q8 ≠ a_q15 ∧ a_q8 ≠ a_q16 ∧ a_q8 ≠ a_q17 ∧ a_q8 ≠ a_q18 ∧ a_q8 ≠ a_q19 ∧ a_q9 ≠ a_q10 ∧ a_q9 ≠ a_q11 ∧ a_q9 ≠ a_q12 ∧ a_q9 ≠ a_q13 ∧ a_q9 ≠ a_q14 ∧ a_q9 ≠ a_q15 ∧ a_q9 ≠ a_q16 ∧ a_q9 ≠ a_q17 ∧ a_q9 ≠ a_q18 ∧ a_q9 ≠ a_q19 ∧ a_q10 ≠ a_q11 ∧ a_q10 ≠ a_q12 ∧ a_q10 ≠ a_q13 ∧ a_q10 ≠ a_q14 ∧ a_q10 ≠ a_q15 ∧ a_q10 ≠ a_q16 ∧ a_q10 ≠ a_q17 ∧ a_q10 ≠ a_q18 ∧ a_q10 ≠ a_q19 ∧ a_q11 ≠ a_q12 ∧ a_q11 ≠ a_q13 ∧ a_q11 ≠ a_q14 ∧ a_q11 ≠ a_q15 ∧ a_q11 ≠ a_q16 ∧ a_q11 ≠ a_q17 ∧ a_q11 ≠ a_q18 ∧ a_q11 ≠ a_q19 ∧ a_q12 ≠ a_q13 ∧ a_q12 ≠ a_q14 ∧ a_q12 ≠ a_q15 ∧ a_q12 ≠ a_q16 ∧ a_q12 ≠ a_q17 ∧ a_q12 ≠ a_q18 ∧ a_q12 ≠ a_q19 ∧ a_q13 ≠ a_q14 ∧ a_q13 ≠ a_q15 ∧ a_q13 ≠ a_q16 ∧ a_q13 ≠ a_q17 ∧ a_q13 ≠ a_q18 ∧ a_q13 ≠ a_q19 ∧ a_q14 ≠ a_q15 ∧ a_q14 ≠ a_q16 ∧ a_q14 ≠ a_q17 ∧ a_q14 ≠ a_q18 ∧ a_q14 ≠ a_q19 ∧ a_q15 ≠ a_q16 ∧ a_q15 ≠ a_q17 ∧ a_q15 ≠ a_q18 ∧ a_q15 ≠ a_q19 ∧ a_q16 ≠ a_q17 ∧ a_q16 ≠ a_q18 ∧ a_q16 ≠ a_q19 ∧ a_q17 ≠ a_q18 ∧ a_q17 ≠ a_q19 ∧ a_q18 ≠ a_q19 ∧ σ2 a_t = some (cl5 a_q2 a_q4 a_q7 a_q10 a_q12 a_q16) ∧ σ2 a_q1 = some (cl2  v.1) ∧ σ2 a_q2 = some (cl1 a_q3 v.2.1) ∧ σ2 a_q3 = some (eC K 120 v.2.2.1) ∧ σ2 a_q4 = some (cl0 a_q5 a_q6 a_q1 v.2.2.2.1) ∧ σ2 a_q5 = some (eJ K 121 v.2.2.2.2.1) ∧ σ2 a_q6 = some (eJ K 121 v.2.2.2.2.2.1) ∧ σ2 a_q7 = some (cl0 a_q8 a_q9 a_q1 v.2.2.2.2.2.2.1) ∧ σ2 a_q8 = some (eJ K 121 v.2.2.2.2.2.2.2.1) ∧ σ2 a_q9 = some (eJ K 121 v.2.2.2.2.2.2.2.2.1) ∧ σ2 a_q10 = some (cl3 a_q11 v.2.2.2.2.2.2.2.2.2.1) ∧ σ2 a_q11 = some (eQ K 14 fr) ∧ σ2 a_q12 = some (cl4 a_q13 v.2.2.2.2.2.2.2.2.2.2.1) ∧ σ2 a_q13 = some (cl0 a_q14 a_q15 a_q1 v.2.2.2.2.2.2.2.2.2.2.2.1) ∧ σ2 a_q14 = some (eJ K 121 v.2.2.2.2.2.2.2.2.2.2.2.2.1) ∧ σ2 a_q15 = some (eJ K 121 v.2.2.2.2.2.2.2.2.2.2.2.2.2.1) ∧ σ2 a_q16 = some (cl4 a_q17 v.2.2.2.2.2.2.2.2.2.2.2.2.2.2.1) ∧ σ2 a_q17 = some (cl0 a_q18 a_q19 a_q1 v.2.2.2.2.2.2.2.2.2.2.2.2.2.2.2.1) ∧ σ2 a_q18 = some (eJ K 121 v.2.2.2.2.2.2.2.2.2.2.2.2.2.2.2.2.1) ∧ σ2 a_q19 = some (eJ K 121 v.2.2.2.2.2.2.2.2.2.2.2.2.2.2.2.2.2) ∧ ∀ (q : Nat) (f : va_E), σ q = some f → q ≠ a_t → σ2 q = some f)) 61 4702 (zA z) := by
  refine my_enter (cc := cX7_init) (maxL := 2) (ret := none) (own := RX7) (lv := [(0, .ref a_t)]) (by decide) rfl rfl (Nat.le_of_ble_eq_true rfl) rfl ?_
  intro p e s m below meth c ls hC hx hb hown hts hK hr hlocks hnm hz hM hS hl hX
  unfold fX7_init at h
  refine lv_aload_n hx hb dX7_init_0 rfl (lv_at hl 0 rfl) ?_
  refine W.objInit hx hb hown (hts _ l_X7_init_0) (hts _ l_X7_init_1) (hts _ l_X7_init_2) rfl (by rw [hC.1.2.2.1]; exact hl.1) rfl dX7_init_1 (Nat.le_of_ble_eq_true rfl) (Nat.le_of_ble_eq_true rfl) ?_
  refine W.eq (g2 := F0 m 4 ls []) rfl ?_
  refine mw_new (ci := 2) (C := RX2) (T := TX2) (N := 5) (fs := [.int 0, .int 0, .long 0, .long 0, .long 0]) hC i_X7_init_X2 tyX2 tyX2_ok l_X7_init_3 l_X7_init_4 l_X7_init_5 hM hS rfl (fun j hj => by rcases (show j = 0 ∨ j = 1 ∨ j = 2 ∨ j = 3 ∨ j = 4 by omega) with rfl | rfl | rfl | rfl | rfl <;> rfl) (Nat.le_of_ble_eq_true rfl) (Nat.le_of_ble_eq_true rfl) dX7_init_4 (fun a_q1 H σ1 hM hS hc_q1 ho1 hq2 => ?_)
  have n_t_q1 : a_t ≠ a_q1 := hq2 a_t _ hc_t
  have hqf_q1 : ∀ (b : Nat) (f : va_E), σ b = some f → b ≠ a_q1 := by
    intro b f hb
    by_cases e0 : b = a_t
    · rw [e0]; exact n_t_q1
    exact hq2 b f hb
  replace hc_t := ho1 a_t _ hc_t 
  have hf3 := fun (q : Nat) (f : va_E) (hf : σ q = some f) (n0 : q ≠ a_t) => ho1 q f hf 
  replace hc_q1 : σ1 a_q1 = some (cl2  ((0 : Int32), (0 : Int32), (0 : Int64), (0 : Int64), (0 : Int64))) := hc_q1
  refine W.widen (k := 1) (n := 5) (Nat.le_of_ble_eq_true rfl) (Nat.le_of_ble_eq_true rfl) ?_
  refine lv_dup hx hb dX7_init_7 rfl ?_
  refine lv_iconst (v := 5) hx hb dX7_init_8 (by decide) ?_
  obtain ⟨r4, hr4, h⟩ := ob_some h
  refine mw_wv (mw_runI (As := [.int 5]) (rest := [.ref a_q1]) hC hM hS (c_X2_init (a_t := a_q1) (p0 := 5) (hc_t := hc_q1) (v := r4) hr4) gX7_init_X2_init rfl rfl rfl l_X7_init_5 l_X7_init_7 l_X7_init_8 rfl q_X2_init ⟨Nat.le_of_ble_eq_true rfl, Nat.le_of_ble_eq_true rfl⟩ rfl rfl (Nat.le_of_ble_eq_true rfl) hl.1 dX7_init_9 ⟨Nat.le_of_ble_eq_true rfl, Nat.le_of_ble_eq_true rfl⟩) hS (fun H locs σ1 hp6 hM hS => ?_)
  obtain ⟨hc_q1, ho5⟩ := hp6
  replace hc_t := ho5 a_t _ hc_t n_t_q1
  have hf7 := fun (q : Nat) (f : va_E) (hf : σ q = some f) (n0 : q ≠ a_t) => ho5 q f (hf3 q f hf n0) (hqf_q1 q f hf)
  refine lv_astore_n (lv' := [(1, .ref a_q1), (0, .ref a_t)]) hx hb dX7_init_12 rfl hl (by decide) rfl (fun ls hl => ?_)
  refine lv_aload_n hx hb dX7_init_13 rfl (lv_at hl 1 rfl) ?_
  refine mw_new (ci := 1) (C := RX1) (T := TX1) (N := 2) (fs := [.null, .int 0]) hC i_X7_init_X1 tyX1 tyX1_ok l_X7_init_9 l_X7_init_10 l_X7_init_11 hM hS rfl (fun j hj => by rcases (show j = 0 ∨ j = 1 by omega) with rfl | rfl <;> rfl) (Nat.le_of_ble_eq_true rfl) (Nat.le_of_ble_eq_true rfl) dX7_init_14 (fun a_q2 H σ1 hM hS hc_q2 ho8 hq9 => ?_)
  have n_t_q2 : a_t ≠ a_q2 := hq9 a_t _ hc_t
  have n_q1_q2 : a_q1 ≠ a_q2 := hq9 a_q1 _ hc_q1
  have hqf_q2 : ∀ (b : Nat) (f : va_E), σ b = some f → b ≠ a_q2 := by
    intro b f hb
    by_cases e0 : b = a_t
    · rw [e0]; exact n_t_q2
    exact hq9 b f (hf7 b f hb e0)
  replace hc_t := ho8 a_t _ hc_t 
  replace hc_q1 := ho8 a_q1 _ hc_q1 
  have hf10 := fun (q : Nat) (f : va_E) (hf : σ q = some f) (n0 : q ≠ a_t) => ho8 q f (hf7 q f hf n0) 
  replace hc_q2 : σ1 a_q2 = some (.inr (1, [.null, .int (0 : Int32)])) := hc_q2
  refine W.widen (k := 2) (n := 7) (Nat.le_of_ble_eq_true rfl) (Nat.le_of_ble_eq_true rfl) ?_
  refine lv_dup hx hb dX7_init_17 rfl ?_
  obtain ⟨r11, hr11⟩ : ∃ x, fX1_init  = x := ⟨_, rfl⟩
  replace h := bnd_at hr11.symm h
  refine mw_wv (mw_runI (As := []) (rest := [.ref a_q2, .ref a_t]) hC hM hS (c_X1_init (a_t := a_q2) (hc_t := hc_q2) (v := r11) hr11) gX7_init_X1_init rfl rfl rfl l_X7_init_11 l_X7_init_13 l_X7_init_14 rfl q_X1_init ⟨Nat.le_of_ble_eq_true rfl, Nat.le_of_ble_eq_true rfl⟩ rfl rfl (Nat.le_of_ble_eq_true rfl) hl.1 dX7_init_18 ⟨Nat.le_of_ble_eq_true rfl, Nat.le_of_ble_eq_true rfl⟩) hS (fun H locs σ1 hp13 hM hS => ?_)
  have ho_t := hc_t
  have ho_q1 := hc_q1
  have ho_q2 := hc_q2
  obtain ⟨a_q3, hq14, hc_q2, hc_q3, ho12⟩ := hp13
  have n_t_q3 : a_t ≠ a_q3 := hq14 a_t _ ho_t
  have n_q1_q3 : a_q1 ≠ a_q3 := hq14 a_q1 _ ho_q1
  have n_q2_q3 : a_q2 ≠ a_q3 := hq14 a_q2 _ ho_q2
  have hqf_q3 : ∀ (b : Nat) (f : va_E), σ b = some f → b ≠ a_q3 := by
    intro b f hb
    by_cases e0 : b = a_t
    · rw [e0]; exact n_t_q3
    exact hq14 b f (hf10 b f hb e0)
  replace hc_t := ho12 a_t _ hc_t n_t_q2
  replace hc_q1 := ho12 a_q1 _ hc_q1 n_q1_q2
  have hf15 := fun (q : Nat) (f : va_E) (hf : σ q = some f) (n0 : q ≠ a_t) => ho12 q f (hf10 q f hf n0) (hqf_q2 q f hf)
  refine W.widen (k := 3) (n := 127) (Nat.le_of_ble_eq_true rfl) (Nat.le_of_ble_eq_true rfl) ?_
  refine mw_putF (ci := 5) (C := RX7) (T := TX7) (N := 6) (ty := (tyX7 0)) hC i_X7_init_X7 tyX7 tyX7_ok nmX7 hM hS hc_t rfl 0 (by decide) l_X7_init_15 rfl rfl hnm rfl (by decide +kernel) rfl rfl (Nat.le_of_ble_eq_true rfl) dX7_init_21 (fun H locs σ1 hM hS hc_t ho16 => ?_)
  replace hc_t : σ1 a_t = some (.inr (5, [.ref a_q2, .null, .null, .null, .null, .null])) := hc_t
  replace hc_q1 := ho16 a_q1 _ hc_q1 (Ne.symm n_t_q1)
  replace hc_q2 := ho16 a_q2 _ hc_q2 (Ne.symm n_t_q2)
  replace hc_q3 := ho16 a_q3 _ hc_q3 (Ne.symm n_t_q3)
  have hf17 := fun (q : Nat) (f : va_E) (hf : σ q = some f) (n0 : q ≠ a_t) => ho16 q f (hf15 q f hf n0) n0
  refine lv_aload_n hx hb dX7_init_24 rfl (lv_at hl 1 rfl) ?_
  refine mw_new (ci := 0) (C := RX0) (T := TX0) (N := 11) (fs := [.null, .null, .null, .int 0, .int 0, .int 0, .int 0, .long 0, .long 0, .int 0, .int 0]) hC i_X7_init_X0 tyX0 tyX0_ok l_X7_init_17 l_X7_init_18 l_X7_init_19 hM hS rfl (fun j hj => by rcases (show j = 0 ∨ j = 1 ∨ j = 2 ∨ j = 3 ∨ j = 4 ∨ j = 5 ∨ j = 6 ∨ j = 7 ∨ j = 8 ∨ j = 9 ∨ j = 10 by omega) with rfl | rfl | rfl | rfl | rfl | rfl | rfl | rfl | rfl | rfl | rfl <;> rfl) (Nat.le_of_ble_eq_true rfl) (Nat.le_of_ble_eq_true rfl) dX7_init_25 (fun a_q4 H σ1 hM hS hc_q4 ho18 hq19 => ?_)
  have n_t_q4 : a_t ≠ a_q4 := hq19 a_t _ hc_t
  have n_q1_q4 : a_q1 ≠ a_q4 := hq19 a_q1 _ hc_q1
  have n_q2_q4 : a_q2 ≠ a_q4 := hq19 a_q2 _ hc_q2
  have n_q3_q4 : a_q3 ≠ a_q4 := hq19 a_q3 _ hc_q3
  have hqf_q4 : ∀ (b : Nat) (f : va_E), σ b = some f → b ≠ a_q4 := by
    intro b f hb
    by_cases e0 : b = a_t
    · rw [e0]; exact n_t_q4
    exact hq19 b f (hf17 b f hb e0)
  replace hc_t := ho18 a_t _ hc_t 
  replace hc_q1 := ho18 a_q1 _ hc_q1 
  replace hc_q2 := ho18 a_q2 _ hc_q2 
  replace hc_q3 := ho18 a_q3 _ hc_q3 
  have hf20 := fun (q : Nat) (f : va_E) (hf : σ q = some f) (n0 : q ≠ a_t) => ho18 q f (hf17 q f hf n0) 
  replace hc_q4 : σ1 a_q4 = some (.inr (0, [.null, .null, .null, .int (0 : Int32), .int (0 : Int32), .int (0 : Int32), .int (0 : Int32), .long (0 : Int64), .long (0 : Int64), .int (0 : Int32), .int (0 : Int32)])) := hc_q4
  refine W.widen (k := 4) (n := 138) (Nat.le_of_ble_eq_true rfl) (Nat.le_of_ble_eq_true rfl) ?_
  refine lv_dup hx hb dX7_init_28 rfl ?_
  refine lv_aload_n hx hb dX7_init_29 rfl (lv_at hl 0 rfl) ?_
  obtain ⟨r21, hr21⟩ : ∃ x, fX0_init  = x := ⟨_, rfl⟩
  replace h := bnd_at hr21.symm h
  refine mw_wv (mw_runI (As := [.ref a_q1]) (rest := [.ref a_q4, .ref a_t]) hC hM hS (c_X0_init (a_t := a_q4) (a_p0 := a_q1) (hc_t := hc_q4) (v := r21) hr21) gX7_init_X0_init rfl rfl rfl l_X7_init_19 l_X7_init_21 l_X7_init_22 rfl q_X0_init ⟨Nat.le_of_ble_eq_true rfl, Nat.le_of_ble_eq_true rfl⟩ rfl rfl (Nat.le_of_ble_eq_true rfl) hl.1 dX7_init_30 ⟨Nat.le_of_ble_eq_true rfl, Nat.le_of_ble_eq_true rfl⟩) hS (fun H locs σ1 hp23 hM hS => ?_)
  have ho_t := hc_t
  have ho_q1 := hc_q1
  have ho_q2 := hc_q2
  have ho_q3 := hc_q3
  have ho_q4 := hc_q4
  obtain ⟨a_q5, a_q6, hq24, hq25, n_q5_q6, hc_q4, hc_q5, hc_q6, ho22⟩ := hp23
  have n_t_q5 : a_t ≠ a_q5 := hq24 a_t _ ho_t
  have n_q1_q5 : a_q1 ≠ a_q5 := hq24 a_q1 _ ho_q1
  have n_q2_q5 : a_q2 ≠ a_q5 := hq24 a_q2 _ ho_q2
  have n_q3_q5 : a_q3 ≠ a_q5 := hq24 a_q3 _ ho_q3
  have n_q4_q5 : a_q4 ≠ a_q5 := hq24 a_q4 _ ho_q4
  have n_t_q6 : a_t ≠ a_q6 := hq25 a_t _ ho_t
  have n_q1_q6 : a_q1 ≠ a_q6 := hq25 a_q1 _ ho_q1
  have n_q2_q6 : a_q2 ≠ a_q6 := hq25 a_q2 _ ho_q2
  have n_q3_q6 : a_q3 ≠ a_q6 := hq25 a_q3 _ ho_q3
  have n_q4_q6 : a_q4 ≠ a_q6 := hq25 a_q4 _ ho_q4
  have hqf_q5 : ∀ (b : Nat) (f : va_E), σ b = some f → b ≠ a_q5 := by
    intro b f hb
    by_cases e0 : b = a_t
    · rw [e0]; exact n_t_q5
    exact hq24 b f (hf20 b f hb e0)
  have hqf_q6 : ∀ (b : Nat) (f : va_E), σ b = some f → b ≠ a_q6 := by
    intro b f hb
    by_cases e0 : b = a_t
    · rw [e0]; exact n_t_q6
    exact hq25 b f (hf20 b f hb e0)
  replace hc_t := ho22 a_t _ hc_t n_t_q4
  replace hc_q1 := ho22 a_q1 _ hc_q1 n_q1_q4
  replace hc_q2 := ho22 a_q2 _ hc_q2 n_q2_q4
  replace hc_q3 := ho22 a_q3 _ hc_q3 n_q3_q4
  have hf26 := fun (q : Nat) (f : va_E) (hf : σ q = some f) (n0 : q ≠ a_t) => ho22 q f (hf20 q f hf n0) (hqf_q4 q f hf)
  refine W.widen (k := 6) (n := 380) (Nat.le_of_ble_eq_true rfl) (Nat.le_of_ble_eq_true rfl) ?_
  refine mw_putF (ci := 5) (C := RX7) (T := TX7) (N := 6) (ty := (tyX7 1)) hC i_X7_init_X7 tyX7 tyX7_ok nmX7 hM hS hc_t rfl 1 (by decide) l_X7_init_23 rfl rfl hnm rfl (by decide +kernel) rfl rfl (Nat.le_of_ble_eq_true rfl) dX7_init_33 (fun H locs σ1 hM hS hc_t ho27 => ?_)
  replace hc_t : σ1 a_t = some (.inr (5, [.ref a_q2, .ref a_q4, .null, .null, .null, .null])) := hc_t
  replace hc_q1 := ho27 a_q1 _ hc_q1 (Ne.symm n_t_q1)
  replace hc_q2 := ho27 a_q2 _ hc_q2 (Ne.symm n_t_q2)
  replace hc_q3 := ho27 a_q3 _ hc_q3 (Ne.symm n_t_q3)
  replace hc_q4 := ho27 a_q4 _ hc_q4 (Ne.symm n_t_q4)
  replace hc_q5 := ho27 a_q5 _ hc_q5 (Ne.symm n_t_q5)
  replace hc_q6 := ho27 a_q6 _ hc_q6 (Ne.symm n_t_q6)
  have hf28 := fun (q : Nat) (f : va_E) (hf : σ q = some f) (n0 : q ≠ a_t) => ho27 q f (hf26 q f hf n0) n0
  refine lv_aload_n hx hb dX7_init_36 rfl (lv_at hl 1 rfl) ?_
  refine mw_new (ci := 0) (C := RX0) (T := TX0) (N := 11) (fs := [.null, .null, .null, .int 0, .int 0, .int 0, .int 0, .long 0, .long 0, .int 0, .int 0]) hC i_X7_init_X0 tyX0 tyX0_ok l_X7_init_17 l_X7_init_18 l_X7_init_19 hM hS rfl (fun j hj => by rcases (show j = 0 ∨ j = 1 ∨ j = 2 ∨ j = 3 ∨ j = 4 ∨ j = 5 ∨ j = 6 ∨ j = 7 ∨ j = 8 ∨ j = 9 ∨ j = 10 by omega) with rfl | rfl | rfl | rfl | rfl | rfl | rfl | rfl | rfl | rfl | rfl <;> rfl) (Nat.le_of_ble_eq_true rfl) (Nat.le_of_ble_eq_true rfl) dX7_init_37 (fun a_q7 H σ1 hM hS hc_q7 ho29 hq30 => ?_)
  have n_t_q7 : a_t ≠ a_q7 := hq30 a_t _ hc_t
  have n_q1_q7 : a_q1 ≠ a_q7 := hq30 a_q1 _ hc_q1
  have n_q2_q7 : a_q2 ≠ a_q7 := hq30 a_q2 _ hc_q2
  have n_q3_q7 : a_q3 ≠ a_q7 := hq30 a_q3 _ hc_q3
  have n_q4_q7 : a_q4 ≠ a_q7 := hq30 a_q4 _ hc_q4
  have n_q5_q7 : a_q5 ≠ a_q7 := hq30 a_q5 _ hc_q5
  have n_q6_q7 : a_q6 ≠ a_q7 := hq30 a_q6 _ hc_q6
  have hqf_q7 : ∀ (b : Nat) (f : va_E), σ b = some f → b ≠ a_q7 := by
    intro b f hb
    by_cases e0 : b = a_t
    · rw [e0]; exact n_t_q7
    exact hq30 b f (hf28 b f hb e0)
  replace hc_t := ho29 a_t _ hc_t 
  replace hc_q1 := ho29 a_q1 _ hc_q1 
  replace hc_q2 := ho29 a_q2 _ hc_q2 
  replace hc_q3 := ho29 a_q3 _ hc_q3 
  replace hc_q4 := ho29 a_q4 _ hc_q4 
  replace hc_q5 := ho29 a_q5 _ hc_q5 
  replace hc_q6 := ho29 a_q6 _ hc_q6 
  have hf31 := fun (q : Nat) (f : va_E) (hf : σ q = some f) (n0 : q ≠ a_t) => ho29 q f (hf28 q f hf n0) 
  replace hc_q7 : σ1 a_q7 = some (.inr (0, [.null, .null, .null, .int (0 : Int32), .int (0 : Int32), .int (0 : Int32), .int (0 : Int32), .long (0 : Int64), .long (0 : Int64), .int (0 : Int32), .int (0 : Int32)])) := hc_q7
  refine W.widen (k := 7) (n := 391) (Nat.le_of_ble_eq_true rfl) (Nat.le_of_ble_eq_true rfl) ?_
  refine lv_dup hx hb dX7_init_40 rfl ?_
  refine lv_aload_n hx hb dX7_init_41 rfl (lv_at hl 0 rfl) ?_
  obtain ⟨r32, hr32⟩ : ∃ x, fX0_init  = x := ⟨_, rfl⟩
  replace h := bnd_at hr32.symm h
  refine mw_wv (mw_runI (As := [.ref a_q1]) (rest := [.ref a_q7, .ref a_t]) hC hM hS (c_X0_init (a_t := a_q7) (a_p0 := a_q1) (hc_t := hc_q7) (v := r32) hr32) gX7_init_X0_init rfl rfl rfl l_X7_init_19 l_X7_init_21 l_X7_init_22 rfl q_X0_init ⟨Nat.le_of_ble_eq_true rfl, Nat.le_of_ble_eq_true rfl⟩ rfl rfl (Nat.le_of_ble_eq_true rfl) hl.1 dX7_init_42 ⟨Nat.le_of_ble_eq_true rfl, Nat.le_of_ble_eq_true rfl⟩) hS (fun H locs σ1 hp34 hM hS => ?_)
  have ho_t := hc_t
  have ho_q1 := hc_q1
  have ho_q2 := hc_q2
  have ho_q3 := hc_q3
  have ho_q4 := hc_q4
  have ho_q5 := hc_q5
  have ho_q6 := hc_q6
  have ho_q7 := hc_q7
  obtain ⟨a_q8, a_q9, hq35, hq36, n_q8_q9, hc_q7, hc_q8, hc_q9, ho33⟩ := hp34
  have n_t_q8 : a_t ≠ a_q8 := hq35 a_t _ ho_t
  have n_q1_q8 : a_q1 ≠ a_q8 := hq35 a_q1 _ ho_q1
  have n_q2_q8 : a_q2 ≠ a_q8 := hq35 a_q2 _ ho_q2
  have n_q3_q8 : a_q3 ≠ a_q8 := hq35 a_q3 _ ho_q3
  have n_q4_q8 : a_q4 ≠ a_q8 := hq35 a_q4 _ ho_q4
  have n_q5_q8 : a_q5 ≠ a_q8 := hq35 a_q5 _ ho_q5
  have n_q6_q8 : a_q6 ≠ a_q8 := hq35 a_q6 _ ho_q6
  have n_q7_q8 : a_q7 ≠ a_q8 := hq35 a_q7 _ ho_q7
  have n_t_q9 : a_t ≠ a_q9 := hq36 a_t _ ho_t
  have n_q1_q9 : a_q1 ≠ a_q9 := hq36 a_q1 _ ho_q1
  have n_q2_q9 : a_q2 ≠ a_q9 := hq36 a_q2 _ ho_q2
  have n_q3_q9 : a_q3 ≠ a_q9 := hq36 a_q3 _ ho_q3
  have n_q4_q9 : a_q4 ≠ a_q9 := hq36 a_q4 _ ho_q4
  have n_q5_q9 : a_q5 ≠ a_q9 := hq36 a_q5 _ ho_q5
  have n_q6_q9 : a_q6 ≠ a_q9 := hq36 a_q6 _ ho_q6
  have n_q7_q9 : a_q7 ≠ a_q9 := hq36 a_q7 _ ho_q7
  have hqf_q8 : ∀ (b : Nat) (f : va_E), σ b = some f → b ≠ a_q8 := by
    intro b f hb
    by_cases e0 : b = a_t
    · rw [e0]; exact n_t_q8
    exact hq35 b f (hf31 b f hb e0)
  have hqf_q9 : ∀ (b : Nat) (f : va_E), σ b = some f → b ≠ a_q9 := by
    intro b f hb
    by_cases e0 : b = a_t
    · rw [e0]; exact n_t_q9
    exact hq36 b f (hf31 b f hb e0)
  replace hc_t := ho33 a_t _ hc_t n_t_q7
  replace hc_q1 := ho33 a_q1 _ hc_q1 n_q1_q7
  replace hc_q2 := ho33 a_q2 _ hc_q2 n_q2_q7
  replace hc_q3 := ho33 a_q3 _ hc_q3 n_q3_q7
  replace hc_q4 := ho33 a_q4 _ hc_q4 n_q4_q7
  replace hc_q5 := ho33 a_q5 _ hc_q5 n_q5_q7
  replace hc_q6 := ho33 a_q6 _ hc_q6 n_q6_q7
  have hf37 := fun (q : Nat) (f : va_E) (hf : σ q = some f) (n0 : q ≠ a_t) => ho33 q f (hf31 q f hf n0) (hqf_q7 q f hf)
  refine W.widen (k := 9) (n := 633) (Nat.le_of_ble_eq_true rfl) (Nat.le_of_ble_eq_true rfl) ?_
  refine mw_putF (ci := 5) (C := RX7) (T := TX7) (N := 6) (ty := (tyX7 2)) hC i_X7_init_X7 tyX7 tyX7_ok nmX7 hM hS hc_t rfl 2 (by decide) l_X7_init_24 rfl rfl hnm rfl (by decide +kernel) rfl rfl (Nat.le_of_ble_eq_true rfl) dX7_init_45 (fun H locs σ1 hM hS hc_t ho38 => ?_)
  replace hc_t : σ1 a_t = some (.inr (5, [.ref a_q2, .ref a_q4, .ref a_q7, .null, .null, .null])) := hc_t
  replace hc_q1 := ho38 a_q1 _ hc_q1 (Ne.symm n_t_q1)
  replace hc_q2 := ho38 a_q2 _ hc_q2 (Ne.symm n_t_q2)
  replace hc_q3 := ho38 a_q3 _ hc_q3 (Ne.symm n_t_q3)
  replace hc_q4 := ho38 a_q4 _ hc_q4 (Ne.symm n_t_q4)
  replace hc_q5 := ho38 a_q5 _ hc_q5 (Ne.symm n_t_q5)
  replace hc_q6 := ho38 a_q6 _ hc_q6 (Ne.symm n_t_q6)
  replace hc_q7 := ho38 a_q7 _ hc_q7 (Ne.symm n_t_q7)
  replace hc_q8 := ho38 a_q8 _ hc_q8 (Ne.symm n_t_q8)
  replace hc_q9 := ho38 a_q9 _ hc_q9 (Ne.symm n_t_q9)
  have hf39 := fun (q : Nat) (f : va_E) (hf : σ q = some f) (n0 : q ≠ a_t) => ho38 q f (hf37 q f hf n0) n0
  refine lv_aload_n hx hb dX7_init_48 rfl (lv_at hl 1 rfl) ?_
  refine mw_new (ci := 3) (C := RX4) (T := TX4) (N := 3) (fs := [.null, .int 0, .int 0]) hC i_X7_init_X4 tyX4 tyX4_ok l_X7_init_25 l_X7_init_26 l_X7_init_27 hM hS rfl (fun j hj => by rcases (show j = 0 ∨ j = 1 ∨ j = 2 by omega) with rfl | rfl | rfl <;> rfl) (Nat.le_of_ble_eq_true rfl) (Nat.le_of_ble_eq_true rfl) dX7_init_49 (fun a_q10 H σ1 hM hS hc_q10 ho40 hq41 => ?_)
  have n_t_q10 : a_t ≠ a_q10 := hq41 a_t _ hc_t
  have n_q1_q10 : a_q1 ≠ a_q10 := hq41 a_q1 _ hc_q1
  have n_q2_q10 : a_q2 ≠ a_q10 := hq41 a_q2 _ hc_q2
  have n_q3_q10 : a_q3 ≠ a_q10 := hq41 a_q3 _ hc_q3
  have n_q4_q10 : a_q4 ≠ a_q10 := hq41 a_q4 _ hc_q4
  have n_q5_q10 : a_q5 ≠ a_q10 := hq41 a_q5 _ hc_q5
  have n_q6_q10 : a_q6 ≠ a_q10 := hq41 a_q6 _ hc_q6
  have n_q7_q10 : a_q7 ≠ a_q10 := hq41 a_q7 _ hc_q7
  have n_q8_q10 : a_q8 ≠ a_q10 := hq41 a_q8 _ hc_q8
  have n_q9_q10 : a_q9 ≠ a_q10 := hq41 a_q9 _ hc_q9
  have hqf_q10 : ∀ (b : Nat) (f : va_E), σ b = some f → b ≠ a_q10 := by
    intro b f hb
    by_cases e0 : b = a_t
    · rw [e0]; exact n_t_q10
    exact hq41 b f (hf39 b f hb e0)
  replace hc_t := ho40 a_t _ hc_t 
  replace hc_q1 := ho40 a_q1 _ hc_q1 
  replace hc_q2 := ho40 a_q2 _ hc_q2 
  replace hc_q3 := ho40 a_q3 _ hc_q3 
  replace hc_q4 := ho40 a_q4 _ hc_q4 
  replace hc_q5 := ho40 a_q5 _ hc_q5 
  replace hc_q6 := ho40 a_q6 _ hc_q6 
  replace hc_q7 := ho40 a_q7 _ hc_q7 
  replace hc_q8 := ho40 a_q8 _ hc_q8 
  replace hc_q9 := ho40 a_q9 _ hc_q9 
  have hf42 := fun (q : Nat) (f : va_E) (hf : σ q = some f) (n0 : q ≠ a_t) => ho40 q f (hf39 q f hf n0) 
  replace hc_q10 : σ1 a_q10 = some (.inr (3, [.null, .int (0 : Int32), .int (0 : Int32)])) := hc_q10
  refine W.widen (k := 10) (n := 636) (Nat.le_of_ble_eq_true rfl) (Nat.le_of_ble_eq_true rfl) ?_
  refine lv_dup hx hb dX7_init_52 rfl ?_
  refine lv_aload_n hx hb dX7_init_53 rfl (lv_at hl 0 rfl) ?_
  refine mw_wv (my_runI (As := [.ref a_q1]) (rest := [.ref a_q10, .ref a_t]) hC hX hM hS (c_X4_init (a_t := a_q10) (a_p0 := a_q1) (hc_t := hc_q10)) gX7_init_X4_init rfl rfl rfl l_X7_init_27 l_X7_init_29 l_X7_init_30 rfl q_X4_init ⟨Nat.le_of_ble_eq_true rfl, Nat.le_of_ble_eq_true rfl⟩ rfl rfl (Nat.le_of_ble_eq_true rfl) hl.1 dX7_init_54 ⟨Nat.le_of_ble_eq_true rfl, Nat.le_of_ble_eq_true rfl⟩) hS (fun H locs σ1 hp44 hM hS => ?_)
  have ho_t := hc_t
  have ho_q1 := hc_q1
  have ho_q2 := hc_q2
  have ho_q3 := hc_q3
  have ho_q4 := hc_q4
  have ho_q5 := hc_q5
  have ho_q6 := hc_q6
  have ho_q7 := hc_q7
  have ho_q8 := hc_q8
  have ho_q9 := hc_q9
  have ho_q10 := hc_q10
  have hfR := hf42
  obtain ⟨a_q11, adr, fr, hc_q10, ⟨hc_q11, hRG, hRI, hrn_q11, hRb, hq45⟩, ho43⟩ := hp44
  have hrn_t : ∀ k : Nat, k < 42 → adr k ≠ a_t := fun k hk => Ne.symm (hRb k hk a_t _ ho_t)
  have hrn_q1 : ∀ k : Nat, k < 42 → adr k ≠ a_q1 := fun k hk => Ne.symm (hRb k hk a_q1 _ ho_q1)
  have hrn_q2 : ∀ k : Nat, k < 42 → adr k ≠ a_q2 := fun k hk => Ne.symm (hRb k hk a_q2 _ ho_q2)
  have hrn_q3 : ∀ k : Nat, k < 42 → adr k ≠ a_q3 := fun k hk => Ne.symm (hRb k hk a_q3 _ ho_q3)
  have hrn_q4 : ∀ k : Nat, k < 42 → adr k ≠ a_q4 := fun k hk => Ne.symm (hRb k hk a_q4 _ ho_q4)
  have hrn_q5 : ∀ k : Nat, k < 42 → adr k ≠ a_q5 := fun k hk => Ne.symm (hRb k hk a_q5 _ ho_q5)
  have hrn_q6 : ∀ k : Nat, k < 42 → adr k ≠ a_q6 := fun k hk => Ne.symm (hRb k hk a_q6 _ ho_q6)
  have hrn_q7 : ∀ k : Nat, k < 42 → adr k ≠ a_q7 := fun k hk => Ne.symm (hRb k hk a_q7 _ ho_q7)
  have hrn_q8 : ∀ k : Nat, k < 42 → adr k ≠ a_q8 := fun k hk => Ne.symm (hRb k hk a_q8 _ ho_q8)
  have hrn_q9 : ∀ k : Nat, k < 42 → adr k ≠ a_q9 := fun k hk => Ne.symm (hRb k hk a_q9 _ ho_q9)
  have hrn_q10 : ∀ k : Nat, k < 42 → adr k ≠ a_q10 := fun k hk => Ne.symm (hRb k hk a_q10 _ ho_q10)
  have n_t_q11 : a_t ≠ a_q11 := hq45 a_t _ ho_t
  have n_q1_q11 : a_q1 ≠ a_q11 := hq45 a_q1 _ ho_q1
  have n_q2_q11 : a_q2 ≠ a_q11 := hq45 a_q2 _ ho_q2
  have n_q3_q11 : a_q3 ≠ a_q11 := hq45 a_q3 _ ho_q3
  have n_q4_q11 : a_q4 ≠ a_q11 := hq45 a_q4 _ ho_q4
  have n_q5_q11 : a_q5 ≠ a_q11 := hq45 a_q5 _ ho_q5
  have n_q6_q11 : a_q6 ≠ a_q11 := hq45 a_q6 _ ho_q6
  have n_q7_q11 : a_q7 ≠ a_q11 := hq45 a_q7 _ ho_q7
  have n_q8_q11 : a_q8 ≠ a_q11 := hq45 a_q8 _ ho_q8
  have n_q9_q11 : a_q9 ≠ a_q11 := hq45 a_q9 _ ho_q9
  have n_q10_q11 : a_q10 ≠ a_q11 := hq45 a_q10 _ ho_q10
  have hqf_q11 : ∀ (b : Nat) (f : va_E), σ b = some f → b ≠ a_q11 := by
    intro b f hb
    by_cases e0 : b = a_t
    · rw [e0]; exact n_t_q11
    exact hq45 b f (hf42 b f hb e0)
  replace hc_t := ho43 a_t _ hc_t n_t_q10
  replace hc_q1 := ho43 a_q1 _ hc_q1 n_q1_q10
  replace hc_q2 := ho43 a_q2 _ hc_q2 n_q2_q10
  replace hc_q3 := ho43 a_q3 _ hc_q3 n_q3_q10
  replace hc_q4 := ho43 a_q4 _ hc_q4 n_q4_q10
  replace hc_q5 := ho43 a_q5 _ hc_q5 n_q5_q10
  replace hc_q6 := ho43 a_q6 _ hc_q6 n_q6_q10
  replace hc_q7 := ho43 a_q7 _ hc_q7 n_q7_q10
  replace hc_q8 := ho43 a_q8 _ hc_q8 n_q8_q10
  replace hc_q9 := ho43 a_q9 _ hc_q9 n_q9_q10
  have hf46 := fun (q : Nat) (f : va_E) (hf : σ q = some f) (n0 : q ≠ a_t) => ho43 q f (hf42 q f hf n0) (hqf_q10 q f hf)
  refine W.widen (k := 53) (n := 4192) (Nat.le_of_ble_eq_true rfl) (Nat.le_of_ble_eq_true rfl) ?_
  refine mw_putF (ci := 5) (C := RX7) (T := TX7) (N := 6) (ty := (tyX7 3)) hC i_X7_init_X7 tyX7 tyX7_ok nmX7 hM hS hc_t rfl 3 (by decide) l_X7_init_31 rfl rfl hnm rfl (by decide +kernel) rfl rfl (Nat.le_of_ble_eq_true rfl) dX7_init_57 (fun H locs σ1 hM hS hc_t ho47 => ?_)
  replace hc_t : σ1 a_t = some (.inr (5, [.ref a_q2, .ref a_q4, .ref a_q7, .ref a_q10, .null, .null])) := hc_t
  replace hc_q1 := ho47 a_q1 _ hc_q1 (Ne.symm n_t_q1)
  replace hc_q2 := ho47 a_q2 _ hc_q2 (Ne.symm n_t_q2)
  replace hc_q3 := ho47 a_q3 _ hc_q3 (Ne.symm n_t_q3)
  replace hc_q4 := ho47 a_q4 _ hc_q4 (Ne.symm n_t_q4)
  replace hc_q5 := ho47 a_q5 _ hc_q5 (Ne.symm n_t_q5)
  replace hc_q6 := ho47 a_q6 _ hc_q6 (Ne.symm n_t_q6)
  replace hc_q7 := ho47 a_q7 _ hc_q7 (Ne.symm n_t_q7)
  replace hc_q8 := ho47 a_q8 _ hc_q8 (Ne.symm n_t_q8)
  replace hc_q9 := ho47 a_q9 _ hc_q9 (Ne.symm n_t_q9)
  replace hc_q10 := ho47 a_q10 _ hc_q10 (Ne.symm n_t_q10)
  replace hc_q11 := ho47 a_q11 _ hc_q11 (Ne.symm n_t_q11)
  replace hRG := RGm.keep hRG (fun k e hk he => ho47 (adr k) e he (hrn_t k hk))
  have hf48 := fun (q : Nat) (f : va_E) (hf : σ q = some f) (n0 : q ≠ a_t) => ho47 q f (hf46 q f hf n0) n0
  refine lv_aload_n hx hb dX7_init_60 rfl (lv_at hl 1 rfl) ?_
  refine mw_new (ci := 4) (C := RX6) (T := TX6) (N := 2) (fs := [.null, .int 0]) hC i_X7_init_X6 tyX6 tyX6_ok l_X7_init_32 l_X7_init_33 l_X7_init_34 hM hS rfl (fun j hj => by rcases (show j = 0 ∨ j = 1 by omega) with rfl | rfl <;> rfl) (Nat.le_of_ble_eq_true rfl) (Nat.le_of_ble_eq_true rfl) dX7_init_61 (fun a_q12 H σ1 hM hS hc_q12 ho49 hq50 => ?_)
  have hrn_q12 : ∀ k : Nat, k < 42 → adr k ≠ a_q12 := fun k hk => by obtain ⟨e9, he9⟩ := hRG.some k hk; exact hq50 _ _ he9
  have n_t_q12 : a_t ≠ a_q12 := hq50 a_t _ hc_t
  have n_q1_q12 : a_q1 ≠ a_q12 := hq50 a_q1 _ hc_q1
  have n_q2_q12 : a_q2 ≠ a_q12 := hq50 a_q2 _ hc_q2
  have n_q3_q12 : a_q3 ≠ a_q12 := hq50 a_q3 _ hc_q3
  have n_q4_q12 : a_q4 ≠ a_q12 := hq50 a_q4 _ hc_q4
  have n_q5_q12 : a_q5 ≠ a_q12 := hq50 a_q5 _ hc_q5
  have n_q6_q12 : a_q6 ≠ a_q12 := hq50 a_q6 _ hc_q6
  have n_q7_q12 : a_q7 ≠ a_q12 := hq50 a_q7 _ hc_q7
  have n_q8_q12 : a_q8 ≠ a_q12 := hq50 a_q8 _ hc_q8
  have n_q9_q12 : a_q9 ≠ a_q12 := hq50 a_q9 _ hc_q9
  have n_q10_q12 : a_q10 ≠ a_q12 := hq50 a_q10 _ hc_q10
  have n_q11_q12 : a_q11 ≠ a_q12 := hq50 a_q11 _ hc_q11
  have hqf_q12 : ∀ (b : Nat) (f : va_E), σ b = some f → b ≠ a_q12 := by
    intro b f hb
    by_cases e0 : b = a_t
    · rw [e0]; exact n_t_q12
    exact hq50 b f (hf48 b f hb e0)
  replace hc_t := ho49 a_t _ hc_t 
  replace hc_q1 := ho49 a_q1 _ hc_q1 
  replace hc_q2 := ho49 a_q2 _ hc_q2 
  replace hc_q3 := ho49 a_q3 _ hc_q3 
  replace hc_q4 := ho49 a_q4 _ hc_q4 
  replace hc_q5 := ho49 a_q5 _ hc_q5 
  replace hc_q6 := ho49 a_q6 _ hc_q6 
  replace hc_q7 := ho49 a_q7 _ hc_q7 
  replace hc_q8 := ho49 a_q8 _ hc_q8 
  replace hc_q9 := ho49 a_q9 _ hc_q9 
  replace hc_q10 := ho49 a_q10 _ hc_q10 
  replace hc_q11 := ho49 a_q11 _ hc_q11 
  replace hRG := RGm.keep hRG (fun k e hk he => ho49 (adr k) e he )
  have hf51 := fun (q : Nat) (f : va_E) (hf : σ q = some f) (n0 : q ≠ a_t) => ho49 q f (hf48 q f hf n0) 
  replace hc_q12 : σ1 a_q12 = some (.inr (4, [.null, .int (b2i false)])) := hc_q12
  refine W.widen (k := 54) (n := 4194) (Nat.le_of_ble_eq_true rfl) (Nat.le_of_ble_eq_true rfl) ?_
  refine lv_dup hx hb dX7_init_64 rfl ?_
  refine lv_aload_n hx hb dX7_init_65 rfl (lv_at hl 0 rfl) ?_
  obtain ⟨r52, hr52⟩ : ∃ x, fX6_init  = x := ⟨_, rfl⟩
  replace h := bnd_at hr52.symm h
  refine mw_wv (mw_runI (As := [.ref a_q1]) (rest := [.ref a_q12, .ref a_t]) hC hM hS (c_X6_init (a_t := a_q12) (a_p0 := a_q1) (hc_t := hc_q12) (v := r52) hr52) gX7_init_X6_init rfl rfl rfl l_X7_init_34 l_X7_init_36 l_X7_init_37 rfl q_X6_init ⟨Nat.le_of_ble_eq_true rfl, Nat.le_of_ble_eq_true rfl⟩ rfl rfl (Nat.le_of_ble_eq_true rfl) hl.1 dX7_init_66 ⟨Nat.le_of_ble_eq_true rfl, Nat.le_of_ble_eq_true rfl⟩) hS (fun H locs σ1 hp54 hM hS => ?_)
  have ho_t := hc_t
  have ho_q1 := hc_q1
  have ho_q2 := hc_q2
  have ho_q3 := hc_q3
  have ho_q4 := hc_q4
  have ho_q5 := hc_q5
  have ho_q6 := hc_q6
  have ho_q7 := hc_q7
  have ho_q8 := hc_q8
  have ho_q9 := hc_q9
  have ho_q10 := hc_q10
  have ho_q11 := hc_q11
  have ho_q12 := hc_q12
  obtain ⟨a_q13, a_q14, a_q15, hq55, hq56, hq57, n_q13_q14, n_q13_q15, n_q14_q15, hc_q12, hc_q13, hc_q14, hc_q15, ho53⟩ := hp54
  have hrn_q13 : ∀ k : Nat, k < 42 → adr k ≠ a_q13 := fun k hk => by obtain ⟨e9, he9⟩ := hRG.some k hk; exact hq55 _ _ he9
  have hrn_q14 : ∀ k : Nat, k < 42 → adr k ≠ a_q14 := fun k hk => by obtain ⟨e9, he9⟩ := hRG.some k hk; exact hq56 _ _ he9
  have hrn_q15 : ∀ k : Nat, k < 42 → adr k ≠ a_q15 := fun k hk => by obtain ⟨e9, he9⟩ := hRG.some k hk; exact hq57 _ _ he9
  have n_t_q13 : a_t ≠ a_q13 := hq55 a_t _ ho_t
  have n_q1_q13 : a_q1 ≠ a_q13 := hq55 a_q1 _ ho_q1
  have n_q2_q13 : a_q2 ≠ a_q13 := hq55 a_q2 _ ho_q2
  have n_q3_q13 : a_q3 ≠ a_q13 := hq55 a_q3 _ ho_q3
  have n_q4_q13 : a_q4 ≠ a_q13 := hq55 a_q4 _ ho_q4
  have n_q5_q13 : a_q5 ≠ a_q13 := hq55 a_q5 _ ho_q5
  have n_q6_q13 : a_q6 ≠ a_q13 := hq55 a_q6 _ ho_q6
  have n_q7_q13 : a_q7 ≠ a_q13 := hq55 a_q7 _ ho_q7
  have n_q8_q13 : a_q8 ≠ a_q13 := hq55 a_q8 _ ho_q8
  have n_q9_q13 : a_q9 ≠ a_q13 := hq55 a_q9 _ ho_q9
  have n_q10_q13 : a_q10 ≠ a_q13 := hq55 a_q10 _ ho_q10
  have n_q11_q13 : a_q11 ≠ a_q13 := hq55 a_q11 _ ho_q11
  have n_q12_q13 : a_q12 ≠ a_q13 := hq55 a_q12 _ ho_q12
  have n_t_q14 : a_t ≠ a_q14 := hq56 a_t _ ho_t
  have n_q1_q14 : a_q1 ≠ a_q14 := hq56 a_q1 _ ho_q1
  have n_q2_q14 : a_q2 ≠ a_q14 := hq56 a_q2 _ ho_q2
  have n_q3_q14 : a_q3 ≠ a_q14 := hq56 a_q3 _ ho_q3
  have n_q4_q14 : a_q4 ≠ a_q14 := hq56 a_q4 _ ho_q4
  have n_q5_q14 : a_q5 ≠ a_q14 := hq56 a_q5 _ ho_q5
  have n_q6_q14 : a_q6 ≠ a_q14 := hq56 a_q6 _ ho_q6
  have n_q7_q14 : a_q7 ≠ a_q14 := hq56 a_q7 _ ho_q7
  have n_q8_q14 : a_q8 ≠ a_q14 := hq56 a_q8 _ ho_q8
  have n_q9_q14 : a_q9 ≠ a_q14 := hq56 a_q9 _ ho_q9
  have n_q10_q14 : a_q10 ≠ a_q14 := hq56 a_q10 _ ho_q10
  have n_q11_q14 : a_q11 ≠ a_q14 := hq56 a_q11 _ ho_q11
  have n_q12_q14 : a_q12 ≠ a_q14 := hq56 a_q12 _ ho_q12
  have n_t_q15 : a_t ≠ a_q15 := hq57 a_t _ ho_t
  have n_q1_q15 : a_q1 ≠ a_q15 := hq57 a_q1 _ ho_q1
  have n_q2_q15 : a_q2 ≠ a_q15 := hq57 a_q2 _ ho_q2
  have n_q3_q15 : a_q3 ≠ a_q15 := hq57 a_q3 _ ho_q3
  have n_q4_q15 : a_q4 ≠ a_q15 := hq57 a_q4 _ ho_q4
  have n_q5_q15 : a_q5 ≠ a_q15 := hq57 a_q5 _ ho_q5
  have n_q6_q15 : a_q6 ≠ a_q15 := hq57 a_q6 _ ho_q6
  have n_q7_q15 : a_q7 ≠ a_q15 := hq57 a_q7 _ ho_q7
  have n_q8_q15 : a_q8 ≠ a_q15 := hq57 a_q8 _ ho_q8
  have n_q9_q15 : a_q9 ≠ a_q15 := hq57 a_q9 _ ho_q9
  have n_q10_q15 : a_q10 ≠ a_q15 := hq57 a_q10 _ ho_q10
  have n_q11_q15 : a_q11 ≠ a_q15 := hq57 a_q11 _ ho_q11
  have n_q12_q15 : a_q12 ≠ a_q15 := hq57 a_q12 _ ho_q12
  have hqf_q13 : ∀ (b : Nat) (f : va_E), σ b = some f → b ≠ a_q13 := by
    intro b f hb
    by_cases e0 : b = a_t
    · rw [e0]; exact n_t_q13
    exact hq55 b f (hf51 b f hb e0)
  have hqf_q14 : ∀ (b : Nat) (f : va_E), σ b = some f → b ≠ a_q14 := by
    intro b f hb
    by_cases e0 : b = a_t
    · rw [e0]; exact n_t_q14
    exact hq56 b f (hf51 b f hb e0)
  have hqf_q15 : ∀ (b : Nat) (f : va_E), σ b = some f → b ≠ a_q15 := by
    intro b f hb
    by_cases e0 : b = a_t
    · rw [e0]; exact n_t_q15
    exact hq57 b f (hf51 b f hb e0)
  replace hc_t := ho53 a_t _ hc_t n_t_q12
  replace hc_q1 := ho53 a_q1 _ hc_q1 n_q1_q12
  replace hc_q2 := ho53 a_q2 _ hc_q2 n_q2_q12
  replace hc_q3 := ho53 a_q3 _ hc_q3 n_q3_q12
  replace hc_q4 := ho53 a_q4 _ hc_q4 n_q4_q12
  replace hc_q5 := ho53 a_q5 _ hc_q5 n_q5_q12
  replace hc_q6 := ho53 a_q6 _ hc_q6 n_q6_q12
  replace hc_q7 := ho53 a_q7 _ hc_q7 n_q7_q12
  replace hc_q8 := ho53 a_q8 _ hc_q8 n_q8_q12
  replace hc_q9 := ho53 a_q9 _ hc_q9 n_q9_q12
  replace hc_q10 := ho53 a_q10 _ hc_q10 n_q10_q12
  replace hc_q11 := ho53 a_q11 _ hc_q11 n_q11_q12
  replace hRG := RGm.keep hRG (fun k e hk he => ho53 (adr k) e he (hrn_q12 k hk))
  have hf58 := fun (q : Nat) (f : va_E) (hf : σ q = some f) (n0 : q ≠ a_t) => ho53 q f (hf51 q f hf n0) (hqf_q12 q f hf)
  refine W.widen (k := 57) (n := 4447) (Nat.le_of_ble_eq_true rfl) (Nat.le_of_ble_eq_true rfl) ?_
  refine mw_putF (ci := 5) (C := RX7) (T := TX7) (N := 6) (ty := (tyX7 4)) hC i_X7_init_X7 tyX7 tyX7_ok nmX7 hM hS hc_t rfl 4 (by decide) l_X7_init_38 rfl rfl hnm rfl (by decide +kernel) rfl rfl (Nat.le_of_ble_eq_true rfl) dX7_init_69 (fun H locs σ1 hM hS hc_t ho59 => ?_)
  replace hc_t : σ1 a_t = some (.inr (5, [.ref a_q2, .ref a_q4, .ref a_q7, .ref a_q10, .ref a_q12, .null])) := hc_t
  replace hc_q1 := ho59 a_q1 _ hc_q1 (Ne.symm n_t_q1)
  replace hc_q2 := ho59 a_q2 _ hc_q2 (Ne.symm n_t_q2)
  replace hc_q3 := ho59 a_q3 _ hc_q3 (Ne.symm n_t_q3)
  replace hc_q4 := ho59 a_q4 _ hc_q4 (Ne.symm n_t_q4)
  replace hc_q5 := ho59 a_q5 _ hc_q5 (Ne.symm n_t_q5)
  replace hc_q6 := ho59 a_q6 _ hc_q6 (Ne.symm n_t_q6)
  replace hc_q7 := ho59 a_q7 _ hc_q7 (Ne.symm n_t_q7)
  replace hc_q8 := ho59 a_q8 _ hc_q8 (Ne.symm n_t_q8)
  replace hc_q9 := ho59 a_q9 _ hc_q9 (Ne.symm n_t_q9)
  replace hc_q10 := ho59 a_q10 _ hc_q10 (Ne.symm n_t_q10)
  replace hc_q11 := ho59 a_q11 _ hc_q11 (Ne.symm n_t_q11)
  replace hc_q12 := ho59 a_q12 _ hc_q12 (Ne.symm n_t_q12)
  replace hc_q13 := ho59 a_q13 _ hc_q13 (Ne.symm n_t_q13)
  replace hc_q14 := ho59 a_q14 _ hc_q14 (Ne.symm n_t_q14)
  replace hc_q15 := ho59 a_q15 _ hc_q15 (Ne.symm n_t_q15)
  replace hRG := RGm.keep hRG (fun k e hk he => ho59 (adr k) e he (hrn_t k hk))
  have hf60 := fun (q : Nat) (f : va_E) (hf : σ q = some f) (n0 : q ≠ a_t) => ho59 q f (hf58 q f hf n0) n0
  refine lv_aload_n hx hb dX7_init_72 rfl (lv_at hl 1 rfl) ?_
  refine mw_new (ci := 4) (C := RX6) (T := TX6) (N := 2) (fs := [.null, .int 0]) hC i_X7_init_X6 tyX6 tyX6_ok l_X7_init_32 l_X7_init_33 l_X7_init_34 hM hS rfl (fun j hj => by rcases (show j = 0 ∨ j = 1 by omega) with rfl | rfl <;> rfl) (Nat.le_of_ble_eq_true rfl) (Nat.le_of_ble_eq_true rfl) dX7_init_73 (fun a_q16 H σ1 hM hS hc_q16 ho61 hq62 => ?_)
  have hrn_q16 : ∀ k : Nat, k < 42 → adr k ≠ a_q16 := fun k hk => by obtain ⟨e9, he9⟩ := hRG.some k hk; exact hq62 _ _ he9
  have n_t_q16 : a_t ≠ a_q16 := hq62 a_t _ hc_t
  have n_q1_q16 : a_q1 ≠ a_q16 := hq62 a_q1 _ hc_q1
  have n_q2_q16 : a_q2 ≠ a_q16 := hq62 a_q2 _ hc_q2
  have n_q3_q16 : a_q3 ≠ a_q16 := hq62 a_q3 _ hc_q3
  have n_q4_q16 : a_q4 ≠ a_q16 := hq62 a_q4 _ hc_q4
  have n_q5_q16 : a_q5 ≠ a_q16 := hq62 a_q5 _ hc_q5
  have n_q6_q16 : a_q6 ≠ a_q16 := hq62 a_q6 _ hc_q6
  have n_q7_q16 : a_q7 ≠ a_q16 := hq62 a_q7 _ hc_q7
  have n_q8_q16 : a_q8 ≠ a_q16 := hq62 a_q8 _ hc_q8
  have n_q9_q16 : a_q9 ≠ a_q16 := hq62 a_q9 _ hc_q9
  have n_q10_q16 : a_q10 ≠ a_q16 := hq62 a_q10 _ hc_q10
  have n_q11_q16 : a_q11 ≠ a_q16 := hq62 a_q11 _ hc_q11
  have n_q12_q16 : a_q12 ≠ a_q16 := hq62 a_q12 _ hc_q12
  have n_q13_q16 : a_q13 ≠ a_q16 := hq62 a_q13 _ hc_q13
  have n_q14_q16 : a_q14 ≠ a_q16 := hq62 a_q14 _ hc_q14
  have n_q15_q16 : a_q15 ≠ a_q16 := hq62 a_q15 _ hc_q15
  have hqf_q16 : ∀ (b : Nat) (f : va_E), σ b = some f → b ≠ a_q16 := by
    intro b f hb
    by_cases e0 : b = a_t
    · rw [e0]; exact n_t_q16
    exact hq62 b f (hf60 b f hb e0)
  replace hc_t := ho61 a_t _ hc_t 
  replace hc_q1 := ho61 a_q1 _ hc_q1 
  replace hc_q2 := ho61 a_q2 _ hc_q2 
  replace hc_q3 := ho61 a_q3 _ hc_q3 
  replace hc_q4 := ho61 a_q4 _ hc_q4 
  replace hc_q5 := ho61 a_q5 _ hc_q5 
  replace hc_q6 := ho61 a_q6 _ hc_q6 
  replace hc_q7 := ho61 a_q7 _ hc_q7 
  replace hc_q8 := ho61 a_q8 _ hc_q8 
  replace hc_q9 := ho61 a_q9 _ hc_q9 
  replace hc_q10 := ho61 a_q10 _ hc_q10 
  replace hc_q11 := ho61 a_q11 _ hc_q11 
  replace hc_q12 := ho61 a_q12 _ hc_q12 
  replace hc_q13 := ho61 a_q13 _ hc_q13 
  replace hc_q14 := ho61 a_q14 _ hc_q14 
  replace hc_q15 := ho61 a_q15 _ hc_q15 
  replace hRG := RGm.keep hRG (fun k e hk he => ho61 (adr k) e he )
  have hf63 := fun (q : Nat) (f : va_E) (hf : σ q = some f) (n0 : q ≠ a_t) => ho61 q f (hf60 q f hf n0) 
  replace hc_q16 : σ1 a_q16 = some (.inr (4, [.null, .int (b2i false)])) := hc_q16
  refine W.widen (k := 58) (n := 4449) (Nat.le_of_ble_eq_true rfl) (Nat.le_of_ble_eq_true rfl) ?_
  refine lv_dup hx hb dX7_init_76 rfl ?_
  refine lv_aload_n hx hb dX7_init_77 rfl (lv_at hl 0 rfl) ?_
  obtain ⟨r64, hr64⟩ : ∃ x, fX6_init  = x := ⟨_, rfl⟩
  replace h := bnd_at hr64.symm h
  refine mw_wv (mw_runI (As := [.ref a_q1]) (rest := [.ref a_q16, .ref a_t]) hC hM hS (c_X6_init (a_t := a_q16) (a_p0 := a_q1) (hc_t := hc_q16) (v := r64) hr64) gX7_init_X6_init rfl rfl rfl l_X7_init_34 l_X7_init_36 l_X7_init_37 rfl q_X6_init ⟨Nat.le_of_ble_eq_true rfl, Nat.le_of_ble_eq_true rfl⟩ rfl rfl (Nat.le_of_ble_eq_true rfl) hl.1 dX7_init_78 ⟨Nat.le_of_ble_eq_true rfl, Nat.le_of_ble_eq_true rfl⟩) hS (fun H locs σ1 hp66 hM hS => ?_)
  have ho_t := hc_t
  have ho_q1 := hc_q1
  have ho_q2 := hc_q2
  have ho_q3 := hc_q3
  have ho_q4 := hc_q4
  have ho_q5 := hc_q5
  have ho_q6 := hc_q6
  have ho_q7 := hc_q7
  have ho_q8 := hc_q8
  have ho_q9 := hc_q9
  have ho_q10 := hc_q10
  have ho_q11 := hc_q11
  have ho_q12 := hc_q12
  have ho_q13 := hc_q13
  have ho_q14 := hc_q14
  have ho_q15 := hc_q15
  have ho_q16 := hc_q16
  obtain ⟨a_q17, a_q18, a_q19, hq67, hq68, hq69, n_q17_q18, n_q17_q19, n_q18_q19, hc_q16, hc_q17, hc_q18, hc_q19, ho65⟩ := hp66
  have hrn_q17 : ∀ k : Nat, k < 42 → adr k ≠ a_q17 := fun k hk => by obtain ⟨e9, he9⟩ := hRG.some k hk; exact hq67 _ _ he9
  have hrn_q18 : ∀ k : Nat, k < 42 → adr k ≠ a_q18 := fun k hk => by obtain ⟨e9, he9⟩ := hRG.some k hk; exact hq68 _ _ he9
  have hrn_q19 : ∀ k : Nat, k < 42 → adr k ≠ a_q19 := fun k hk => by obtain ⟨e9, he9⟩ := hRG.some k hk; exact hq69 _ _ he9
  have n_t_q17 : a_t ≠ a_q17 := hq67 a_t _ ho_t
  have n_q1_q17 : a_q1 ≠ a_q17 := hq67 a_q1 _ ho_q1
  have n_q2_q17 : a_q2 ≠ a_q17 := hq67 a_q2 _ ho_q2
  have n_q3_q17 : a_q3 ≠ a_q17 := hq67 a_q3 _ ho_q3
  have n_q4_q17 : a_q4 ≠ a_q17 := hq67 a_q4 _ ho_q4
  have n_q5_q17 : a_q5 ≠ a_q17 := hq67 a_q5 _ ho_q5
  have n_q6_q17 : a_q6 ≠ a_q17 := hq67 a_q6 _ ho_q6
  have n_q7_q17 : a_q7 ≠ a_q17 := hq67 a_q7 _ ho_q7
  have n_q8_q17 : a_q8 ≠ a_q17 := hq67 a_q8 _ ho_q8
  have n_q9_q17 : a_q9 ≠ a_q17 := hq67 a_q9 _ ho_q9
  have n_q10_q17 : a_q10 ≠ a_q17 := hq67 a_q10 _ ho_q10
  have n_q11_q17 : a_q11 ≠ a_q17 := hq67 a_q11 _ ho_q11
  have n_q12_q17 : a_q12 ≠ a_q17 := hq67 a_q12 _ ho_q12
  have n_q13_q17 : a_q13 ≠ a_q17 := hq67 a_q13 _ ho_q13
  have n_q14_q17 : a_q14 ≠ a_q17 := hq67 a_q14 _ ho_q14
  have n_q15_q17 : a_q15 ≠ a_q17 := hq67 a_q15 _ ho_q15
  have n_q16_q17 : a_q16 ≠ a_q17 := hq67 a_q16 _ ho_q16
  have n_t_q18 : a_t ≠ a_q18 := hq68 a_t _ ho_t
  have n_q1_q18 : a_q1 ≠ a_q18 := hq68 a_q1 _ ho_q1
  have n_q2_q18 : a_q2 ≠ a_q18 := hq68 a_q2 _ ho_q2
  have n_q3_q18 : a_q3 ≠ a_q18 := hq68 a_q3 _ ho_q3
  have n_q4_q18 : a_q4 ≠ a_q18 := hq68 a_q4 _ ho_q4
  have n_q5_q18 : a_q5 ≠ a_q18 := hq68 a_q5 _ ho_q5
  have n_q6_q18 : a_q6 ≠ a_q18 := hq68 a_q6 _ ho_q6
  have n_q7_q18 : a_q7 ≠ a_q18 := hq68 a_q7 _ ho_q7
  have n_q8_q18 : a_q8 ≠ a_q18 := hq68 a_q8 _ ho_q8
  have n_q9_q18 : a_q9 ≠ a_q18 := hq68 a_q9 _ ho_q9
  have n_q10_q18 : a_q10 ≠ a_q18 := hq68 a_q10 _ ho_q10
  have n_q11_q18 : a_q11 ≠ a_q18 := hq68 a_q11 _ ho_q11
  have n_q12_q18 : a_q12 ≠ a_q18 := hq68 a_q12 _ ho_q12
  have n_q13_q18 : a_q13 ≠ a_q18 := hq68 a_q13 _ ho_q13
  have n_q14_q18 : a_q14 ≠ a_q18 := hq68 a_q14 _ ho_q14
  have n_q15_q18 : a_q15 ≠ a_q18 := hq68 a_q15 _ ho_q15
  have n_q16_q18 : a_q16 ≠ a_q18 := hq68 a_q16 _ ho_q16
  have n_t_q19 : a_t ≠ a_q19 := hq69 a_t _ ho_t
  have n_q1_q19 : a_q1 ≠ a_q19 := hq69 a_q1 _ ho_q1
  have n_q2_q19 : a_q2 ≠ a_q19 := hq69 a_q2 _ ho_q2
  have n_q3_q19 : a_q3 ≠ a_q19 := hq69 a_q3 _ ho_q3
  have n_q4_q19 : a_q4 ≠ a_q19 := hq69 a_q4 _ ho_q4
  have n_q5_q19 : a_q5 ≠ a_q19 := hq69 a_q5 _ ho_q5
  have n_q6_q19 : a_q6 ≠ a_q19 := hq69 a_q6 _ ho_q6
  have n_q7_q19 : a_q7 ≠ a_q19 := hq69 a_q7 _ ho_q7
  have n_q8_q19 : a_q8 ≠ a_q19 := hq69 a_q8 _ ho_q8
  have n_q9_q19 : a_q9 ≠ a_q19 := hq69 a_q9 _ ho_q9
  have n_q10_q19 : a_q10 ≠ a_q19 := hq69 a_q10 _ ho_q10
  have n_q11_q19 : a_q11 ≠ a_q19 := hq69 a_q11 _ ho_q11
  have n_q12_q19 : a_q12 ≠ a_q19 := hq69 a_q12 _ ho_q12
  have n_q13_q19 : a_q13 ≠ a_q19 := hq69 a_q13 _ ho_q13
  have n_q14_q19 : a_q14 ≠ a_q19 := hq69 a_q14 _ ho_q14
  have n_q15_q19 : a_q15 ≠ a_q19 := hq69 a_q15 _ ho_q15
  have n_q16_q19 : a_q16 ≠ a_q19 := hq69 a_q16 _ ho_q16
  have hqf_q17 : ∀ (b : Nat) (f : va_E), σ b = some f → b ≠ a_q17 := by
    intro b f hb
    by_cases e0 : b = a_t
    · rw [e0]; exact n_t_q17
    exact hq67 b f (hf63 b f hb e0)
  have hqf_q18 : ∀ (b : Nat) (f : va_E), σ b = some f → b ≠ a_q18 := by
    intro b f hb
    by_cases e0 : b = a_t
    · rw [e0]; exact n_t_q18
    exact hq68 b f (hf63 b f hb e0)
  have hqf_q19 : ∀ (b : Nat) (f : va_E), σ b = some f → b ≠ a_q19 := by
    intro b f hb
    by_cases e0 : b = a_t
    · rw [e0]; exact n_t_q19
    exact hq69 b f (hf63 b f hb e0)
  replace hc_t := ho65 a_t _ hc_t n_t_q16
  replace hc_q1 := ho65 a_q1 _ hc_q1 n_q1_q16
  replace hc_q2 := ho65 a_q2 _ hc_q2 n_q2_q16
  replace hc_q3 := ho65 a_q3 _ hc_q3 n_q3_q16
  replace hc_q4 := ho65 a_q4 _ hc_q4 n_q4_q16
  replace hc_q5 := ho65 a_q5 _ hc_q5 n_q5_q16
  replace hc_q6 := ho65 a_q6 _ hc_q6 n_q6_q16
  replace hc_q7 := ho65 a_q7 _ hc_q7 n_q7_q16
  replace hc_q8 := ho65 a_q8 _ hc_q8 n_q8_q16
  replace hc_q9 := ho65 a_q9 _ hc_q9 n_q9_q16
  replace hc_q10 := ho65 a_q10 _ hc_q10 n_q10_q16
  replace hc_q11 := ho65 a_q11 _ hc_q11 n_q11_q16
  replace hc_q12 := ho65 a_q12 _ hc_q12 n_q12_q16
  replace hc_q13 := ho65 a_q13 _ hc_q13 n_q13_q16
  replace hc_q14 := ho65 a_q14 _ hc_q14 n_q14_q16
  replace hc_q15 := ho65 a_q15 _ hc_q15 n_q15_q16
  replace hRG := RGm.keep hRG (fun k e hk he => ho65 (adr k) e he (hrn_q16 k hk))
  have hf70 := fun (q : Nat) (f : va_E) (hf : σ q = some f) (n0 : q ≠ a_t) => ho65 q f (hf63 q f hf n0) (hqf_q16 q f hf)
  refine W.widen (k := 61) (n := 4702) (Nat.le_of_ble_eq_true rfl) (Nat.le_of_ble_eq_true rfl) ?_
  refine mw_putF (ci := 5) (C := RX7) (T := TX7) (N := 6) (ty := (tyX7 5)) hC i_X7_init_X7 tyX7 tyX7_ok nmX7 hM hS hc_t rfl 5 (by decide) l_X7_init_39 rfl rfl hnm rfl (by decide +kernel) rfl rfl (Nat.le_of_ble_eq_true rfl) dX7_init_81 (fun H locs σ1 hM hS hc_t ho71 => ?_)
  replace hc_t : σ1 a_t = some (cl5 a_q2 a_q4 a_q7 a_q10 a_q12 a_q16) := hc_t
  replace hc_q1 := ho71 a_q1 _ hc_q1 (Ne.symm n_t_q1)
  replace hc_q2 := ho71 a_q2 _ hc_q2 (Ne.symm n_t_q2)
  replace hc_q3 := ho71 a_q3 _ hc_q3 (Ne.symm n_t_q3)
  replace hc_q4 := ho71 a_q4 _ hc_q4 (Ne.symm n_t_q4)
  replace hc_q5 := ho71 a_q5 _ hc_q5 (Ne.symm n_t_q5)
  replace hc_q6 := ho71 a_q6 _ hc_q6 (Ne.symm n_t_q6)
  replace hc_q7 := ho71 a_q7 _ hc_q7 (Ne.symm n_t_q7)
  replace hc_q8 := ho71 a_q8 _ hc_q8 (Ne.symm n_t_q8)
  replace hc_q9 := ho71 a_q9 _ hc_q9 (Ne.symm n_t_q9)
  replace hc_q10 := ho71 a_q10 _ hc_q10 (Ne.symm n_t_q10)
  replace hc_q11 := ho71 a_q11 _ hc_q11 (Ne.symm n_t_q11)
  replace hc_q12 := ho71 a_q12 _ hc_q12 (Ne.symm n_t_q12)
  replace hc_q13 := ho71 a_q13 _ hc_q13 (Ne.symm n_t_q13)
  replace hc_q14 := ho71 a_q14 _ hc_q14 (Ne.symm n_t_q14)
  replace hc_q15 := ho71 a_q15 _ hc_q15 (Ne.symm n_t_q15)
  replace hc_q16 := ho71 a_q16 _ hc_q16 (Ne.symm n_t_q16)
  replace hc_q17 := ho71 a_q17 _ hc_q17 (Ne.symm n_t_q17)
  replace hc_q18 := ho71 a_q18 _ hc_q18 (Ne.symm n_t_q18)
  replace hc_q19 := ho71 a_q19 _ hc_q19 (Ne.symm n_t_q19)
  replace hRG := RGm.keep hRG (fun k e hk he => ho71 (adr k) e he (hrn_t k hk))
  have hf72 := fun (q : Nat) (f : va_E) (hf : σ q = some f) (n0 : q ≠ a_t) => ho71 q f (hf70 q f hf n0) n0
  cases h
  exact W.vret hx hb hr (fun t ht hW => ⟨⟨_, rfl, ⟨a_q1, a_q2, a_q3, a_q4, a_q5, a_q6, a_q7, a_q8, a_q9, a_q10, a_q11, a_q12, a_q13, a_q14, a_q15, a_q16, a_q17, a_q18, a_q19, adr, fr, hRG, hRI, hrn_t, hrn_q1, hrn_q2, hrn_q3, hrn_q4, hrn_q5, hrn_q6, hrn_q7, hrn_q8, hrn_q9, hrn_q10, hrn_q11, hrn_q12, hrn_q13, hrn_q14, hrn_q15, hrn_q16, hrn_q17, hrn_q18, hrn_q19, (fun k hk b e hb => if hbt : b = a_t then (by rw [hbt]; exact Ne.symm (hrn_t k hk)) else hRb k hk b e (hfR b e hb hbt)), hqf_q1, hqf_q2, hqf_q3, hqf_q4, hqf_q5, hqf_q6, hqf_q7, hqf_q8, hqf_q9, hqf_q10, hqf_q11, hqf_q12, hqf_q13, hqf_q14, hqf_q15, hqf_q16, hqf_q17, hqf_q18, hqf_q19, n_q1_q2, n_q1_q3, n_q1_q4, n_q1_q5, n_q1_q6, n_q1_q7, n_q1_q8, n_q1_q9, n_q1_q10, n_q1_q11, n_q1_q12, n_q1_q13, n_q1_q14, n_q1_q15, n_q1_q16, n_q1_q17, n_q1_q18, n_q1_q19, n_q2_q3, n_q2_q4, n_q2_q5, n_q2_q6, n_q2_q7, n_q2_q8, n_q2_q9, n_q2_q10, n_q2_q11, n_q2_q12, n_q2_q13, n_q2_q14, n_q2_q15, n_q2_q16, n_q2_q17, n_q2_q18, n_q2_q19, n_q3_q4, n_q3_q5, n_q3_q6, n_q3_q7, n_q3_q8, n_q3_q9, n_q3_q10, n_q3_q11, n_q3_q12, n_q3_q13, n_q3_q14, n_q3_q15, n_q3_q16, n_q3_q17, n_q3_q18, n_q3_q19, n_q4_q5, n_q4_q6, n_q4_q7, n_q4_q8, n_q4_q9, n_q4_q10, n_q4_q11, n_q4_q12, n_q4_q13, n_q4_q14, n_q4_q15, n_q4_q16, n_q4_q17, n_q4_q18, n_q4_q19, n_q5_q6, n_q5_q7, n_q5_q8, n_q5_q9, n_q5_q10, n_q5_q11, n_q5_q12, n_q5_q13, n_q5_q14, n_q5_q15, n_q5_q16, n_q5_q17, n_q5_q18, n_q5_q19, n_q6_q7, n_q6_q8, n_q6_q9, n_q6_q10, n_q6_q11, n_q6_q12, n_q6_q13, n_q6_q14, n_q6_q15, n_q6_q16, n_q6_q17, n_q6_q18, n_q6_q19, n_q7_q8, n_q7_q9, n_q7_q10, n_q7_q11, n_q7_q12, n_q7_q13, n_q7_q14, n_q7_q15, n_q7_q16, n_q7_q17, n_q7_q18, n_q7_q19, n_q8_q9, n_q8_q10, n_q8_q11, n_q8_q12, n_q8_q13, n_q8_q14, n_q8_q15, n_q8_q16, n_q8_q17, n_q8_q18, n_q8_q19, n_q9_q10, n_q9_q11, n_q9_q12, n_q9_q13, n_q9_q14, n_q9_q15, n_q9_q16, n_q9_q17, n_q9_q18, n_q9_q19, n_q10_q11, n_q10_q12, n_q10_q13, n_q10_q14, n_q10_q15, n_q10_q16, n_q10_q17, n_q10_q18, n_q10_q19, n_q11_q12, n_q11_q13, n_q11_q14, n_q11_q15, n_q11_q16, n_q11_q17, n_q11_q18, n_q11_q19, n_q12_q13, n_q12_q14, n_q12_q15, n_q12_q16, n_q12_q17, n_q12_q18, n_q12_q19, n_q13_q14, n_q13_q15, n_q13_q16, n_q13_q17, n_q13_q18, n_q13_q19, n_q14_q15, n_q14_q16, n_q14_q17, n_q14_q18, n_q14_q19, n_q15_q16, n_q15_q17, n_q15_q18, n_q15_q19, n_q16_q17, n_q16_q18, n_q16_q19, n_q17_q18, n_q17_q19, n_q18_q19, hc_t, hc_q1, hc_q2, hc_q3, hc_q4, hc_q5, hc_q6, hc_q7, hc_q8, hc_q9, hc_q10, hc_q11, hc_q12, hc_q13, hc_q14, hc_q15, hc_q16, hc_q17, hc_q18, hc_q19, hf72⟩, by show MW z D _ t.heap; rw [ht]; exact hM⟩, hS.F ht⟩) hS.2.2 dX7_init_84 hlocks
