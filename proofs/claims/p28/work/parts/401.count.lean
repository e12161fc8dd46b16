def tn (x : Int64) : Nat := x.toBitVec.toNat
theorem tn_lt (x : Int64) : tn x < 18446744073709551616 := x.toBitVec.isLt
theorem tn_and (a b : Int64) : tn (a &&& b) = tn a &&& tn b := by
  unfold tn
  rw [Int64.toBitVec_and, BitVec.toNat_and]
theorem tn_add (a b : Int64) : tn (a + b) = (tn a + tn b) % 18446744073709551616 := by
  unfold tn
  rw [Int64.toBitVec_add, BitVec.toNat_add]
theorem tn_sub (a b : Int64) : tn (a - b) = (18446744073709551616 - tn b + tn a) % 18446744073709551616 := by
  unfold tn
  rw [Int64.toBitVec_sub, BitVec.toNat_sub]
theorem tn_ushr (x : Int64) {y : Int32} {k : Nat} (hk : k < 64) (hy : y = nI k) : tn (ushrL x y) = tn x / 2 ^ k := by
  subst hy
  unfold tn ushrL
  rw [UInt64.toBitVec_toInt64, UInt64.toBitVec_shiftRight, ush_amt k hk, BitVec.ushiftRight_eq', BitVec.toNat_ushiftRight, BitVec.toNat_ofNat, Nat.mod_eq_of_lt (by omega), Nat.shiftRight_eq_div_pow]
  rfl
theorem tn_tb (x : Int64) (i : Nat) : tb x i = (tn x).testBit i := rfl
def cnN (N : Nat) : Nat → Nat
  | 0 => 0
  | k + 1 => cnN N k + (if N.testBit k = true then 1 else 0)
theorem cn_cnN (x : Int64) (k : Nat) : cn x k = cnN (tn x) k := by
  induction k with
  | zero => rfl
  | succ k ih => unfold cn cnN; rw [ih, tn_tb]
theorem cnN_low (N k : Nat) (h : k ≤ 8) : cnN (N % 256) k = cnN N k := by
  induction k with
  | zero => rfl
  | succ k ih =>
    unfold cnN
    rw [ih (by omega), show (256 : Nat) = 2 ^ 8 from rfl, Nat.testBit_mod_two_pow, decide_eq_true (show k < 8 by omega), Bool.true_and]
theorem cnN_split (N k : Nat) : cnN N (8 + k) = cnN (N % 256) 8 + cnN (N / 256) k := by
  induction k with
  | zero => rw [cnN_low N 8 (Nat.le_refl _)]; rfl
  | succ k ih =>
    show cnN N (8 + k) + _ = _ + (cnN (N / 256) k + _)
    rw [ih, show (256 : Nat) = 2 ^ 8 from rfl, Nat.testBit_div_two_pow, Nat.add_comm k 8, Nat.add_assoc]
    rfl
theorem and_split {a c : Nat} (b d : Nat) (ha : a < 256) (hc : c < 256) : (a + 256 * b) &&& (c + 256 * d) = (a &&& c) + 256 * (b &&& d) := by
  have h1 : ((a + 256 * b) &&& (c + 256 * d)) % 2 ^ 8 = (a &&& c) := by
    rw [Nat.and_mod_two_pow]
    congr 1 <;> omega
  have h2 : ((a + 256 * b) &&& (c + 256 * d)) / 2 ^ 8 = (b &&& d) := by
    rw [Nat.and_div_two_pow]
    congr 1 <;> omega
  omega
def mk (c : Nat) : Nat → Nat
  | 0 => 0
  | j + 1 => c + 256 * mk c j
def stA (m N : Nat) : Nat := N - ((N / 2) &&& m)
def stB (m v : Nat) : Nat := (v &&& m) + ((v / 4) &&& m)
def stC (m v : Nat) : Nat := (v + v / 16) &&& m
theorem c8a : ∀ x, x < 256 → ∀ b, b < 2 → (x / 2 + 128 * b) &&& 85 = (x / 2) &&& 85 := by decide +kernel
theorem c8b : ∀ x, x < 256 → ∀ b, b < 4 → (x / 4 + 64 * b) &&& 51 = (x / 4) &&& 51 := by decide +kernel
theorem c8 : ∀ x, x < 256 → stB 51 (stA 85 x) ≤ 68 ∧ stB 51 (stA 85 x) % 16 ≤ 4 ∧ (stB 51 (stA 85 x) + stB 51 (stA 85 x) / 16) % 16 = cnN x 8 ∧ cnN x 8 ≤ 8 := by decide +kernel
theorem stA_split {x y : Nat} (m : Nat) (hx : x < 256) : stA (85 + 256 * m) (x + 256 * y) = stA 85 x + 256 * stA m y := by
  unfold stA
  have h1 : (x + 256 * y) / 2 = (x / 2 + 128 * (y % 2)) + 256 * (y / 2) := by omega
  rw [h1, and_split _ _ (by omega) (by decide), c8a x hx _ (by omega)]
  have h2 : x / 2 &&& 85 ≤ x / 2 := Nat.and_le_left
  have h3 : y / 2 &&& m ≤ y / 2 := Nat.and_le_left
  omega
theorem stA_le (m x : Nat) : stA m x ≤ x := Nat.sub_le _ _
theorem stB_split {x y : Nat} (m : Nat) (hx : x < 256) : stB (51 + 256 * m) (x + 256 * y) = stB 51 x + 256 * stB m y := by
  unfold stB
  have h1 : (x + 256 * y) / 4 = (x / 4 + 64 * (y % 4)) + 256 * (y / 4) := by omega
  rw [h1, and_split _ _ hx (by decide), and_split _ _ (by omega) (by decide), c8b x hx _ (by omega)]
  omega
theorem stC_split {x y : Nat} (m : Nat) (hx : x ≤ 68) (hy : y % 16 ≤ 4) : stC (15 + 256 * m) (x + 256 * y) = (x + x / 16) % 16 + 256 * stC m y := by
  unfold stC
  have h1 : (x + 256 * y) + (x + 256 * y) / 16 = (x + x / 16 + 16 * (y % 16)) + 256 * (y + y / 16) := by omega
  rw [h1, and_split _ _ (by omega) (by decide)]
  have h2 : (x + x / 16 + 16 * (y % 16)) &&& 15 = (x + x / 16) % 16 := by
    rw [show (15 : Nat) = 2 ^ 4 - 1 from rfl, Nat.and_two_pow_sub_one_eq_mod]
    omega
  rw [h2]
def pk : Nat → Nat → Nat
  | 0, _ => 0
  | j + 1, N => cnN (N % 256) 8 + 256 * pk j (N / 256)
theorem st_all (j : Nat) : ∀ N, N < 256 ^ j → stC (mk 15 j) (stB (mk 51 j) (stA (mk 85 j) N)) = pk j N ∧ stB (mk 51 j) (stA (mk 85 j) N) % 16 ≤ 4 := by
  induction j with
  | zero =>
    intro N h
    have : N = 0 := by
      have : (256 : Nat) ^ 0 = 1 := rfl
      omega
    subst this
    exact ⟨rfl, by decide⟩
  | succ j ih =>
    intro N h
    have hd : N / 256 < 256 ^ j := by
      rw [Nat.pow_succ] at h
      omega
    obtain ⟨i1, i2⟩ := ih (N / 256) hd
    have hx : N % 256 < 256 := by omega
    have hN : N = N % 256 + 256 * (N / 256) := by omega
    obtain ⟨k1, k2, k3, k4⟩ := c8 (N % 256) hx
    have e : stB (mk 51 (j + 1)) (stA (mk 85 (j + 1)) N) = stB 51 (stA 85 (N % 256)) + 256 * stB (mk 51 j) (stA (mk 85 j) (N / 256)) := by
      show stB (51 + 256 * mk 51 j) (stA (85 + 256 * mk 85 j) N) = _
      rw [hN, stA_split _ hx, stB_split]
      · rw [← hN]
      · have := stA_le 85 (N % 256)
        omega
    constructor
    · rw [e]
      show stC (15 + 256 * mk 15 j) _ = _
      rw [stC_split _ k1 i2, i1, k3]
      rfl
    · rw [e]
      have hmod : ∀ a b : Nat, (a + 256 * b) % 16 = a % 16 := by
        intro a b
        omega
      rw [hmod]
      exact k2
theorem and127 (n : Nat) : n &&& 127 = n % 128 := by
  rw [show (127 : Nat) = 2 ^ 7 - 1 from rfl, Nat.and_two_pow_sub_one_eq_mod]
theorem sum8 {c0 c1 c2 c3 c4 c5 c6 c7 r0 r1 r2 r3 r4 r5 r6 r7 : Nat} (h0 : c0 ≤ 8) (h1 : c1 ≤ 8) (h2 : c2 ≤ 8) (h3 : c3 ≤ 8) (h4 : c4 ≤ 8) (h5 : c5 ≤ 8) (h6 : c6 ≤ 8) (h7 : c7 ≤ 8)
    (e0 : r0 = c0 + 256 * r1) (e1 : r1 = c1 + 256 * r2) (e2 : r2 = c2 + 256 * r3) (e3 : r3 = c3 + 256 * r4) (e4 : r4 = c4 + 256 * r5) (e5 : r5 = c5 + 256 * r6) (e6 : r6 = c6 + 256 * r7) (e7 : r7 = c7) :
    ∃ w u t : Nat, r0 + r0 / 256 = w ∧ w + w / 65536 = u ∧ u + u / 4294967296 = t ∧ r0 < 2000000000000000000 ∧ w < 4000000000000000000 ∧ u < 6000000000000000000 ∧ t < 7000000000000000000 ∧ t % 128 = c0 + (c1 + (c2 + (c3 + (c4 + (c5 + (c6 + c7)))))) := by
  have b6 : r6 ≤ 2056 := by omega
  have b5 : r5 ≤ 526344 := by clear e0 e1 e2 e3 e4 e6 e7; omega
  have b4 : r4 ≤ 134744072 := by clear e0 e1 e2 e3 e5 e6 e7; omega
  have b3 : r3 ≤ 34494482440 := by clear e0 e1 e2 e4 e5 e6 e7; omega
  have b2 : r2 ≤ 8830587504648 := by clear e0 e1 e3 e4 e5 e6 e7; omega
  have b1 : r1 ≤ 2260630401189896 := by clear e0 e2 e3 e4 e5 e6 e7; omega
  have b0 : r0 ≤ 578721382704613384 := by clear e1 e2 e3 e4 e5 e6 e7; omega
  have d1 : r0 / 256 = r1 := by clear e1 e2 e3 e4 e5 e6 e7; omega
  have p0 : r0 = (c0 + 256 * c1) + 65536 * r2 := by clear e2 e3 e4 e5 e6 e7; omega
  have p1 : r1 = (c1 + 256 * c2) + 65536 * r3 := by clear e0 e3 e4 e5 e6 e7 p0; omega
  have p2 : r2 = (c2 + 256 * c3) + 65536 * r4 := by clear e0 e1 e4 e5 e6 e7 p0 p1; omega
  have p3 : r3 = (c3 + 256 * c4) + 65536 * r5 := by clear e0 e1 e2 e5 e6 e7 p0 p1 p2; omega
  have p4 : r4 = (c4 + 256 * c5) + 65536 * r6 := by clear e0 e1 e2 e3 e6 e7 p0 p1 p2 p3; omega
  have p5 : r5 = (c5 + 256 * c6) + 65536 * r7 := by clear e0 e1 e2 e3 e4 e7 p0 p1 p2 p3 p4; omega
  have d2 : (r0 + r1) / 65536 = r2 + r3 := by clear e0 e1 e2 e3 e4 e5 e6 e7 p2 p3 p4 p5 d1; omega
  have q0 : r0 = (c0 + 256 * c1 + 65536 * c2 + 16777216 * c3) + 4294967296 * r4 := by clear e0 e1 e2 e3 e4 e5 e6 e7 p1 p3 p4 p5 d1 d2; omega
  have q1 : r1 = (c1 + 256 * c2 + 65536 * c3 + 16777216 * c4) + 4294967296 * r5 := by clear e0 e1 e2 e3 e4 e5 e6 e7 p0 p2 p4 p5 d1 d2 q0; omega
  have q2 : r2 = (c2 + 256 * c3 + 65536 * c4 + 16777216 * c5) + 4294967296 * r6 := by clear e0 e1 e2 e3 e4 e5 e6 e7 p0 p1 p3 p5 d1 d2 q0 q1; omega
  have q3 : r3 = (c3 + 256 * c4 + 65536 * c5 + 16777216 * c6) + 4294967296 * r7 := by clear e0 e1 e2 e3 e4 e5 e6 e7 p0 p1 p2 p4 d1 d2 q0 q1 q2; omega
  have d3 : (r0 + r1 + (r2 + r3)) / 4294967296 = r4 + r5 + (r6 + r7) := by clear e0 e1 e2 e3 e4 e5 e6 e7 p0 p1 p2 p3 p4 p5 d1 d2 b0 b1 b2 b3 b4 b5 b6; omega
  refine ⟨_, _, _, rfl, rfl, rfl, ?_⟩
  rw [d1, d2, d3]
  refine ⟨by omega, by omega, by omega, by omega, ?_⟩
  have : r0 + r1 + (r2 + r3) + (r4 + r5 + (r6 + r7)) = (c0 + (c1 + (c2 + (c3 + (c4 + (c5 + (c6 + c7))))))) + 128 * (2 * (r1 + r2 + r3 + r4 + r5 + r6 + r7)) := by
    clear p0 p1 p2 p3 p4 p5 q0 q1 q2 q3 d1 d2 d3 b0 b1 b2 b3 b4 b5 b6
    omega
  rw [this]
  clear p0 p1 p2 p3 p4 p5 q0 q1 q2 q3 d1 d2 d3 b0 b1 b2 b3 b4 b5 b6 e0 e1 e2 e3 e4 e5 e6 e7 this
  omega
theorem fin128 (t : Nat) : t % 4294967296 % 128 = t % 128 % 4294967296 := by omega
theorem bc_eq (p : Int64) : fJ13_bitCount_95d88 p = nI (cn p 64) := by
  have hN := tn_lt p
  obtain ⟨s1, s2⟩ := st_all 8 (tn p) (by have : (256 : Nat) ^ 8 = 18446744073709551616 := rfl; omega)
  have m5 : mk 85 8 = 6148914691236517205 := by decide +kernel
  have m3 : mk 51 8 = 3689348814741910323 := by decide +kernel
  have mf : mk 15 8 = 1085102592571150095 := by decide +kernel
  rw [m5, m3, mf] at s1
  have hA : tn (p - ((ushrL p 1) &&& 6148914691236517205)) = stA 6148914691236517205 (tn p) := by
    rw [tn_sub, tn_and, tn_ushr p (y := 1) (k := 1) (by omega) rfl]
    show (18446744073709551616 - (tn p / 2 &&& 6148914691236517205) + tn p) % 18446744073709551616 = _
    unfold stA
    have : tn p / 2 &&& 6148914691236517205 ≤ tn p / 2 := Nat.and_le_left
    omega
  generalize hv1 : p - ((ushrL p 1) &&& 6148914691236517205) = v1 at hA
  have hB : tn ((v1 &&& 3689348814741910323) + ((ushrL v1 2) &&& 3689348814741910323)) = stB 3689348814741910323 (tn v1) := by
    rw [tn_add, tn_and, tn_and, tn_ushr v1 (y := 2) (k := 2) (by omega) rfl]
    show ((tn v1 &&& 3689348814741910323) + (tn v1 / 4 &&& 3689348814741910323)) % 18446744073709551616 = _
    unfold stB
    have h1 : tn v1 &&& 3689348814741910323 ≤ 3689348814741910323 := Nat.and_le_right
    have h2 : tn v1 / 4 &&& 3689348814741910323 ≤ 3689348814741910323 := Nat.and_le_right
    omega
  have hB3 : tn ((v1 &&& 3689348814741910323) + ((ushrL v1 2) &&& 3689348814741910323)) ≤ 7378697629483820646 := by
    rw [hB]
    unfold stB
    have h1 : tn v1 &&& 3689348814741910323 ≤ 3689348814741910323 := Nat.and_le_right
    have h2 : tn v1 / 4 &&& 3689348814741910323 ≤ 3689348814741910323 := Nat.and_le_right
    omega
  generalize hv2 : (v1 &&& 3689348814741910323) + ((ushrL v1 2) &&& 3689348814741910323) = v2 at hB hB3
  have hC : tn ((v2 + (ushrL v2 4)) &&& 1085102592571150095) = stC 1085102592571150095 (tn v2) := by
    rw [tn_and, tn_add, tn_ushr v2 (y := 4) (k := 4) (by omega) rfl]
    show ((tn v2 + tn v2 / 16) % 18446744073709551616 &&& 1085102592571150095) = _
    unfold stC
    rw [Nat.mod_eq_of_lt (by omega)]
  generalize hv3 : (v2 + (ushrL v2 4)) &&& 1085102592571150095 = v3 at hC
  rw [hB, hA, s1] at hC
  have hb : ∀ x, cnN (x % 256) 8 ≤ 8 := fun x => (c8 (x % 256) (by omega)).2.2.2
  obtain ⟨w, u, t, t1, t2, t3, t4, t5, t6, t7, t8⟩ := sum8 (hb (tn p)) (hb (tn p / 256)) (hb (tn p / 256 / 256)) (hb (tn p / 256 / 256 / 256)) (hb (tn p / 256 / 256 / 256 / 256)) (hb (tn p / 256 / 256 / 256 / 256 / 256)) (hb (tn p / 256 / 256 / 256 / 256 / 256 / 256)) (hb (tn p / 256 / 256 / 256 / 256 / 256 / 256 / 256)) hC rfl rfl rfl rfl rfl rfl (show pk 1 (tn p / 256 / 256 / 256 / 256 / 256 / 256 / 256) = _ from rfl)
  have hD : tn (v3 + (ushrL v3 8)) = w := by
    rw [tn_add, tn_ushr v3 (y := 8) (k := 8) (by omega) rfl]
    show (tn v3 + tn v3 / 256) % _ = _
    rw [t1, Nat.mod_eq_of_lt (by omega)]
  have hE : tn ((v3 + (ushrL v3 8)) + (ushrL (v3 + (ushrL v3 8)) 16)) = u := by
    rw [tn_add, tn_ushr _ (y := 16) (k := 16) (by omega) rfl, hD]
    show (w + w / 65536) % _ = _
    rw [t2, Nat.mod_eq_of_lt (by omega)]
  generalize hv4 : (v3 + (ushrL v3 8)) + (ushrL (v3 + (ushrL v3 8)) 16) = v4 at hE
  have hF : tn (v4 + (ushrL v4 32)) = t := by
    rw [tn_add, tn_ushr v4 (y := 32) (k := 32) (by omega) rfl, hE]
    show (u + u / 4294967296) % _ = _
    rw [t3, Nat.mod_eq_of_lt (by omega)]
  have hc : cn p 64 = t % 128 := by
    rw [t8, cn_cnN]
    show cnN (tn p) (8 + (8 + (8 + (8 + (8 + (8 + (8 + (8 + 0)))))))) = _
    rw [cnN_split, cnN_split, cnN_split, cnN_split, cnN_split, cnN_split, cnN_split, cnN_split]
    rfl
  unfold fJ13_bitCount_95d88 bnd
  dsimp only
  rw [hv1, hv2, hv3, hv4, hc]
  apply Int32.toBitVec_inj.mp
  apply BitVec.eq_of_toNat_eq
  rw [Int32.toBitVec_and, BitVec.toNat_and, Int64.toBitVec_toInt32, BitVec.signExtend_eq_setWidth_of_le _ (by omega), BitVec.toNat_setWidth]
  show (tn (v4 + (ushrL v4 32)) % 4294967296) &&& 127 = (BitVec.ofNat 32 (t % 128)).toNat
  rw [hF, and127, BitVec.toNat_ofNat]
  exact fin128 t
