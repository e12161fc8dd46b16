theorem shl_pt (k : Nat) : shlL 1 (nI k) = pt k := rfl
theorem cn49 {n : Nat} (h : okN n) {a : Int64} (ha : sb a (mA n)) : cn a 64 = cn a 49 := by
  have h1 := okN_sq h
  have := cn_top (x := a) (m := 49) (fun i q => by have := (sbA h).mp ha i q; omega) 15
  exact this
theorem bc49 {n : Nat} (h : okN n) {a : Int64} (ha : sb a (mA n)) : fJ13_bitCount_95d88 a = nI (cn a 49) := by rw [bc_eq, cn49 h ha]
theorem low_eq (x : Int64) : x &&& (-x) = low x := rfl
section LAYR
variable {n k : Nat} {a b : Int64}
end LAYR
