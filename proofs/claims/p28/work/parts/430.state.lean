/-! the object's state: what stands all through, and the law's calls in its numbers -/
def GX (G : GG) : Prop := ∃ n rule mv ps pr c0 c1, GR n rule mv ps pr c0 c1 G.1 G.2.1 G.2.2.1 G.2.2.2
def memK (o a : Nat) (R : Nat → GG) : Prop := o < 14 ∧ a ≤ 14 ∧ ∀ j, j < a → GX (R ((o + j) % 14))
def INV (s : OSt) : Prop := (∃ o a, s.2.1 = (nI o, nI a) ∧ memK o a s.1) ∧ GX (s.1 14) ∧ (s.2.2.2.2.1 = true → GX (s.1 16)) ∧ (s.2.2.2.2.2 = true → GX (s.1 17))
abbrev NW (s : OSt) (n rule mv ps pr c0 c1 : Nat) : Prop := GR n rule mv ps pr c0 c1 (s.1 14).1 (s.1 14).2.1 (s.1 14).2.2.1 (s.1 14).2.2.2
section WRAP
variable {s t : OSt} {p q a b r : Int32} {v : Int64} {x : Int64}
theorem has_v (h : aStones s p = some (Sum.inr v)) : fL_has s p = some v := by
  unfold fL_has
  rw [h]
  rfl
theorem has_O (h : aStones s p = some (Sum.inl "java/lang/IndexOutOfBoundsException")) : fL_has s p = some (-9999001) := by
  unfold fL_has
  rw [h, Option.bind_some]
  unfold rsum
  dsimp only
  rw [if_pos rfl]
theorem groups_v (h : aGroup s p q = some (Sum.inr v)) : fL_groups s p q = some v := by
  unfold fL_groups
  rw [h]
  rfl
theorem groups_O (h : aGroup s p q = some (Sum.inl "java/lang/IndexOutOfBoundsException")) : fL_groups s p q = some (-9999001) := by
  unfold fL_groups
  rw [h, Option.bind_some]
  unfold rsum
  dsimp only
  rw [if_pos rfl]
theorem groups_A (h : aGroup s p q = some (Sum.inl "java/lang/IllegalArgumentException")) : fL_groups s p q = some (-9999002) := by
  unfold fL_groups
  rw [h, Option.bind_some]
  unfold rsum
  dsimp only
  rw [if_neg (by decide), if_pos rfl]
theorem doScript_v (h : aRunScript s p x = some (Sum.inr (r, t))) : fL_doScript s p x = some (r, t) := by
  unfold fL_doScript
  rw [h]
  rfl
theorem doScript_A (h : aRunScript s p x = some (Sum.inl "java/lang/IllegalArgumentException")) : fL_doScript s p x = some ((-9999002), s) := by
  unfold fL_doScript
  rw [h, Option.bind_some]
  unfold rsum
  dsimp only
  rw [if_pos rfl]
theorem doSimulate_v (h : aSimulate s x p = some (Sum.inr (r, t))) : fL_doSimulate s x p = some (r, t) := by
  unfold fL_doSimulate
  rw [h]
  rfl
theorem doSimulate_A (h : aSimulate s x p = some (Sum.inl "java/lang/IllegalArgumentException")) : fL_doSimulate s x p = some ((-9999002), s) := by
  unfold fL_doSimulate
  rw [h, Option.bind_some]
  unfold rsum
  dsimp only
  rw [if_pos rfl]
theorem call_0_v (h : aAppend s p = some (Sum.inr (r, t))) : fL_call_0 s p a b = some (r, t) := by
  unfold fL_call_0 fL_tryAppend
  rw [h]
  rfl
theorem call_0_A (h : aAppend s p = some (Sum.inl "java/lang/IllegalArgumentException")) : fL_call_0 s p a b = some ((-9999002), s) := by
  unfold fL_call_0 fL_tryAppend
  rw [h, Option.bind_some]
  unfold rsum
  dsimp only
  rw [if_pos rfl]
  rfl
theorem call_0_S (h : aAppend s p = some (Sum.inl "java/lang/IllegalStateException")) : fL_call_0 s p a b = some ((-9999003), s) := by
  unfold fL_call_0 fL_tryAppend
  rw [h, Option.bind_some]
  unfold rsum
  dsimp only
  rw [if_neg (by decide), if_pos rfl]
  rfl
theorem call_2_v (h : aAbout s p = some (Sum.inr r)) : fL_call_2 s p a b = some r := by
  unfold fL_call_2 fL_tryAbout
  rw [h]
  rfl
theorem call_2_A (h : aAbout s p = some (Sum.inl "java/lang/IllegalArgumentException")) : fL_call_2 s p a b = some (-9999002) := by
  unfold fL_call_2 fL_tryAbout
  rw [h, Option.bind_some]
  unfold rsum
  dsimp only
  rw [if_pos rfl]
  rfl
theorem call_3_v (h : aColour s p q = some (Sum.inr r)) : fL_call_3 s p q b = some r := by
  unfold fL_call_3 fL_tryColour
  rw [h]
  rfl
theorem call_3_O (h : aColour s p q = some (Sum.inl "java/lang/IndexOutOfBoundsException")) : fL_call_3 s p q b = some (-9999001) := by
  unfold fL_call_3 fL_tryColour
  rw [h, Option.bind_some]
  unfold rsum
  dsimp only
  rw [if_pos rfl]
  rfl
theorem call_3_A (h : aColour s p q = some (Sum.inl "java/lang/IllegalArgumentException")) : fL_call_3 s p q b = some (-9999002) := by
  unfold fL_call_3 fL_tryColour
  rw [h, Option.bind_some]
  unfold rsum
  dsimp only
  rw [if_neg (by decide), if_pos rfl]
  rfl
theorem call_4_v (h : aPoint s p q = some (Sum.inr r)) : fL_call_4 s p q b = some r := by
  unfold fL_call_4 fL_tryPoint
  rw [h]
  rfl
theorem call_4_O (h : aPoint s p q = some (Sum.inl "java/lang/IndexOutOfBoundsException")) : fL_call_4 s p q b = some (-9999001) := by
  unfold fL_call_4 fL_tryPoint
  rw [h, Option.bind_some]
  unfold rsum
  dsimp only
  rw [if_pos rfl]
  rfl
theorem call_4_A (h : aPoint s p q = some (Sum.inl "java/lang/IllegalArgumentException")) : fL_call_4 s p q b = some (-9999002) := by
  unfold fL_call_4 fL_tryPoint
  rw [h, Option.bind_some]
  unfold rsum
  dsimp only
  rw [if_neg (by decide), if_pos rfl]
  rfl
theorem call_5_v (h : aWhy s p = some (Sum.inr r)) : fL_call_5 s p a b = some r := by
  unfold fL_call_5 fL_tryWhy
  rw [h]
  rfl
theorem call_5_O (h : aWhy s p = some (Sum.inl "java/lang/IndexOutOfBoundsException")) : fL_call_5 s p a b = some (-9999001) := by
  unfold fL_call_5 fL_tryWhy
  rw [h, Option.bind_some]
  unfold rsum
  dsimp only
  rw [if_pos rfl]
  rfl
theorem call_6_v (h : aBoard s p = some (Sum.inr (r, t))) : fL_call_6 s p a b = some (r, t) := by
  unfold fL_call_6 fL_tryBoard
  rw [h]
  rfl
theorem call_6_A (h : aBoard s p = some (Sum.inl "java/lang/IllegalArgumentException")) : fL_call_6 s p a b = some ((-9999002), s) := by
  unfold fL_call_6 fL_tryBoard
  rw [h, Option.bind_some]
  unfold rsum
  dsimp only
  rw [if_pos rfl]
  rfl
theorem call_7_v (h : aPlay s p = some (Sum.inr (r, t))) : fL_call_7 s p a b = some (r, t) := by
  unfold fL_call_7 fL_tryPlay
  rw [h]
  rfl
theorem call_7_O (h : aPlay s p = some (Sum.inl "java/lang/IndexOutOfBoundsException")) : fL_call_7 s p a b = some ((-9999001), s) := by
  unfold fL_call_7 fL_tryPlay
  rw [h, Option.bind_some]
  unfold rsum
  dsimp only
  rw [if_pos rfl]
  rfl
theorem call_7_S (h : aPlay s p = some (Sum.inl "java/lang/IllegalStateException")) : fL_call_7 s p a b = some ((-9999003), s) := by
  unfold fL_call_7 fL_tryPlay
  rw [h, Option.bind_some]
  unfold rsum
  dsimp only
  rw [if_neg (by decide), if_pos rfl]
  rfl
theorem call_8_v (h : aPass s = some (Sum.inr (r, t))) : fL_call_8 s p a b = some (r, t) := by
  unfold fL_call_8 fL_tryPass
  rw [h]
  rfl
theorem call_8_S (h : aPass s = some (Sum.inl "java/lang/IllegalStateException")) : fL_call_8 s p a b = some ((-9999003), s) := by
  unfold fL_call_8 fL_tryPass
  rw [h, Option.bind_some]
  unfold rsum
  dsimp only
  rw [if_pos rfl]
  rfl
theorem call_9_v (h : aSet s p = some (Sum.inr (r, t))) : fL_call_9 s p a b = some (r, t) := by
  unfold fL_call_9 fL_tryLay
  rw [h]
  rfl
theorem call_9_A (h : aSet s p = some (Sum.inl "java/lang/IllegalArgumentException")) : fL_call_9 s p a b = some ((-9999002), s) := by
  unfold fL_call_9 fL_tryLay
  rw [h, Option.bind_some]
  unfold rsum
  dsimp only
  rw [if_pos rfl]
  rfl
theorem call_10_v (h : aUndo s = some (Sum.inr (r, t))) : fL_call_10 s p a b = some (r, t) := by
  unfold fL_call_10 fL_tryUndo
  rw [h]
  rfl
theorem call_10_S (h : aUndo s = some (Sum.inl "java/lang/IllegalStateException")) : fL_call_10 s p a b = some ((-9999003), s) := by
  unfold fL_call_10 fL_tryUndo
  rw [h, Option.bind_some]
  unfold rsum
  dsimp only
  rw [if_pos rfl]
  rfl
theorem call_11_v (h : aIfPlayed s p q = some (Sum.inr r)) : fL_call_11 s p q b = some r := by
  unfold fL_call_11 fL_tryIf
  rw [h]
  rfl
theorem call_11_O (h : aIfPlayed s p q = some (Sum.inl "java/lang/IndexOutOfBoundsException")) : fL_call_11 s p q b = some (-9999001) := by
  unfold fL_call_11 fL_tryIf
  rw [h, Option.bind_some]
  unfold rsum
  dsimp only
  rw [if_pos rfl]
  rfl
theorem call_11_A (h : aIfPlayed s p q = some (Sum.inl "java/lang/IllegalArgumentException")) : fL_call_11 s p q b = some (-9999002) := by
  unfold fL_call_11 fL_tryIf
  rw [h, Option.bind_some]
  unfold rsum
  dsimp only
  rw [if_neg (by decide), if_pos rfl]
  rfl
theorem call_12_v (h : aLadder s p q = some (Sum.inr r)) : fL_call_12 s p q b = some r := by
  unfold fL_call_12 fL_tryLadder
  rw [h]
  rfl
theorem call_12_O (h : aLadder s p q = some (Sum.inl "java/lang/IndexOutOfBoundsException")) : fL_call_12 s p q b = some (-9999001) := by
  unfold fL_call_12 fL_tryLadder
  rw [h, Option.bind_some]
  unfold rsum
  dsimp only
  rw [if_pos rfl]
  rfl
theorem call_12_A (h : aLadder s p q = some (Sum.inl "java/lang/IllegalArgumentException")) : fL_call_12 s p q b = some (-9999002) := by
  unfold fL_call_12 fL_tryLadder
  rw [h, Option.bind_some]
  unfold rsum
  dsimp only
  rw [if_neg (by decide), if_pos rfl]
  rfl
theorem call_13_v (h : aChase s p = some (Sum.inr r)) : fL_call_13 s p a b = some r := by
  unfold fL_call_13 fL_tryChase
  rw [h]
  rfl
theorem call_13_O (h : aChase s p = some (Sum.inl "java/lang/IndexOutOfBoundsException")) : fL_call_13 s p a b = some (-9999001) := by
  unfold fL_call_13 fL_tryChase
  rw [h, Option.bind_some]
  unfold rsum
  dsimp only
  rw [if_pos rfl]
  rfl
theorem call_14_v (h : aSave s p = some (Sum.inr (r, t))) : fL_call_14 s p a b = some (r, t) := by
  unfold fL_call_14 fL_tryKeep
  rw [h]
  rfl
theorem call_14_O (h : aSave s p = some (Sum.inl "java/lang/IndexOutOfBoundsException")) : fL_call_14 s p a b = some ((-9999001), s) := by
  unfold fL_call_14 fL_tryKeep
  rw [h, Option.bind_some]
  unfold rsum
  dsimp only
  rw [if_pos rfl]
  rfl
theorem call_15_v (h : aRestore s p = some (Sum.inr (r, t))) : fL_call_15 s p a b = some (r, t) := by
  unfold fL_call_15 fL_tryBack
  rw [h]
  rfl
theorem call_15_O (h : aRestore s p = some (Sum.inl "java/lang/IndexOutOfBoundsException")) : fL_call_15 s p a b = some ((-9999001), s) := by
  unfold fL_call_15 fL_tryBack
  rw [h, Option.bind_some]
  unfold rsum
  dsimp only
  rw [if_pos rfl]
  rfl
theorem call_15_S (h : aRestore s p = some (Sum.inl "java/lang/IllegalStateException")) : fL_call_15 s p a b = some ((-9999003), s) := by
  unfold fL_call_15 fL_tryBack
  rw [h, Option.bind_some]
  unfold rsum
  dsimp only
  rw [if_neg (by decide), if_pos rfl]
  rfl
end WRAP
