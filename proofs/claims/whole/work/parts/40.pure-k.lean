/-! PURE: the sets of readers -/
theorem bs_eq {b : Int32} {i : Nat} (hb : b = 0 ∨ b = 1) (hi : i < 32) : (f_X2_bit b) <<< (nI i &&& 31) = if b = 0 then 0 else (1 : Int32) <<< (nI i &&& 31) := by
  rcases hb with rfl | rfl
  · rw [if_pos rfl]; exact sh_z i hi
  · rw [if_neg (by decide)]; rfl
theorem cu_01 (g : Nat → Int32) (r t : Nat) : f_X3_canUse g r t = 0 ∨ f_X3_canUse g r t = 1 := by
  unfold f_X3_canUse
  (repeat' split) <;> first | exact Or.inl rfl | exact Or.inr rfl
theorem se_4 {g : Nat → Int32} {y : Int32} : ∀ i, i ≤ 5 → q_X0_holdersOf_4 g (ix y) 0 i = q_X3_thing_115 g y 4 0 i
  | 0, _ => rfl
  | i + 1, hi => by
    show p_X0_holdersOf_4 g (ix y) (q_X0_holdersOf_4 g (ix y) 0 i) i = p_X3_thing_115 g y 4 (q_X3_thing_115 g y 4 0 i) i
    rw [se_4 i (by omega)]
    unfold p_X0_holdersOf_4 p_X3_thing_115
    rw [bs_eq (ho_01 g i (ix y)) (by omega), if_pos rfl, ho_eq]
theorem se_5 {g : Nat → Int32} {y : Int32} (hc : CC g) (hy : ix y < 12) : ∀ i, i ≤ 5 → q_X0_readersWithCopy_4 g (ix y) 0 i = q_X3_thing_115 g y 5 0 i
  | 0, _ => rfl
  | i + 1, hi => by
    show p_X0_readersWithCopy_4 g (ix y) (q_X0_readersWithCopy_4 g (ix y) 0 i) i = p_X3_thing_115 g y 5 (q_X3_thing_115 g y 5 0 i) i
    rw [se_5 hc hy i (by omega)]
    unfold p_X0_readersWithCopy_4 p_X3_thing_115
    rw [bs_eq (has_01 g i (ix y)) (by omega), if_neg (show ¬ (5 : Int32) = 4 by decide), if_pos (rfl : (5 : Int32) = 5), pr_has (hc i (by omega) _ hy)]
theorem se_6 {g : Nat → Int32} {y : Int32} (hc : CC g) (hy : ix y < 12) : ∀ i, i ≤ 5 → q_X0_readersWithUse_4 g (ix y) 0 i = q_X3_thing_115 g y 6 0 i
  | 0, _ => rfl
  | i + 1, hi => by
    show p_X0_readersWithUse_4 g (ix y) (q_X0_readersWithUse_4 g (ix y) 0 i) i = p_X3_thing_115 g y 6 (q_X3_thing_115 g y 6 0 i) i
    rw [se_6 hc hy i (by omega)]
    unfold p_X0_readersWithUse_4 p_X3_thing_115
    rw [pr_use (hc i (by omega) _ hy), bs_eq (cu_01 g i (ix y)) (by omega), if_neg (show ¬ (6 : Int32) = 4 by decide), if_neg (show ¬ (6 : Int32) = 5 by decide)]
