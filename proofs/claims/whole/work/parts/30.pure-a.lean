/-! PURE: the class's functions and the reference's are the same -/
theorem xs_l : ∀ n, n < 32 → ((nI n &&& 31).toBitVec.smod 32).toNat = n := by decide +kernel
theorem xf_sh : ∀ l, l < 32 → ((1 : Int32) <<< (nI l &&& 31)).toBitVec = BitVec.twoPow 32 l := by decide +kernel
theorem xf_tp : ∀ l, l < 32 → BitVec.twoPow 32 l ≠ 0#32 := by decide +kernel
/-- one bit, by a shift or by a mask -/
theorem sb_bit (m : Int32) (l : Nat) (hl : l < 31) : ((m >>> (nI l &&& 31)) &&& 1) = 0 ↔ (m &&& ((1 : Int32) <<< (nI l &&& 31))) = 0 := by
  have e : (m >>> (nI l &&& 31)).toBitVec = m.toBitVec.sshiftRight l := by
    rw [Int32.toBitVec_shiftRight]
    show m.toBitVec.sshiftRight ((nI l &&& 31).toBitVec.smod 32).toNat = _
    rw [xs_l l (by omega)]
  rw [← Int32.toBitVec_inj, ← Int32.toBitVec_inj, Int32.toBitVec_and, Int32.toBitVec_and, xf_sh l (by omega), e, BitVec.and_twoPow]
  show (m.toBitVec.sshiftRight l &&& 1#32) = 0#32 ↔ _ = 0#32
  rw [BitVec.and_one_eq_setWidth_ofBool_getLsbD, BitVec.getLsbD_sshiftRight]
  rw [show (!decide (32 ≤ 0) && (if l + 0 < 32 then m.toBitVec.getLsbD (l + 0) else m.toBitVec.msb)) = m.toBitVec.getLsbD l by rw [if_pos (by omega)]; rfl]
  cases hb : m.toBitVec.getLsbD l
  · exact ⟨fun _ => by simp, fun _ => by decide⟩
  · exact ⟨fun z => absurd z (by decide), fun z => absurd ((if_pos rfl).symm.trans z) (xf_tp l (by omega))⟩
theorem and_1 (x : Int32) : x &&& 1 = 0 ∨ x &&& 1 = 1 := by
  rw [← Int32.toBitVec_inj, ← Int32.toBitVec_inj, Int32.toBitVec_and]
  show (x.toBitVec &&& 1#32) = 0#32 ∨ (x.toBitVec &&& 1#32) = 1#32
  rw [BitVec.and_one_eq_setWidth_ofBool_getLsbD]
  cases x.toBitVec.getLsbD 0
  · exact Or.inl (by decide)
  · exact Or.inr (by decide)
theorem in_set {m : Int32} {t : Nat} (ht : t < 31) : (f_X2_isInSet m (nI t) = 0) ↔ ((m >>> (nI t &&& 31)) &&& 1) = 0 := by
  rw [sb_bit m t ht]
  unfold f_X2_isInSet
  split
  · rename_i h; exact ⟨fun _ => h, fun _ => rfl⟩
  · rename_i h; exact ⟨fun q => absurd q (by decide), fun q => absurd q h⟩
theorem pr_reader (x : Int32) : f_X2_isReader x = f_X3_in x 0 4 := by
  unfold f_X2_isReader f_X3_in
  by_cases h : x < 0
  · rw [if_pos h, if_pos h]
  · rw [if_neg h, if_neg h]
    by_cases h2 : 5 ≤ x
    · rw [if_pos h2, if_pos (Int32.lt_of_lt_of_le (by decide) h2)]
    · rw [if_neg h2, if_neg (fun q => h2 ?_)]
      rw [Int32.lt_iff_toInt_lt] at q
      rw [Int32.le_iff_toInt_le]
      have e4 : (4 : Int32).toInt = 4 := rfl
      have e5 : (5 : Int32).toInt = 5 := rfl
      omega
theorem pr_thing (x : Int32) : f_X2_isThing x = f_X3_in x 0 11 := by
  unfold f_X2_isThing f_X3_in
  by_cases h : x < 0
  · rw [if_pos h, if_pos h]
  · rw [if_neg h, if_neg h]
    by_cases h2 : 12 ≤ x
    · rw [if_pos h2, if_pos (Int32.lt_of_lt_of_le (by decide) h2)]
    · rw [if_neg h2, if_neg (fun q => h2 ?_)]
      rw [Int32.lt_iff_toInt_lt] at q
      rw [Int32.le_iff_toInt_le]
      have e4 : (11 : Int32).toInt = 11 := rfl
      have e5 : (12 : Int32).toInt = 12 := rfl
      omega
theorem pr_bit (b : Int32) (h : b = 0 ∨ b = 1) : f_X2_bit b = b := by
  rcases h with rfl | rfl <;> rfl
/-- what holds of the numbers of a row, one by one -/
def CV (g : Nat → Int32) : Prop := (∀ r, r < 5 → g (42 + r) = 0 ∨ g (42 + r) = 1) ∧ (∀ r, r < 5 → ∀ t, t < 12 → g (82 + 12 * r + t) = -6 ∨ 0 ≤ g (82 + 12 * r + t)) ∧ (∀ t, t < 12 → g (17 + t) = -6 ∨ g (17 + t) = 0 ∨ g (17 + t) = 1) ∧ 0 ≤ g 0
theorem pr_copy {x : Int32} (h : x = -6 ∨ 0 ≤ x) : (x = -6) ↔ x < 0 := by
  rcases h with rfl | h
  · exact ⟨fun _ => by decide, fun _ => rfl⟩
  · exact ⟨fun e => by rw [e] at h; exact absurd h (by decide), fun q => absurd (Int32.lt_of_lt_of_le q h) (Int32.lt_irrefl)⟩
theorem pr_has {g : Nat → Int32} {r t : Nat} (h : g (82 + 12 * r + t) = -6 ∨ 0 ≤ g (82 + 12 * r + t)) : f_X1_hasCopy g r t = if g (82 + 12 * r + t) < 0 then 0 else 1 := by
  unfold f_X1_hasCopy
  by_cases c : g (82 + 12 * r + t) = -6
  · rw [if_pos c, if_pos ((pr_copy h).mp c)]
  · rw [if_neg c, if_neg (fun q => c ((pr_copy h).mpr q))]
theorem pr_over (g : Nat → Int32) (r : Nat) (x : Int32) : f_X0_isOver g r x = f_X3_isOver g r x := rfl
theorem pr_use {g : Nat → Int32} {r t : Nat} (h : g (82 + 12 * r + t) = -6 ∨ 0 ≤ g (82 + 12 * r + t)) : f_X0_canUse g r t = f_X3_canUse g r t := by
  unfold f_X0_canUse f_X3_canUse
  rw [pr_has h]
  by_cases c : g (82 + 12 * r + t) < 0
  · rw [if_pos c, if_pos c]; rfl
  · rw [if_neg c, if_neg c, if_neg (by decide)]; rfl
