/-! PURE: a read -/
theorem ac_k {g : Nat → Int32} {b k : Int32} {n j : Nat} (h : CB g n) (hn : n < 4) (hj : j < 292 ∨ 296 < j) : s_X3_addCause g b k j = g j := by
  unfold s_X3_addCause
  split
  · rfl
  · have := h.1
    rw [up_n (by omega), up_n (by omega)]
theorem nc_1 (g : Nat → Int32) (x y : Int32) : t1_X0_noteCauses g (ix x) (ix y) = t1_X3_read g x y ∧ CB (t1_X3_read g x y) 1 ∧ ∀ j, j < 292 ∨ 296 < j → t1_X3_read g x y j = g j := by
  unfold t1_X0_noteCauses t1_X3_read
  refine ⟨ac_eq (cb_0 g) (by decide), cb_3 _ _ (cb_0 g) (by decide), fun j hj => ?_⟩
  rw [ac_k (cb_0 g) (by decide) hj, up_n (by omega)]
theorem nc_2 (g : Nat → Int32) (x y : Int32) (hx : ix x < 5) (hy : ix y < 12) : t2_X0_noteCauses g (ix x) (ix y) = t2_X3_read g x y ∧ CB (t2_X3_read g x y) 2 ∧ ∀ j, j < 292 ∨ 296 < j → t2_X3_read g x y j = g j := by
  obtain ⟨h1, h2, h3⟩ := nc_1 g x y
  unfold t2_X0_noteCauses t2_X3_read
  rw [h1]
  refine ⟨?_, cb_3 _ _ h2 (by decide), fun j hj => ?_⟩
  · rw [ac_eq h2 (by decide), pr_over, h3 (52 + 3 * ix x + ix y / 4) (by omega)]
  · rw [ac_k h2 (by decide) hj, h3 j hj]
theorem nc_3 (g : Nat → Int32) (x y : Int32) (hx : ix x < 5) (hy : ix y < 12) : t3_X0_noteCauses g (ix x) (ix y) = t3_X3_read g x y ∧ CB (t3_X3_read g x y) 3 ∧ ∀ j, j < 292 ∨ 296 < j → t3_X3_read g x y j = g j := by
  obtain ⟨h1, h2, h3⟩ := nc_2 g x y hx hy
  unfold t3_X0_noteCauses t3_X3_read
  rw [h1]
  refine ⟨?_, cb_3 _ _ h2 (by decide), fun j hj => ?_⟩
  · rw [ac_eq h2 (by decide), pr_over]
  · rw [ac_k h2 (by decide) hj, h3 j hj]
theorem nc_4 (g : Nat → Int32) (x y : Int32) (hx : ix x < 5) (hy : ix y < 12) (hc : CC g) : s_X0_noteCauses g (ix x) (ix y) = t4_X3_read g x y ∧ CB (t4_X3_read g x y) 4 ∧ ∀ j, j < 292 ∨ 296 < j → t4_X3_read g x y j = g j := by
  obtain ⟨h1, h2, h3⟩ := nc_3 g x y hx hy
  unfold s_X0_noteCauses t4_X0_noteCauses t4_X3_read
  rw [h1]
  have e := h3 (82 + 12 * ix x + ix y) (by omega)
  have hc1 := hc (ix x) hx (ix y) hy
  refine ⟨?_, cb_3 _ _ h2 (by decide), fun j hj => ?_⟩
  · rw [ac_eq h2 (by decide), pr_has (by rw [e]; exact hc1), e]
    by_cases c : g (82 + 12 * ix x + ix y) < 0
    · rw [if_pos c, if_pos rfl, if_neg (fun q => Int32.lt_irrefl (Int32.lt_of_lt_of_le c q))]
    · rw [if_neg c, if_neg (by decide), if_pos (Int32.not_lt.mp c)]
  · rw [ac_k h2 (by decide) hj, h3 j hj]
