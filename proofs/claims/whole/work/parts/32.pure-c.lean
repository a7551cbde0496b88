/-! PURE: all writes that wait are settled; a volume's term is renewed -/
theorem sa_k1 {g : Nat → Int32} {S : (Nat → Int32) × Nat} {i j : Nat} (hS : S.2 ≤ i) (hi : i < 12) (ht : ix (g (29 + i)) < 12) (hj : j = 0 ∨ (42 ≤ j ∧ j < 67)) : (p_X3_settleAll_12 g S i).1 j = S.1 j := by
  have hk : s_X3_isSettled S.1 (ix (g (29 + i))) j = S.1 j := ks_X3_isSettled S.1 (by omega) (by omega) (by omega)
  unfold p_X3_settleAll_12
  generalize s_X3_isSettled S.1 (ix (g (29 + i))) = G at hk ⊢
  generalize ix (g (29 + i)) = t at ht ⊢
  split
  · show upd G (29 + S.2) (nI t) j = S.1 j
    rw [up_n (by omega), hk]
  · exact hk
theorem qs_X3_settleAll (g : Nat → Int32) (i : Nat) : q_X3_settleAll_12 g (g, 0) (i + 1) = p_X3_settleAll_12 g (q_X3_settleAll_12 g (g, 0) i) i := rfl
theorem qs_X0_settleAll (g : Nat → Int32) (i : Nat) : q_X0_settleAll_9 g (g, 0) (i + 1) = p_X0_settleAll_9 g (q_X0_settleAll_9 g (g, 0) i) i := rfl
theorem sa_keep {g : Nat → Int32} (hL : LI g) {j : Nat} (hj : j = 0 ∨ (42 ≤ j ∧ j < 67)) : ∀ i, i ≤ ix (g 41) → (q_X3_settleAll_12 g (g, 0) i).1 j = g j
  | 0, _ => rfl
  | i + 1, hi => by
    have h1 := (ln_q hL i (Nat.le_of_succ_le hi)).1
    have ih := sa_keep hL hj i (Nat.le_of_succ_le hi)
    rw [qs_X3_settleAll]
    rw [sa_k1 h1 (Nat.lt_of_lt_of_le hi hL.1.1) (hL.2 i hi).1 hj]
    exact ih
theorem sa_q {g : Nat → Int32} (hL : LI g) (h0 : 0 ≤ g 0) (hg : ∀ r, r < 5 → g (42 + r) = 0 ∨ g (42 + r) = 1) : ∀ i, i ≤ ix (g 41) → q_X0_settleAll_9 g (g, 0) i = q_X3_settleAll_12 g (g, 0) i
  | 0, _ => rfl
  | i + 1, hi => by
    have ih := sa_q hL h0 hg i (Nat.le_of_succ_le hi)
    have k0 := sa_keep hL (j := 0) (Or.inl rfl) i (Nat.le_of_succ_le hi)
    have k1 : ∀ r, r < 5 → (q_X3_settleAll_12 g (g, 0) i).1 (42 + r) = g (42 + r) := fun r hr => sa_keep hL (Or.inr ⟨by omega, by omega⟩) i (Nat.le_of_succ_le hi)
    have ht := (hL.2 i hi).1
    rw [qs_X0_settleAll, qs_X3_settleAll, ih]
    generalize q_X3_settleAll_12 g (g, 0) i = S at k0 k1 ⊢
    have e := st_eq (g := S.1) ht (by rw [k0]; exact h0) (fun r hr => by rw [k1 r hr]; exact hg r hr)
    unfold p_X0_settleAll_9 p_X3_settleAll_12
    rw [e.1, e.2]
theorem sa_eq {g : Nat → Int32} (hL : LI g) (h0 : 0 ≤ g 0) (hg : ∀ r, r < 5 → g (42 + r) = 0 ∨ g (42 + r) = 1) : s_X0_settleAll g = s_X3_settleAll g ∧ q_X0_settleAll_9 g (g, 0) (ix (g 41)) = q_X3_settleAll_12 g (g, 0) (ix (g 41)) := by
  have e := sa_q hL h0 hg _ (Nat.le_refl _)
  refine ⟨?_, e⟩
  unfold s_X0_settleAll s_X3_settleAll
  rw [e]
theorem has_01 (g : Nat → Int32) (r t : Nat) : f_X1_hasCopy g r t = 0 ∨ f_X1_hasCopy g r t = 1 := by
  unfold f_X1_hasCopy
  split
  · exact Or.inl rfl
  · exact Or.inr rfl
theorem rn_p {g S : Nat → Int32} {r t i : Nat} (ht : t < 12) (hi : i < 4) (hc : S (82 + 12 * r + (t / 4 * 4 + i)) = -6 ∨ 0 ≤ S (82 + 12 * r + (t / 4 * 4 + i))) : p_X0_dropByList_35 g r (t / 4) S i = p_X3_renew_63 g r t S i := by
  unfold p_X0_dropByList_35 p_X3_renew_63
  rw [pr_bit _ (has_01 S r _), pr_has hc]
  by_cases c : (if g 0 - g (52 + 3 * r + t / 4) ≤ g 4 then 0 else 1 : Int32) = 0
  · rw [if_pos c, if_pos c]
    by_cases c2 : f_X2_isInSet (S (67 + 3 * r + t / 4)) (nI (t / 4 * 4 + i)) = 0
    · rw [if_pos c2, if_neg (fun q => by rw [(in_set (by omega)).mp c2] at q; exact absurd q (by decide))]
    · rw [if_neg c2]
      have c3 : ¬ ((S (67 + 3 * r + t / 4)) >>> (nI (t / 4 * 4 + i) &&& 31)) &&& 1 = 0 := fun q => c2 ((in_set (by omega)).mpr q)
      rcases and_1 ((S (67 + 3 * r + t / 4)) >>> (nI (t / 4 * 4 + i) &&& 31)) with q | q
      · exact absurd q c3
      · rw [if_pos q]
  · rw [if_neg c, if_neg c]
def CC (g : Nat → Int32) : Prop := ∀ r, r < 5 → ∀ t, t < 12 → g (82 + 12 * r + t) = -6 ∨ 0 ≤ g (82 + 12 * r + t)
theorem cc_upd {g : Nat → Int32} {i : Nat} {v : Int32} (h : CC g) (hi : i < 82 ∨ 142 ≤ i ∨ v = -6 ∨ 0 ≤ v) : CC (upd g i v) := by
  intro r hr t ht
  by_cases e : 82 + 12 * r + t = i
  · rw [e, up_s]
    rcases hi with q | q | q | q
    · omega
    · omega
    · exact Or.inl q
    · exact Or.inr q
  · rw [up_n e]; exact h r hr t ht
theorem rn_c {g S : Nat → Int32} {r t i : Nat} (h : CC S) (hr : r < 5) : CC (p_X3_renew_63 g r t S i) := by
  unfold p_X3_renew_63
  (repeat' split) <;> first | exact h | exact cc_upd (cc_upd (cc_upd (cc_upd h (by omega)) (Or.inr (Or.inr (Or.inl rfl)))) (Or.inr (Or.inl (by omega)))) (Or.inr (Or.inl (by omega)))
theorem rn_cq {g : Nat → Int32} {r t : Nat} (h : CC g) (hr : r < 5) : ∀ i, CC (q_X3_renew_63 g r t g i)
  | 0 => h
  | i + 1 => rn_c (rn_cq h hr i) hr
theorem rn_q {g : Nat → Int32} {r t : Nat} (h : CC g) (hr : r < 5) (ht : t < 12) : ∀ i, i ≤ 4 → q_X0_dropByList_35 g r (t / 4) g i = q_X3_renew_63 g r t g i
  | 0, _ => rfl
  | i + 1, hi => by
    show p_X0_dropByList_35 g r (t / 4) (q_X0_dropByList_35 g r (t / 4) g i) i = p_X3_renew_63 g r t (q_X3_renew_63 g r t g i) i
    rw [rn_q h hr ht i (by omega)]
    exact rn_p ht (by omega) (rn_cq h hr i r hr _ (by omega))
theorem rn_eq {g : Nat → Int32} {r t : Nat} (h : CC g) (hr : r < 5) (ht : t < 12) : s_X0_renew g r (t / 4) = s_X3_renew g r t := by
  unfold s_X0_renew s_X3_renew t1_X0_renew s_X0_dropByList
  rw [rn_q h hr ht 4 (Nat.le_refl 4)]
  generalize q_X3_renew_63 g r t g 4 = S
  split
  · rfl
  · rw [up_n (show 0 ≠ 67 + 3 * r + t / 4 by omega), up_n (show 2 ≠ 67 + 3 * r + t / 4 by omega), up_n (show 308 ≠ 67 + 3 * r + t / 4 by omega)]
theorem ac_eq {g : Nat → Int32} {b k : Int32} {n : Nat} (h : CB g n) (hn : n < 4) : s_X0_addCauseIf g b k = s_X3_addCause g b k := by
  unfold s_X0_addCauseIf s_X3_addCause
  by_cases c : b = 0
  · rw [if_pos c, if_pos c]
  · rw [if_neg c, if_neg c, if_neg (fun q => ?_)]
    rw [h.2] at q
    have := (nI_leI (a := 4) (b := ix (g 296)) (by decide) (by have := h.1; omega)).mp q
    have := h.1
    omega
