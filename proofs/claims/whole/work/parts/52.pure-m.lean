/-! PURE: what settling leaves as it was, and what it brings -/
theorem sp_fr {g : Nat → Int32} {S : (Nat → Int32) × Int32} {t i j : Nat} (h6 : j ≠ 306) (h7 : j ≠ 307) (h1 : j ≠ 262 + 6 * i + 4) (h2 : j ≠ 82 + 12 * i + t) (h3 : j ≠ 142 + 12 * i + t) (h4 : j ≠ 202 + 12 * i + t) (h5 : j ≠ 67 + 3 * i + t / 4) : (p_X3_isSettled_4 g t S i).1 j = S.1 j := by
  unfold p_X3_isSettled_4
  (repeat' split) <;> dsimp only <;> (try (rw [up_n h4, up_n h3, up_n h2, up_n h1, up_n h6])) <;> (try (rw [up_n h4, up_n h5, up_n h7]))
def FRS (t j : Nat) : Prop := j ≠ 306 ∧ j ≠ 307 ∧ ∀ i, i < 5 → (j ≠ 262 + 6 * i + 4 ∧ j ≠ 82 + 12 * i + t ∧ j ≠ 142 + 12 * i + t ∧ j ≠ 202 + 12 * i + t ∧ j ≠ 67 + 3 * i + t / 4)
theorem qs_X3_isSettled (g : Nat → Int32) (t i : Nat) : q_X3_isSettled_4 g t (g, 1) (i + 1) = p_X3_isSettled_4 g t (q_X3_isSettled_4 g t (g, 1) i) i := rfl
theorem sq_fr {g : Nat → Int32} {t j : Nat} (h : FRS t j) : ∀ i, i ≤ 5 → (q_X3_isSettled_4 g t (g, 1) i).1 j = g j
  | 0, _ => rfl
  | i + 1, hi => by
    obtain ⟨h6, h7, h8⟩ := id h
    obtain ⟨a1, a2, a3, a4, a5⟩ := h8 i (by omega)
    rw [qs_X3_isSettled, sp_fr h6 h7 a1 a2 a3 a4 a5]
    exact sq_fr h i (by omega)
theorem ss_fr {g : Nat → Int32} {t j : Nat} (h : FRS t j) (h5 : j ≠ 5 + t) (h17 : j ≠ 17 + t) (h305 : j ≠ 305) : s_X3_isSettled g t j = g j := by
  have e := sq_fr (g := g) h 5 (Nat.le_refl 5)
  unfold s_X3_isSettled
  generalize q_X3_isSettled_4 g t (g, 1) 5 = S at e ⊢
  split
  · exact e
  · rw [up_n h305, up_n h17, up_n h5]; exact e
/-- another thing's promises -/
theorem ss_pr {g : Nat → Int32} {t r t' : Nat} (ht : t < 12) (hr : r < 5) (ht' : t' < 12) (hne : t' ≠ t) : s_X3_isSettled g t (202 + 12 * r + t') = g (202 + 12 * r + t') := ss_fr ⟨by omega, by omega, fun i hi => ⟨by omega, by omega, by omega, by omega, by omega⟩⟩ (by omega) (by omega) (by omega)
theorem ss_29 {g : Nat → Int32} {t j : Nat} (h : (j < 5 ∨ 29 ≤ j) ∧ j < 67) (ht : t < 12) : s_X3_isSettled g t j = g j := ks_X3_isSettled g (by omega) (by omega) (by omega)
theorem ss_292 {g : Nat → Int32} {t j : Nat} (h : 292 ≤ j ∧ j < 305) (ht : t < 12) : s_X3_isSettled g t j = g j := ss_fr ⟨by omega, by omega, fun i hi => ⟨by omega, by omega, by omega, by omega, by omega⟩⟩ (by omega) (by omega) (by omega)
theorem sp_cc {g : Nat → Int32} {S : (Nat → Int32) × Int32} {t i : Nat} (hi : i < 5) (ht : t < 12) (h : CC S.1) : CC (p_X3_isSettled_4 g t S i).1 := by
  unfold p_X3_isSettled_4
  (repeat' split) <;> dsimp only <;> first | exact h | exact cc_upd (cc_upd (cc_upd (cc_upd (cc_upd h (by omega)) (by omega)) (Or.inr (Or.inr (Or.inl rfl)))) (by omega)) (by omega) | exact cc_upd (cc_upd (cc_upd h (by omega)) (by omega)) (by omega)
theorem sq_cc {g : Nat → Int32} {t : Nat} (ht : t < 12) (h : CC g) : ∀ i, i ≤ 5 → CC (q_X3_isSettled_4 g t (g, 1) i).1
  | 0, _ => h
  | i + 1, hi => by
    rw [qs_X3_isSettled]
    exact sp_cc (by omega) ht (sq_cc ht h i (by omega))
theorem ss_cc {g : Nat → Int32} {t : Nat} (ht : t < 12) (h : CC g) : CC (s_X3_isSettled g t) := by
  have e := sq_cc ht h 5 (Nat.le_refl 5)
  unfold s_X3_isSettled
  generalize q_X3_isSettled_4 g t (g, 1) 5 = S at e ⊢
  split
  · exact e
  · exact cc_upd (cc_upd (cc_upd e (by omega)) (by omega)) (by omega)
theorem f_st {g : Nat → Int32} {t : Nat} : f_X3_isSettled g t = (q_X3_isSettled_4 g t (g, 1) 5).2 := by
  unfold f_X3_isSettled
  split <;> rfl
theorem ss_not {g : Nat → Int32} {t : Nat} (ht : t < 12) (h : f_X3_isSettled g t = 0) : s_X3_isSettled g t (17 + t) = g (17 + t) ∧ s_X3_isSettled g t (5 + t) = g (5 + t) := by
  have e1 := kq_X3_isSettled g t (j := 17 + t) (by omega) 5
  have e2 := kq_X3_isSettled g t (j := 5 + t) (by omega) 5
  rw [f_st] at h
  unfold s_X3_isSettled
  generalize q_X3_isSettled_4 g t (g, 1) 5 = S at e1 e2 h ⊢
  rw [if_pos h]
  exact ⟨e1, e2⟩
theorem ss_done {g : Nat → Int32} {t : Nat} (ht : t < 12) (h : ¬ f_X3_isSettled g t = 0) : s_X3_isSettled g t (17 + t) = -6 ∧ s_X3_isSettled g t (5 + t) = g (5 + t) + 1 := by
  have e2 := kq_X3_isSettled g t (j := 5 + t) (by omega) 5
  rw [f_st] at h
  unfold s_X3_isSettled
  generalize q_X3_isSettled_4 g t (g, 1) 5 = S at e2 h ⊢
  rw [if_neg h]
  refine ⟨?_, ?_⟩
  · rw [up_n (by omega), up_s]
  · rw [up_n (by omega), up_n (by omega), up_s, e2]
/-- holders among the first i -/
def HP (S : Nat → Int32) (t i : Nat) : Prop := ∀ r, r < i → S 0 < S (202 + 12 * r + t) → S 0 < S (52 + 3 * r + t / 4) ∧ ¬ (S (17 + t) = 1 ∧ S (42 + r) = 1)
theorem hp_s {g : Nat → Int32} {S : Nat → Int32} {z : Int32} {t i : Nat} (ht : t < 12) (hi : i < 5) (h0 : 0 ≤ S 0) (h : HP S t i) : HP (p_X3_isSettled_4 g t (S, z) i).1 t (i + 1) := by
  have key : ∀ S' : Nat → Int32, S' 0 = S 0 → (∀ r, r < i → S' (202 + 12 * r + t) = S (202 + 12 * r + t)) → (∀ j, 17 ≤ j → j < 67 → S' j = S j) → (S 0 < S' (202 + 12 * i + t) → S 0 < S (52 + 3 * i + t / 4) ∧ ¬ (S (17 + t) = 1 ∧ S (42 + i) = 1)) → HP S' t (i + 1) := by
    intro S' e0 e1 e2 e3 r hr q
    rw [e0] at q ⊢
    rw [e2 (52 + 3 * r + t / 4) (by omega) (by omega), e2 (17 + t) (by omega) (by omega), e2 (42 + r) (by omega) (by omega)]
    by_cases e : r = i
    · subst e; exact e3 q
    · rw [e1 r (by omega)] at q
      exact h r (by omega) q
  unfold p_X3_isSettled_4
  dsimp only
  by_cases c1 : f_X3_isHolder S i t = 0
  · rw [if_pos c1]
    refine key S rfl (fun _ _ => rfl) (fun _ _ _ => rfl) (fun q => ?_)
    unfold f_X3_isHolder at c1
    rw [if_neg (Int32.not_le.mpr q)] at c1
    exact absurd c1 (by decide)
  · rw [if_neg c1]
    by_cases c2 : S 0 < S (52 + 3 * i + t / 4)
    · rw [if_pos c2]
      by_cases c3 : S (17 + t) = 1
      · rw [if_pos c3]
        by_cases c4 : S (42 + i) = 1
        · rw [if_pos c4]
          dsimp only
          refine key _ ?_ (fun r hr => ?_) (fun j h1 h2 => ?_) (fun q => ?_)
          · rw [up_n (by omega), up_n (by omega), up_n (by omega), up_n (by omega), up_n (by omega)]
          · rw [up_n (by omega), up_n (by omega), up_n (by omega), up_n (by omega), up_n (by omega)]
          · rw [up_n (by omega), up_n (by omega), up_n (by omega), up_n (by omega), up_n (by omega)]
          · rw [up_s] at q
            exact absurd (Int32.lt_of_lt_of_le q h0) Int32.lt_irrefl
        · rw [if_neg c4]
          exact key S rfl (fun _ _ => rfl) (fun _ _ _ => rfl) (fun _ => ⟨c2, fun q => c4 q.2⟩)
      · rw [if_neg c3]
        exact key S rfl (fun _ _ => rfl) (fun _ _ _ => rfl) (fun _ => ⟨c2, fun q => c3 q.1⟩)
    · rw [if_neg c2]
      dsimp only
      refine key _ ?_ (fun r hr => ?_) (fun j h1 h2 => ?_) (fun q => ?_)
      · rw [up_n (by omega), up_n (by omega), up_n (by omega)]
      · rw [up_n (by omega), up_n (by omega), up_n (by omega)]
      · rw [up_n (by omega), up_n (by omega), up_n (by omega)]
      · rw [up_s] at q
        exact absurd (Int32.lt_of_lt_of_le q h0) Int32.lt_irrefl
theorem hp_q {g : Nat → Int32} {t : Nat} (ht : t < 12) (h0 : 0 ≤ g 0) : ∀ i, i ≤ 5 → HP (q_X3_isSettled_4 g t (g, 1) i).1 t i
  | 0, _ => fun r hr => absurd hr (Nat.not_lt_zero r)
  | i + 1, hi => by
    have ih := hp_q ht h0 i (by omega)
    have hk := kq_X3_isSettled g t (j := 0) (by omega) i
    rw [qs_X3_isSettled]
    generalize q_X3_isSettled_4 g t (g, 1) i = S at ih hk ⊢
    exact hp_s (z := S.2) ht (by omega) (by rw [hk]; exact h0) ih
theorem ss_hd {g : Nat → Int32} {t : Nat} (ht : t < 12) (h0 : 0 ≤ g 0) (h : f_X3_isSettled g t = 0) : HD (s_X3_isSettled g t) t := by
  have e := hp_q ht h0 5 (Nat.le_refl 5)
  rw [f_st] at h
  unfold s_X3_isSettled
  generalize q_X3_isSettled_4 g t (g, 1) 5 = S at e h ⊢
  rw [if_pos h]
  exact e
theorem hd_eq {g g' : Nat → Int32} {t : Nat} (ht : t < 12) (h0 : g' 0 = g 0) (h1 : g' (17 + t) = g (17 + t)) (h2 : ∀ r, r < 5 → g' (42 + r) = g (42 + r)) (h3 : ∀ r, r < 5 → g' (52 + 3 * r + t / 4) = g (52 + 3 * r + t / 4)) (h4 : ∀ r, r < 5 → g' (202 + 12 * r + t) = g (202 + 12 * r + t)) (h : HD g t) : HD g' t := by
  intro r hr
  rw [h0, h1, h2 r hr, h3 r hr, h4 r hr]
  exact h r hr
/-- another thing's holders -/
theorem ss_hd' {g : Nat → Int32} {t t' : Nat} (ht : t < 12) (ht' : t' < 12) (hne : t' ≠ t) (h : HD g t') : HD (s_X3_isSettled g t) t' :=
  hd_eq ht' (ss_29 (by omega) ht) (ks_X3_isSettled g (by omega) (by omega) (by omega)) (fun r hr => ss_29 (by omega) ht) (fun r hr => ss_29 (by omega) ht) (fun r hr => ss_pr ht hr ht' hne) h
