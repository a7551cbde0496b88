/-! PURE: there, pass -/
theorem sk_sa {g : Nat → Int32} (hL : LI g) {j : Nat} (hj : j = 0 ∨ (42 ≤ j ∧ j < 67)) : s_X3_settleAll g j = g j := by
  unfold s_X3_settleAll
  rw [up_n (by omega)]
  exact sa_keep hL hj _ (Nat.le_refl _)
theorem in_01 (n : Int32) : f_X3_in n 0 1 = 0 ↔ ¬ (n = 0 ∨ n = 1) := by
  constructor
  · intro h
    rintro (rfl | rfl) <;> exact absurd h (by decide)
  · intro h
    by_cases c : f_X3_in n 0 1 = 0
    · exact c
    · obtain ⟨h1, h2⟩ := in_ix (n := 1) c rfl (by decide)
      rcases (show ix n = 0 ∨ ix n = 1 by omega) with z | z
      · rw [z] at h2; exact absurd (Or.inl h2) h
      · rw [z] at h2; exact absurd (Or.inr h2) h
theorem th_eq {g : Nat → Int32} {x n : Int32} (hL : LI g) (h0 : 0 ≤ g 0) (hg : ∀ r, r < 5 → g (42 + r) = 0 ∨ g (42 + r) = 1) : s_X2_there g x n = s_X3_there g x n ∧ f_X2_there g x n = f_X3_there g x n := by
  unfold s_X2_there s_X3_there f_X2_there f_X3_there
  rw [pr_reader]
  by_cases c1 : f_X3_in x 0 4 = 0
  · rw [if_pos c1, if_pos c1, if_pos c1, if_pos c1]; exact ⟨rfl, rfl⟩
  obtain ⟨hx, -⟩ := in_ix (n := 4) c1 rfl (by decide)
  rw [if_neg c1, if_neg c1, if_neg c1, if_neg c1]
  by_cases c2 : n = 0
  · subst c2
    exact ⟨rfl, rfl⟩
  · by_cases c3 : n = 1
    · subst c3
      have e := sa_eq (g := upd g (42 + ix x) 1) (li_upd hL (by omega)) (by rw [up_n (by omega)]; exact h0) (fun r hr => by
        by_cases q : 42 + r = 42 + ix x
        · rw [q, up_s]; exact Or.inr rfl
        · rw [up_n q]; exact hg r hr)
      unfold t2_X2_there t1_X3_there
      rw [if_neg c2, if_neg c2]
      simp only [if_true]
      rw [e.1, e.2, if_neg (show ¬ f_X3_in 1 0 1 = 0 by decide), if_neg (show ¬ f_X3_in 1 0 1 = 0 by decide)]
      exact ⟨rfl, rfl⟩
    · have c4 := (in_01 n).mpr (fun q => q.elim c2 c3)
      refine ⟨((if_neg c2).trans (if_neg c3)).trans (if_pos c4).symm, ((if_neg c2).trans (if_neg c3)).trans (if_pos c4).symm⟩
theorem tk_1 {a : Int32} {i : Nat} (h0 : 0 ≤ a.toInt) (h1 : a.toInt ≤ 100000) (hi : i ≤ 1000) : 0 ≤ a + nI i := by
  rw [Int32.le_iff_toInt_le, Int32.toInt_add, nI_toInt (by omega)]
  have : (a.toInt + (i : Int)).bmod (2 ^ 32) = a.toInt + i := Int.bmod_eq_of_le (by omega) (by omega)
  rw [this]
  have : (0 : Int32).toInt = 0 := rfl
  omega
theorem qs_X3_pass (g : Nat → Int32) (x : Int32) (i : Nat) : q_X3_pass_17 g x (g, 0) (i + 1) = p_X3_pass_17 g x (q_X3_pass_17 g x (g, 0) i) i := rfl
theorem qs_X2_pass (g : Nat → Int32) (x : Int32) (i : Nat) : q_X2_pass_18 g x (g, 0) (i + 1) = p_X2_pass_18 g x (q_X2_pass_18 g x (g, 0) i) i := rfl
theorem ps_q {g : Nat → Int32} {x : Int32} (hL : LI g) (h0 : 0 ≤ (g 0).toInt) (h1 : (g 0).toInt ≤ 100000) (hg : ∀ r, r < 5 → g (42 + r) = 0 ∨ g (42 + r) = 1) : ∀ i, i ≤ 100 → q_X2_pass_18 g x (g, 0) i = q_X3_pass_17 g x (g, 0) i ∧ (q_X3_pass_17 g x (g, 0) i).1 0 = g 0 + nI i ∧ ∀ j, 42 ≤ j → j < 67 → (q_X3_pass_17 g x (g, 0) i).1 j = g j
  | 0, _ => ⟨rfl, (Int32.add_zero _).symm, fun _ _ _ => rfl⟩
  | i + 1, hi => by
    obtain ⟨a1, a2, a3⟩ := ps_q (x := x) hL h0 h1 hg i (by omega)
    have hl := li_X3_pass g x hL i
    rw [qs_X2_pass, qs_X3_pass, a1]
    generalize q_X3_pass_17 g x (g, 0) i = S at a2 a3 hl ⊢
    have hl2 : LI (upd S.1 0 (S.1 0 + 1)) := li_upd hl (by omega)
    have t1 : S.1 0 + 1 = g 0 + nI (i + 1) := by rw [a2, nI_succ, Int32.add_assoc]
    have e := sa_eq hl2 (by rw [up_s, t1]; exact tk_1 h0 h1 (by omega)) (fun r hr => by rw [up_n (by omega), a3 _ (by omega) (by omega)]; exact hg r hr)
    unfold p_X2_pass_18 p_X3_pass_17
    rw [e.1, e.2]
    refine ⟨rfl, ?_, fun j hj hj2 => ?_⟩
    · show s_X3_settleAll (upd S.1 0 (S.1 0 + 1)) 0 = _
      rw [sk_sa hl2 (Or.inl rfl), up_s, t1]
    · show s_X3_settleAll (upd S.1 0 (S.1 0 + 1)) j = _
      rw [sk_sa hl2 (Or.inr ⟨hj, hj2⟩), up_n (by omega), a3 j hj hj2]
