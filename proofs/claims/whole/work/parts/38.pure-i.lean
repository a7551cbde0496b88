/-! PURE: what is told -/
theorem in_cm {x c : Int32} (hc : c = nI (ix c)) (h : ix c < 100) : f_X3_in x 0 (c - 1) = if x < 0 then 0 else if c ≤ x then 0 else 1 := by
  unfold f_X3_in
  by_cases c1 : x < 0
  · rw [if_pos c1, if_pos c1]
  · rw [if_neg c1, if_neg c1]
    have e : (c - 1).toInt = (ix c : Int) - 1 := by
      have e1 : c.toInt = (ix c : Int) := by rw [hc, ix_nI (by omega)]; exact nI_toInt (by omega)
      rw [Int32.toInt_sub, e1]
      exact Int.bmod_eq_of_le (by have : (1 : Int32).toInt = 1 := rfl; omega) (by have : (1 : Int32).toInt = 1 := rfl; omega)
    have e1 : c.toInt = (ix c : Int) := by rw [hc, ix_nI (by omega)]; exact nI_toInt (by omega)
    by_cases c2 : c ≤ x
    · rw [if_pos c2, if_pos]
      rw [Int32.lt_iff_toInt_lt, e]
      rw [Int32.le_iff_toInt_le, e1] at c2
      omega
    · rw [if_neg c2, if_neg]
      intro q
      rw [Int32.lt_iff_toInt_lt, e] at q
      rw [Int32.le_iff_toInt_le, e1] at c2
      omega
theorem tl_eq {v x c : Int32} (hc : c = nI (ix c)) (h : ix c < 100) : (if x < 0 then (-6) else (if c ≤ x then (-6) else v) : Int32) = (if (f_X3_in x 0 (c - 1)) = 0 then (-6) else v) := by
  rw [in_cm hc h]
  by_cases c1 : x < 0
  · rw [if_pos c1, if_pos c1, if_pos rfl]
  · rw [if_neg c1, if_neg c1]
    by_cases c2 : c ≤ x
    · rw [if_pos c2, if_pos c2, if_pos rfl]
    · rw [if_neg c2, if_neg c2, if_neg (by decide)]
theorem ca_eq {g : Nat → Int32} {x : Int32} (h : ix (g 296) ≤ 4 ∧ g 296 = nI (ix (g 296))) : f_X2_cause g x = f_X3_cause g x := tl_eq h.2 (by omega)
theorem wa_eq {g : Nat → Int32} {x : Int32} (h : ix (g 302) ≤ 5 ∧ g 302 = nI (ix (g 302))) : f_X2_waited g x = f_X3_waited g x := tl_eq h.2 (by omega)
theorem wt_eq {g : Nat → Int32} {x : Int32} (h : ix (g 41) ≤ 12 ∧ g 41 = nI (ix (g 41))) : f_X2_waiting g x = f_X3_waiting g x := tl_eq h.2 (by omega)
theorem co_eq {g : Nat → Int32} {x y k : Int32} (hc : CC g) : f_X2_copy g x y k = f_X3_copy g x y k := by
  unfold f_X2_copy f_X3_copy
  rw [pr_reader, pr_thing]
  by_cases c1 : f_X3_in x 0 4 = 0
  · rw [if_pos c1, if_pos c1]
  by_cases c2 : f_X3_in y 0 11 = 0
  · rw [if_neg c1, if_neg c1, if_pos c2, if_pos c2]
  rw [if_neg c1, if_neg c1, if_neg c2, if_neg c2]
  obtain ⟨hx, -⟩ := in_ix (n := 4) c1 rfl (by decide)
  obtain ⟨hy, -⟩ := in_ix (n := 11) c2 rfl (by decide)
  rw [pr_use (hc _ hx _ hy)]
  rfl
theorem in_2 (k : Int32) : f_X3_in k 0 2 = 0 ↔ ¬ (k = 0 ∨ k = 1 ∨ k = 2) := by
  constructor
  · intro h
    rintro (rfl | rfl | rfl) <;> exact absurd h (by decide)
  · intro h
    by_cases c : f_X3_in k 0 2 = 0
    · exact c
    · obtain ⟨h1, h2⟩ := in_ix (n := 2) c rfl (by decide)
      rcases (show ix k = 0 ∨ ix k = 1 ∨ ix k = 2 by omega) with z | z | z
      · rw [z] at h2; exact absurd (Or.inl h2) h
      · rw [z] at h2; exact absurd (Or.inr (Or.inl h2)) h
      · rw [z] at h2; exact absurd (Or.inr (Or.inr h2)) h
theorem rd2_eq {g : Nat → Int32} {x k : Int32} (hg : ∀ r, r < 5 → g (42 + r) = 0 ∨ g (42 + r) = 1) : f_X2_reader g x k = f_X3_reader g x k := by
  unfold f_X2_reader f_X3_reader
  rw [pr_reader]
  by_cases c1 : f_X3_in x 0 4 = 0
  · rw [if_pos c1, if_pos c1]
  rw [if_neg c1, if_neg c1]
  obtain ⟨hx, -⟩ := in_ix (n := 4) c1 rfl (by decide)
  rw [pr_bit _ (hg _ hx)]
  by_cases c : f_X3_in k 0 7 = 0
  · rw [if_pos c]
    (repeat' split) <;> first | rfl | (rename_i e; subst e; exact absurd c (by decide))
  · rw [if_neg c]
    obtain ⟨h1, h2⟩ := in_ix (n := 7) c rfl (by decide)
    rcases (show ix k = 0 ∨ ix k = 1 ∨ ix k = 2 ∨ ix k = 3 ∨ ix k = 4 ∨ ix k = 5 ∨ ix k = 6 ∨ ix k = 7 by omega) with z | z | z | z | z | z | z | z <;> (rw [z] at h2; subst h2; rfl)
