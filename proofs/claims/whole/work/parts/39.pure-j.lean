/-! PURE: volume, count -/
theorem vo_in (y : Int32) : f_X3_in y 0 2 = if y < 0 then 0 else if y < 3 then 1 else 0 := by
  unfold f_X3_in
  by_cases c : y < 0
  · rw [if_pos c, if_pos c]
  · rw [if_neg c, if_neg c]
    have e2 : (2 : Int32).toInt = 2 := rfl
    have e3 : (3 : Int32).toInt = 3 := rfl
    by_cases c2 : y < 3
    · rw [if_pos c2, if_neg]
      rw [Int32.lt_iff_toInt_lt] at c2 ⊢
      omega
    · rw [if_neg c2, if_pos]
      rw [Int32.lt_iff_toInt_lt] at c2 ⊢
      omega
theorem ov_01 (g : Nat → Int32) (r : Nat) (x : Int32) : f_X3_isOver g r x = 0 ∨ f_X3_isOver g r x = 1 := by
  unfold f_X3_isOver
  split
  · exact Or.inl rfl
  · exact Or.inr rfl
theorem vo_eq {g : Nat → Int32} {x y k : Int32} : f_X2_volume g x y k = f_X3_volume g x y k := by
  unfold f_X2_volume f_X3_volume
  rw [pr_reader, vo_in y]
  by_cases c1 : f_X3_in x 0 4 = 0
  · rw [if_pos c1, if_pos c1]
  rw [if_neg c1, if_neg c1]
  by_cases c2 : y < 0
  · rw [if_pos c2, if_pos c2, if_pos rfl]
  rw [if_neg c2, if_neg c2]
  by_cases c3 : y < 3
  · rw [if_pos c3, if_pos c3, if_neg (show ¬ (1 : Int32) = 0 by decide)]
    by_cases c4 : f_X3_in k 0 2 = 0
    · rw [if_pos c4]
      have h := (in_2 k).mp c4
      rw [if_neg (fun q => h (Or.inl q)), if_neg (fun q => h (Or.inr (Or.inl q))), if_neg (fun q => h (Or.inr (Or.inr q)))]
    · rw [if_neg c4]
      by_cases k0 : k = 0
      · rw [if_pos k0, if_pos k0]
      · rw [if_neg k0, if_neg k0]
        by_cases k1 : k = 1
        · rw [if_pos k1, if_pos k1]; rfl
        · rw [if_neg k1, if_neg k1]
          by_cases k2 : k = 2
          · rw [if_pos k2]
          · exact absurd ((in_2 k).mpr (fun q => q.elim k0 (fun q => q.elim k1 k2))) c4
  · rw [if_neg c3, if_neg c3, if_pos rfl]
theorem cn_eq {g kp : Nat → Int32} {k kI : Int32} (h : kI = (if kp 0 = 0 then 0 else 1 : Int32) + (if kp 1 = 0 then 0 else 2 : Int32)) : f_X2_count g k kI = f_X3_count g k kp := by
  unfold f_X2_count f_X3_count
  rw [h]
  by_cases c : f_X3_in k 10 13 = 0
  · rw [if_pos c]
    have n0 : ¬ k = 10 := fun e => by rw [e] at c; exact absurd c (by decide)
    have n1 : ¬ k = 11 := fun e => by rw [e] at c; exact absurd c (by decide)
    have n2 : ¬ k = 12 := fun e => by rw [e] at c; exact absurd c (by decide)
    have n3 : ¬ k = 13 := fun e => by rw [e] at c; exact absurd c (by decide)
    rw [if_neg n0, if_neg n1, if_neg n2, if_neg n3]
    have e9 : (if k = 9 then (-2) else (-2) : Int32) = -2 := by split <;> rfl
    rw [e9]
  · rw [if_neg c]
    obtain ⟨-, h1, h2⟩ := in_10 c
    obtain ⟨-, -, e⟩ := in_lo (a := 10) (b := 13) c rfl rfl (by decide) (by decide)
    rcases (show ix k = 10 ∨ ix k = 11 ∨ ix k = 12 ∨ ix k = 13 by omega) with z | z | z | z <;> (rw [z] at e; subst e; rfl)
