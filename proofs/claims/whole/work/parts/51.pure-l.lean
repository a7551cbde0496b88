/-! PURE: due -/
/-- who holds a thing lasts by its volume too, and can't be broken now -/
def HD (g : Nat → Int32) (t : Nat) : Prop := ∀ r, r < 5 → g 0 < g (202 + 12 * r + t) → g 0 < g (52 + 3 * r + t / 4) ∧ ¬ (g (17 + t) = 1 ∧ g (42 + r) = 1)
theorem hu_le {g : Nat → Int32} {r t : Nat} {z : Int32} : f_X1_holdsUntil g r t ≤ z ↔ (g (202 + 12 * r + t) ≤ z ∨ g (52 + 3 * r + t / 4) ≤ z) := by
  unfold f_X1_holdsUntil
  split
  · rename_i h
    rw [Int32.lt_iff_toInt_lt] at h
    rw [Int32.le_iff_toInt_le, Int32.le_iff_toInt_le]
    omega
  · rename_i h
    rw [Int32.lt_iff_toInt_lt] at h
    rw [Int32.le_iff_toInt_le, Int32.le_iff_toInt_le]
    omega
theorem dq {g : Nat → Int32} {t : Nat} {z : Int32} (hz : g 0 + 1 ≤ z) : ∀ i, (q_X0_dueOf_9 g t (g 0 + 1) i ≤ z ↔ ∀ r, r < i → ¬ f_X0_isHolder g r t = 0 → f_X1_holdsUntil g r t ≤ z)
  | 0 => ⟨fun _ r hr => absurd hr (Nat.not_lt_zero r), fun _ => hz⟩
  | i + 1 => by
    have ih := dq (t := t) hz i
    show p_X0_dueOf_9 g t (q_X0_dueOf_9 g t (g 0 + 1) i) i ≤ z ↔ _
    generalize q_X0_dueOf_9 g t (g 0 + 1) i = S at ih ⊢
    have step : p_X0_dueOf_9 g t S i ≤ z ↔ (S ≤ z ∧ (¬ f_X0_isHolder g i t = 0 → f_X1_holdsUntil g i t ≤ z)) := by
      unfold p_X0_dueOf_9
      by_cases c : f_X0_isHolder g i t = 0
      · rw [if_pos c]; exact ⟨fun h => ⟨h, fun q => absurd c q⟩, fun h => h.1⟩
      · rw [if_neg c]
        split
        · rename_i h
          refine ⟨fun q => ⟨?_, fun _ => q⟩, fun q => q.2 c⟩
          exact Int32.le_trans (Int32.le_of_lt h) q
        · rename_i h
          exact ⟨fun q => ⟨q, fun _ => Int32.le_trans (Int32.not_lt.mp h) q⟩, fun q => q.1⟩
    rw [step, ih]
    constructor
    · rintro ⟨h1, h2⟩ r hr q
      by_cases e : r = i
      · subst e; exact h2 q
      · exact h1 r (by omega) q
    · intro h
      exact ⟨fun r hr q => h r (by omega) q, fun q => h i (by omega) q⟩
theorem dq_ge {g : Nat → Int32} {t : Nat} : ∀ i, g 0 + 1 ≤ q_X0_dueOf_9 g t (g 0 + 1) i
  | 0 => Int32.le_refl _
  | i + 1 => by
    have ih := dq_ge (g := g) (t := t) i
    show g 0 + 1 ≤ p_X0_dueOf_9 g t (q_X0_dueOf_9 g t (g 0 + 1) i) i
    generalize q_X0_dueOf_9 g t (g 0 + 1) i = S at ih ⊢
    unfold p_X0_dueOf_9
    split
    · exact ih
    · split
      · rename_i h
        exact Int32.le_trans ih (Int32.le_of_lt h)
      · exact ih
theorem uq {g : Nat → Int32} {t : Nat} {z : Int32} : ∀ i, (q_X3_dueOf_21 g t z 0 i = 0 ↔ ∀ r, r < i → (g (202 + 12 * r + t) ≤ z ∨ g (52 + 3 * r + t / 4) ≤ z ∨ (g (17 + t) = 1 ∧ g (42 + r) = 1)))
  | 0 => ⟨fun _ r hr => absurd hr (Nat.not_lt_zero r), fun _ => rfl⟩
  | i + 1 => by
    have ih := uq (g := g) (t := t) (z := z) i
    show p_X3_dueOf_21 g t z (q_X3_dueOf_21 g t z 0 i) i = 0 ↔ _
    generalize q_X3_dueOf_21 g t z 0 i = S at ih ⊢
    have step : p_X3_dueOf_21 g t z S i = 0 ↔ (S = 0 ∧ (g (202 + 12 * i + t) ≤ z ∨ g (52 + 3 * i + t / 4) ≤ z ∨ (g (17 + t) = 1 ∧ g (42 + i) = 1))) := by
      unfold p_X3_dueOf_21
      by_cases c : S = 0
      · rw [if_pos c]
        by_cases c1 : g (202 + 12 * i + t) ≤ z
        · rw [if_pos c1]; exact ⟨fun _ => ⟨c, Or.inl c1⟩, fun _ => rfl⟩
        · rw [if_neg c1]
          by_cases c2 : g (52 + 3 * i + t / 4) ≤ z
          · rw [if_pos c2]; exact ⟨fun _ => ⟨c, Or.inr (Or.inl c2)⟩, fun _ => rfl⟩
          · rw [if_neg c2]
            by_cases c3 : g (17 + t) = 1
            · rw [if_pos c3]
              by_cases c4 : g (42 + i) = 1
              · rw [if_pos c4, if_neg (by decide)]; exact ⟨fun _ => ⟨c, Or.inr (Or.inr ⟨c3, c4⟩)⟩, fun _ => rfl⟩
              · rw [if_neg c4, if_pos rfl]
                exact ⟨fun q => absurd q (by decide), fun q => (q.2.elim c1 (fun q => q.elim c2 (fun q => c4 q.2))).elim⟩
            · rw [if_neg c3, if_pos rfl]
              exact ⟨fun q => absurd q (by decide), fun q => (q.2.elim c1 (fun q => q.elim c2 (fun q => c3 q.1))).elim⟩
      · rw [if_neg c]
        exact ⟨fun q => absurd q (by decide), fun q => absurd q.1 c⟩
    rw [step, ih]
    constructor
    · rintro ⟨h1, h2⟩ r hr
      by_cases e : r = i
      · subst e; exact h2
      · exact h1 r (by omega)
    · intro h
      exact ⟨fun r hr => h r (by omega), h i (by omega)⟩
theorem ti_1 {x : Int32} (h0 : 0 ≤ x.toInt) (h1 : x.toInt ≤ 1000000) : (x + 1).toInt = x.toInt + 1 := by
  rw [Int32.toInt_add]
  have : (1 : Int32).toInt = 1 := rfl
  rw [this]
  exact Int.bmod_eq_of_le (by omega) (by omega)
theorem ti_n {x : Int32} {n : Nat} (h0 : 0 ≤ x.toInt) (h1 : x.toInt ≤ 1000000) (hn : n ≤ 1000000) : (x + nI n).toInt = x.toInt + n := by
  rw [Int32.toInt_add, nI_toInt (by omega)]
  exact Int.bmod_eq_of_le (by omega) (by omega)
theorem due_key {g : Nat → Int32} {t : Nat} {z : Int32} (hH : HD g t) (h0 : 0 ≤ (g 0).toInt) (h1 : (g 0).toInt ≤ 100000) (hz : g 0 + 1 ≤ z) : q_X3_dueOf_21 g t z 0 5 = 0 ↔ q_X0_dueOf_9 g t (g 0 + 1) 5 ≤ z := by
  rw [uq 5, dq hz 5]
  have hz' := hz
  rw [Int32.le_iff_toInt_le, ti_1 h0 (by omega)] at hz'
  constructor
  · intro h r hr q
    have hp : g 0 < g (202 + 12 * r + t) := by
      unfold f_X0_isHolder at q
      by_cases c : g (202 + 12 * r + t) ≤ g 0
      · rw [if_pos c] at q; exact absurd rfl q
      · exact Int32.not_le.mp c
    rw [hu_le]
    rcases h r hr with e | e | e
    · exact Or.inl e
    · exact Or.inr e
    · exact absurd e (hH r hr hp).2
  · intro h r hr
    by_cases q : f_X0_isHolder g r t = 0
    · left
      unfold f_X0_isHolder at q
      by_cases c : g (202 + 12 * r + t) ≤ g 0
      · rw [Int32.le_iff_toInt_le] at c ⊢
        omega
      · rw [if_neg c] at q; exact absurd q (by decide)
    · rcases hu_le.mp (h r hr q) with e | e
      · exact Or.inl e
      · exact Or.inr (Or.inl e)
theorem u_at {g : Nat → Int32} {t : Nat} {D : Int32} (h0 : 0 ≤ (g 0).toInt) (key : ∀ z : Int32, g 0 + 1 ≤ z → (q_X3_dueOf_21 g t z 0 5 = 0 ↔ D ≤ z)) (hb : (g 0 + 1).toInt = (g 0).toInt + 1) (hD : D.toInt ≤ 1000000) : ∀ (fu : Nat) (z : Int32), (g 0).toInt ≤ z.toInt → z.toInt < D.toInt → D.toInt ≤ z.toInt + fu → u_X3_dueOf g t fu z = D
  | 0, z, _, h2, h3 => by omega
  | fu + 1, z, h1, h2, h3 => by
    have e1 : (z + 1).toInt = z.toInt + 1 := ti_1 (by omega) (by omega)
    have k := key (z + 1) (by rw [Int32.le_iff_toInt_le, hb, e1]; omega)
    show (if q_X3_dueOf_21 g t (z + 1) 0 5 = 0 then z + 1 else u_X3_dueOf g t fu (z + 1)) = D
    by_cases c : q_X3_dueOf_21 g t (z + 1) 0 5 = 0
    · rw [if_pos c]
      have := k.mp c
      rw [Int32.le_iff_toInt_le, e1] at this
      rw [← Int32.toInt_inj, e1]
      omega
    · rw [if_neg c]
      have : ¬ D.toInt ≤ z.toInt + 1 := fun q => c (k.mpr (by rw [Int32.le_iff_toInt_le, e1]; exact q))
      exact u_at h0 key hb hD fu (z + 1) (by rw [e1]; omega) (by rw [e1]; omega) (by rw [e1]; omega)
theorem due_eq {g : Nat → Int32} {t : Nat} (hH : HD g t) (hB : PB g) (ht : t < 12) : f_X3_dueOf g t = q_X0_dueOf_9 g t (g 0 + 1) 5 := by
  obtain ⟨h0, h1, h2⟩ := hB
  have hb : (g 0 + 1).toInt = (g 0).toInt + 1 := ti_1 h0 (by omega)
  have e2 : (g 0 + nI 200).toInt = (g 0).toInt + 200 := ti_n h0 (by omega) (by decide)
  have hge := dq_ge (g := g) (t := t) 5
  have hle : q_X0_dueOf_9 g t (g 0 + 1) 5 ≤ g 0 + nI 200 := by
    refine (dq (by rw [Int32.le_iff_toInt_le, hb, e2]; omega) 5).mpr (fun r hr _ => hu_le.mpr (Or.inl ?_))
    rw [Int32.le_iff_toInt_le, e2]
    exact h2 r hr t ht
  have key := fun z => due_key (z := z) hH h0 h1
  generalize q_X0_dueOf_9 g t (g 0 + 1) 5 = D at hge hle key ⊢
  rw [Int32.le_iff_toInt_le, hb] at hge
  rw [Int32.le_iff_toInt_le, e2] at hle
  exact u_at h0 key hb (by omega) 400 (g 0) (Int.le_refl _) (by omega) (by omega)
