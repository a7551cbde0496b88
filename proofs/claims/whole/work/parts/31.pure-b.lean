/-! PURE: a write that is settled -/
theorem up_id {g : Nat → Int32} {i : Nat} {v : Int32} (h : v = g i) : upd g i v = g := by
  funext j
  by_cases e : j = i
  · subst e; rw [up_s, h]
  · rw [up_n e]
theorem add_0 (x : Int32) : x + 0 = x := Int32.add_zero x
theorem st_p {g S : Nat → Int32} {z : Int32} {t i : Nat} (ht : t < 12) (h1 : S (42 + i) = 0 ∨ S (42 + i) = 1) : p_X0_settle_2 g t S i = (p_X3_isSettled_4 g t (S, z) i).1 := by
  unfold p_X0_settle_2 p_X3_isSettled_4
  dsimp only
  rw [ho_eq]
  by_cases c1 : f_X3_isHolder S i t = 0
  · rw [if_pos c1, if_pos c1]
  · rw [if_neg c1, if_neg c1]
    unfold s_X0_settleHolder t1_X0_settleHolder s_X0_putOnList
    by_cases c2 : S 0 < S (52 + 3 * i + t / 4)
    · rw [if_pos c2, if_pos c2]
      by_cases c3 : S (17 + t) = 1
      · rw [if_pos c3, if_pos c3]
        rcases h1 with e | e
        · rw [if_pos e, if_neg (by rw [e]; decide)]
        · rw [if_neg (by rw [e]; decide), if_pos e]
      · rw [if_neg c3, if_neg c3]
    · rw [if_neg c2, if_neg c2]
      by_cases c4 : f_X2_isInSet (S (67 + 3 * i + t / 4)) (nI t) = 0
      · rw [if_pos c4, if_pos ((in_set (by omega)).mp c4)]
      · rw [if_neg c4, if_neg (fun q => c4 ((in_set (by omega)).mpr q)), add_0, up_id (g := S) rfl]
theorem st_q {g : Nat → Int32} {t : Nat} (ht : t < 12) (hg : ∀ r, r < 5 → g (42 + r) = 0 ∨ g (42 + r) = 1) : ∀ i, i ≤ 5 → q_X0_settle_2 g t g i = (q_X3_isSettled_4 g t (g, 1) i).1
  | 0, _ => rfl
  | i + 1, hi => by
    have ih := st_q ht hg i (by omega)
    have hk := kq_X3_isSettled g t (j := 42 + i) (by omega) i
    show p_X0_settle_2 g t (q_X0_settle_2 g t g i) i = (p_X3_isSettled_4 g t (q_X3_isSettled_4 g t (g, 1) i) i).1
    rw [ih]
    generalize q_X3_isSettled_4 g t (g, 1) i = S at hk ⊢
    exact st_p (z := S.2) ht (by rw [hk]; exact hg i (by omega))
/-- who holds, when those before i were settled -/
def HF (S : Nat → Int32) (z : Int32) (t i : Nat) : Prop := (z = 0 ∨ z = 1) ∧ (z = 0 ↔ ∃ r, r < i ∧ ¬ f_X3_isHolder S r t = 0)
theorem ho_same {S S' : Nat → Int32} {r t : Nat} (h0 : S' 0 = S 0) (h : S' (202 + 12 * r + t) = S (202 + 12 * r + t)) : f_X3_isHolder S' r t = f_X3_isHolder S r t := by
  unfold f_X3_isHolder
  rw [h0, h]
theorem ho_0 {S : Nat → Int32} {r t : Nat} (h0 : 0 ≤ S 0) (h : S (202 + 12 * r + t) = 0) : f_X3_isHolder S r t = 0 := by
  unfold f_X3_isHolder
  rw [h, if_pos h0]
theorem hf_s {g S : Nat → Int32} {z : Int32} {t i : Nat} (ht : t < 12) (hi : i < 5) (h0 : 0 ≤ S 0) (h : HF S z t i) : HF (p_X3_isSettled_4 g t (S, z) i).1 (p_X3_isSettled_4 g t (S, z) i).2 t (i + 1) := by
  obtain ⟨hz, hx⟩ := h
  have key : ∀ S' : Nat → Int32, S' 0 = S 0 → (∀ r, r < i → S' (202 + 12 * r + t) = S (202 + 12 * r + t)) → f_X3_isHolder S' i t = 0 → HF S' z t (i + 1) := by
    intro S' e0 e1 e2
    refine ⟨hz, hx.trans ⟨fun ⟨r, hr, q⟩ => ⟨r, by omega, by rw [ho_same e0 (e1 r hr)]; exact q⟩, fun ⟨r, hr, q⟩ => ?_⟩⟩
    by_cases e : r = i
    · subst e; exact absurd e2 q
    · exact ⟨r, by omega, by rw [← ho_same e0 (e1 r (by omega))]; exact q⟩
  have bad : ¬ f_X3_isHolder S i t = 0 → HF S 0 t (i + 1) := fun q => ⟨Or.inl rfl, fun _ => ⟨i, by omega, q⟩, fun _ => rfl⟩
  unfold p_X3_isSettled_4
  dsimp only
  by_cases c1 : f_X3_isHolder S i t = 0
  · rw [if_pos c1]
    exact key S rfl (fun _ _ => rfl) c1
  · rw [if_neg c1]
    by_cases c2 : S 0 < S (52 + 3 * i + t / 4)
    · rw [if_pos c2]
      by_cases c3 : S (17 + t) = 1
      · rw [if_pos c3]
        by_cases c4 : S (42 + i) = 1
        · rw [if_pos c4]
          dsimp only
          refine key _ ?_ (fun r hr => ?_) (ho_0 ?_ up_s)
          · rw [up_n (by omega), up_n (by omega), up_n (by omega), up_n (by omega), up_n (by omega)]
          · rw [up_n (by omega), up_n (by omega), up_n (by omega), up_n (by omega), up_n (by omega)]
          · rw [up_n (by omega), up_n (by omega), up_n (by omega), up_n (by omega), up_n (by omega)]; exact h0
        · rw [if_neg c4]; exact bad c1
      · rw [if_neg c3]; exact bad c1
    · rw [if_neg c2]
      dsimp only
      refine key _ ?_ (fun r hr => ?_) (ho_0 ?_ up_s)
      · rw [up_n (by omega), up_n (by omega), up_n (by omega)]
      · rw [up_n (by omega), up_n (by omega), up_n (by omega)]
      · rw [up_n (by omega), up_n (by omega), up_n (by omega)]; exact h0
theorem hf_q {g : Nat → Int32} {t : Nat} (ht : t < 12) (h0 : 0 ≤ g 0) : ∀ i, i ≤ 5 → HF (q_X3_isSettled_4 g t (g, 1) i).1 (q_X3_isSettled_4 g t (g, 1) i).2 t i
  | 0, _ => ⟨Or.inr rfl, fun q => absurd q (show ¬ (1 : Int32) = 0 by decide), fun ⟨r, hr, _⟩ => absurd hr (Nat.not_lt_zero r)⟩
  | i + 1, hi => by
    have ih := hf_q ht h0 i (by omega)
    have hk := kq_X3_isSettled g t (j := 0) (by omega) i
    show HF (p_X3_isSettled_4 g t (q_X3_isSettled_4 g t (g, 1) i) i).1 (p_X3_isSettled_4 g t (q_X3_isSettled_4 g t (g, 1) i) i).2 t (i + 1)
    generalize q_X3_isSettled_4 g t (g, 1) i = S at ih hk ⊢
    exact hf_s ht (by omega) (by rw [hk]; exact h0) ih
theorem or_0 (x y : Int32) : x ||| y = 0 ↔ x = 0 ∧ y = 0 := by
  rw [← Int32.toBitVec_inj, ← Int32.toBitVec_inj, ← Int32.toBitVec_inj, Int32.toBitVec_or]
  exact BitVec.or_eq_zero_iff
theorem ho_01 (g : Nat → Int32) (r t : Nat) : f_X0_isHolder g r t = 0 ∨ f_X0_isHolder g r t = 1 := by
  unfold f_X0_isHolder
  split
  · exact Or.inl rfl
  · exact Or.inr rfl
theorem sh_0 : ∀ i, i < 32 → ¬ ((1 : Int32) <<< (nI i &&& 31)) = 0 := by decide +kernel
theorem sh_z : ∀ i, i < 32 → ((0 : Int32) <<< (nI i &&& 31)) = 0 := by decide +kernel
theorem hs_zero (g : Nat → Int32) (t : Nat) : ∀ i, i ≤ 5 → (q_X0_holdersOf_4 g t 0 i = 0 ↔ ∀ r, r < i → f_X0_isHolder g r t = 0)
  | 0, _ => ⟨fun _ r hr => absurd hr (Nat.not_lt_zero r), fun _ => rfl⟩
  | i + 1, hi => by
    have ih := hs_zero g t i (by omega)
    show p_X0_holdersOf_4 g t (q_X0_holdersOf_4 g t 0 i) i = 0 ↔ _
    unfold p_X0_holdersOf_4
    rw [or_0, ih, pr_bit _ (ho_01 g i t)]
    constructor
    · rintro ⟨h1, h2⟩ r hr
      by_cases e : r = i
      · subst e
        rcases ho_01 g r t with q | q
        · exact q
        · rw [q] at h2; exact absurd h2 (sh_0 r (by omega))
      · exact h1 r (by omega)
    · intro h
      refine ⟨fun r hr => h r (by omega), ?_⟩
      rw [h i (by omega)]
      exact sh_z i (by omega)
theorem st_free {g : Nat → Int32} {t : Nat} (ht : t < 12) (h0 : 0 ≤ g 0) : q_X0_holdersOf_4 (q_X3_isSettled_4 g t (g, 1) 5).1 t 0 5 = 0 ↔ ¬ (q_X3_isSettled_4 g t (g, 1) 5).2 = 0 := by
  have h := (hf_q ht h0 5 (Nat.le_refl 5)).2
  generalize q_X3_isSettled_4 g t (g, 1) 5 = S at h ⊢
  rw [hs_zero _ _ 5 (Nat.le_refl 5), h]
  constructor
  · rintro q ⟨r, hr, z⟩
    exact z (q r hr)
  · intro q r hr
    rcases ho_01 S.1 r t with z | z
    · exact z
    · exact absurd ⟨r, hr, by rw [← ho_eq, z]; decide⟩ q
theorem st_eq {g : Nat → Int32} {t : Nat} (ht : t < 12) (h0 : 0 ≤ g 0) (hg : ∀ r, r < 5 → g (42 + r) = 0 ∨ g (42 + r) = 1) : s_X0_settle g t = s_X3_isSettled g t ∧ f_X0_settle g t = f_X3_isSettled g t := by
  have hq := st_q ht hg 5 (Nat.le_refl 5)
  have hf := st_free ht h0
  have hz := (hf_q ht h0 5 (Nat.le_refl 5)).1
  unfold s_X0_settle s_X3_isSettled f_X0_settle f_X3_isSettled
  rw [hq]
  generalize q_X3_isSettled_4 g t (g, 1) 5 = S at hf hz ⊢
  by_cases c : S.2 = 0
  · have c2 : ¬ q_X0_holdersOf_4 S.1 t 0 5 = 0 := fun q => (hf.mp q) c
    rw [if_neg c2, if_pos c, if_neg c2, if_pos c]
    exact ⟨rfl, c.symm⟩
  · have c2 : q_X0_holdersOf_4 S.1 t 0 5 = 0 := hf.mpr c
    rw [if_pos c2, if_neg c, if_pos c2, if_neg c]
    refine ⟨rfl, ?_⟩
    rcases hz with z | z
    · exact absurd z c
    · exact z.symm
