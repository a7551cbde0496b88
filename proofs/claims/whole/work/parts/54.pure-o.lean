/-! PURE: what holds of a row, kept by the settling of all -/
def TH (g : Nat → Int32) : Prop := ∀ r, r < 5 → g (42 + r) = 0 ∨ g (42 + r) = 1
def WYc (g : Nat → Int32) : Prop := ∀ t, t < 12 → g (17 + t) = -6 ∨ g (17 + t) = 0 ∨ g (17 + t) = 1
def VB (B : Nat) (g : Nat → Int32) : Prop := ∀ t, t < 12 → 0 ≤ (g (5 + t)).toInt ∧ (g (5 + t)).toInt ≤ B
/-- the line: apart, and just those that wait -/
def LD (g : Nat → Int32) : Prop := (∀ k k', k < ix (g 41) → k' < ix (g 41) → g (29 + k) = g (29 + k') → k = k') ∧ ∀ t, t < 12 → (¬ g (17 + t) < 0 ↔ ∃ k, k < ix (g 41) ∧ g (29 + k) = nI t)
def SI (g : Nat → Int32) (B : Nat) (S : Nat → Int32) (c i : Nat) : Prop :=
  LN g S c i ∧ (∀ k k', k < c → k' < c → S (29 + k) = S (29 + k') → k = k') ∧ (∀ k, k < c → ∃ k', k' < i ∧ S (29 + k) = g (29 + k')) ∧
  (∀ t, t < 12 → (¬ S (17 + t) < 0 ↔ ((∃ k, k < c ∧ S (29 + k) = nI t) ∨ ∃ k, i ≤ k ∧ k < ix (g 41) ∧ g (29 + k) = nI t))) ∧
  (∀ k, k < c → HD S (ix (S (29 + k)))) ∧ WYc S ∧ CC S ∧ VB (B + i) S ∧ PB S ∧ ∀ j, (1 ≤ j ∧ j < 5) ∨ (292 ≤ j ∧ j < 305) → S j = g j
theorem vb_st {S : Nat → Int32} {B t : Nat} (ht : t < 12) (hB : B ≤ 1000000) (h : VB B S) : VB (B + 1) (s_X3_isSettled S t) := by
  intro t' ht'
  obtain ⟨a1, a2⟩ := h t' ht'
  by_cases e : t' = t
  · subst e
    by_cases c : f_X3_isSettled S t' = 0
    · rw [(ss_not ht c).2]; exact ⟨a1, by omega⟩
    · rw [(ss_done ht c).2, ti_1 a1 (by omega)]; exact ⟨by omega, by omega⟩
  · rw [ks_X3_isSettled S (by omega) (by omega) (by omega)]; exact ⟨a1, by omega⟩
theorem wy_st {S : Nat → Int32} {t : Nat} (ht : t < 12) (h : WYc S) : WYc (s_X3_isSettled S t) := by
  intro t' ht'
  by_cases e : t' = t
  · subst e
    by_cases c : f_X3_isSettled S t' = 0
    · rw [(ss_not ht c).1]; exact h t' ht'
    · rw [(ss_done ht c).1]; exact Or.inl rfl
  · rw [ks_X3_isSettled S (by omega) (by omega) (by omega)]; exact h t' ht'
theorem wy_upd {S : Nat → Int32} {i : Nat} {v : Int32} (h : WYc S) (hi : i < 17 ∨ 29 ≤ i) : WYc (upd S i v) := fun t ht => by rw [up_n (by omega)]; exact h t ht
theorem vb_upd {S : Nat → Int32} {B i : Nat} {v : Int32} (h : VB B S) (hi : i < 5 ∨ 17 ≤ i) : VB B (upd S i v) := fun t ht => by rw [up_n (by omega)]; exact h t ht
theorem si_s {g : Nat → Int32} {B : Nat} {S : (Nat → Int32) × Nat} {i : Nat} (hL : LI g) (hLD : LD g) (hB : B + 12 ≤ 1000000) (hi : i < ix (g 41)) (h : SI g B S.1 S.2 i) : SI g B (p_X3_settleAll_12 g S i).1 (p_X3_settleAll_12 g S i).2 (i + 1) := by
  obtain ⟨h1, h2, h3, h4, h5, h6, h7, h8, h9, h10⟩ := h
  have hi12 : i < 12 := Nat.lt_of_lt_of_le hi hL.1.1
  obtain ⟨ht, et⟩ := hL.2 i hi
  have h1' := ln_s hi12 ht h1
  have hci : S.2 ≤ i := h1.1
  unfold p_X3_settleAll_12 at h1' ⊢
  generalize ix (g (29 + i)) = t at ht et h1' ⊢
  obtain ⟨S, c⟩ := S
  dsimp only at h1 h2 h3 h4 h5 h6 h7 h8 h9 h10 h1' hci ⊢
  have nk : ∀ k, k < c → S (29 + k) ≠ nI t := by
    intro k hk q
    obtain ⟨k', hk', e⟩ := h3 k hk
    have := hLD.1 k' i (by omega) hi (by rw [← e, q, et])
    omega
  have nl : ∀ k, i + 1 ≤ k → k < ix (g 41) → g (29 + k) ≠ nI t := by
    intro k hk hk2 q
    have := hLD.1 k i hk2 hi (by rw [q, et])
    omega
  have it : ∀ k, k < c → ix (S (29 + k)) ≠ t ∧ ix (S (29 + k)) < 12 := by
    intro k hk
    obtain ⟨a1, a2⟩ := h1.2.2 k hk
    exact ⟨fun q => nk k hk (by rw [← q]; exact a2), a1⟩
  have c12 : c < 12 := by omega
  by_cases f : f_X3_isSettled S t = 0
  · rw [if_pos f] at h1' ⊢
    dsimp only at h1' ⊢
    have eL : ∀ k, k < c → upd (s_X3_isSettled S t) (29 + c) (nI t) (29 + k) = S (29 + k) := fun k hk => by rw [up_n (by omega), ss_29 (by omega) ht]
    have eW : ∀ t', t' < 12 → upd (s_X3_isSettled S t) (29 + c) (nI t) (17 + t') = S (17 + t') := fun t' ht' => by
      rw [up_n (by omega)]
      by_cases e : t' = t
      · subst e; exact (ss_not ht f).1
      · exact ks_X3_isSettled S (by omega) (by omega) (by omega)
    refine ⟨h1', ?_, ?_, ?_, ?_, wy_upd (wy_st ht h6) (by omega), cc_upd (ss_cc ht h7) (by omega), ?_, pb_upd (pb_st h9 ht) (by omega) (by omega), ?_⟩
    · intro k k' hk hk' q
      by_cases e1 : k = c
      · by_cases e2 : k' = c
        · omega
        · rw [e1, up_s, eL k' (by omega)] at q
          exact absurd q.symm (nk k' (by omega))
      · by_cases e2 : k' = c
        · rw [e2, up_s, eL k (by omega)] at q
          exact absurd q (nk k (by omega))
        · rw [eL k (by omega), eL k' (by omega)] at q
          exact h2 k k' (by omega) (by omega) q
    · intro k hk
      by_cases e1 : k = c
      · exact ⟨i, by omega, by rw [e1, up_s, et]⟩
      · obtain ⟨k', hk', e⟩ := h3 k (by omega)
        exact ⟨k', by omega, by rw [eL k (by omega)]; exact e⟩
    · intro t' ht'
      rw [eW t' ht', h4 t' ht']
      constructor
      · rintro (⟨k, hk, e⟩ | ⟨k, hk, hk2, e⟩)
        · exact Or.inl ⟨k, by omega, by rw [eL k hk]; exact e⟩
        · by_cases q : k = i
          · subst q
            exact Or.inl ⟨c, by omega, by rw [up_s, ← et]; exact e⟩
          · exact Or.inr ⟨k, by omega, hk2, e⟩
      · rintro (⟨k, hk, e⟩ | ⟨k, hk, hk2, e⟩)
        · by_cases q : k = c
          · rw [q, up_s] at e
            exact Or.inr ⟨i, Nat.le_refl _, hi, by rw [et]; exact e⟩
          · rw [eL k (by omega)] at e
            exact Or.inl ⟨k, by omega, e⟩
        · exact Or.inr ⟨k, by omega, hk2, e⟩
    · intro k hk
      by_cases e1 : k = c
      · rw [e1, up_s, ix_nI (by omega)]
        exact up_hd ht (by omega) (ss_hd ht (pb_0 h9) f)
      · rw [eL k (by omega)]
        obtain ⟨a1, a2⟩ := it k (by omega)
        exact up_hd a2 (by omega) (ss_hd' ht a2 a1 (h5 k (by omega)))
    · exact vb_upd (vb_st (B := B + i) ht (by omega) h8) (by omega)
    · intro j hj
      rw [up_n (by omega)]
      rcases hj with q | q
      · rw [ss_29 (by omega) ht]; exact h10 j (Or.inl q)
      · rw [ss_292 q ht]; exact h10 j (Or.inr q)
  · rw [if_neg f] at h1' ⊢
    dsimp only at h1' ⊢
    have eL : ∀ k, k < c → s_X3_isSettled S t (29 + k) = S (29 + k) := fun k hk => ss_29 (by omega) ht
    refine ⟨h1', ?_, ?_, ?_, ?_, wy_st ht h6, ss_cc ht h7, ?_, pb_st h9 ht, ?_⟩
    · intro k k' hk hk' q
      rw [eL k hk, eL k' hk'] at q
      exact h2 k k' hk hk' q
    · intro k hk
      obtain ⟨k', hk', e⟩ := h3 k hk
      exact ⟨k', by omega, by rw [eL k hk]; exact e⟩
    · intro t' ht'
      by_cases q : t' = t
      · subst q
        rw [(ss_done ht f).1]
        constructor
        · intro z; exact absurd (by decide) z
        · rintro (⟨k, hk, e⟩ | ⟨k, hk, hk2, e⟩)
          · rw [eL k hk] at e; exact absurd e (nk k hk)
          · exact absurd e (nl k hk hk2)
      · rw [ks_X3_isSettled S (by omega) (by omega) (by omega), h4 t' ht']
        constructor
        · rintro (⟨k, hk, e⟩ | ⟨k, hk, hk2, e⟩)
          · exact Or.inl ⟨k, hk, by rw [eL k hk]; exact e⟩
          · refine Or.inr ⟨k, ?_, hk2, e⟩
            rcases Nat.lt_or_ge i k with z | z
            · exact z
            · have : k = i := by omega
              subst this
              rw [et] at e
              exact absurd ((nI_eq (by omega) (by omega)).mp e).symm q
        · rintro (⟨k, hk, e⟩ | ⟨k, hk, hk2, e⟩)
          · exact Or.inl ⟨k, hk, by rw [← eL k hk]; exact e⟩
          · exact Or.inr ⟨k, by omega, hk2, e⟩
    · intro k hk
      rw [eL k hk]
      obtain ⟨a1, a2⟩ := it k hk
      exact ss_hd' ht a2 a1 (h5 k hk)
    · exact vb_st (B := B + i) ht (by omega) h8
    · intro j hj
      rcases hj with q | q
      · rw [ss_29 (by omega) ht]; exact h10 j (Or.inl q)
      · rw [ss_292 q ht]; exact h10 j (Or.inr q)
theorem si_q {g : Nat → Int32} {B : Nat} (hL : LI g) (hLD : LD g) (hWY : WYc g) (hC : CC g) (hV : VB B g) (hP : PB g) (hB : B + 12 ≤ 1000000) : ∀ i, i ≤ ix (g 41) → SI g B (q_X3_settleAll_12 g (g, 0) i).1 (q_X3_settleAll_12 g (g, 0) i).2 i
  | 0, _ => by
    refine ⟨ln_q hL 0 (Nat.zero_le _), fun k k' hk => absurd hk (Nat.not_lt_zero k), fun k hk => absurd hk (Nat.not_lt_zero k), fun t ht => ?_, fun k hk => absurd hk (Nat.not_lt_zero k), hWY, hC, hV, hP, fun _ _ => rfl⟩
    show (¬ g (17 + t) < 0 ↔ _)
    rw [hLD.2 t ht]
    constructor
    · rintro ⟨k, hk, e⟩; exact Or.inr ⟨k, Nat.zero_le _, hk, e⟩
    · rintro (⟨k, hk, e⟩ | ⟨k, hk, hk2, e⟩)
      · exact absurd hk (Nat.not_lt_zero k)
      · exact ⟨k, hk2, e⟩
  | i + 1, hi => by
    rw [qs_X3_settleAll]
    exact si_s hL hLD hB hi (si_q hL hLD hWY hC hV hP hB i (Nat.le_of_succ_le hi))
theorem sa_inv {g : Nat → Int32} {B : Nat} (hL : LI g) (hLD : LD g) (hWY : WYc g) (hC : CC g) (hV : VB B g) (hP : PB g) (hB : B + 12 ≤ 1000000) : LD (s_X3_settleAll g) ∧ HDa (s_X3_settleAll g) ∧ WYc (s_X3_settleAll g) ∧ CC (s_X3_settleAll g) ∧ VB (B + 12) (s_X3_settleAll g) ∧ PB (s_X3_settleAll g) ∧ ∀ j, (1 ≤ j ∧ j < 5) ∨ (292 ≤ j ∧ j < 305) → s_X3_settleAll g j = g j := by
  obtain ⟨h1, h2, h3, h4, h5, h6, h7, h8, h9, h10⟩ := si_q hL hLD hWY hC hV hP hB _ (Nat.le_refl _)
  have hm := hL.1.1
  unfold s_X3_settleAll
  generalize q_X3_settleAll_12 g (g, 0) (ix (g 41)) = S at h1 h2 h3 h4 h5 h6 h7 h8 h9 h10 ⊢
  obtain ⟨S, c⟩ := S
  dsimp only at h1 h2 h3 h4 h5 h6 h7 h8 h9 h10 ⊢
  have hc : c ≤ 12 := Nat.le_trans h1.1 hm
  have e41 : ix (upd S 41 (nI c) 41) = c := by rw [up_s]; exact ix_nI (by omega)
  have eL : ∀ k, k < c → upd S 41 (nI c) (29 + k) = S (29 + k) := fun k hk => up_n (by omega)
  have h4' : ∀ t, t < 12 → (¬ upd S 41 (nI c) (17 + t) < 0 ↔ ∃ k, k < c ∧ upd S 41 (nI c) (29 + k) = nI t) := by
    intro t ht
    rw [up_n (by omega), h4 t ht]
    constructor
    · rintro (⟨k, hk, e⟩ | ⟨k, hk, hk2, e⟩)
      · exact ⟨k, hk, by rw [eL k hk]; exact e⟩
      · omega
    · rintro ⟨k, hk, e⟩
      exact Or.inl ⟨k, hk, by rw [← eL k hk]; exact e⟩
  refine ⟨⟨?_, ?_⟩, ?_, wy_upd h6 (by omega), cc_upd h7 (by omega), ?_, pb_upd h9 (by omega) (by omega), ?_⟩
  · rw [e41]
    intro k k' hk hk' q
    rw [eL k hk, eL k' hk'] at q
    exact h2 k k' hk hk' q
  · rw [e41]; exact h4'
  · intro t ht q
    obtain ⟨k, hk, e⟩ := (h4' t ht).mp q
    rw [eL k hk] at e
    have := h5 k hk
    rw [e, ix_nI (by omega)] at this
    exact up_hd ht (by omega) this
  · intro t ht
    obtain ⟨a1, a2⟩ := vb_upd (v := nI c) h8 (i := 41) (by omega) t ht
    exact ⟨a1, by omega⟩
  · intro j hj
    rw [up_n (by omega)]
    exact h10 j hj
