/-! PURE: a write keeps the invariant -/
theorem ph : ∀ (N m : Nat) (f : Nat → Nat), (∀ k, k < m → f k < N) → (∀ k k', k < m → k' < m → f k = f k' → k = k') → m ≤ N
  | 0, m, f, h1, _ => by
    rcases Nat.eq_zero_or_pos m with e | e
    · omega
    · exact absurd (h1 0 e) (Nat.not_lt_zero _)
  | N + 1, m, f, h1, h2 => by
    by_cases h : ∃ k0, k0 < m ∧ f k0 = N
    · obtain ⟨k0, hk0, e0⟩ := h
      obtain ⟨m', rfl⟩ : ∃ m', m = m' + 1 := ⟨m - 1, by omega⟩
      have := ph N m' (fun k => if k = k0 then f m' else f k) (fun k hk => by
        show (if k = k0 then f m' else f k) < N
        by_cases e : k = k0
        · rw [if_pos e]
          have a := h1 m' (by omega)
          have b : f m' ≠ N := fun q => by
            have := h2 m' k0 (by omega) hk0 (by rw [q, e0])
            omega
          omega
        · rw [if_neg e]
          have a := h1 k (by omega)
          have b : f k ≠ N := fun q => e (h2 k k0 (by omega) hk0 (by rw [q, e0]))
          omega) (fun k k' hk hk' q => by
        have q : (if k = k0 then f m' else f k) = (if k' = k0 then f m' else f k') := q
        by_cases e : k = k0
        · by_cases e' : k' = k0
          · omega
          · rw [if_pos e, if_neg e'] at q
            have := h2 m' k' (by omega) (by omega) q
            omega
        · by_cases e' : k' = k0
          · rw [if_neg e, if_pos e'] at q
            have := h2 k m' (by omega) (by omega) q
            omega
          · rw [if_neg e, if_neg e'] at q
            exact h2 k k' (by omega) (by omega) q)
      omega
    · have := ph N m f (fun k hk => by
        have a := h1 k hk
        have b : f k ≠ N := fun q => h ⟨k, hk, q⟩
        omega) h2
      omega
theorem ln_lt {g : Nat → Int32} {t : Nat} (hL : LI g) (hD : LD g) (ht : t < 12) (hw : g (17 + t) < 0) : ix (g 41) < 12 := by
  have no : ∀ k, k < ix (g 41) → ix (g (29 + k)) ≠ t := fun k hk q => by
    have := (hL.2 k hk).2
    rw [q] at this
    exact (hD.2 t ht).mpr ⟨k, hk, this⟩ hw
  have := ph 12 (ix (g 41) + 1) (fun k => if k < ix (g 41) then ix (g (29 + k)) else t) (fun k hk => by
    show (if k < ix (g 41) then ix (g (29 + k)) else t) < 12
    by_cases c : k < ix (g 41)
    · rw [if_pos c]; exact (hL.2 k c).1
    · rw [if_neg c]; exact ht) (fun k k' hk hk' q => by
    have q : (if k < ix (g 41) then ix (g (29 + k)) else t) = (if k' < ix (g 41) then ix (g (29 + k')) else t) := q
    by_cases c : k < ix (g 41)
    · by_cases c' : k' < ix (g 41)
      · rw [if_pos c, if_pos c'] at q
        exact hD.1 k k' c c' (by rw [(hL.2 k c).2, (hL.2 k' c').2, q])
      · rw [if_pos c, if_neg c'] at q
        exact absurd q (no k c)
    · by_cases c' : k' < ix (g 41)
      · rw [if_neg c, if_pos c'] at q
        exact absurd q.symm (no k' c')
      · omega)
  omega
theorem lw_hd' {g : Nat → Int32} {t t' : Nat} (ht' : t' < 12) (h : HD g t') : HD (s_X3_layWaited g t) t' :=
  hd_eq ht' (ks_X3_layWaited g (by omega)) (ks_X3_layWaited g (by omega)) (fun r hr => ks_X3_layWaited g (by omega)) (fun r hr => ks_X3_layWaited g (by omega)) (fun r hr => ks_X3_layWaited g (by omega)) h
theorem w2_lo {g : Nat → Int32} {t j : Nat} {n : Int32} (ht : t < 12) (h : (j < 5 ∨ 29 ≤ j) ∧ j < 67) : wr2 g t n j = g j := by
  unfold wr2 wr1
  rw [ks_X3_layWaited _ (by omega), ss_29 h ht, up_n (by omega), up_n (by omega)]
theorem w2_w {g : Nat → Int32} {t t' : Nat} {n : Int32} (ht : t < 12) (ht' : t' < 12) (hne : t' ≠ t) : wr2 g t n (17 + t') = g (17 + t') := by
  unfold wr2 wr1
  rw [ks_X3_layWaited _ (by omega), ks_X3_isSettled _ (by omega) (by omega) (by omega), up_n (by omega), up_n (by omega)]
theorem w2_296 {g : Nat → Int32} {t : Nat} {n : Int32} (ht : t < 12) : wr2 g t n 296 = g 296 := by
  unfold wr2 wr1
  rw [ks_X3_layWaited _ (by omega), ss_292 (by omega) ht, up_n (by omega), up_n (by omega)]
theorem w2_302 {g : Nat → Int32} {t : Nat} {n : Int32} : ix (wr2 g t n 302) ≤ 5 ∧ wr2 g t n 302 = nI (ix (wr2 g t n 302)) := by
  have h := wi_X3_layWaited (s_X3_isSettled (wr1 g t n) t) t 5 (Nat.le_refl 5)
  exact ⟨h.1, h.2.1⟩
theorem w2_cc {g : Nat → Int32} {t : Nat} {n : Int32} (ht : t < 12) (h : CC g) : CC (wr2 g t n) := by
  unfold wr2
  refine e_CC (fun j _ _ => ks_X3_layWaited _ (by omega)) (ss_cc ht ?_)
  unfold wr1
  exact cc_upd (cc_upd h (by omega)) (by omega)
theorem w2_vb {g : Nat → Int32} {B t : Nat} {n : Int32} (ht : t < 12) (hB : B ≤ 1000000) (h : VB B g) : VB (B + 1) (wr2 g t n) := by
  unfold wr2
  refine e_VB (fun j _ _ => ks_X3_layWaited _ (by omega)) (vb_st ht hB ?_)
  unfold wr1
  exact vb_upd (vb_upd h (by omega)) (by omega)
theorem w2_hd {g : Nat → Int32} {t t' : Nat} {n : Int32} (ht : t < 12) (ht' : t' < 12) (hne : t' ≠ t) (h : HD g t') : HD (wr2 g t n) t' := by
  unfold wr2
  refine lw_hd' ht' (ss_hd' ht ht' hne ?_)
  unfold wr1
  exact hd_eq ht' (by rw [up_n (by omega), up_n (by omega)]) (by rw [up_n (by omega), up_n (by omega)]) (fun r hr => by rw [up_n (by omega), up_n (by omega)]) (fun r hr => by rw [up_n (by omega), up_n (by omega)]) (fun r hr => by rw [up_n (by omega), up_n (by omega)]) h
theorem w2_t0 {g : Nat → Int32} {t : Nat} {n : Int32} (ht : t < 12) (hf : f_X3_isSettled (wr1 g t n) t = 0) : wr2 g t n (17 + t) = n := by
  unfold wr2
  rw [ks_X3_layWaited _ (by omega), (ss_not ht hf).1]
  unfold wr1
  rw [up_s]
theorem w2_t1 {g : Nat → Int32} {t : Nat} {n : Int32} (ht : t < 12) (hf : ¬ f_X3_isSettled (wr1 g t n) t = 0) : wr2 g t n (17 + t) = -6 := by
  unfold wr2
  rw [ks_X3_layWaited _ (by omega), (ss_done ht hf).1]
theorem j_wr2 {T B : Nat} {g : Nat → Int32} {t : Nat} {n : Int32} (ht : t < 12) (hB : B ≤ 1000000) (hw : g (17 + t) < 0) (hf : ¬ f_X3_isSettled (wr1 g t n) t = 0) (H : Jv T B g) : Jv T (B + 1) (wr2 g t n) := by
  obtain ⟨⟨b1, b2, b3, b4, b5, b6, b7, b8, b9, b10, b11⟩, b12⟩ := H
  have e17 : ∀ j, 17 ≤ j → j < 42 → wr2 g t n j = g j := by
    intro j h1 h2
    by_cases c : j < 29
    · by_cases e : j = 17 + t
      · subst e
        rw [w2_t1 ht hf]
        rcases b4 t ht with z | z | z
        · exact z.symm
        · rw [z] at hw; exact absurd hw (by decide)
        · rw [z] at hw; exact absurd hw (by decide)
      · have := w2_w (g := g) (n := n) (t' := j - 17) ht (by omega) (by omega)
        rw [show 17 + (j - 17) = j by omega] at this
        exact this
    · exact w2_lo ht (by omega)
  refine ⟨⟨e_LI (fun j _ _ => w2_lo ht (by omega)) b1, e_LD b1 e17 b2, e_TH (fun j _ _ => w2_lo ht (by omega)) b3, e_WY (fun j _ _ => e17 j (by omega) (by omega)) b4, w2_cc ht b5, w2_vb ht hB b6, wr2_pb ht b7, e_RU (fun j _ _ => w2_lo ht (by omega)) b8, e_SK (fun j _ _ => w2_lo ht (by omega)) b9, ⟨by rw [w2_296 ht]; exact b10.1, w2_302⟩, by rw [w2_lo ht (by omega)]; exact b11⟩, fun t' ht' q => ?_⟩
  by_cases e : t' = t
  · subst e
    rw [w2_t1 ht hf] at q
    exact absurd (by decide) q
  · rw [w2_w ht ht' e] at q
    exact w2_hd ht ht' e (b12 t' ht' q)
theorem j_wr3 {T B : Nat} {g : Nat → Int32} {t : Nat} {n : Int32} (ht : t < 12) (hB : B ≤ 1000000) (hw : g (17 + t) < 0) (hn : n = 0 ∨ n = 1) (hf : f_X3_isSettled (wr1 g t n) t = 0) (H : Jv T B g) : Jv T (B + 1) (wr3 g t n) := by
  obtain ⟨⟨b1, b2, b3, b4, b5, b6, b7, b8, b9, b10, b11⟩, b12⟩ := H
  have hm := ln_lt b1 b2 ht hw
  have e41 : wr3 g t n 41 = nI (ix (g 41) + 1) := by
    unfold wr3
    rw [up_s, wr2_41 ht, ← nI_1, ← b1.1.2]
  have i41 : ix (wr3 g t n 41) = ix (g 41) + 1 := by rw [e41]; exact ix_nI (by omega)
  have eo : ∀ j, (j < 29 ∨ 42 ≤ j) → wr3 g t n j = wr2 g t n j := fun j hj => by unfold wr3; rw [up_n (by omega), up_n (by omega)]
  have el : ∀ k, k < ix (g 41) → wr3 g t n (29 + k) = g (29 + k) := fun k hk => by
    unfold wr3
    rw [up_n (by omega), up_n (by omega), w2_lo ht (by omega)]
  have en : wr3 g t n (29 + ix (g 41)) = nI t := by
    unfold wr3
    rw [up_n (by omega), up_s]
  have et : wr3 g t n (17 + t) = n := by rw [eo _ (by omega)]; exact w2_t0 ht hf
  have eu : ∀ t', t' < 12 → t' ≠ t → wr3 g t n (17 + t') = g (17 + t') := fun t' ht' hne => by rw [eo _ (by omega)]; exact w2_w ht ht' hne
  have n0 : ¬ n < 0 := by rcases hn with e | e <;> (rw [e]; decide)
  have no : ∀ k, k < ix (g 41) → g (29 + k) ≠ nI t := fun k hk q => (b2.2 t ht).mpr ⟨k, hk, q⟩ hw
  refine ⟨⟨⟨⟨by rw [i41]; omega, by rw [i41]; exact e41⟩, fun k hk => ?_⟩, ⟨fun k k' hk hk' q => ?_, fun t' ht' => ?_⟩, e_TH (fun j _ _ => by rw [eo j (by omega)]; exact w2_lo ht (by omega)) b3, fun t' ht' => ?_, e_CC (fun j _ _ => eo j (by omega)) (w2_cc ht b5), e_VB (fun j _ _ => eo j (by omega)) (w2_vb ht hB b6), wr3_pb ht b7 hm, e_RU (fun j _ _ => by rw [eo j (by omega)]; exact w2_lo ht (by omega)) b8, e_SK (fun j _ _ => by rw [eo j (by omega)]; exact w2_lo ht (by omega)) b9, ⟨by rw [eo 296 (by omega), w2_296 ht]; exact b10.1, by rw [eo 302 (by omega)]; exact w2_302⟩, by rw [eo 0 (by omega), w2_lo ht (by omega)]; exact b11⟩, fun t' ht' q => ?_⟩
  · rw [i41] at hk
    by_cases e : k = ix (g 41)
    · rw [e, en, ix_nI (by omega)]; exact ⟨ht, rfl⟩
    · rw [el k (by omega)]; exact b1.2 k (by omega)
  · rw [i41] at hk hk'
    by_cases e : k = ix (g 41)
    · by_cases e' : k' = ix (g 41)
      · omega
      · rw [e, en, el k' (by omega)] at q
        exact absurd q.symm (no k' (by omega))
    · by_cases e' : k' = ix (g 41)
      · rw [e', en, el k (by omega)] at q
        exact absurd q (no k (by omega))
      · rw [el k (by omega), el k' (by omega)] at q
        exact b2.1 k k' (by omega) (by omega) q
  · rw [i41]
    by_cases e : t' = t
    · subst e
      rw [et]
      exact ⟨fun _ => ⟨ix (g 41), by omega, en⟩, fun _ => n0⟩
    · rw [eu t' ht' e, b2.2 t' ht']
      constructor
      · rintro ⟨k, hk, q⟩; exact ⟨k, by omega, by rw [el k hk]; exact q⟩
      · rintro ⟨k, hk, q⟩
        by_cases z : k = ix (g 41)
        · rw [z, en] at q
          exact absurd ((nI_eq (by omega) (by omega)).mp q).symm e
        · exact ⟨k, by omega, by rw [← el k (by omega)]; exact q⟩
  · by_cases e : t' = t
    · subst e; rw [et]; exact Or.inr hn
    · rw [eu t' ht' e]; exact b4 t' ht'
  · by_cases e : t' = t
    · subst e; exact wr3_hd ht b7 hm hf
    · rw [eu t' ht' e] at q
      unfold wr3
      exact up_hd ht' (by omega) (up_hd ht' (by omega) (w2_hd ht ht' e (b12 t' ht' q)))
theorem j_write {T B : Nat} {g : Nat → Int32} {y n : Int32} (hB : B ≤ 1000000) (H : Jv T B g) : Jv T (B + 1) (s_X3_write g y n) := by
  have H' : Jv T (B + 1) g := j_mono (Nat.le_refl _) (by omega) H
  rw [w3_s]
  by_cases c1 : f_X3_in y 0 11 = 0
  · rw [if_pos c1]; exact H'
  rw [if_neg c1]
  by_cases c2 : f_X3_in n 0 1 = 0
  · rw [if_pos c2]; exact H'
  rw [if_neg c2]
  by_cases c3 : g (17 + ix y) < 0
  · rw [if_pos c3]
    obtain ⟨hy, -⟩ := in_ix (n := 11) c1 rfl (by decide)
    by_cases c4 : f_X3_isSettled (wr1 g (ix y) n) (ix y) = 0
    · rw [if_pos c4]
      refine j_wr3 hy hB c3 ?_ c4 H
      by_cases z : n = 0 ∨ n = 1
      · exact z
      · exact absurd ((in_01 n).mpr z) c2
    · rw [if_neg c4]; exact j_wr2 hy hB c3 c4 H
  · rw [if_neg c3]; exact H'
