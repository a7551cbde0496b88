theorem kp_hold {S : Nat → Int32} {t i j : Nat} (h : j < 67) : s_X0_settleHolder S i t j = S j := by
  unfold s_X0_settleHolder t1_X0_settleHolder s_X0_putOnList
  (repeat' split) <;> (try (repeat rw [up_n (by omega)])) <;> (try with_reducible rfl)
theorem kq_X0_settle (g : Nat → Int32) (t : Nat) {j : Nat} (h : j < 67) : ∀ i, (q_X0_settle_2 g t g i) j = g j
  | 0 => rfl
  | i + 1 => by
    have ih := kq_X0_settle g t h i
    show (p_X0_settle_2 g t (q_X0_settle_2 g t g i) i) j = g j
    generalize q_X0_settle_2 g t g i = S at ih ⊢
    unfold p_X0_settle_2
    split
    · exact ih
    · rw [kp_hold h]; exact ih
theorem ks_X0_settle (g : Nat → Int32) {t j : Nat} (h : j < 67) (h1 : j ≠ 5 + t) (h2 : j ≠ 17 + t) : s_X0_settle g t j = g j := by
  unfold s_X0_settle
  have e := kq_X0_settle g t h 5
  generalize q_X0_settle_2 g t g 5 = S at e ⊢
  split
  · (repeat rw [up_n (by omega)]); exact e
  · exact e
theorem lw_out (g : Nat → Int32) (t : Nat) {j : Nat} (h : j < 297 ∨ 302 < j) : ∀ i, i ≤ 5 → q_X3_layWaited_11 g t (upd g 302 0) i j = g j
  | 0, _ => up_n (by omega)
  | i + 1, hi => by
    have ih := lw_out g t h i (by omega)
    have hw := (wi_X3_layWaited g t i (by omega)).1
    show (p_X3_layWaited_11 g t (q_X3_layWaited_11 g t (upd g 302 0) i) i) j = g j
    generalize q_X3_layWaited_11 g t (upd g 302 0) i = S at ih hw ⊢
    unfold p_X3_layWaited_11
    split
    · exact ih
    · have hk := w_le_X3 t i (ix (S 302)) S
      have ho := w_out_X3 t i (j := j) (ix (S 302)) S (by omega)
      generalize w_X3_layWaited_38 t i (ix (S 302)) S = X at hk ho ⊢
      rw [up_n (by omega), up_n (by omega), ho]
      exact ih
theorem ks_X3_layWaited (g : Nat → Int32) {t j : Nat} (h : j < 297 ∨ 302 < j) : s_X3_layWaited g t j = g j := lw_out g t h 5 (Nat.le_refl 5)
theorem nw_eq (g : Nat → Int32) {t : Nat} (ht : t < 12) : s_X0_noteWaitedFor g t = s_X3_layWaited g t := nw_q g ht 5 (Nat.le_refl 5)
def p_X0_settleAll_9 (g : Nat → Int32) (S9 : (Nat → Int32) × Nat) (i : Nat) : (Nat → Int32) × Nat := (if (f_X0_settle S9.1 (ix (g (29 + i)))) = 0 then ((upd (s_X0_settle S9.1 (ix (g (29 + i)))) (29 + S9.2) (nI (ix (g (29 + i))))), (S9.2 + 1)) else ((s_X0_settle S9.1 (ix (g (29 + i)))), S9.2))
def q_X0_settleAll_9 (g : Nat → Int32) (S0 : (Nat → Int32) × Nat) : Nat → (Nat → Int32) × Nat
  | 0 => S0
  | i + 1 => p_X0_settleAll_9 g (q_X0_settleAll_9 g S0 i) i
def s_X0_settleAll (g : Nat → Int32) : Nat → Int32 := (upd (q_X0_settleAll_9 g (g, 0) (ix (g 41))).1 41 (nI (q_X0_settleAll_9 g (g, 0) (ix (g 41))).2))
theorem lnC_s {g : Nat → Int32} {S : (Nat → Int32) × Nat} {i : Nat} (hi : i < 12) (ht : ix (g (29 + i)) < 12) (h : LN g S.1 S.2 i) : LN g (p_X0_settleAll_9 g S i).1 (p_X0_settleAll_9 g S i).2 (i + 1) := by
  obtain ⟨h1, h2, h3⟩ := h
  have hk : ∀ j, j < 12 → s_X0_settle S.1 (ix (g (29 + i))) (29 + j) = S.1 (29 + j) := fun j hj => ks_X0_settle S.1 (by omega) (by omega) (by omega)
  unfold p_X0_settleAll_9
  generalize s_X0_settle S.1 (ix (g (29 + i))) = G at hk ⊢
  generalize ix (g (29 + i)) = t at ht ⊢
  split
  · refine ⟨Nat.succ_le_succ h1, fun j hj hj2 => ?_, fun k hk2 => ?_⟩
    · show upd G (29 + S.2) (nI t) (29 + j) = g (29 + j)
      rw [up_n (by omega), hk j hj2]
      exact h2 j (by omega) hj2
    · have hk2 : k < S.2 + 1 := hk2
      show ix (upd G (29 + S.2) (nI t) (29 + k)) < 12 ∧ upd G (29 + S.2) (nI t) (29 + k) = nI (ix (upd G (29 + S.2) (nI t) (29 + k)))
      by_cases hks : k = S.2
      · subst hks
        rw [up_s, ix_nI (by omega)]
        exact ⟨ht, rfl⟩
      · rw [up_n (by omega), hk k (by omega)]
        exact h3 k (by omega)
  · refine ⟨Nat.le_succ_of_le h1, fun j hj hj2 => ?_, fun k hk2 => ?_⟩
    · show G (29 + j) = g (29 + j)
      rw [hk j hj2]
      exact h2 j (by omega) hj2
    · have hk2 : k < S.2 := hk2
      show ix (G (29 + k)) < 12 ∧ G (29 + k) = nI (ix (G (29 + k)))
      rw [hk k (by omega)]
      exact h3 k hk2
theorem lnC_q {g : Nat → Int32} (hL : LI g) : ∀ i, i ≤ ix (g 41) → LN g (q_X0_settleAll_9 g (g, 0) i).1 (q_X0_settleAll_9 g (g, 0) i).2 i
  | 0, _ => ⟨Nat.le_refl 0, fun _ _ _ => rfl, fun k hk => absurd hk (Nat.not_lt_zero k)⟩
  | i + 1, hi => lnC_s (Nat.lt_of_lt_of_le hi hL.1.1) (hL.2 i hi).1 (lnC_q hL i (Nat.le_of_succ_le hi))
theorem li_X0_settleAll {g : Nat → Int32} (hL : LI g) : LI (s_X0_settleAll g) := by
  obtain ⟨h1, -, h2⟩ := lnC_q hL _ (Nat.le_refl _)
  have hm := hL.1.1
  unfold s_X0_settleAll
  generalize q_X0_settleAll_9 g (g, 0) (ix (g 41)) = S at h1 h2 ⊢
  unfold LI
  rw [up_s, ix_nI (by omega)]
  refine ⟨⟨by omega, rfl⟩, fun k hk => ?_⟩
  rw [up_n (by omega)]
  exact h2 k hk
set_option maxHeartbeats 4000000 in
set_option maxRecDepth 100000 in
theorem k_X0_settleAll (l : Launch) (E : EE) (a : Nat → Nat) (g : Nat → Int32)  (hL : LI g) : Ci l E yX0_settleAll wsX0_settleAll { frames := 5, cells := 0, slots := 0, locals := 110 } [.ref (a 0)] (hs E a g) ((nI (ix (g 41))) - (nI (q_X0_settleAll_9 g (g, 0) (ix (g 41))).2)) (hs E a (s_X0_settleAll g)) := by
  refine Ci.of (cc := cX0_settleAll) (maxL := 5) (rt := .int) (by decide) rfl rfl (Nat.le_of_ble_eq_true rfl) ?_
  intro p e s m args below meth c A Q F hE hA hret hP hD ls hl
  obtain ⟨hx, hb, hml, hown, hts⟩ := id F
  have hS : va_S A s.heap s.heap [] := va_S.rf
  have hl : lv_has ls 5 [(0, .ref (a 0))] := hl
  have in0 : ∀ w ∈ wsX00, w ∈ wsX0_settleAll := fun w h => List.mem_cons_of_mem _ (List.mem_append_left _ (List.mem_append_right _ h))
  have K32 := hts (.fieldLink RX0 32 "PromiseHours$House" "line" "[I") (by decide +kernel)
  have K35 := hts (.fieldLink RX0 35 "PromiseHours$House" "lineLength" "I") (by decide +kernel)
  obtain ⟨⟨hm1, hm2⟩, hL2⟩ := id hL
  refine lv_aload_n hx hb dX0_settleAll_0 rfl (lv_at hl 0 rfl) ?_
  refine va_get (D := E.1) (ci := 0) (v := .int (g 41)) (C := RX0) (T := TX0) (N := 17) hx hb hts in0 hown hE.1 hP 0 (hs_lo 0 (by decide) rfl) rfl 6 (by decide) K35 (fun _ h9 => h9) rfl dX0_settleAll_1 ?_
  refine lv_istore_n (lv' := [(1, .int (g 41)), (0, .ref (a 0))]) hx hb dX0_settleAll_4 rfl hl (by decide) rfl (fun ls hl => ?_)
  refine lv_iconst (v := 0) hx hb dX0_settleAll_5 (by decide) ?_
  refine lv_istore_n (lv' := [(2, .int 0), (1, .int (g 41)), (0, .ref (a 0))]) hx hb dX0_settleAll_6 rfl hl (by decide) rfl (fun ls hl => ?_)
  refine lv_iconst (v := 0) hx hb dX0_settleAll_7 (by decide) ?_
  refine lv_istore_n (lv' := [(3, .int 0), (2, .int 0), (1, .int (g 41)), (0, .ref (a 0))]) hx hb dX0_settleAll_8 rfl hl (by decide) rfl (fun ls hl => ?_)
  have lp9 : ∀ (fu i : Nat), i ≤ (ix (g 41)) → (ix (g 41)) + 1 ≤ i + fu → ∀ (S9a : (Nat → Int32)) (S9b : Nat), (S9a, S9b) = (q_X0_settleAll_9 g (g, 0) i) → ∀ (H : Heap) (locs : List Loc), va_P E.1 vwCl (hs E a S9a) H → va_D A (hs E a S9a) → va_S A s.heap H locs → ∀ ls : Array Slot, lv_has ls 5 [(0, .ref (a 0)), (1, .int (g 41)), (2, .int (nI S9b)), (3, .int (nI i))] → W p l e { frames := 5, cells := 0, slots := 0, locals := 110 } s m args below meth c H locs 0 0 Q (F0 m 9 ls []) := by
    intro fu
    induction fu with
    | zero => intro i h1 h2; exact absurd h2 (by omega)
    | succ fu ih =>
      intro i hi hin S9a S9b eS9 H locs hP hD hS ls hl
      refine lv_iload_n hx hb dX0_settleAll_9 rfl (lv_at hl 3 rfl) ?_
      refine lv_iload_n hx hb dX0_settleAll_10 rfl (lv_at hl 1 rfl) ?_
      refine tpe hm2 ?_
      refine lv_icmp_ge (tgt := 48) hx hb dX0_settleAll_11 (by decide) (fun c_1 => ?_) (fun c_1 => ?_)
      · have hiN : i = (ix (g 41)) := by have := (nI_leI (a := (ix (g 41))) (b := i) (by omega) (by omega)).mp c_1; omega
        rw [hiN] at eS9 hl
        have eS9a : S9a = (q_X0_settleAll_9 g (g, 0) (ix (g 41))).1 := by rw [← eS9]
        have eS9b : S9b = (q_X0_settleAll_9 g (g, 0) (ix (g 41))).2 := by rw [← eS9]
        refine lv_aload_n hx hb dX0_settleAll_48 rfl (lv_at hl 0 rfl) ?_
        refine lv_iload_n hx hb dX0_settleAll_49 rfl (lv_at hl 2 rfl) ?_
        refine va_put (D := E.1) (ci := 0) (v := .int (nI S9b)) (ty := .int) (C := RX0) (T := TX0) (N := 17) hx hb hts in0 tyX0 tyX0_ok nmX0 hown hE.1 hP hD hS 0 (hs_lo 0 (by decide) rfl) rfl 6 (by decide) K35 (fun _ h9 => h9) rfl (by decide +kernel) rfl rfl (Nat.le_of_ble_eq_true rfl) dX0_settleAll_50 (fun H locs hP hD hS => ?_)
        rw [hs_f6] at hP hD
        have hP : va_P E.1 vwCl (hs E a (upd S9a 41 (nI S9b))) H := hP
        have hD : va_D A (hs E a (upd S9a 41 (nI S9b))) := hD
        refine lv_iload_n hx hb dX0_settleAll_53 rfl (lv_at hl 1 rfl) ?_
        refine tpe hm2 ?_
        refine lv_iload_n hx hb dX0_settleAll_54 rfl (lv_at hl 2 rfl) ?_
        refine lv_isub hx hb dX0_settleAll_55 ?_
        have eg : (upd S9a 41 (nI S9b)) = (s_X0_settleAll g) := (by unfold s_X0_settleAll; rw [← eS9b]; rw [← eS9a])
        exact hret _ _ _ _ _ (by rw [← eg]; exact hP) (by rw [← eg]; exact hD) hS (by rw [← eS9b]) dX0_settleAll_56
      · have hlt : i < (ix (g 41)) := Nat.lt_of_not_le (fun h => c_1 (nI_le (a := (ix (g 41))) (b := i) (by omega) (by omega)))
        have hq := lnC_q hL i hi
        rw [← eS9] at hq
        dsimp only at hq
        obtain ⟨hq1, hq2, -⟩ := hq
        obtain ⟨b_t, e_t⟩ := hL2 i hlt
        refine lv_aload_n hx hb dX0_settleAll_14 rfl (lv_at hl 0 rfl) ?_
        refine va_get (D := E.1) (ci := 0) (v := .ref (a 5)) (C := RX0) (T := TX0) (N := 17) hx hb hts in0 hown hE.1 hP 0 (hs_lo 0 (by decide) rfl) rfl 5 (by decide) K32 (fun _ h9 => h9) rfl dX0_settleAll_15 ?_
        refine lv_iload_n hx hb dX0_settleAll_18 rfl (lv_at hl 3 rfl) ?_
        refine q_iald hx hb hE hP 5 (hs_lo 5 (by decide) rfl) (j := i) (v := (S9a (29 + i))) rfl (by omega) (by decide) ((seg_at (by omega)).trans rfl) dX0_settleAll_19 ?_
        refine tpe (y := nI (ix (g (29 + i)))) ((hq2 i (Nat.le_refl i) (by omega)).trans e_t) ?_
        refine lv_istore (lv' := [(4, .int (nI (ix (g (29 + i))))), (0, .ref (a 0)), (1, .int (g 41)), (2, .int (nI S9b)), (3, .int (nI i))]) hx hb dX0_settleAll_20 hl (by decide) rfl (fun ls hl => ?_)
        refine lv_aload_n hx hb dX0_settleAll_22 rfl (lv_at hl 1 rfl) ?_
        refine lv_iload hx hb dX0_settleAll_23 (lv_at hl 0 rfl) ?_
        refine ci_V F hE (k_X0_settle l E a S9a (ix (g (29 + i))) (by omega)) (cwV 1 hts gX0_settleAll_X0_settle rfl rfl rfl (by decide +kernel) ⟨Nat.le_of_ble_eq_true rfl, Nat.le_of_ble_eq_true rfl⟩) Fr.all 0 0 (hs_lo 0 (by decide) rfl) rfl rfl hP hD hS hA rfl hl.1 rfl (Nat.le_of_ble_eq_true rfl) dX0_settleAll_25 ⟨Nat.zero_le _, Nat.zero_le _⟩ (fun H locs hP hD hS => ?_)
        have hP : va_P E.1 vwCl (hs E a (s_X0_settle S9a (ix (g (29 + i))))) H := hP
        have hD : va_D A (hs E a (s_X0_settle S9a (ix (g (29 + i))))) := hD
        refine lv_if_ne (tgt := 42) hx hb dX0_settleAll_28 (by decide) (fun c_2 => ?_) (fun c_2 => ?_)
        · refine lv_iinc (v := (nI (i + 1))) (lv' := [(3, .int (nI (i + 1))), (4, .int (nI (ix (g (29 + i))))), (0, .ref (a 0)), (1, .int (g 41)), (2, .int (nI S9b))]) hx hb dX0_settleAll_42 hl (k := 4) rfl (nI_1 i) (by decide) rfl (fun ls hl => ?_)
          refine lv_goto (tgt := 9) hx hb dX0_settleAll_45 (by decide) ?_
          have eS1 : (((s_X0_settle S9a (ix (g (29 + i)))), S9b) : (Nat → Int32) × Nat) = (q_X0_settleAll_9 g (g, 0) (i + 1)) := by
            show _ = p_X0_settleAll_9 g (q_X0_settleAll_9 g (g, 0) i) i
            rw [← eS9]
            unfold p_X0_settleAll_9; dsimp only; exact (if_neg c_2).symm
          exact ih (i + 1) (by omega) (by omega) (s_X0_settle S9a (ix (g (29 + i)))) S9b eS1 _ _ hP hD hS ls (lv_sub hl [2, 3, 4, 0] rfl)
        · refine lv_aload_n hx hb dX0_settleAll_31 rfl (lv_at hl 1 rfl) ?_
          refine va_get (D := E.1) (ci := 0) (v := .ref (a 5)) (C := RX0) (T := TX0) (N := 17) hx hb hts in0 hown hE.1 hP 0 (hs_lo 0 (by decide) rfl) rfl 5 (by decide) K32 (fun _ h9 => h9) rfl dX0_settleAll_32 ?_
          refine lv_iload_n hx hb dX0_settleAll_35 rfl (lv_at hl 3 rfl) ?_
          refine lv_iload hx hb dX0_settleAll_36 (lv_at hl 0 rfl) ?_
          refine q_iast hx hb hE hP hD hS 5 (hs_lo 5 (by decide) rfl) (j := S9b) (wd' := (hs E a (upd (s_X0_settle S9a (ix (g (29 + i)))) (29 + S9b) (nI (ix (g (29 + i))))))) rfl (by omega) (by decide) (hs_w5 (by omega)) dX0_settleAll_38 (fun H locs hP hD hS => ?_)
          refine lv_iinc (v := (nI (S9b + 1))) (lv' := [(2, .int (nI (S9b + 1))), (4, .int (nI (ix (g (29 + i))))), (0, .ref (a 0)), (1, .int (g 41)), (3, .int (nI i))]) hx hb dX0_settleAll_39 hl (k := 3) rfl (nI_1 S9b) (by decide) rfl (fun ls hl => ?_)
          refine lv_iinc (v := (nI (i + 1))) (lv' := [(3, .int (nI (i + 1))), (2, .int (nI (S9b + 1))), (4, .int (nI (ix (g (29 + i))))), (0, .ref (a 0)), (1, .int (g 41))]) hx hb dX0_settleAll_42 hl (k := 4) rfl (nI_1 i) (by decide) rfl (fun ls hl => ?_)
          refine lv_goto (tgt := 9) hx hb dX0_settleAll_45 (by decide) ?_
          have eS1 : (((upd (s_X0_settle S9a (ix (g (29 + i)))) (29 + S9b) (nI (ix (g (29 + i))))), (S9b + 1)) : (Nat → Int32) × Nat) = (q_X0_settleAll_9 g (g, 0) (i + 1)) := by
            show _ = p_X0_settleAll_9 g (q_X0_settleAll_9 g (g, 0) i) i
            rw [← eS9]
            unfold p_X0_settleAll_9; dsimp only; exact (if_pos c_2).symm
          exact ih (i + 1) (by omega) (by omega) (upd (s_X0_settle S9a (ix (g (29 + i)))) (29 + S9b) (nI (ix (g (29 + i))))) (S9b + 1) eS1 _ _ hP hD hS ls (lv_sub hl [3, 4, 1, 0] rfl)
  exact lp9 ((ix (g 41)) + 1) 0 (Nat.zero_le _) (by omega) g 0 rfl _ _ hP hD hS ls (lv_sub hl [3, 2, 1, 0] rfl)
def s_X0_joinLine (g : Nat → Int32) (t : Nat) : Nat → Int32 := (if 12 ≤ (g 41) then g else (upd (upd g (29 + (ix (g 41))) (nI t)) 41 ((g 41) + 1)))
set_option maxHeartbeats 4000000 in
set_option maxRecDepth 100000 in
theorem k_X0_joinLine (l : Launch) (E : EE) (a : Nat → Nat) (g : Nat → Int32) (t : Nat) (ht : t < 12) (hm : g 41 = nI (ix (g 41))) : Cv l E yX0_joinLine wsX0_joinLine { frames := 0, cells := 0, slots := 0, locals := 0 } [.ref (a 0), .int (nI t)] (hs E a g) (hs E a (s_X0_joinLine g t)) := by
  refine Cv.of (cc := cX0_joinLine) (maxL := 2) (by decide) rfl (Nat.le_of_ble_eq_true rfl) ?_
  intro p e s m args below meth c A Q F hE hA hret hP hD ls hl
  obtain ⟨hx, hb, hml, hown, hts⟩ := id F
  have hS : va_S A s.heap s.heap [] := va_S.rf
  have hl : lv_has ls 2 [(0, .ref (a 0)), (1, .int (nI t))] := hl
  have in0 : ∀ w ∈ wsX00, w ∈ wsX0_joinLine := fun w h => List.mem_cons_of_mem _ (List.mem_append_right _ h)
  have K32 := hts (.fieldLink RX0 32 "PromiseHours$House" "line" "[I") (by decide +kernel)
  have K35 := hts (.fieldLink RX0 35 "PromiseHours$House" "lineLength" "I") (by decide +kernel)
  refine lv_aload_n hx hb dX0_joinLine_0 rfl (lv_at hl 0 rfl) ?_
  refine va_get (D := E.1) (ci := 0) (v := .int (g 41)) (C := RX0) (T := TX0) (N := 17) hx hb hts in0 hown hE.1 hP 0 (hs_lo 0 (by decide) rfl) rfl 6 (by decide) K35 (fun _ h9 => h9) rfl dX0_joinLine_1 ?_
  refine lv_bipush (v := 12) hx hb dX0_joinLine_4 (by decide) ?_
  refine lv_icmp_ge (tgt := 29) hx hb dX0_joinLine_6 (by decide) (fun c_1 => ?_) (fun c_1 => ?_)
  · skip
    have eg : g = (s_X0_joinLine g t) := (by unfold s_X0_joinLine; exact (if_pos c_1).symm)
    exact hret _ _ _ _ (by rw [← eg]; exact hP) (by rw [← eg]; exact hD) hS dX0_joinLine_29
  · have hm12 : ix (g 41) < 12 := lt_of_c (n := 12) hm c_1
    refine lv_aload_n hx hb dX0_joinLine_9 rfl (lv_at hl 0 rfl) ?_
    refine va_get (D := E.1) (ci := 0) (v := .ref (a 5)) (C := RX0) (T := TX0) (N := 17) hx hb hts in0 hown hE.1 hP 0 (hs_lo 0 (by decide) rfl) rfl 5 (by decide) K32 (fun _ h9 => h9) rfl dX0_joinLine_10 ?_
    refine lv_aload_n hx hb dX0_joinLine_13 rfl (lv_at hl 0 rfl) ?_
    refine va_get (D := E.1) (ci := 0) (v := .int (g 41)) (C := RX0) (T := TX0) (N := 17) hx hb hts in0 hown hE.1 hP 0 (hs_lo 0 (by decide) rfl) rfl 6 (by decide) K35 (fun _ h9 => h9) rfl dX0_joinLine_14 ?_
    refine tpe (y := nI (ix (g 41))) hm ?_
    refine lv_iload_n hx hb dX0_joinLine_17 rfl (lv_at hl 1 rfl) ?_
    refine q_iast hx hb hE hP hD hS 5 (hs_lo 5 (by decide) rfl) (j := (ix (g 41))) (wd' := (hs E a (upd g (29 + (ix (g 41))) (nI t)))) rfl (by omega) (by decide) (hs_w5 (by omega)) dX0_joinLine_18 (fun H locs hP hD hS => ?_)
    refine lv_aload_n hx hb dX0_joinLine_19 rfl (lv_at hl 0 rfl) ?_
    refine lv_dup hx hb dX0_joinLine_20 rfl ?_
    refine va_get (D := E.1) (ci := 0) (v := .int ((upd g (29 + (ix (g 41))) (nI t)) 41)) (C := RX0) (T := TX0) (N := 17) hx hb hts in0 hown hE.1 hP 0 (hs_lo 0 (by decide) rfl) rfl 6 (by decide) K35 (fun _ h9 => h9) rfl dX0_joinLine_21 ?_
    refine tpe (up_n (by omega)) ?_
    refine lv_iconst (v := 1) hx hb dX0_joinLine_24 (by decide) ?_
    refine lv_iadd hx hb dX0_joinLine_25 ?_
    refine va_put (D := E.1) (ci := 0) (v := .int ((g 41) + 1)) (ty := .int) (C := RX0) (T := TX0) (N := 17) hx hb hts in0 tyX0 tyX0_ok nmX0 hown hE.1 hP hD hS 0 (hs_lo 0 (by decide) rfl) rfl 6 (by decide) K35 (fun _ h9 => h9) rfl (by decide +kernel) rfl rfl (Nat.le_of_ble_eq_true rfl) dX0_joinLine_26 (fun H locs hP hD hS => ?_)
    rw [hs_f6] at hP hD
    have hP : va_P E.1 vwCl (hs E a (upd (upd g (29 + (ix (g 41))) (nI t)) 41 ((g 41) + 1))) H := hP
    have hD : va_D A (hs E a (upd (upd g (29 + (ix (g 41))) (nI t)) 41 ((g 41) + 1))) := hD
    have eg : (upd (upd g (29 + (ix (g 41))) (nI t)) 41 ((g 41) + 1)) = (s_X0_joinLine g t) := (by unfold s_X0_joinLine; exact (if_neg c_1).symm)
    exact hret _ _ _ _ (by rw [← eg]; exact hP) (by rw [← eg]; exact hD) hS dX0_joinLine_29
def t1_X0_tellWrite (g : Nat → Int32) (t : Nat) (n : Int32) : Nat → Int32 := (s_X0_settle (upd (upd g 304 ((g 304) + 1)) (17 + t) n) t)
def t2_X0_tellWrite (g : Nat → Int32) (t : Nat) (n : Int32) : Nat → Int32 := (s_X0_noteWaitedFor (t1_X0_tellWrite g t n) t)
def t3_X0_tellWrite (g : Nat → Int32) (t : Nat) (n : Int32) : Nat → Int32 := (s_X0_joinLine (t2_X0_tellWrite g t n) t)
def s_X0_tellWrite (g : Nat → Int32) (t : Nat) (n : Int32) : Nat → Int32 := (if (f_X0_settle (upd (upd g 304 ((g 304) + 1)) (17 + t) n) t) = 0 then (t3_X0_tellWrite g t n) else (t2_X0_tellWrite g t n))
def f_X0_tellWrite (g : Nat → Int32) (t : Nat) (n : Int32) : Int32 := (if (f_X0_settle (upd (upd g 304 ((g 304) + 1)) (17 + t) n) t) = 0 then ((q_X0_dueOf_9 (t3_X0_tellWrite g t n) t (((t3_X0_tellWrite g t n) 0) + 1) 5) - ((t3_X0_tellWrite g t n) 0)) else 0)
set_option maxHeartbeats 4000000 in
set_option maxRecDepth 100000 in
theorem k_X0_tellWrite (l : Launch) (E : EE) (a : Nat → Nat) (g : Nat → Int32) (t : Nat) (n : Int32) (ht : t < 12) (hm : g 41 = nI (ix (g 41))) : Ci l E yX0_tellWrite wsX0_tellWrite { frames := 5, cells := 0, slots := 0, locals := 110 } [.ref (a 0), .int (nI t), .int n] (hs E a g) (f_X0_tellWrite g t n) (hs E a (s_X0_tellWrite g t n)) := by
  refine Ci.of (cc := cX0_tellWrite) (maxL := 4) (rt := .int) (by decide) rfl rfl (Nat.le_of_ble_eq_true rfl) ?_
  intro p e s m args below meth c A Q F hE hA hret hP hD ls hl
  obtain ⟨hx, hb, hml, hown, hts⟩ := id F
  have hS : va_S A s.heap s.heap [] := va_S.rf
  have hl : lv_has ls 4 [(0, .ref (a 0)), (1, .int (nI t)), (2, .int n)] := hl
  have in0 : ∀ w ∈ wsX00, w ∈ wsX0_tellWrite := fun w h => List.mem_cons_of_mem _ (List.mem_append_left _ (List.mem_append_right _ h))
  have K29 := hts (.fieldLink RX0 29 "PromiseHours$House" "ways" "[I") (by decide +kernel)
  have K53 := hts (.fieldLink RX0 53 "PromiseHours$House" "writesTold" "I") (by decide +kernel)
  have K9 := hts (.fieldLink RX0 9 "PromiseHours$House" "tick" "I") (by decide +kernel)
  refine lv_aload_n hx hb dX0_tellWrite_0 rfl (lv_at hl 0 rfl) ?_
  refine lv_dup hx hb dX0_tellWrite_1 rfl ?_
  refine va_get (D := E.1) (ci := 0) (v := .int (g 304)) (C := RX0) (T := TX0) (N := 17) hx hb hts in0 hown hE.1 hP 0 (hs_lo 0 (by decide) rfl) rfl 12 (by decide) K53 (fun _ h9 => h9) rfl dX0_tellWrite_2 ?_
  refine lv_iconst (v := 1) hx hb dX0_tellWrite_5 (by decide) ?_
  refine lv_iadd hx hb dX0_tellWrite_6 ?_
  refine va_put (D := E.1) (ci := 0) (v := .int ((g 304) + 1)) (ty := .int) (C := RX0) (T := TX0) (N := 17) hx hb hts in0 tyX0 tyX0_ok nmX0 hown hE.1 hP hD hS 0 (hs_lo 0 (by decide) rfl) rfl 12 (by decide) K53 (fun _ h9 => h9) rfl (by decide +kernel) rfl rfl (Nat.le_of_ble_eq_true rfl) dX0_tellWrite_7 (fun H locs hP hD hS => ?_)
  rw [hs_f12] at hP hD
  have hP : va_P E.1 vwCl (hs E a (upd g 304 ((g 304) + 1))) H := hP
  have hD : va_D A (hs E a (upd g 304 ((g 304) + 1))) := hD
  refine lv_aload_n hx hb dX0_tellWrite_10 rfl (lv_at hl 0 rfl) ?_
  refine va_get (D := E.1) (ci := 0) (v := .ref (a 4)) (C := RX0) (T := TX0) (N := 17) hx hb hts in0 hown hE.1 hP 0 (hs_lo 0 (by decide) rfl) rfl 4 (by decide) K29 (fun _ h9 => h9) rfl dX0_tellWrite_11 ?_
  refine lv_iload_n hx hb dX0_tellWrite_14 rfl (lv_at hl 1 rfl) ?_
  refine lv_iload_n hx hb dX0_tellWrite_15 rfl (lv_at hl 2 rfl) ?_
  refine q_iast hx hb hE hP hD hS 4 (hs_lo 4 (by decide) rfl) (j := t) (wd' := (hs E a (upd (upd g 304 ((g 304) + 1)) (17 + t) n))) rfl (by omega) (by decide) (hs_w4 (by omega)) dX0_tellWrite_16 (fun H locs hP hD hS => ?_)
  refine lv_aload_n hx hb dX0_tellWrite_17 rfl (lv_at hl 0 rfl) ?_
  refine lv_iload_n hx hb dX0_tellWrite_18 rfl (lv_at hl 1 rfl) ?_
  refine ci_V F hE (k_X0_settle l E a (upd (upd g 304 ((g 304) + 1)) (17 + t) n) t (by omega)) (cwV 1 hts gX0_tellWrite_X0_settle rfl rfl rfl (by decide +kernel) ⟨Nat.le_of_ble_eq_true rfl, Nat.le_of_ble_eq_true rfl⟩) Fr.all 0 0 (hs_lo 0 (by decide) rfl) rfl rfl hP hD hS hA rfl hl.1 rfl (Nat.le_of_ble_eq_true rfl) dX0_tellWrite_19 ⟨Nat.zero_le _, Nat.zero_le _⟩ (fun H locs hP hD hS => ?_)
  have hP : va_P E.1 vwCl (hs E a (t1_X0_tellWrite g t n)) H := hP
  have hD : va_D A (hs E a (t1_X0_tellWrite g t n)) := hD
  refine lv_istore_n (lv' := [(3, .int (f_X0_settle (upd (upd g 304 ((g 304) + 1)) (17 + t) n) t)), (0, .ref (a 0)), (1, .int (nI t)), (2, .int n)]) hx hb dX0_tellWrite_22 rfl hl (by decide) rfl (fun ls hl => ?_)
  refine lv_aload_n hx hb dX0_tellWrite_23 rfl (lv_at hl 1 rfl) ?_
  refine lv_iload_n hx hb dX0_tellWrite_24 rfl (lv_at hl 2 rfl) ?_
  refine cv_V F hE (k_X0_noteWaitedFor l E a (t1_X0_tellWrite g t n) t (by omega)) (cwV 1 hts gX0_tellWrite_X0_noteWaitedFor rfl rfl rfl (by decide +kernel) ⟨Nat.le_of_ble_eq_true rfl, Nat.le_of_ble_eq_true rfl⟩) Fr.all 0 0 (hs_lo 0 (by decide) rfl) rfl rfl hP hD hS hA rfl hl.1 rfl (Nat.le_of_ble_eq_true rfl) dX0_tellWrite_25 ⟨Nat.zero_le _, Nat.zero_le _⟩ (fun H locs hP hD hS => ?_)
  have hP : va_P E.1 vwCl (hs E a (t2_X0_tellWrite g t n)) H := hP
  have hD : va_D A (hs E a (t2_X0_tellWrite g t n)) := hD
  refine lv_iload_n hx hb dX0_tellWrite_28 rfl (lv_at hl 0 rfl) ?_
  refine lv_if_eq (tgt := 34) hx hb dX0_tellWrite_29 (by decide) (fun c_1 => ?_) (fun c_1 => ?_)
  · refine lv_aload_n hx hb dX0_tellWrite_34 rfl (lv_at hl 1 rfl) ?_
    refine lv_iload_n hx hb dX0_tellWrite_35 rfl (lv_at hl 2 rfl) ?_
    refine cv_V F hE (k_X0_joinLine l E a (t2_X0_tellWrite g t n) t (by omega) (by rw [show (t2_X0_tellWrite g t n) 41 = g 41 from ((congrFun (nw_eq _ ht) 41).trans (ks_X3_layWaited _ (by omega))).trans ((ks_X0_settle _ (by omega) (by omega) (by omega)).trans ((up_n (by omega)).trans (up_n (by omega))))]; exact hm)) (cwV 1 hts gX0_tellWrite_X0_joinLine rfl rfl rfl (by decide +kernel) ⟨Nat.le_of_ble_eq_true rfl, Nat.le_of_ble_eq_true rfl⟩) Fr.all 0 0 (hs_lo 0 (by decide) rfl) rfl rfl hP hD hS hA rfl hl.1 rfl (Nat.le_of_ble_eq_true rfl) dX0_tellWrite_36 ⟨Nat.zero_le _, Nat.zero_le _⟩ (fun H locs hP hD hS => ?_)
    have hP : va_P E.1 vwCl (hs E a (t3_X0_tellWrite g t n)) H := hP
    have hD : va_D A (hs E a (t3_X0_tellWrite g t n)) := hD
    refine lv_aload_n hx hb dX0_tellWrite_39 rfl (lv_at hl 1 rfl) ?_
    refine lv_iload_n hx hb dX0_tellWrite_40 rfl (lv_at hl 2 rfl) ?_
    refine ci_V F hE (k_X0_dueOf l E a (t3_X0_tellWrite g t n) t (by omega)) (cwV 1 hts gX0_tellWrite_X0_dueOf rfl rfl rfl (by decide +kernel) ⟨Nat.le_of_ble_eq_true rfl, Nat.le_of_ble_eq_true rfl⟩) Fr.all 0 0 (hs_lo 0 (by decide) rfl) rfl rfl hP hD hS hA rfl hl.1 rfl (Nat.le_of_ble_eq_true rfl) dX0_tellWrite_41 ⟨Nat.zero_le _, Nat.zero_le _⟩ (fun H locs hP hD hS => ?_)
    refine lv_aload_n hx hb dX0_tellWrite_44 rfl (lv_at hl 1 rfl) ?_
    refine va_get (D := E.1) (ci := 0) (v := .int ((t3_X0_tellWrite g t n) 0)) (C := RX0) (T := TX0) (N := 17) hx hb hts in0 hown hE.1 hP 0 (hs_lo 0 (by decide) rfl) rfl 0 (by decide) K9 (fun _ h9 => h9) rfl dX0_tellWrite_45 ?_
    refine lv_isub hx hb dX0_tellWrite_48 ?_
    have eg : (t3_X0_tellWrite g t n) = (s_X0_tellWrite g t n) := (by unfold s_X0_tellWrite; exact (if_pos c_1).symm)
    exact hret _ _ _ _ _ (by rw [← eg]; exact hP) (by rw [← eg]; exact hD) hS (by unfold f_X0_tellWrite; exact (if_pos c_1).symm) dX0_tellWrite_49
  · refine lv_iconst (v := 0) hx hb dX0_tellWrite_32 (by decide) ?_
    have eg : (t2_X0_tellWrite g t n) = (s_X0_tellWrite g t n) := (by unfold s_X0_tellWrite; exact (if_neg c_1).symm)
    exact hret _ _ _ _ _ (by rw [← eg]; exact hP) (by rw [← eg]; exact hD) hS (by unfold f_X0_tellWrite; exact (if_neg c_1).symm) dX0_tellWrite_33
