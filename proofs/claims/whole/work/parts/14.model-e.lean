def LI (g : Nat → Int32) : Prop := (ix (g 41) ≤ 12 ∧ g 41 = nI (ix (g 41))) ∧ ∀ k, k < ix (g 41) → ix (g (29 + k)) < 12 ∧ g (29 + k) = nI (ix (g (29 + k)))
theorem li_upd {g : Nat → Int32} {i : Nat} {v : Int32} (h : LI g) (hi : i < 29 ∨ 41 < i) : LI (upd g i v) := by
  unfold LI
  obtain ⟨h1, h2⟩ := h
  rw [up_n (show 41 ≠ i by omega)]
  refine ⟨h1, fun k hk => ?_⟩
  rw [up_n (show 29 + k ≠ i by omega)]
  exact h2 k hk
def p_X3_settleAll_12 (g : Nat → Int32) (S12 : (Nat → Int32) × Nat) (i : Nat) : (Nat → Int32) × Nat := (if (f_X3_isSettled S12.1 (ix (g (29 + i)))) = 0 then ((upd (s_X3_isSettled S12.1 (ix (g (29 + i)))) (29 + S12.2) (nI (ix (g (29 + i))))), (S12.2 + 1)) else ((s_X3_isSettled S12.1 (ix (g (29 + i)))), S12.2))
def q_X3_settleAll_12 (g : Nat → Int32) (S0 : (Nat → Int32) × Nat) : Nat → (Nat → Int32) × Nat
  | 0 => S0
  | i + 1 => p_X3_settleAll_12 g (q_X3_settleAll_12 g S0 i) i
def s_X3_settleAll (g : Nat → Int32) : Nat → Int32 := (upd (q_X3_settleAll_12 g (g, 0) (ix (g 41))).1 41 (nI (q_X3_settleAll_12 g (g, 0) (ix (g 41))).2))
def LN (g S : Nat → Int32) (c i : Nat) : Prop := c ≤ i ∧ (∀ j, i ≤ j → j < 12 → S (29 + j) = g (29 + j)) ∧ ∀ k, k < c → ix (S (29 + k)) < 12 ∧ S (29 + k) = nI (ix (S (29 + k)))
theorem ln_s {g : Nat → Int32} {S : (Nat → Int32) × Nat} {i : Nat} (hi : i < 12) (ht : ix (g (29 + i)) < 12) (h : LN g S.1 S.2 i) : LN g (p_X3_settleAll_12 g S i).1 (p_X3_settleAll_12 g S i).2 (i + 1) := by
  obtain ⟨h1, h2, h3⟩ := h
  have hk : ∀ j, j < 12 → s_X3_isSettled S.1 (ix (g (29 + i))) (29 + j) = S.1 (29 + j) := fun j hj => ks_X3_isSettled S.1 (by omega) (by omega) (by omega)
  unfold p_X3_settleAll_12
  generalize s_X3_isSettled S.1 (ix (g (29 + i))) = G at hk ⊢
  generalize ix (g (29 + i)) = t at ht ⊢
  split
  · refine ⟨Nat.succ_le_succ h1, fun j hj hj2 => ?_, fun k hk2 => ?_⟩
    · show upd G (29 + S.2) (nI t) (29 + j) = g (29 + j)
      rw [up_n (by omega), hk j hj2]
      exact h2 j (by omega) hj2
    · have hk2 : k < S.2 + 1 := hk2
      show ix (upd G (29 + S.2) (nI t) (29 + k)) < 12 ∧ upd G (29 + S.2) (nI t) (29 + k) = nI (ix (upd G (29 + S.2) (nI t) (29 + k)))
      by_cases hks : k = S.2
      · subst hks
        rw [up_s, ix_nI (by omega)]
        exact ⟨ht, rfl⟩
      · rw [up_n (by omega), hk k (by omega)]
        exact h3 k (by omega)
  · refine ⟨Nat.le_succ_of_le h1, fun j hj hj2 => ?_, fun k hk2 => ?_⟩
    · show G (29 + j) = g (29 + j)
      rw [hk j hj2]
      exact h2 j (by omega) hj2
    · have hk2 : k < S.2 := hk2
      show ix (G (29 + k)) < 12 ∧ G (29 + k) = nI (ix (G (29 + k)))
      rw [hk k (by omega)]
      exact h3 k hk2
theorem ln_q {g : Nat → Int32} (hL : LI g) : ∀ i, i ≤ ix (g 41) → LN g (q_X3_settleAll_12 g (g, 0) i).1 (q_X3_settleAll_12 g (g, 0) i).2 i
  | 0, _ => ⟨Nat.le_refl 0, fun _ _ _ => rfl, fun k hk => absurd hk (Nat.not_lt_zero k)⟩
  | i + 1, hi => ln_s (Nat.lt_of_lt_of_le hi hL.1.1) (hL.2 i hi).1 (ln_q hL i (Nat.le_of_succ_le hi))
theorem li_X3_settleAll {g : Nat → Int32} (hL : LI g) : LI (s_X3_settleAll g) := by
  obtain ⟨h1, -, h2⟩ := ln_q hL _ (Nat.le_refl _)
  have hm := hL.1.1
  unfold s_X3_settleAll
  generalize q_X3_settleAll_12 g (g, 0) (ix (g 41)) = S at h1 h2 ⊢
  unfold LI
  rw [up_s, ix_nI (by omega)]
  refine ⟨⟨by omega, rfl⟩, fun k hk => ?_⟩
  rw [up_n (by omega)]
  exact h2 k hk
set_option maxHeartbeats 4000000 in
set_option maxRecDepth 100000 in
theorem k_X3_settleAll (l : Launch) (E : EE) (a : Nat → Nat) (g im kp : Nat → Int32)  (hL : LI g) : Ci l E yX3_settleAll wsX3_settleAll { frames := 3, cells := 0, slots := 0, locals := 68 } [.ref (a 0)] (ms E a g im kp) ((nI (ix (g 41))) - (nI (q_X3_settleAll_12 g (g, 0) (ix (g 41))).2)) (ms E a (s_X3_settleAll g) im kp) := by
  refine Ci.of (cc := cX3_settleAll) (maxL := 5) (rt := .int) (by decide) rfl rfl (Nat.le_of_ble_eq_true rfl) ?_
  intro p e s m args below meth c A Q F hE hA hret hP hD ls hl
  obtain ⟨hx, hb, hml, hown, hts⟩ := id F
  have hS : va_S A s.heap s.heap [] := va_S.rf
  have hl : lv_has ls 5 [(0, .ref (a 0))] := hl
  have in3 : ∀ w ∈ wsX30, w ∈ wsX3_settleAll := fun w h => List.mem_cons_of_mem _ (List.mem_append_right _ h)
  have K7 := hts (.fieldLink RX3 7 "PromiseHoursModel" "state" "[I") (by decide +kernel)
  obtain ⟨⟨hm1, hm2⟩, hL2⟩ := id hL
  refine lv_iconst (v := 0) hx hb dX3_settleAll_0 (by decide) ?_
  refine lv_istore_n (lv' := [(1, .int 0), (0, .ref (a 0))]) hx hb dX3_settleAll_1 rfl hl (by decide) rfl (fun ls hl => ?_)
  refine lv_aload_n hx hb dX3_settleAll_2 rfl (lv_at hl 1 rfl) ?_
  refine va_get (D := E.1) (ci := 3) (v := .ref (a 1)) (C := RX3) (T := TX3) (N := 3) hx hb hts in3 hown hE.1 hP 0 rfl rfl 0 (by decide) K7 (fun _ h9 => h9) rfl dX3_settleAll_3 ?_
  refine lv_bipush (v := 41) hx hb dX3_settleAll_6 (by decide) ?_
  refine q_iald hx hb hE hP 1 rfl (j := 41) (v := (g 41)) rfl (by omega) (by decide) rfl dX3_settleAll_8 ?_
  refine lv_istore_n (lv' := [(2, .int (g 41)), (1, .int 0), (0, .ref (a 0))]) hx hb dX3_settleAll_9 rfl hl (by decide) rfl (fun ls hl => ?_)
  refine lv_iconst (v := 0) hx hb dX3_settleAll_10 (by decide) ?_
  refine lv_istore_n (lv' := [(3, .int 0), (2, .int (g 41)), (1, .int 0), (0, .ref (a 0))]) hx hb dX3_settleAll_11 rfl hl (by decide) rfl (fun ls hl => ?_)
  have lp12 : ∀ (fu i : Nat), i ≤ (ix (g 41)) → (ix (g 41)) + 1 ≤ i + fu → ∀ (S12a : (Nat → Int32)) (S12b : Nat), (S12a, S12b) = (q_X3_settleAll_12 g (g, 0) i) → ∀ (H : Heap) (locs : List Loc), va_P E.1 vwCl (ms E a S12a im kp) H → va_D A (ms E a S12a im kp) → va_S A s.heap H locs → ∀ ls : Array Slot, lv_has ls 5 [(0, .ref (a 0)), (1, .int (nI S12b)), (2, .int (g 41)), (3, .int (nI i))] → W p l e { frames := 3, cells := 0, slots := 0, locals := 68 } s m args below meth c H locs 0 0 Q (F0 m 12 ls []) := by
    intro fu
    induction fu with
    | zero => intro i h1 h2; exact absurd h2 (by omega)
    | succ fu ih =>
      intro i hi hin S12a S12b eS12 H locs hP hD hS ls hl
      refine lv_iload_n hx hb dX3_settleAll_12 rfl (lv_at hl 3 rfl) ?_
      refine lv_iload_n hx hb dX3_settleAll_13 rfl (lv_at hl 2 rfl) ?_
      refine tpe hm2 ?_
      refine lv_icmp_ge (tgt := 57) hx hb dX3_settleAll_14 (by decide) (fun c_1 => ?_) (fun c_1 => ?_)
      · have hiN : i = (ix (g 41)) := by have := (nI_leI (a := (ix (g 41))) (b := i) (by omega) (by omega)).mp c_1; omega
        rw [hiN] at eS12 hl
        have eS12a : S12a = (q_X3_settleAll_12 g (g, 0) (ix (g 41))).1 := by rw [← eS12]
        have eS12b : S12b = (q_X3_settleAll_12 g (g, 0) (ix (g 41))).2 := by rw [← eS12]
        refine lv_aload_n hx hb dX3_settleAll_57 rfl (lv_at hl 0 rfl) ?_
        refine va_get (D := E.1) (ci := 3) (v := .ref (a 1)) (C := RX3) (T := TX3) (N := 3) hx hb hts in3 hown hE.1 hP 0 rfl rfl 0 (by decide) K7 (fun _ h9 => h9) rfl dX3_settleAll_58 ?_
        refine lv_bipush (v := 41) hx hb dX3_settleAll_61 (by decide) ?_
        refine lv_iload_n hx hb dX3_settleAll_63 rfl (lv_at hl 1 rfl) ?_
        refine q_iast hx hb hE hP hD hS 1 rfl (j := 41) (wd' := (ms E a (upd S12a 41 (nI S12b)) im kp)) rfl (by omega) (by decide) rfl dX3_settleAll_64 (fun H locs hP hD hS => ?_)
        refine lv_iload_n hx hb dX3_settleAll_65 rfl (lv_at hl 2 rfl) ?_
        refine tpe hm2 ?_
        refine lv_iload_n hx hb dX3_settleAll_66 rfl (lv_at hl 1 rfl) ?_
        refine lv_isub hx hb dX3_settleAll_67 ?_
        have eg : (upd S12a 41 (nI S12b)) = (s_X3_settleAll g) := (by unfold s_X3_settleAll; rw [← eS12b]; rw [← eS12a])
        exact hret _ _ _ _ _ (by rw [← eg]; exact hP) (by rw [← eg]; exact hD) hS (by rw [← eS12b]) dX3_settleAll_68
      · have hlt : i < (ix (g 41)) := Nat.lt_of_not_le (fun h => c_1 (nI_le (a := (ix (g 41))) (b := i) (by omega) (by omega)))
        have hq := ln_q hL i hi
        rw [← eS12] at hq
        dsimp only at hq
        obtain ⟨hq1, hq2, -⟩ := hq
        obtain ⟨b_t, e_t⟩ := hL2 i hlt
        refine lv_aload_n hx hb dX3_settleAll_17 rfl (lv_at hl 0 rfl) ?_
        refine va_get (D := E.1) (ci := 3) (v := .ref (a 1)) (C := RX3) (T := TX3) (N := 3) hx hb hts in3 hown hE.1 hP 0 rfl rfl 0 (by decide) K7 (fun _ h9 => h9) rfl dX3_settleAll_18 ?_
        refine lv_bipush (v := 29) hx hb dX3_settleAll_21 (by decide) ?_
        refine lv_iload_n hx hb dX3_settleAll_23 rfl (lv_at hl 3 rfl) ?_
        refine lv_iadd hx hb dX3_settleAll_24 ?_
        refine tpe (y := nI (29 + i)) (nI_add 29 i) ?_
        refine q_iald hx hb hE hP 1 rfl (j := (29 + i)) (v := (S12a (29 + i))) rfl (by omega) (by decide) rfl dX3_settleAll_25 ?_
        refine tpe (y := nI (ix (g (29 + i)))) ((hq2 i (Nat.le_refl i) (by omega)).trans e_t) ?_
        refine lv_istore (lv' := [(4, .int (nI (ix (g (29 + i))))), (0, .ref (a 0)), (1, .int (nI S12b)), (2, .int (g 41)), (3, .int (nI i))]) hx hb dX3_settleAll_26 hl (by decide) rfl (fun ls hl => ?_)
        refine lv_aload_n hx hb dX3_settleAll_28 rfl (lv_at hl 1 rfl) ?_
        refine lv_iload hx hb dX3_settleAll_29 (lv_at hl 0 rfl) ?_
        refine ci_V F hE (k_X3_isSettled l E a S12a im kp (ix (g (29 + i))) (by omega)) (cwV 1 hts gX3_settleAll_X3_isSettled rfl rfl rfl (by decide +kernel) ⟨Nat.le_of_ble_eq_true rfl, Nat.le_of_ble_eq_true rfl⟩) Fr.all 0 3 rfl rfl rfl hP hD hS hA rfl hl.1 rfl (Nat.le_of_ble_eq_true rfl) dX3_settleAll_31 ⟨Nat.zero_le _, Nat.zero_le _⟩ (fun H locs hP hD hS => ?_)
        have hP : va_P E.1 vwCl (ms E a (s_X3_isSettled S12a (ix (g (29 + i)))) im kp) H := hP
        have hD : va_D A (ms E a (s_X3_isSettled S12a (ix (g (29 + i)))) im kp) := hD
        refine lv_if_ne (tgt := 51) hx hb dX3_settleAll_34 (by decide) (fun c_2 => ?_) (fun c_2 => ?_)
        · refine lv_iinc (v := (nI (i + 1))) (lv' := [(3, .int (nI (i + 1))), (4, .int (nI (ix (g (29 + i))))), (0, .ref (a 0)), (1, .int (nI S12b)), (2, .int (g 41))]) hx hb dX3_settleAll_51 hl (k := 4) rfl (nI_1 i) (by decide) rfl (fun ls hl => ?_)
          refine lv_goto (tgt := 12) hx hb dX3_settleAll_54 (by decide) ?_
          have eS1 : (((s_X3_isSettled S12a (ix (g (29 + i)))), S12b) : (Nat → Int32) × Nat) = (q_X3_settleAll_12 g (g, 0) (i + 1)) := by
            show _ = p_X3_settleAll_12 g (q_X3_settleAll_12 g (g, 0) i) i
            rw [← eS12]
            unfold p_X3_settleAll_12; dsimp only; exact (if_neg c_2).symm
          exact ih (i + 1) (by omega) (by omega) (s_X3_isSettled S12a (ix (g (29 + i)))) S12b eS1 _ _ hP hD hS ls (lv_sub hl [2, 3, 4, 0] rfl)
        · refine lv_aload_n hx hb dX3_settleAll_37 rfl (lv_at hl 1 rfl) ?_
          refine va_get (D := E.1) (ci := 3) (v := .ref (a 1)) (C := RX3) (T := TX3) (N := 3) hx hb hts in3 hown hE.1 hP 0 rfl rfl 0 (by decide) K7 (fun _ h9 => h9) rfl dX3_settleAll_38 ?_
          refine lv_bipush (v := 29) hx hb dX3_settleAll_41 (by decide) ?_
          refine lv_iload_n hx hb dX3_settleAll_43 rfl (lv_at hl 2 rfl) ?_
          refine lv_iadd hx hb dX3_settleAll_44 ?_
          refine tpe (y := nI (29 + S12b)) (nI_add 29 S12b) ?_
          refine lv_iload hx hb dX3_settleAll_45 (lv_at hl 0 rfl) ?_
          refine q_iast hx hb hE hP hD hS 1 rfl (j := (29 + S12b)) (wd' := (ms E a (upd (s_X3_isSettled S12a (ix (g (29 + i)))) (29 + S12b) (nI (ix (g (29 + i))))) im kp)) rfl (by omega) (by decide) rfl dX3_settleAll_47 (fun H locs hP hD hS => ?_)
          refine lv_iinc (v := (nI (S12b + 1))) (lv' := [(1, .int (nI (S12b + 1))), (4, .int (nI (ix (g (29 + i))))), (0, .ref (a 0)), (2, .int (g 41)), (3, .int (nI i))]) hx hb dX3_settleAll_48 hl (k := 2) rfl (nI_1 S12b) (by decide) rfl (fun ls hl => ?_)
          refine lv_iinc (v := (nI (i + 1))) (lv' := [(3, .int (nI (i + 1))), (1, .int (nI (S12b + 1))), (4, .int (nI (ix (g (29 + i))))), (0, .ref (a 0)), (2, .int (g 41))]) hx hb dX3_settleAll_51 hl (k := 4) rfl (nI_1 i) (by decide) rfl (fun ls hl => ?_)
          refine lv_goto (tgt := 12) hx hb dX3_settleAll_54 (by decide) ?_
          have eS1 : (((upd (s_X3_isSettled S12a (ix (g (29 + i)))) (29 + S12b) (nI (ix (g (29 + i))))), (S12b + 1)) : (Nat → Int32) × Nat) = (q_X3_settleAll_12 g (g, 0) (i + 1)) := by
            show _ = p_X3_settleAll_12 g (q_X3_settleAll_12 g (g, 0) i) i
            rw [← eS12]
            unfold p_X3_settleAll_12; dsimp only; exact (if_pos c_2).symm
          exact ih (i + 1) (by omega) (by omega) (upd (s_X3_isSettled S12a (ix (g (29 + i)))) (29 + S12b) (nI (ix (g (29 + i))))) (S12b + 1) eS1 _ _ hP hD hS ls (lv_sub hl [3, 1, 4, 0] rfl)
  exact lp12 ((ix (g 41)) + 1) 0 (Nat.zero_le _) (by omega) g 0 rfl _ _ hP hD hS ls (lv_sub hl [3, 2, 1, 0] rfl)
def t1_X3_there (g : Nat → Int32) (x : Int32) (n : Int32) : Nat → Int32 := (s_X3_settleAll (upd g (42 + (ix x)) n))
def s_X3_there (g : Nat → Int32) (x : Int32) (n : Int32) : Nat → Int32 := (if (f_X3_in x 0 4) = 0 then g else (if (f_X3_in n 0 1) = 0 then g else (if (if n = 1 then (if (g (42 + (ix x))) = 0 then 1 else 0) else 0 : Int32) = 0 then (upd g (42 + (ix x)) n) else (t1_X3_there g x n))))
def f_X3_there (g : Nat → Int32) (x : Int32) (n : Int32) : Int32 := (if (f_X3_in x 0 4) = 0 then (-1) else (if (f_X3_in n 0 1) = 0 then (-2) else (if (if n = 1 then (if (g (42 + (ix x))) = 0 then 1 else 0) else 0 : Int32) = 0 then 0 else ((nI (ix ((upd g (42 + (ix x)) n) 41))) - (nI (q_X3_settleAll_12 (upd g (42 + (ix x)) n) ((upd g (42 + (ix x)) n), 0) (ix ((upd g (42 + (ix x)) n) 41))).2)))))
set_option maxHeartbeats 4000000 in
set_option maxRecDepth 100000 in
theorem k_X3_there (l : Launch) (E : EE) (a : Nat → Nat) (g im kp : Nat → Int32) (x : Int32) (n : Int32) (hL : LI g) : Ci l E yX3_there wsX3_there { frames := 4, cells := 0, slots := 0, locals := 92 } [.ref (a 0), .int x, .int n] (ms E a g im kp) (f_X3_there g x n) (ms E a (s_X3_there g x n) im kp) := by
  refine Ci.of (cc := cX3_there) (maxL := 4) (rt := .int) (by decide) rfl rfl (Nat.le_of_ble_eq_true rfl) ?_
  intro p e s m args below meth c A Q F hE hA hret hP hD ls hl
  obtain ⟨hx, hb, hml, hown, hts⟩ := id F
  have hS : va_S A s.heap s.heap [] := va_S.rf
  have hl : lv_has ls 4 [(0, .ref (a 0)), (1, .int x), (2, .int n)] := hl
  have in3 : ∀ w ∈ wsX30, w ∈ wsX3_there := fun w h => List.mem_cons_of_mem _ (List.mem_append_right _ h)
  have K7 := hts (.fieldLink RX3 7 "PromiseHoursModel" "state" "[I") (by decide +kernel)
  refine lv_iload_n hx hb dX3_there_0 rfl (lv_at hl 1 rfl) ?_
  refine ci_S F hE (k_X3_isReader l E x) (va_cwS 1 hts gX3_there_X3_isReader rfl rfl rfl (by decide +kernel) ⟨Nat.le_of_ble_eq_true rfl, Nat.le_of_ble_eq_true rfl⟩) Fr.nil hP hD hS hA rfl hl.1 rfl (Nat.le_of_ble_eq_true rfl) dX3_there_1 ⟨Nat.zero_le _, Nat.zero_le _⟩ (fun H locs hP hD hS => ?_)
  refine lv_if_ne (tgt := 9) hx hb dX3_there_4 (by decide) (fun c_1 => ?_) (fun c_1 => ?_)
  · obtain ⟨b_x, e_x⟩ := in_ix (n := 4) c_1 (by decide) (by decide)
    refine lv_iload_n hx hb dX3_there_9 rfl (lv_at hl 2 rfl) ?_
    refine lv_iconst (v := 0) hx hb dX3_there_10 (by decide) ?_
    refine lv_iconst (v := 1) hx hb dX3_there_11 (by decide) ?_
    refine ci_S F hE (k_X3_in l E n 0 1) (va_cwS 3 hts gX3_there_X3_in rfl rfl rfl (by decide +kernel) ⟨Nat.le_of_ble_eq_true rfl, Nat.le_of_ble_eq_true rfl⟩) Fr.nil hP hD hS hA rfl hl.1 rfl (Nat.le_of_ble_eq_true rfl) dX3_there_12 ⟨Nat.zero_le _, Nat.zero_le _⟩ (fun H locs hP hD hS => ?_)
    refine lv_if_ne (tgt := 21) hx hb dX3_there_15 (by decide) (fun c_2 => ?_) (fun c_2 => ?_)
    · refine lv_iload_n hx hb dX3_there_21 rfl (lv_at hl 2 rfl) ?_
      refine lv_iconst (v := 1) hx hb dX3_there_22 (by decide) ?_
      have J_43_3 : ∀ (w : Int32) (H : Heap) (locs : List Loc), va_P E.1 vwCl (ms E a g im kp) H → va_D A (ms E a g im kp) → va_S A s.heap H locs → w = (if n = 1 then (if (g (42 + (ix x))) = 0 then 1 else 0) else 0 : Int32) → W p l e { frames := 4, cells := 0, slots := 0, locals := 92 } s m args below meth c H locs 0 0 Q (F0 m 43 ls [.int w]) := by
        intro w H locs hP hD hS ew
        rw [ew]
        refine lv_istore_n (lv' := [(3, .int (if n = 1 then (if (g (42 + (ix x))) = 0 then 1 else 0) else 0 : Int32)), (0, .ref (a 0)), (1, .int x), (2, .int n)]) hx hb dX3_there_43 rfl hl (by decide) rfl (fun ls hl => ?_)
        refine lv_aload_n hx hb dX3_there_44 rfl (lv_at hl 1 rfl) ?_
        refine va_get (D := E.1) (ci := 3) (v := .ref (a 1)) (C := RX3) (T := TX3) (N := 3) hx hb hts in3 hown hE.1 hP 0 rfl rfl 0 (by decide) K7 (fun _ h9 => h9) rfl dX3_there_45 ?_
        refine lv_bipush (v := 42) hx hb dX3_there_48 (by decide) ?_
        refine lv_iload_n hx hb dX3_there_50 rfl (lv_at hl 2 rfl) ?_
        refine tpe e_x ?_
        refine lv_iadd hx hb dX3_there_51 ?_
        refine tpe (y := nI (42 + (ix x))) (nI_add 42 (ix x)) ?_
        refine lv_iload_n hx hb dX3_there_52 rfl (lv_at hl 3 rfl) ?_
        refine q_iast hx hb hE hP hD hS 1 rfl (j := (42 + (ix x))) (wd' := (ms E a (upd g (42 + (ix x)) n) im kp)) rfl (by omega) (by decide) rfl dX3_there_53 (fun H locs hP hD hS => ?_)
        refine lv_iload_n hx hb dX3_there_54 rfl (lv_at hl 0 rfl) ?_
        refine lv_if_eq (tgt := 65) hx hb dX3_there_55 (by decide) (fun c_6 => ?_) (fun c_6 => ?_)
        · refine lv_iconst (v := 0) hx hb dX3_there_65 (by decide) ?_
          have eg : (upd g (42 + (ix x)) n) = (s_X3_there g x n) := (by unfold s_X3_there; exact ((if_neg c_1).trans ((if_neg c_2).trans (if_pos c_6))).symm)
          exact hret _ _ _ _ _ (by rw [← eg]; exact hP) (by rw [← eg]; exact hD) hS (by unfold f_X3_there; exact ((if_neg c_1).trans ((if_neg c_2).trans (if_pos c_6))).symm) dX3_there_66
        · refine lv_aload_n hx hb dX3_there_58 rfl (lv_at hl 1 rfl) ?_
          refine ci_V F hE (k_X3_settleAll l E a (upd g (42 + (ix x)) n) im kp (li_upd hL (by omega))) (cwV 0 hts gX3_there_X3_settleAll rfl rfl rfl (by decide +kernel) ⟨Nat.le_of_ble_eq_true rfl, Nat.le_of_ble_eq_true rfl⟩) Fr.all 0 3 rfl rfl rfl hP hD hS hA rfl hl.1 rfl (Nat.le_of_ble_eq_true rfl) dX3_there_59 ⟨Nat.zero_le _, Nat.zero_le _⟩ (fun H locs hP hD hS => ?_)
          have hP : va_P E.1 vwCl (ms E a (t1_X3_there g x n) im kp) H := hP
          have hD : va_D A (ms E a (t1_X3_there g x n) im kp) := hD
          refine lv_goto (tgt := 66) hx hb dX3_there_62 (by decide) ?_
          have eg : (t1_X3_there g x n) = (s_X3_there g x n) := (by unfold s_X3_there; exact ((if_neg c_1).trans ((if_neg c_2).trans (if_neg c_6))).symm)
          exact hret _ _ _ _ _ (by rw [← eg]; exact hP) (by rw [← eg]; exact hD) hS (by unfold f_X3_there; exact ((if_neg c_1).trans ((if_neg c_2).trans (if_neg c_6))).symm) dX3_there_66
      refine lv_icmp_ne (tgt := 42) hx hb dX3_there_23 (by decide) (fun c_4 => ?_) (fun c_4 => ?_)
      · refine lv_iconst (v := 0) hx hb dX3_there_42 (by decide) ?_
        exact J_43_3 _ _ _ hP hD hS (if_neg c_4).symm
      · refine lv_aload_n hx hb dX3_there_26 rfl (lv_at hl 0 rfl) ?_
        refine va_get (D := E.1) (ci := 3) (v := .ref (a 1)) (C := RX3) (T := TX3) (N := 3) hx hb hts in3 hown hE.1 hP 0 rfl rfl 0 (by decide) K7 (fun _ h9 => h9) rfl dX3_there_27 ?_
        refine lv_bipush (v := 42) hx hb dX3_there_30 (by decide) ?_
        refine lv_iload_n hx hb dX3_there_32 rfl (lv_at hl 1 rfl) ?_
        refine tpe e_x ?_
        refine lv_iadd hx hb dX3_there_33 ?_
        refine tpe (y := nI (42 + (ix x))) (nI_add 42 (ix x)) ?_
        refine q_iald hx hb hE hP 1 rfl (j := (42 + (ix x))) (v := (g (42 + (ix x)))) rfl (by omega) (by decide) rfl dX3_there_34 ?_
        refine lv_if_ne (tgt := 42) hx hb dX3_there_35 (by decide) (fun c_5 => ?_) (fun c_5 => ?_)
        · refine lv_iconst (v := 0) hx hb dX3_there_42 (by decide) ?_
          exact J_43_3 _ _ _ hP hD hS ((if_pos c_4).trans (if_neg c_5)).symm
        · refine lv_iconst (v := 1) hx hb dX3_there_38 (by decide) ?_
          refine lv_goto (tgt := 43) hx hb dX3_there_39 (by decide) ?_
          exact J_43_3 _ _ _ hP hD hS ((if_pos c_4).trans (if_pos c_5)).symm
    · refine lv_bipush (v := -2) hx hb dX3_there_18 (by decide) ?_
      have eg : g = (s_X3_there g x n) := (by unfold s_X3_there; exact ((if_neg c_1).trans (if_pos c_2)).symm)
      exact hret _ _ _ _ _ (by rw [← eg]; exact hP) (by rw [← eg]; exact hD) hS (by unfold f_X3_there; exact ((if_neg c_1).trans (if_pos c_2)).symm) dX3_there_20
  · refine lv_iconst (v := -1) hx hb dX3_there_7 (by decide) ?_
    have eg : g = (s_X3_there g x n) := (by unfold s_X3_there; exact (if_pos c_1).symm)
    exact hret _ _ _ _ _ (by rw [← eg]; exact hP) (by rw [← eg]; exact hD) hS (by unfold f_X3_there; exact (if_pos c_1).symm) dX3_there_8
def p_X3_pass_17 (g : Nat → Int32) (x : Int32) (S17 : (Nat → Int32) × Int32) (i : Nat) : (Nat → Int32) × Int32 := ((s_X3_settleAll (upd S17.1 0 ((S17.1 0) + 1))), (S17.2 + ((nI (ix ((upd S17.1 0 ((S17.1 0) + 1)) 41))) - (nI (q_X3_settleAll_12 (upd S17.1 0 ((S17.1 0) + 1)) ((upd S17.1 0 ((S17.1 0) + 1)), 0) (ix ((upd S17.1 0 ((S17.1 0) + 1)) 41))).2))))
def q_X3_pass_17 (g : Nat → Int32) (x : Int32) (S0 : (Nat → Int32) × Int32) : Nat → (Nat → Int32) × Int32
  | 0 => S0
  | i + 1 => p_X3_pass_17 g x (q_X3_pass_17 g x S0 i) i
def s_X3_pass (g : Nat → Int32) (x : Int32) : Nat → Int32 := (if (f_X3_in x 1 100) = 0 then g else (q_X3_pass_17 g x (g, 0) (ix x)).1)
def f_X3_pass (g : Nat → Int32) (x : Int32) : Int32 := (if (f_X3_in x 1 100) = 0 then (-2) else (q_X3_pass_17 g x (g, 0) (ix x)).2)
theorem li_X3_pass (g : Nat → Int32) (x : Int32) (hL : LI g) : ∀ i, LI (q_X3_pass_17 g x (g, 0) i).1
  | 0 => hL
  | i + 1 => li_X3_settleAll (li_upd (li_X3_pass g x hL i) (by omega))
set_option maxHeartbeats 4000000 in
set_option maxRecDepth 100000 in
theorem k_X3_pass (l : Launch) (E : EE) (a : Nat → Nat) (g im kp : Nat → Int32) (x : Int32) (hL : LI g) : Ci l E yX3_pass wsX3_pass { frames := 4, cells := 0, slots := 0, locals := 92 } [.ref (a 0), .int x] (ms E a g im kp) (f_X3_pass g x) (ms E a (s_X3_pass g x) im kp) := by
  refine Ci.of (cc := cX3_pass) (maxL := 4) (rt := .int) (by decide) rfl rfl (Nat.le_of_ble_eq_true rfl) ?_
  intro p e s m args below meth c A Q F hE hA hret hP hD ls hl
  obtain ⟨hx, hb, hml, hown, hts⟩ := id F
  have hS : va_S A s.heap s.heap [] := va_S.rf
  have hl : lv_has ls 4 [(0, .ref (a 0)), (1, .int x)] := hl
  have in3 : ∀ w ∈ wsX30, w ∈ wsX3_pass := fun w h => List.mem_cons_of_mem _ (List.mem_append_right _ h)
  have K7 := hts (.fieldLink RX3 7 "PromiseHoursModel" "state" "[I") (by decide +kernel)
  refine lv_iload_n hx hb dX3_pass_0 rfl (lv_at hl 1 rfl) ?_
  refine lv_iconst (v := 1) hx hb dX3_pass_1 (by decide) ?_
  refine lv_bipush (v := 100) hx hb dX3_pass_2 (by decide) ?_
  refine ci_S F hE (k_X3_in l E x 1 100) (va_cwS 3 hts gX3_pass_X3_in rfl rfl rfl (by decide +kernel) ⟨Nat.le_of_ble_eq_true rfl, Nat.le_of_ble_eq_true rfl⟩) Fr.nil hP hD hS hA rfl hl.1 rfl (Nat.le_of_ble_eq_true rfl) dX3_pass_4 ⟨Nat.zero_le _, Nat.zero_le _⟩ (fun H locs hP hD hS => ?_)
  refine lv_if_ne (tgt := 13) hx hb dX3_pass_7 (by decide) (fun c_1 => ?_) (fun c_1 => ?_)
  · obtain ⟨b_1, b_x, e_x⟩ := in_lo (a := 1) (b := 100) c_1 (by decide) (by decide) (by decide) (by decide)
    refine lv_iconst (v := 0) hx hb dX3_pass_13 (by decide) ?_
    refine lv_istore_n (lv' := [(2, .int 0), (0, .ref (a 0)), (1, .int x)]) hx hb dX3_pass_14 rfl hl (by decide) rfl (fun ls hl => ?_)
    refine lv_iconst (v := 0) hx hb dX3_pass_15 (by decide) ?_
    refine lv_istore_n (lv' := [(3, .int 0), (2, .int 0), (0, .ref (a 0)), (1, .int x)]) hx hb dX3_pass_16 rfl hl (by decide) rfl (fun ls hl => ?_)
    have lp17 : ∀ (fu i : Nat), i ≤ (ix x) → (ix x) + 1 ≤ i + fu → ∀ (S17a : (Nat → Int32)) (S17b : Int32), (S17a, S17b) = (q_X3_pass_17 g x (g, 0) i) → ∀ (H : Heap) (locs : List Loc), va_P E.1 vwCl (ms E a S17a im kp) H → va_D A (ms E a S17a im kp) → va_S A s.heap H locs → ∀ ls : Array Slot, lv_has ls 4 [(0, .ref (a 0)), (1, .int x), (2, .int S17b), (3, .int (nI i))] → W p l e { frames := 4, cells := 0, slots := 0, locals := 92 } s m args below meth c H locs 0 0 Q (F0 m 17 ls []) := by
      intro fu
      induction fu with
      | zero => intro i h1 h2; exact absurd h2 (by omega)
      | succ fu ih =>
        intro i hi hin S17a S17b eS17 H locs hP hD hS ls hl
        refine lv_iload_n hx hb dX3_pass_17 rfl (lv_at hl 3 rfl) ?_
        refine lv_iload_n hx hb dX3_pass_18 rfl (lv_at hl 1 rfl) ?_
        refine tpe e_x ?_
        refine lv_icmp_ge (tgt := 45) hx hb dX3_pass_19 (by decide) (fun c_2 => ?_) (fun c_2 => ?_)
        · have hiN : i = (ix x) := by have := (nI_leI (a := (ix x)) (b := i) (by omega) (by omega)).mp c_2; omega
          rw [hiN] at eS17 hl
          have eS17a : S17a = (q_X3_pass_17 g x (g, 0) (ix x)).1 := by rw [← eS17]
          have eS17b : S17b = (q_X3_pass_17 g x (g, 0) (ix x)).2 := by rw [← eS17]
          refine lv_iload_n hx hb dX3_pass_45 rfl (lv_at hl 2 rfl) ?_
          have eg : S17a = (s_X3_pass g x) := (by unfold s_X3_pass; (try rw [← eS17b]); (try rw [← eS17a]); exact (if_neg c_1).symm)
          exact hret _ _ _ _ _ (by rw [← eg]; exact hP) (by rw [← eg]; exact hD) hS (by unfold f_X3_pass; (try rw [← eS17b]); (try rw [← eS17a]); exact (if_neg c_1).symm) dX3_pass_46
        · have hlt : i < (ix x) := Nat.lt_of_not_le (fun h => c_2 (nI_le (a := (ix x)) (b := i) (by omega) (by omega)))
          have hLi := li_X3_pass g x hL i
          rw [← eS17] at hLi
          dsimp only at hLi
          refine lv_aload_n hx hb dX3_pass_22 rfl (lv_at hl 0 rfl) ?_
          refine va_get (D := E.1) (ci := 3) (v := .ref (a 1)) (C := RX3) (T := TX3) (N := 3) hx hb hts in3 hown hE.1 hP 0 rfl rfl 0 (by decide) K7 (fun _ h9 => h9) rfl dX3_pass_23 ?_
          refine lv_iconst (v := 0) hx hb dX3_pass_26 (by decide) ?_
          refine lv_dup2_11 hx hb dX3_pass_27 rfl rfl ?_
          refine q_iald hx hb hE hP 1 rfl (j := 0) (v := (S17a 0)) rfl (by omega) (by decide) rfl dX3_pass_28 ?_
          refine lv_iconst (v := 1) hx hb dX3_pass_29 (by decide) ?_
          refine lv_iadd hx hb dX3_pass_30 ?_
          refine q_iast hx hb hE hP hD hS 1 rfl (j := 0) (wd' := (ms E a (upd S17a 0 ((S17a 0) + 1)) im kp)) rfl (by omega) (by decide) rfl dX3_pass_31 (fun H locs hP hD hS => ?_)
          refine lv_iload_n hx hb dX3_pass_32 rfl (lv_at hl 2 rfl) ?_
          refine lv_aload_n hx hb dX3_pass_33 rfl (lv_at hl 0 rfl) ?_
          refine ci_V F hE (k_X3_settleAll l E a (upd S17a 0 ((S17a 0) + 1)) im kp (li_upd hLi (by omega))) (cwV 0 hts gX3_pass_X3_settleAll rfl rfl rfl (by decide +kernel) ⟨Nat.le_of_ble_eq_true rfl, Nat.le_of_ble_eq_true rfl⟩) Fr.all 0 3 rfl rfl rfl hP hD hS hA rfl hl.1 rfl (Nat.le_of_ble_eq_true rfl) dX3_pass_34 ⟨Nat.zero_le _, Nat.zero_le _⟩ (fun H locs hP hD hS => ?_)
          have hP : va_P E.1 vwCl (ms E a (s_X3_settleAll (upd S17a 0 ((S17a 0) + 1))) im kp) H := hP
          have hD : va_D A (ms E a (s_X3_settleAll (upd S17a 0 ((S17a 0) + 1))) im kp) := hD
          refine lv_iadd hx hb dX3_pass_37 ?_
          refine lv_istore_n (lv' := [(2, .int (S17b + ((nI (ix ((upd S17a 0 ((S17a 0) + 1)) 41))) - (nI (q_X3_settleAll_12 (upd S17a 0 ((S17a 0) + 1)) ((upd S17a 0 ((S17a 0) + 1)), 0) (ix ((upd S17a 0 ((S17a 0) + 1)) 41))).2)))), (0, .ref (a 0)), (1, .int x), (3, .int (nI i))]) hx hb dX3_pass_38 rfl hl (by decide) rfl (fun ls hl => ?_)
          refine lv_iinc (v := (nI (i + 1))) (lv' := [(3, .int (nI (i + 1))), (2, .int (S17b + ((nI (ix ((upd S17a 0 ((S17a 0) + 1)) 41))) - (nI (q_X3_settleAll_12 (upd S17a 0 ((S17a 0) + 1)) ((upd S17a 0 ((S17a 0) + 1)), 0) (ix ((upd S17a 0 ((S17a 0) + 1)) 41))).2)))), (0, .ref (a 0)), (1, .int x)]) hx hb dX3_pass_39 hl (k := 3) rfl (nI_1 i) (by decide) rfl (fun ls hl => ?_)
          refine lv_goto (tgt := 17) hx hb dX3_pass_42 (by decide) ?_
          have eS1 : (((s_X3_settleAll (upd S17a 0 ((S17a 0) + 1))), (S17b + ((nI (ix ((upd S17a 0 ((S17a 0) + 1)) 41))) - (nI (q_X3_settleAll_12 (upd S17a 0 ((S17a 0) + 1)) ((upd S17a 0 ((S17a 0) + 1)), 0) (ix ((upd S17a 0 ((S17a 0) + 1)) 41))).2)))) : (Nat → Int32) × Int32) = (q_X3_pass_17 g x (g, 0) (i + 1)) := by
            show _ = p_X3_pass_17 g x (q_X3_pass_17 g x (g, 0) i) i
            rw [← eS17]
            rfl
          exact ih (i + 1) (by omega) (by omega) (s_X3_settleAll (upd S17a 0 ((S17a 0) + 1))) (S17b + ((nI (ix ((upd S17a 0 ((S17a 0) + 1)) 41))) - (nI (q_X3_settleAll_12 (upd S17a 0 ((S17a 0) + 1)) ((upd S17a 0 ((S17a 0) + 1)), 0) (ix ((upd S17a 0 ((S17a 0) + 1)) 41))).2))) eS1 _ _ hP hD hS ls (lv_sub hl [2, 3, 1, 0] rfl)
    exact lp17 ((ix x) + 1) 0 (Nat.zero_le _) (by omega) g 0 rfl _ _ hP hD hS ls (lv_sub hl [2, 3, 1, 0] rfl)
  · refine lv_bipush (v := -2) hx hb dX3_pass_10 (by decide) ?_
    have eg : g = (s_X3_pass g x) := (by unfold s_X3_pass; exact (if_pos c_1).symm)
    exact hret _ _ _ _ _ (by rw [← eg]; exact hP) (by rw [← eg]; exact hD) hS (by unfold f_X3_pass; exact (if_pos c_1).symm) dX3_pass_12
def PB (g : Nat → Int32) : Prop := 0 ≤ (g 0).toInt ∧ (g 0).toInt ≤ 100000 ∧ ∀ r, r < 5 → ∀ t, t < 12 → (g (202 + 12 * r + t)).toInt ≤ (g 0).toInt + 200
theorem due_0 {g : Nat → Int32} {t : Nat} {z : Int32} (h : ∀ r, r < 5 → g (202 + 12 * r + t) ≤ z) : ∀ i, i ≤ 5 → q_X3_dueOf_21 g t z 0 i = 0
  | 0, _ => rfl
  | i + 1, hi => by
    have ih := due_0 h i (by omega)
    show p_X3_dueOf_21 g t z (q_X3_dueOf_21 g t z 0 i) i = 0
    rw [ih]
    unfold p_X3_dueOf_21
    rw [if_pos rfl, if_pos (h i (by omega))]
theorem due_hz {g : Nat → Int32} {t : Nat} (h : PB g) (ht : t < 12) : q_X3_dueOf_21 g t (g 0 + nI 400) 0 5 = 0 := by
  obtain ⟨h1, h2, h3⟩ := h
  refine due_0 (fun r hr => ?_) 5 (Nat.le_refl 5)
  have := h3 r hr t ht
  rw [Int32.le_iff_toInt_le]
  have e : (g 0 + nI 400).toInt = (g 0).toInt + 400 := by
    rw [Int32.toInt_add, nI_toInt (by decide)]
    exact Int.bmod_eq_of_le (by omega) (by omega)
  omega
theorem pb_upd {g : Nat → Int32} {i : Nat} {v : Int32} (h : PB g) (hi : i ≠ 0) (hi2 : i < 202 ∨ 262 ≤ i) : PB (upd g i v) := by
  unfold PB
  rw [up_n (show 0 ≠ i by omega)]
  refine ⟨h.1, h.2.1, fun r hr t ht => ?_⟩
  rw [up_n (by omega)]
  exact h.2.2 r hr t ht
def p_X3_thing_115 (g : Nat → Int32) (y : Int32) (k : Int32) (S115 : Int32) (i : Nat) : Int32 := (S115 ||| (if (if k = 4 then (f_X3_isHolder g i (ix y)) else (if k = 5 then (if (g (82 + 12 * i + (ix y))) < 0 then 0 else 1) else (f_X3_canUse g i (ix y))) : Int32) = 0 then 0 else (1 <<< ((nI i) &&& 31)) : Int32))
def q_X3_thing_115 (g : Nat → Int32) (y : Int32) (k : Int32) (S0 : Int32) : Nat → Int32
  | 0 => S0
  | i + 1 => p_X3_thing_115 g y k (q_X3_thing_115 g y k S0 i) i
def f_X3_thing (g : Nat → Int32) (y : Int32) (k : Int32) : Int32 := (if (f_X3_in y 0 11) = 0 then (-1) else (if (f_X3_in k 0 6) = 0 then (-2) else (if 4 ≤ k then (q_X3_thing_115 g y k 0 5) else (if k = 0 then (g (5 + (ix y))) else (if k = 1 then (if (if (g (17 + (ix y))) < 0 then 0 else 1 : Int32) = 0 then 0 else 1) else (if k = 2 then (g (17 + (ix y))) else (if (if (g (17 + (ix y))) < 0 then 0 else 1 : Int32) = 0 then (-6) else (f_X3_dueOf g (ix y))))) : Int32))))
set_option maxHeartbeats 4000000 in
set_option maxRecDepth 100000 in
theorem k_X3_thing (l : Launch) (E : EE) (a : Nat → Nat) (g im kp : Nat → Int32) (y : Int32) (k : Int32) (hB : PB g) : Ci l E yX3_thing wsX3_thing { frames := 2, cells := 0, slots := 0, locals := 47 } [.ref (a 0), .int y, .int k] (ms E a g im kp) (f_X3_thing g y k) (ms E a g im kp) := by
  refine Ci.of (cc := cX3_thing) (maxL := 7) (rt := .int) (by decide) rfl rfl (Nat.le_of_ble_eq_true rfl) ?_
  intro p e s m args below meth c A Q F hE hA hret hP hD ls hl
  obtain ⟨hx, hb, hml, hown, hts⟩ := id F
  have hS : va_S A s.heap s.heap [] := va_S.rf
  have hl : lv_has ls 7 [(0, .ref (a 0)), (1, .int y), (2, .int k)] := hl
  have in3 : ∀ w ∈ wsX30, w ∈ wsX3_thing := fun w h => List.mem_cons_of_mem _ (List.mem_append_right _ h)
  have K7 := hts (.fieldLink RX3 7 "PromiseHoursModel" "state" "[I") (by decide +kernel)
  refine lv_iload_n hx hb dX3_thing_0 rfl (lv_at hl 1 rfl) ?_
  refine ci_S F hE (k_X3_isThing l E y) (va_cwS 1 hts gX3_thing_X3_isThing rfl rfl rfl (by decide +kernel) ⟨Nat.le_of_ble_eq_true rfl, Nat.le_of_ble_eq_true rfl⟩) Fr.nil hP hD hS hA rfl hl.1 rfl (Nat.le_of_ble_eq_true rfl) dX3_thing_1 ⟨Nat.zero_le _, Nat.zero_le _⟩ (fun H locs hP hD hS => ?_)
  refine lv_if_ne (tgt := 9) hx hb dX3_thing_4 (by decide) (fun c_1 => ?_) (fun c_1 => ?_)
  · obtain ⟨b_y, e_y⟩ := in_ix (n := 11) c_1 (by decide) (by decide)
    refine lv_iload_n hx hb dX3_thing_9 rfl (lv_at hl 2 rfl) ?_
    refine lv_iconst (v := 0) hx hb dX3_thing_10 (by decide) ?_
    refine lv_bipush (v := 6) hx hb dX3_thing_11 (by decide) ?_
    refine ci_S F hE (k_X3_in l E k 0 6) (va_cwS 3 hts gX3_thing_X3_in rfl rfl rfl (by decide +kernel) ⟨Nat.le_of_ble_eq_true rfl, Nat.le_of_ble_eq_true rfl⟩) Fr.nil hP hD hS hA rfl hl.1 rfl (Nat.le_of_ble_eq_true rfl) dX3_thing_13 ⟨Nat.zero_le _, Nat.zero_le _⟩ (fun H locs hP hD hS => ?_)
    refine lv_if_ne (tgt := 22) hx hb dX3_thing_16 (by decide) (fun c_2 => ?_) (fun c_2 => ?_)
    · refine lv_aload_n hx hb dX3_thing_22 rfl (lv_at hl 0 rfl) ?_
      refine va_get (D := E.1) (ci := 3) (v := .ref (a 1)) (C := RX3) (T := TX3) (N := 3) hx hb hts in3 hown hE.1 hP 0 rfl rfl 0 (by decide) K7 (fun _ h9 => h9) rfl dX3_thing_23 ?_
      refine lv_bipush (v := 17) hx hb dX3_thing_26 (by decide) ?_
      refine lv_iload_n hx hb dX3_thing_28 rfl (lv_at hl 1 rfl) ?_
      refine tpe e_y ?_
      refine lv_iadd hx hb dX3_thing_29 ?_
      refine tpe (y := nI (17 + (ix y))) (nI_add 17 (ix y)) ?_
      refine q_iald hx hb hE hP 1 rfl (j := (17 + (ix y))) (v := (g (17 + (ix y)))) rfl (by omega) (by decide) rfl dX3_thing_30 ?_
      have J_39_3 : ∀ (w : Int32) (H : Heap) (locs : List Loc), va_P E.1 vwCl (ms E a g im kp) H → va_D A (ms E a g im kp) → va_S A s.heap H locs → w = (if (g (17 + (ix y))) < 0 then 0 else 1 : Int32) → W p l e { frames := 2, cells := 0, slots := 0, locals := 47 } s m args below meth c H locs 0 0 Q (F0 m 39 ls [.int w]) := by
        intro w H locs hP hD hS ew
        rw [ew]
        refine lv_istore_n (lv' := [(3, .int (if (g (17 + (ix y))) < 0 then 0 else 1 : Int32)), (0, .ref (a 0)), (1, .int y), (2, .int k)]) hx hb dX3_thing_39 rfl hl (by decide) rfl (fun ls hl => ?_)
        refine lv_iload_n hx hb dX3_thing_40 rfl (lv_at hl 3 rfl) ?_
        refine lv_iconst (v := 4) hx hb dX3_thing_41 (by decide) ?_
        refine lv_icmp_ge (tgt := 109) hx hb dX3_thing_42 (by decide) (fun c_5 => ?_) (fun c_5 => ?_)
        · refine lv_iconst (v := 0) hx hb dX3_thing_109 (by decide) ?_
          refine lv_istore (lv' := [(4, .int 0), (3, .int (if (g (17 + (ix y))) < 0 then 0 else 1 : Int32)), (0, .ref (a 0)), (1, .int y), (2, .int k)]) hx hb dX3_thing_110 hl (by decide) rfl (fun ls hl => ?_)
          refine lv_iconst (v := 0) hx hb dX3_thing_112 (by decide) ?_
          refine lv_istore (lv' := [(5, .int 0), (4, .int 0), (3, .int (if (g (17 + (ix y))) < 0 then 0 else 1 : Int32)), (0, .ref (a 0)), (1, .int y), (2, .int k)]) hx hb dX3_thing_113 hl (by decide) rfl (fun ls hl => ?_)
          have lp115 : ∀ (fu i : Nat), i ≤ 5 → 5 + 1 ≤ i + fu → ∀ (S115 : Int32), S115 = (q_X3_thing_115 g y k 0 i) → ∀ (H : Heap) (locs : List Loc), va_P E.1 vwCl (ms E a g im kp) H → va_D A (ms E a g im kp) → va_S A s.heap H locs → ∀ ls : Array Slot, lv_has ls 7 [(0, .ref (a 0)), (1, .int y), (2, .int k), (3, .int (if (g (17 + (ix y))) < 0 then 0 else 1 : Int32)), (4, .int S115), (5, .int (nI i))] → W p l e { frames := 2, cells := 0, slots := 0, locals := 47 } s m args below meth c H locs 0 0 Q (F0 m 115 ls []) := by
            intro fu
            induction fu with
            | zero => intro i h1 h2; exact absurd h2 (by omega)
            | succ fu ih =>
              intro i hi hin S115 eS115 H locs hP hD hS ls hl
              refine lv_iload hx hb dX3_thing_115 (lv_at hl 5 rfl) ?_
              refine lv_iconst (v := 5) hx hb dX3_thing_117 (by decide) ?_
              refine lv_icmp_ge (tgt := 198) hx hb dX3_thing_118 (by decide) (fun c_6 => ?_) (fun c_6 => ?_)
              · have hiN : i = 5 := by have := (nI_leI (a := 5) (b := i) (by omega) (by omega)).mp c_6; omega
                rw [hiN] at eS115 hl
                refine lv_iload hx hb dX3_thing_198 (lv_at hl 4 rfl) ?_
                exact hret _ _ _ _ _ hP hD hS (by unfold f_X3_thing; (try rw [← eS115]); exact ((if_neg c_1).trans ((if_neg c_2).trans (if_pos c_5))).symm) dX3_thing_200
              · have hlt : i < 5 := Nat.lt_of_not_le (fun h => c_6 (nI_le (a := 5) (b := i) (by omega) (by omega)))
                refine lv_iload_n hx hb dX3_thing_121 rfl (lv_at hl 2 rfl) ?_
                refine lv_iconst (v := 4) hx hb dX3_thing_122 (by decide) ?_
                have J_172_7 : ∀ (w : Int32) (H : Heap) (locs : List Loc), va_P E.1 vwCl (ms E a g im kp) H → va_D A (ms E a g im kp) → va_S A s.heap H locs → w = (if k = 4 then (f_X3_isHolder g i (ix y)) else (if k = 5 then (if (g (82 + 12 * i + (ix y))) < 0 then 0 else 1) else (f_X3_canUse g i (ix y))) : Int32) → W p l e { frames := 2, cells := 0, slots := 0, locals := 47 } s m args below meth c H locs 0 0 Q (F0 m 172 ls [.int w]) := by
                  intro w H locs hP hD hS ew
                  rw [ew]
                  refine lv_istore (lv' := [(6, .int (if k = 4 then (f_X3_isHolder g i (ix y)) else (if k = 5 then (if (g (82 + 12 * i + (ix y))) < 0 then 0 else 1) else (f_X3_canUse g i (ix y))) : Int32)), (0, .ref (a 0)), (1, .int y), (2, .int k), (3, .int (if (g (17 + (ix y))) < 0 then 0 else 1 : Int32)), (4, .int S115), (5, .int (nI i))]) hx hb dX3_thing_172 hl (by decide) rfl (fun ls hl => ?_)
                  refine lv_iload hx hb dX3_thing_174 (lv_at hl 5 rfl) ?_
                  refine lv_iload hx hb dX3_thing_176 (lv_at hl 0 rfl) ?_
                  have J_189_11 : ∀ (w : Int32) (H : Heap) (locs : List Loc), va_P E.1 vwCl (ms E a g im kp) H → va_D A (ms E a g im kp) → va_S A s.heap H locs → w = (if (if k = 4 then (f_X3_isHolder g i (ix y)) else (if k = 5 then (if (g (82 + 12 * i + (ix y))) < 0 then 0 else 1) else (f_X3_canUse g i (ix y))) : Int32) = 0 then 0 else (1 <<< ((nI i) &&& 31)) : Int32) → W p l e { frames := 2, cells := 0, slots := 0, locals := 47 } s m args below meth c H locs 0 0 Q (F0 m 189 ls [.int w, .int S115]) := by
                    intro w H locs hP hD hS ew
                    rw [ew]
                    refine lv_ior hx hb dX3_thing_189 ?_
                    refine lv_istore (lv' := [(4, .int (S115 ||| (if (if k = 4 then (f_X3_isHolder g i (ix y)) else (if k = 5 then (if (g (82 + 12 * i + (ix y))) < 0 then 0 else 1) else (f_X3_canUse g i (ix y))) : Int32) = 0 then 0 else (1 <<< ((nI i) &&& 31)) : Int32))), (6, .int (if k = 4 then (f_X3_isHolder g i (ix y)) else (if k = 5 then (if (g (82 + 12 * i + (ix y))) < 0 then 0 else 1) else (f_X3_canUse g i (ix y))) : Int32)), (0, .ref (a 0)), (1, .int y), (2, .int k), (3, .int (if (g (17 + (ix y))) < 0 then 0 else 1 : Int32)), (5, .int (nI i))]) hx hb dX3_thing_190 hl (by decide) rfl (fun ls hl => ?_)
                    refine lv_iinc (v := (nI (i + 1))) (lv' := [(5, .int (nI (i + 1))), (4, .int (S115 ||| (if (if k = 4 then (f_X3_isHolder g i (ix y)) else (if k = 5 then (if (g (82 + 12 * i + (ix y))) < 0 then 0 else 1) else (f_X3_canUse g i (ix y))) : Int32) = 0 then 0 else (1 <<< ((nI i) &&& 31)) : Int32))), (6, .int (if k = 4 then (f_X3_isHolder g i (ix y)) else (if k = 5 then (if (g (82 + 12 * i + (ix y))) < 0 then 0 else 1) else (f_X3_canUse g i (ix y))) : Int32)), (0, .ref (a 0)), (1, .int y), (2, .int k), (3, .int (if (g (17 + (ix y))) < 0 then 0 else 1 : Int32))]) hx hb dX3_thing_192 hl (k := 6) rfl (nI_1 i) (by decide) rfl (fun ls hl => ?_)
                    refine lv_goto (tgt := 115) hx hb dX3_thing_195 (by decide) ?_
                    have eS1 : ((S115 ||| (if (if k = 4 then (f_X3_isHolder g i (ix y)) else (if k = 5 then (if (g (82 + 12 * i + (ix y))) < 0 then 0 else 1) else (f_X3_canUse g i (ix y))) : Int32) = 0 then 0 else (1 <<< ((nI i) &&& 31)) : Int32)) : Int32) = (q_X3_thing_115 g y k 0 (i + 1)) := by
                      show _ = p_X3_thing_115 g y k (q_X3_thing_115 g y k 0 i) i
                      rw [← eS115]
                      rfl
                    exact ih (i + 1) (by omega) (by omega) (S115 ||| (if (if k = 4 then (f_X3_isHolder g i (ix y)) else (if k = 5 then (if (g (82 + 12 * i + (ix y))) < 0 then 0 else 1) else (f_X3_canUse g i (ix y))) : Int32) = 0 then 0 else (1 <<< ((nI i) &&& 31)) : Int32)) eS1 _ _ hP hD hS ls (lv_sub hl [3, 4, 5, 6, 1, 0] rfl)
                  refine lv_if_eq (tgt := 188) hx hb dX3_thing_178 (by decide) (fun c_12 => ?_) (fun c_12 => ?_)
                  · refine lv_iconst (v := 0) hx hb dX3_thing_188 (by decide) ?_
                    exact J_189_11 _ _ _ hP hD hS (if_pos c_12).symm
                  · refine lv_iconst (v := 1) hx hb dX3_thing_181 (by decide) ?_
                    refine lv_iload hx hb dX3_thing_182 (lv_at hl 6 rfl) ?_
                    refine lv_ishl hx hb dX3_thing_184 ?_
                    refine lv_goto (tgt := 189) hx hb dX3_thing_185 (by decide) ?_
                    exact J_189_11 _ _ _ hP hD hS (if_neg c_12).symm
                refine lv_icmp_ne (tgt := 136) hx hb dX3_thing_123 (by decide) (fun c_8 => ?_) (fun c_8 => ?_)
                · refine lv_iload_n hx hb dX3_thing_136 rfl (lv_at hl 2 rfl) ?_
                  refine lv_iconst (v := 5) hx hb dX3_thing_137 (by decide) ?_
                  refine lv_icmp_ne (tgt := 165) hx hb dX3_thing_138 (by decide) (fun c_9 => ?_) (fun c_9 => ?_)
                  · refine lv_aload_n hx hb dX3_thing_165 rfl (lv_at hl 0 rfl) ?_
                    refine lv_iload hx hb dX3_thing_166 (lv_at hl 5 rfl) ?_
                    refine lv_iload_n hx hb dX3_thing_168 rfl (lv_at hl 1 rfl) ?_
                    refine tpe e_y ?_
                    refine ci_V F hE (k_X3_canUse l E a g im kp i (ix y) (by omega) (by omega)) (cwV 2 hts gX3_thing_X3_canUse rfl rfl rfl (by decide +kernel) ⟨Nat.le_of_ble_eq_true rfl, Nat.le_of_ble_eq_true rfl⟩) Fr.all 0 3 rfl rfl rfl hP hD hS hA rfl hl.1 rfl (Nat.le_of_ble_eq_true rfl) dX3_thing_169 ⟨Nat.zero_le _, Nat.zero_le _⟩ (fun H locs hP hD hS => ?_)
                    exact J_172_7 _ _ _ hP hD hS ((if_neg c_8).trans (if_neg c_9)).symm
                  · refine lv_aload_n hx hb dX3_thing_141 rfl (lv_at hl 0 rfl) ?_
                    refine va_get (D := E.1) (ci := 3) (v := .ref (a 1)) (C := RX3) (T := TX3) (N := 3) hx hb hts in3 hown hE.1 hP 0 rfl rfl 0 (by decide) K7 (fun _ h9 => h9) rfl dX3_thing_142 ?_
                    refine lv_bipush (v := 82) hx hb dX3_thing_145 (by decide) ?_
                    refine lv_iload hx hb dX3_thing_147 (lv_at hl 5 rfl) ?_
                    refine lv_iload_n hx hb dX3_thing_149 rfl (lv_at hl 1 rfl) ?_
                    refine tpe e_y ?_
                    refine ci_S F hE (k_X3_thingAt l E 82 i (ix y)) (va_cwS 3 hts gX3_thing_X3_thingAt rfl rfl rfl (by decide +kernel) ⟨Nat.le_of_ble_eq_true rfl, Nat.le_of_ble_eq_true rfl⟩) Fr.nil hP hD hS hA rfl hl.1 rfl (Nat.le_of_ble_eq_true rfl) dX3_thing_150 ⟨Nat.zero_le _, Nat.zero_le _⟩ (fun H locs hP hD hS => ?_)
                    refine q_iald hx hb hE hP 1 rfl (j := (82 + 12 * i + (ix y))) (v := (g (82 + 12 * i + (ix y)))) rfl (by omega) (by decide) rfl dX3_thing_153 ?_
                    refine lv_if_lt (tgt := 161) hx hb dX3_thing_154 (by decide) (fun c_10 => ?_) (fun c_10 => ?_)
                    · refine lv_iconst (v := 0) hx hb dX3_thing_161 (by decide) ?_
                      refine lv_goto (tgt := 172) hx hb dX3_thing_162 (by decide) ?_
                      exact J_172_7 _ _ _ hP hD hS ((if_neg c_8).trans ((if_pos c_9).trans (if_pos c_10))).symm
                    · refine lv_iconst (v := 1) hx hb dX3_thing_157 (by decide) ?_
                      refine lv_goto (tgt := 172) hx hb dX3_thing_158 (by decide) ?_
                      exact J_172_7 _ _ _ hP hD hS ((if_neg c_8).trans ((if_pos c_9).trans (if_neg c_10))).symm
                · refine lv_aload_n hx hb dX3_thing_126 rfl (lv_at hl 0 rfl) ?_
                  refine lv_iload hx hb dX3_thing_127 (lv_at hl 5 rfl) ?_
                  refine lv_iload_n hx hb dX3_thing_129 rfl (lv_at hl 1 rfl) ?_
                  refine tpe e_y ?_
                  refine ci_V F hE (k_X3_isHolder l E a g im kp i (ix y) (by omega) (by omega)) (cwV 2 hts gX3_thing_X3_isHolder rfl rfl rfl (by decide +kernel) ⟨Nat.le_of_ble_eq_true rfl, Nat.le_of_ble_eq_true rfl⟩) Fr.all 0 3 rfl rfl rfl hP hD hS hA rfl hl.1 rfl (Nat.le_of_ble_eq_true rfl) dX3_thing_130 ⟨Nat.zero_le _, Nat.zero_le _⟩ (fun H locs hP hD hS => ?_)
                  refine lv_goto (tgt := 172) hx hb dX3_thing_133 (by decide) ?_
                  exact J_172_7 _ _ _ hP hD hS (if_pos c_8).symm
          exact lp115 (5 + 1) 0 (Nat.zero_le _) (by omega) 0 rfl _ _ hP hD hS ls (lv_sub hl [3, 4, 5, 2, 1, 0] rfl)
        · refine lv_iload_n hx hb dX3_thing_45 rfl (lv_at hl 3 rfl) ?_
          have J_108_13 : ∀ (w : Int32) (H : Heap) (locs : List Loc), va_P E.1 vwCl (ms E a g im kp) H → va_D A (ms E a g im kp) → va_S A s.heap H locs → w = (if k = 0 then (g (5 + (ix y))) else (if k = 1 then (if (if (g (17 + (ix y))) < 0 then 0 else 1 : Int32) = 0 then 0 else 1) else (if k = 2 then (g (17 + (ix y))) else (if (if (g (17 + (ix y))) < 0 then 0 else 1 : Int32) = 0 then (-6) else (f_X3_dueOf g (ix y))))) : Int32) → W p l e { frames := 2, cells := 0, slots := 0, locals := 47 } s m args below meth c H locs 0 0 Q (F0 m 108 ls [.int w]) := by
            intro w H locs hP hD hS ew
            rw [ew]
            exact hret _ _ _ _ _ hP hD hS (by unfold f_X3_thing; exact ((if_neg c_1).trans ((if_neg c_2).trans (if_neg c_5))).symm) dX3_thing_108
          refine lv_if_ne (tgt := 60) hx hb dX3_thing_46 (by decide) (fun c_14 => ?_) (fun c_14 => ?_)
          · refine lv_iload_n hx hb dX3_thing_60 rfl (lv_at hl 3 rfl) ?_
            refine lv_iconst (v := 1) hx hb dX3_thing_61 (by decide) ?_
            refine lv_icmp_ne (tgt := 77) hx hb dX3_thing_62 (by decide) (fun c_15 => ?_) (fun c_15 => ?_)
            · refine lv_iload_n hx hb dX3_thing_77 rfl (lv_at hl 3 rfl) ?_
              refine lv_iconst (v := 2) hx hb dX3_thing_78 (by decide) ?_
              refine lv_icmp_ne (tgt := 94) hx hb dX3_thing_79 (by decide) (fun c_16 => ?_) (fun c_16 => ?_)
              · refine lv_iload_n hx hb dX3_thing_94 rfl (lv_at hl 0 rfl) ?_
                refine lv_if_eq (tgt := 106) hx hb dX3_thing_95 (by decide) (fun c_17 => ?_) (fun c_17 => ?_)
                · refine lv_bipush (v := -6) hx hb dX3_thing_106 (by decide) ?_
                  exact J_108_13 _ _ _ hP hD hS ((if_neg c_14).trans ((if_neg c_15).trans ((if_neg c_16).trans (if_pos c_17)))).symm
                · refine lv_aload_n hx hb dX3_thing_98 rfl (lv_at hl 1 rfl) ?_
                  refine lv_iload_n hx hb dX3_thing_99 rfl (lv_at hl 2 rfl) ?_
                  refine tpe e_y ?_
                  refine ci_V F hE (k_X3_dueOf l E a g im kp (ix y) (by omega) (due_hz hB b_y)) (cwV 1 hts gX3_thing_X3_dueOf rfl rfl rfl (by decide +kernel) ⟨Nat.le_of_ble_eq_true rfl, Nat.le_of_ble_eq_true rfl⟩) Fr.all 0 3 rfl rfl rfl hP hD hS hA rfl hl.1 rfl (Nat.le_of_ble_eq_true rfl) dX3_thing_100 ⟨Nat.zero_le _, Nat.zero_le _⟩ (fun H locs hP hD hS => ?_)
                  refine lv_goto (tgt := 108) hx hb dX3_thing_103 (by decide) ?_
                  exact J_108_13 _ _ _ hP hD hS ((if_neg c_14).trans ((if_neg c_15).trans ((if_neg c_16).trans (if_neg c_17)))).symm
              · refine lv_aload_n hx hb dX3_thing_82 rfl (lv_at hl 1 rfl) ?_
                refine va_get (D := E.1) (ci := 3) (v := .ref (a 1)) (C := RX3) (T := TX3) (N := 3) hx hb hts in3 hown hE.1 hP 0 rfl rfl 0 (by decide) K7 (fun _ h9 => h9) rfl dX3_thing_83 ?_
                refine lv_bipush (v := 17) hx hb dX3_thing_86 (by decide) ?_
                refine lv_iload_n hx hb dX3_thing_88 rfl (lv_at hl 2 rfl) ?_
                refine tpe e_y ?_
                refine lv_iadd hx hb dX3_thing_89 ?_
                refine tpe (y := nI (17 + (ix y))) (nI_add 17 (ix y)) ?_
                refine q_iald hx hb hE hP 1 rfl (j := (17 + (ix y))) (v := (g (17 + (ix y)))) rfl (by omega) (by decide) rfl dX3_thing_90 ?_
                refine lv_goto (tgt := 108) hx hb dX3_thing_91 (by decide) ?_
                exact J_108_13 _ _ _ hP hD hS ((if_neg c_14).trans ((if_neg c_15).trans (if_pos c_16))).symm
            · refine lv_iload_n hx hb dX3_thing_65 rfl (lv_at hl 0 rfl) ?_
              refine lv_if_eq (tgt := 73) hx hb dX3_thing_66 (by decide) (fun c_18 => ?_) (fun c_18 => ?_)
              · refine lv_iconst (v := 0) hx hb dX3_thing_73 (by decide) ?_
                refine lv_goto (tgt := 108) hx hb dX3_thing_74 (by decide) ?_
                exact J_108_13 _ _ _ hP hD hS ((if_neg c_14).trans ((if_pos c_15).trans (if_pos c_18))).symm
              · refine lv_iconst (v := 1) hx hb dX3_thing_69 (by decide) ?_
                refine lv_goto (tgt := 108) hx hb dX3_thing_70 (by decide) ?_
                exact J_108_13 _ _ _ hP hD hS ((if_neg c_14).trans ((if_pos c_15).trans (if_neg c_18))).symm
          · refine lv_aload_n hx hb dX3_thing_49 rfl (lv_at hl 1 rfl) ?_
            refine va_get (D := E.1) (ci := 3) (v := .ref (a 1)) (C := RX3) (T := TX3) (N := 3) hx hb hts in3 hown hE.1 hP 0 rfl rfl 0 (by decide) K7 (fun _ h9 => h9) rfl dX3_thing_50 ?_
            refine lv_iconst (v := 5) hx hb dX3_thing_53 (by decide) ?_
            refine lv_iload_n hx hb dX3_thing_54 rfl (lv_at hl 2 rfl) ?_
            refine tpe e_y ?_
            refine lv_iadd hx hb dX3_thing_55 ?_
            refine tpe (y := nI (5 + (ix y))) (nI_add 5 (ix y)) ?_
            refine q_iald hx hb hE hP 1 rfl (j := (5 + (ix y))) (v := (g (5 + (ix y)))) rfl (by omega) (by decide) rfl dX3_thing_56 ?_
            refine lv_goto (tgt := 108) hx hb dX3_thing_57 (by decide) ?_
            exact J_108_13 _ _ _ hP hD hS (if_pos c_14).symm
      refine lv_if_lt (tgt := 38) hx hb dX3_thing_31 (by decide) (fun c_4 => ?_) (fun c_4 => ?_)
      · refine lv_iconst (v := 0) hx hb dX3_thing_38 (by decide) ?_
        exact J_39_3 _ _ _ hP hD hS (if_pos c_4).symm
      · refine lv_iconst (v := 1) hx hb dX3_thing_34 (by decide) ?_
        refine lv_goto (tgt := 39) hx hb dX3_thing_35 (by decide) ?_
        exact J_39_3 _ _ _ hP hD hS (if_neg c_4).symm
    · refine lv_bipush (v := -2) hx hb dX3_thing_19 (by decide) ?_
      exact hret _ _ _ _ _ hP hD hS (by unfold f_X3_thing; exact ((if_neg c_1).trans (if_pos c_2)).symm) dX3_thing_21
  · refine lv_iconst (v := -1) hx hb dX3_thing_7 (by decide) ?_
    exact hret _ _ _ _ _ hP hD hS (by unfold f_X3_thing; exact (if_pos c_1).symm) dX3_thing_8
