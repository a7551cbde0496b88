theorem sub_2 {k : Int32} (e : k = nI (ix k)) (h0 : ¬ k = 0) (h1 : ¬ k = 1) : k - 2 = nI (ix k - 2) ∧ 2 ≤ ix k := by
  have h2 : 2 ≤ ix k := by
    rcases Nat.lt_or_ge (ix k) 2 with q | q
    · exfalso
      rcases (show ix k = 0 ∨ ix k = 1 by omega) with z | z
      · rw [z] at e; exact h0 e
      · rw [z] at e; exact h1 e
    · exact q
  refine ⟨?_, h2⟩
  have := pk_sub (a := ix k) (b := 2) h2
  rw [← e] at this
  exact this
theorem in_lo {x lo hi : Int32} {a b : Nat} (h : ¬ f_X3_in x lo hi = 0) (hl : lo = nI a) (hh : hi = nI b) (ha : a < 2 ^ 31) (hb : b < 2 ^ 31) : a ≤ ix x ∧ ix x ≤ b ∧ x = nI (ix x) := by
  unfold f_X3_in at h
  by_cases h1 : x < lo
  · rw [if_pos h1] at h; exact absurd rfl h
  rw [if_neg h1] at h
  by_cases h2 : hi < x
  · rw [if_pos h2] at h; exact absurd rfl h
  subst hl
  subst hh
  have h0 : ¬ x < 0 := fun q => h1 (Int32.lt_of_lt_of_le q (nI_pos' ha))
  obtain ⟨j, hj, e⟩ := nI_of h0
  subst e
  have e2 : ix (nI j) = j := nI_clamp hj
  rw [e2]
  refine ⟨?_, ?_, rfl⟩
  · rcases Nat.lt_or_ge j a with q | q
    · exact absurd (nI_lt q ha) h1
    · exact q
  · rcases Nat.lt_or_ge b j with q | q
    · exact absurd (nI_lt q hj) h2
    · exact q
theorem in_10 {k : Int32} (h : ¬ f_X3_in k 10 13 = 0) : 1 + k - 10 = nI (ix k - 9) ∧ 10 ≤ ix k ∧ ix k ≤ 13 := by
  obtain ⟨h1, h2, e⟩ := in_lo (a := 10) (b := 13) h (by decide) (by decide) (by decide) (by decide)
  refine ⟨?_, h1, h2⟩
  have e1 : (1 : Int32) + nI (ix k) = nI (1 + ix k) := nI_add 1 (ix k)
  have e2 := pk_sub (a := 1 + ix k) (b := 10) (by omega)
  rw [show 1 + ix k - 10 = ix k - 9 by omega] at e2
  rw [← e1, ← e] at e2
  exact e2
def f_X3_cause (g : Nat → Int32) (x : Int32) : Int32 := (if (f_X3_in x 0 ((g 296) - 1)) = 0 then (-6) else (g (292 + (ix x))) : Int32)
set_option maxHeartbeats 4000000 in
set_option maxRecDepth 100000 in
theorem k_X3_cause (l : Launch) (E : EE) (a : Nat → Nat) (g im kp : Nat → Int32) (x : Int32) (hm : ix (g 296) ≤ 4 ∧ g 296 = nI (ix (g 296))) : Ci l E yX3_cause wsX3_cause { frames := 1, cells := 0, slots := 0, locals := 22 } [.ref (a 0), .int x] (ms E a g im kp) (f_X3_cause g x) (ms E a g im kp) := by
  refine Ci.of (cc := cX3_cause) (maxL := 2) (rt := .int) (by decide) rfl rfl (Nat.le_of_ble_eq_true rfl) ?_
  intro p e s m args below meth c A Q F hE hA hret hP hD ls hl
  obtain ⟨hx, hb, hml, hown, hts⟩ := id F
  have hS : va_S A s.heap s.heap [] := va_S.rf
  have hl : lv_has ls 2 [(0, .ref (a 0)), (1, .int x)] := hl
  have in3 : ∀ w ∈ wsX30, w ∈ wsX3_cause := fun w h => List.mem_cons_of_mem _ (List.mem_append_right _ h)
  have K7 := hts (.fieldLink RX3 7 "PromiseHoursModel" "state" "[I") (by decide +kernel)
  obtain ⟨hm1, hm2⟩ := hm
  refine lv_iload_n hx hb dX3_cause_0 rfl (lv_at hl 1 rfl) ?_
  refine lv_iconst (v := 0) hx hb dX3_cause_1 (by decide) ?_
  refine lv_aload_n hx hb dX3_cause_2 rfl (lv_at hl 0 rfl) ?_
  refine va_get (D := E.1) (ci := 3) (v := .ref (a 1)) (C := RX3) (T := TX3) (N := 3) hx hb hts in3 hown hE.1 hP 0 rfl rfl 0 (by decide) K7 (fun _ h9 => h9) rfl dX3_cause_3 ?_
  refine lv_sipush (v := 296) hx hb dX3_cause_6 (by decide) ?_
  refine q_iald hx hb hE hP 1 rfl (j := 296) (v := (g 296)) rfl (by omega) (by decide) rfl dX3_cause_9 ?_
  refine lv_iconst (v := 1) hx hb dX3_cause_10 (by decide) ?_
  refine lv_isub hx hb dX3_cause_11 ?_
  refine ci_S F hE (k_X3_in l E x 0 ((g 296) - 1)) (va_cwS 3 hts gX3_cause_X3_in rfl rfl rfl (by decide +kernel) ⟨Nat.le_of_ble_eq_true rfl, Nat.le_of_ble_eq_true rfl⟩) Fr.nil hP hD hS hA rfl hl.1 rfl (Nat.le_of_ble_eq_true rfl) dX3_cause_12 ⟨Nat.zero_le _, Nat.zero_le _⟩ (fun H locs hP hD hS => ?_)
  have J_33_1 : ∀ (w : Int32) (H : Heap) (locs : List Loc), va_P E.1 vwCl (ms E a g im kp) H → va_D A (ms E a g im kp) → va_S A s.heap H locs → w = (if (f_X3_in x 0 ((g 296) - 1)) = 0 then (-6) else (g (292 + (ix x))) : Int32) → W p l e { frames := 1, cells := 0, slots := 0, locals := 22 } s m args below meth c H locs 0 0 Q (F0 m 33 ls [.int w]) := by
    intro w H locs hP hD hS ew
    rw [ew]
    exact hret _ _ _ _ _ hP hD hS rfl dX3_cause_33
  refine lv_if_eq (tgt := 31) hx hb dX3_cause_15 (by decide) (fun c_2 => ?_) (fun c_2 => ?_)
  · refine lv_bipush (v := -6) hx hb dX3_cause_31 (by decide) ?_
    exact J_33_1 _ _ _ hP hD hS (if_pos c_2).symm
  · obtain ⟨b_x, e_x⟩ := in_cnt c_2 hm2 (by omega)
    refine lv_aload_n hx hb dX3_cause_18 rfl (lv_at hl 0 rfl) ?_
    refine va_get (D := E.1) (ci := 3) (v := .ref (a 1)) (C := RX3) (T := TX3) (N := 3) hx hb hts in3 hown hE.1 hP 0 rfl rfl 0 (by decide) K7 (fun _ h9 => h9) rfl dX3_cause_19 ?_
    refine lv_sipush (v := 292) hx hb dX3_cause_22 (by decide) ?_
    refine lv_iload_n hx hb dX3_cause_25 rfl (lv_at hl 1 rfl) ?_
    refine tpe e_x ?_
    refine lv_iadd hx hb dX3_cause_26 ?_
    refine tpe (y := nI (292 + (ix x))) (nI_add 292 (ix x)) ?_
    refine q_iald hx hb hE hP 1 rfl (j := (292 + (ix x))) (v := (g (292 + (ix x)))) rfl (by omega) (by decide) rfl dX3_cause_27 ?_
    refine lv_goto (tgt := 33) hx hb dX3_cause_28 (by decide) ?_
    exact J_33_1 _ _ _ hP hD hS (if_neg c_2).symm
def f_X3_waited (g : Nat → Int32) (x : Int32) : Int32 := (if (f_X3_in x 0 ((g 302) - 1)) = 0 then (-6) else (g (297 + (ix x))) : Int32)
set_option maxHeartbeats 4000000 in
set_option maxRecDepth 100000 in
theorem k_X3_waited (l : Launch) (E : EE) (a : Nat → Nat) (g im kp : Nat → Int32) (x : Int32) (hm : ix (g 302) ≤ 5 ∧ g 302 = nI (ix (g 302))) : Ci l E yX3_waited wsX3_waited { frames := 1, cells := 0, slots := 0, locals := 22 } [.ref (a 0), .int x] (ms E a g im kp) (f_X3_waited g x) (ms E a g im kp) := by
  refine Ci.of (cc := cX3_waited) (maxL := 2) (rt := .int) (by decide) rfl rfl (Nat.le_of_ble_eq_true rfl) ?_
  intro p e s m args below meth c A Q F hE hA hret hP hD ls hl
  obtain ⟨hx, hb, hml, hown, hts⟩ := id F
  have hS : va_S A s.heap s.heap [] := va_S.rf
  have hl : lv_has ls 2 [(0, .ref (a 0)), (1, .int x)] := hl
  have in3 : ∀ w ∈ wsX30, w ∈ wsX3_waited := fun w h => List.mem_cons_of_mem _ (List.mem_append_right _ h)
  have K7 := hts (.fieldLink RX3 7 "PromiseHoursModel" "state" "[I") (by decide +kernel)
  obtain ⟨hm1, hm2⟩ := hm
  refine lv_iload_n hx hb dX3_waited_0 rfl (lv_at hl 1 rfl) ?_
  refine lv_iconst (v := 0) hx hb dX3_waited_1 (by decide) ?_
  refine lv_aload_n hx hb dX3_waited_2 rfl (lv_at hl 0 rfl) ?_
  refine va_get (D := E.1) (ci := 3) (v := .ref (a 1)) (C := RX3) (T := TX3) (N := 3) hx hb hts in3 hown hE.1 hP 0 rfl rfl 0 (by decide) K7 (fun _ h9 => h9) rfl dX3_waited_3 ?_
  refine lv_sipush (v := 302) hx hb dX3_waited_6 (by decide) ?_
  refine q_iald hx hb hE hP 1 rfl (j := 302) (v := (g 302)) rfl (by omega) (by decide) rfl dX3_waited_9 ?_
  refine lv_iconst (v := 1) hx hb dX3_waited_10 (by decide) ?_
  refine lv_isub hx hb dX3_waited_11 ?_
  refine ci_S F hE (k_X3_in l E x 0 ((g 302) - 1)) (va_cwS 3 hts gX3_waited_X3_in rfl rfl rfl (by decide +kernel) ⟨Nat.le_of_ble_eq_true rfl, Nat.le_of_ble_eq_true rfl⟩) Fr.nil hP hD hS hA rfl hl.1 rfl (Nat.le_of_ble_eq_true rfl) dX3_waited_12 ⟨Nat.zero_le _, Nat.zero_le _⟩ (fun H locs hP hD hS => ?_)
  have J_33_1 : ∀ (w : Int32) (H : Heap) (locs : List Loc), va_P E.1 vwCl (ms E a g im kp) H → va_D A (ms E a g im kp) → va_S A s.heap H locs → w = (if (f_X3_in x 0 ((g 302) - 1)) = 0 then (-6) else (g (297 + (ix x))) : Int32) → W p l e { frames := 1, cells := 0, slots := 0, locals := 22 } s m args below meth c H locs 0 0 Q (F0 m 33 ls [.int w]) := by
    intro w H locs hP hD hS ew
    rw [ew]
    exact hret _ _ _ _ _ hP hD hS rfl dX3_waited_33
  refine lv_if_eq (tgt := 31) hx hb dX3_waited_15 (by decide) (fun c_2 => ?_) (fun c_2 => ?_)
  · refine lv_bipush (v := -6) hx hb dX3_waited_31 (by decide) ?_
    exact J_33_1 _ _ _ hP hD hS (if_pos c_2).symm
  · obtain ⟨b_x, e_x⟩ := in_cnt c_2 hm2 (by omega)
    refine lv_aload_n hx hb dX3_waited_18 rfl (lv_at hl 0 rfl) ?_
    refine va_get (D := E.1) (ci := 3) (v := .ref (a 1)) (C := RX3) (T := TX3) (N := 3) hx hb hts in3 hown hE.1 hP 0 rfl rfl 0 (by decide) K7 (fun _ h9 => h9) rfl dX3_waited_19 ?_
    refine lv_sipush (v := 297) hx hb dX3_waited_22 (by decide) ?_
    refine lv_iload_n hx hb dX3_waited_25 rfl (lv_at hl 1 rfl) ?_
    refine tpe e_x ?_
    refine lv_iadd hx hb dX3_waited_26 ?_
    refine tpe (y := nI (297 + (ix x))) (nI_add 297 (ix x)) ?_
    refine q_iald hx hb hE hP 1 rfl (j := (297 + (ix x))) (v := (g (297 + (ix x)))) rfl (by omega) (by decide) rfl dX3_waited_27 ?_
    refine lv_goto (tgt := 33) hx hb dX3_waited_28 (by decide) ?_
    exact J_33_1 _ _ _ hP hD hS (if_neg c_2).symm
def f_X3_waiting (g : Nat → Int32) (x : Int32) : Int32 := (if (f_X3_in x 0 ((g 41) - 1)) = 0 then (-6) else (g (29 + (ix x))) : Int32)
set_option maxHeartbeats 4000000 in
set_option maxRecDepth 100000 in
theorem k_X3_waiting (l : Launch) (E : EE) (a : Nat → Nat) (g im kp : Nat → Int32) (x : Int32) (hm : ix (g 41) ≤ 12 ∧ g 41 = nI (ix (g 41))) : Ci l E yX3_waiting wsX3_waiting { frames := 1, cells := 0, slots := 0, locals := 22 } [.ref (a 0), .int x] (ms E a g im kp) (f_X3_waiting g x) (ms E a g im kp) := by
  refine Ci.of (cc := cX3_waiting) (maxL := 2) (rt := .int) (by decide) rfl rfl (Nat.le_of_ble_eq_true rfl) ?_
  intro p e s m args below meth c A Q F hE hA hret hP hD ls hl
  obtain ⟨hx, hb, hml, hown, hts⟩ := id F
  have hS : va_S A s.heap s.heap [] := va_S.rf
  have hl : lv_has ls 2 [(0, .ref (a 0)), (1, .int x)] := hl
  have in3 : ∀ w ∈ wsX30, w ∈ wsX3_waiting := fun w h => List.mem_cons_of_mem _ (List.mem_append_right _ h)
  have K7 := hts (.fieldLink RX3 7 "PromiseHoursModel" "state" "[I") (by decide +kernel)
  obtain ⟨hm1, hm2⟩ := hm
  refine lv_iload_n hx hb dX3_waiting_0 rfl (lv_at hl 1 rfl) ?_
  refine lv_iconst (v := 0) hx hb dX3_waiting_1 (by decide) ?_
  refine lv_aload_n hx hb dX3_waiting_2 rfl (lv_at hl 0 rfl) ?_
  refine va_get (D := E.1) (ci := 3) (v := .ref (a 1)) (C := RX3) (T := TX3) (N := 3) hx hb hts in3 hown hE.1 hP 0 rfl rfl 0 (by decide) K7 (fun _ h9 => h9) rfl dX3_waiting_3 ?_
  refine lv_bipush (v := 41) hx hb dX3_waiting_6 (by decide) ?_
  refine q_iald hx hb hE hP 1 rfl (j := 41) (v := (g 41)) rfl (by omega) (by decide) rfl dX3_waiting_8 ?_
  refine lv_iconst (v := 1) hx hb dX3_waiting_9 (by decide) ?_
  refine lv_isub hx hb dX3_waiting_10 ?_
  refine ci_S F hE (k_X3_in l E x 0 ((g 41) - 1)) (va_cwS 3 hts gX3_waiting_X3_in rfl rfl rfl (by decide +kernel) ⟨Nat.le_of_ble_eq_true rfl, Nat.le_of_ble_eq_true rfl⟩) Fr.nil hP hD hS hA rfl hl.1 rfl (Nat.le_of_ble_eq_true rfl) dX3_waiting_11 ⟨Nat.zero_le _, Nat.zero_le _⟩ (fun H locs hP hD hS => ?_)
  have J_31_1 : ∀ (w : Int32) (H : Heap) (locs : List Loc), va_P E.1 vwCl (ms E a g im kp) H → va_D A (ms E a g im kp) → va_S A s.heap H locs → w = (if (f_X3_in x 0 ((g 41) - 1)) = 0 then (-6) else (g (29 + (ix x))) : Int32) → W p l e { frames := 1, cells := 0, slots := 0, locals := 22 } s m args below meth c H locs 0 0 Q (F0 m 31 ls [.int w]) := by
    intro w H locs hP hD hS ew
    rw [ew]
    exact hret _ _ _ _ _ hP hD hS rfl dX3_waiting_31
  refine lv_if_eq (tgt := 29) hx hb dX3_waiting_14 (by decide) (fun c_2 => ?_) (fun c_2 => ?_)
  · refine lv_bipush (v := -6) hx hb dX3_waiting_29 (by decide) ?_
    exact J_31_1 _ _ _ hP hD hS (if_pos c_2).symm
  · obtain ⟨b_x, e_x⟩ := in_cnt c_2 hm2 (by omega)
    refine lv_aload_n hx hb dX3_waiting_17 rfl (lv_at hl 0 rfl) ?_
    refine va_get (D := E.1) (ci := 3) (v := .ref (a 1)) (C := RX3) (T := TX3) (N := 3) hx hb hts in3 hown hE.1 hP 0 rfl rfl 0 (by decide) K7 (fun _ h9 => h9) rfl dX3_waiting_18 ?_
    refine lv_bipush (v := 29) hx hb dX3_waiting_21 (by decide) ?_
    refine lv_iload_n hx hb dX3_waiting_23 rfl (lv_at hl 1 rfl) ?_
    refine tpe e_x ?_
    refine lv_iadd hx hb dX3_waiting_24 ?_
    refine tpe (y := nI (29 + (ix x))) (nI_add 29 (ix x)) ?_
    refine q_iald hx hb hE hP 1 rfl (j := (29 + (ix x))) (v := (g (29 + (ix x)))) rfl (by omega) (by decide) rfl dX3_waiting_25 ?_
    refine lv_goto (tgt := 31) hx hb dX3_waiting_26 (by decide) ?_
    exact J_31_1 _ _ _ hP hD hS (if_neg c_2).symm
def f_X3_copy (g : Nat → Int32) (x : Int32) (y : Int32) (k : Int32) : Int32 := (if (f_X3_in x 0 4) = 0 then (-1) else (if (f_X3_in y 0 11) = 0 then (-1) else (if k = 0 then (g (82 + 12 * (ix x) + (ix y))) else (if k = 1 then (g (142 + 12 * (ix x) + (ix y))) else (if k = 2 then (g (202 + 12 * (ix x) + (ix y))) else (if k = 3 then (if (f_X3_canUse g (ix x) (ix y)) = 0 then 0 else 1 : Int32) else (-2)))))))
set_option maxHeartbeats 4000000 in
set_option maxRecDepth 100000 in
theorem k_X3_copy (l : Launch) (E : EE) (a : Nat → Nat) (g im kp : Nat → Int32) (x : Int32) (y : Int32) (k : Int32)  : Ci l E yX3_copy wsX3_copy { frames := 2, cells := 0, slots := 0, locals := 44 } [.ref (a 0), .int x, .int y, .int k] (ms E a g im kp) (f_X3_copy g x y k) (ms E a g im kp) := by
  refine Ci.of (cc := cX3_copy) (maxL := 4) (rt := .int) (by decide) rfl rfl (Nat.le_of_ble_eq_true rfl) ?_
  intro p e s m args below meth c A Q F hE hA hret hP hD ls hl
  obtain ⟨hx, hb, hml, hown, hts⟩ := id F
  have hS : va_S A s.heap s.heap [] := va_S.rf
  have hl : lv_has ls 4 [(0, .ref (a 0)), (1, .int x), (2, .int y), (3, .int k)] := hl
  have in3 : ∀ w ∈ wsX30, w ∈ wsX3_copy := fun w h => List.mem_cons_of_mem _ (List.mem_append_right _ h)
  have K7 := hts (.fieldLink RX3 7 "PromiseHoursModel" "state" "[I") (by decide +kernel)
  refine lv_iload_n hx hb dX3_copy_0 rfl (lv_at hl 1 rfl) ?_
  refine ci_S F hE (k_X3_isReader l E x) (va_cwS 1 hts gX3_copy_X3_isReader rfl rfl rfl (by decide +kernel) ⟨Nat.le_of_ble_eq_true rfl, Nat.le_of_ble_eq_true rfl⟩) Fr.nil hP hD hS hA rfl hl.1 rfl (Nat.le_of_ble_eq_true rfl) dX3_copy_1 ⟨Nat.zero_le _, Nat.zero_le _⟩ (fun H locs hP hD hS => ?_)
  refine lv_if_eq (tgt := 14) hx hb dX3_copy_4 (by decide) (fun c_1 => ?_) (fun c_1 => ?_)
  · refine lv_iconst (v := -1) hx hb dX3_copy_14 (by decide) ?_
    exact hret _ _ _ _ _ hP hD hS (by unfold f_X3_copy; exact (if_pos c_1).symm) dX3_copy_15
  · obtain ⟨b_x, e_x⟩ := in_ix (n := 4) c_1 (by decide) (by decide)
    refine lv_iload_n hx hb dX3_copy_7 rfl (lv_at hl 2 rfl) ?_
    refine ci_S F hE (k_X3_isThing l E y) (va_cwS 1 hts gX3_copy_X3_isThing rfl rfl rfl (by decide +kernel) ⟨Nat.le_of_ble_eq_true rfl, Nat.le_of_ble_eq_true rfl⟩) Fr.nil hP hD hS hA rfl hl.1 rfl (Nat.le_of_ble_eq_true rfl) dX3_copy_8 ⟨Nat.zero_le _, Nat.zero_le _⟩ (fun H locs hP hD hS => ?_)
    refine lv_if_ne (tgt := 16) hx hb dX3_copy_11 (by decide) (fun c_2 => ?_) (fun c_2 => ?_)
    · obtain ⟨b_y, e_y⟩ := in_ix (n := 11) c_2 (by decide) (by decide)
      refine lv_iload_n hx hb dX3_copy_16 rfl (lv_at hl 3 rfl) ?_
      by_cases c_3 : k = 0
      · refine lv_tableIn (off := 31) (tgt := 48) hx hb dX3_copy_17 (by rw [c_3]; decide) (by rw [c_3]; decide) (by rw [c_3]; decide) (by decide) ?_
        refine lv_aload_n hx hb dX3_copy_48 rfl (lv_at hl 0 rfl) ?_
        refine va_get (D := E.1) (ci := 3) (v := .ref (a 1)) (C := RX3) (T := TX3) (N := 3) hx hb hts in3 hown hE.1 hP 0 rfl rfl 0 (by decide) K7 (fun _ h9 => h9) rfl dX3_copy_49 ?_
        refine lv_bipush (v := 82) hx hb dX3_copy_52 (by decide) ?_
        refine lv_iload_n hx hb dX3_copy_54 rfl (lv_at hl 1 rfl) ?_
        refine tpe e_x ?_
        refine lv_iload_n hx hb dX3_copy_55 rfl (lv_at hl 2 rfl) ?_
        refine tpe e_y ?_
        refine ci_S F hE (k_X3_thingAt l E 82 (ix x) (ix y)) (va_cwS 3 hts gX3_copy_X3_thingAt rfl rfl rfl (by decide +kernel) ⟨Nat.le_of_ble_eq_true rfl, Nat.le_of_ble_eq_true rfl⟩) Fr.nil hP hD hS hA rfl hl.1 rfl (Nat.le_of_ble_eq_true rfl) dX3_copy_56 ⟨Nat.zero_le _, Nat.zero_le _⟩ (fun H locs hP hD hS => ?_)
        refine q_iald hx hb hE hP 1 rfl (j := (82 + 12 * (ix x) + (ix y))) (v := (g (82 + 12 * (ix x) + (ix y)))) rfl (by omega) (by decide) rfl dX3_copy_59 ?_
        exact hret _ _ _ _ _ hP hD hS (by unfold f_X3_copy; exact ((if_neg c_1).trans ((if_neg c_2).trans (if_pos c_3))).symm) dX3_copy_60
      · have nc_3 : k.toInt ≠ 0 := fun h => c_3 (Int32.toInt_inj.mp h)
        by_cases c_4 : k = 1
        · refine lv_tableIn (off := 44) (tgt := 61) hx hb dX3_copy_17 (by rw [c_4]; decide) (by rw [c_4]; decide) (by rw [c_4]; decide) (by decide) ?_
          refine lv_aload_n hx hb dX3_copy_61 rfl (lv_at hl 0 rfl) ?_
          refine va_get (D := E.1) (ci := 3) (v := .ref (a 1)) (C := RX3) (T := TX3) (N := 3) hx hb hts in3 hown hE.1 hP 0 rfl rfl 0 (by decide) K7 (fun _ h9 => h9) rfl dX3_copy_62 ?_
          refine lv_sipush (v := 142) hx hb dX3_copy_65 (by decide) ?_
          refine lv_iload_n hx hb dX3_copy_68 rfl (lv_at hl 1 rfl) ?_
          refine tpe e_x ?_
          refine lv_iload_n hx hb dX3_copy_69 rfl (lv_at hl 2 rfl) ?_
          refine tpe e_y ?_
          refine ci_S F hE (k_X3_thingAt l E 142 (ix x) (ix y)) (va_cwS 3 hts gX3_copy_X3_thingAt rfl rfl rfl (by decide +kernel) ⟨Nat.le_of_ble_eq_true rfl, Nat.le_of_ble_eq_true rfl⟩) Fr.nil hP hD hS hA rfl hl.1 rfl (Nat.le_of_ble_eq_true rfl) dX3_copy_70 ⟨Nat.zero_le _, Nat.zero_le _⟩ (fun H locs hP hD hS => ?_)
          refine q_iald hx hb hE hP 1 rfl (j := (142 + 12 * (ix x) + (ix y))) (v := (g (142 + 12 * (ix x) + (ix y)))) rfl (by omega) (by decide) rfl dX3_copy_73 ?_
          exact hret _ _ _ _ _ hP hD hS (by unfold f_X3_copy; exact ((if_neg c_1).trans ((if_neg c_2).trans ((if_neg c_3).trans (if_pos c_4)))).symm) dX3_copy_74
        · have nc_4 : k.toInt ≠ 1 := fun h => c_4 (Int32.toInt_inj.mp h)
          by_cases c_5 : k = 2
          · refine lv_tableIn (off := 58) (tgt := 75) hx hb dX3_copy_17 (by rw [c_5]; decide) (by rw [c_5]; decide) (by rw [c_5]; decide) (by decide) ?_
            refine lv_aload_n hx hb dX3_copy_75 rfl (lv_at hl 0 rfl) ?_
            refine va_get (D := E.1) (ci := 3) (v := .ref (a 1)) (C := RX3) (T := TX3) (N := 3) hx hb hts in3 hown hE.1 hP 0 rfl rfl 0 (by decide) K7 (fun _ h9 => h9) rfl dX3_copy_76 ?_
            refine lv_sipush (v := 202) hx hb dX3_copy_79 (by decide) ?_
            refine lv_iload_n hx hb dX3_copy_82 rfl (lv_at hl 1 rfl) ?_
            refine tpe e_x ?_
            refine lv_iload_n hx hb dX3_copy_83 rfl (lv_at hl 2 rfl) ?_
            refine tpe e_y ?_
            refine ci_S F hE (k_X3_thingAt l E 202 (ix x) (ix y)) (va_cwS 3 hts gX3_copy_X3_thingAt rfl rfl rfl (by decide +kernel) ⟨Nat.le_of_ble_eq_true rfl, Nat.le_of_ble_eq_true rfl⟩) Fr.nil hP hD hS hA rfl hl.1 rfl (Nat.le_of_ble_eq_true rfl) dX3_copy_84 ⟨Nat.zero_le _, Nat.zero_le _⟩ (fun H locs hP hD hS => ?_)
            refine q_iald hx hb hE hP 1 rfl (j := (202 + 12 * (ix x) + (ix y))) (v := (g (202 + 12 * (ix x) + (ix y)))) rfl (by omega) (by decide) rfl dX3_copy_87 ?_
            exact hret _ _ _ _ _ hP hD hS (by unfold f_X3_copy; exact ((if_neg c_1).trans ((if_neg c_2).trans ((if_neg c_3).trans ((if_neg c_4).trans (if_pos c_5))))).symm) dX3_copy_88
          · have nc_5 : k.toInt ≠ 2 := fun h => c_5 (Int32.toInt_inj.mp h)
            by_cases c_6 : k = 3
            · refine lv_tableIn (off := 72) (tgt := 89) hx hb dX3_copy_17 (by rw [c_6]; decide) (by rw [c_6]; decide) (by rw [c_6]; decide) (by decide) ?_
              refine lv_aload_n hx hb dX3_copy_89 rfl (lv_at hl 0 rfl) ?_
              refine lv_iload_n hx hb dX3_copy_90 rfl (lv_at hl 1 rfl) ?_
              refine tpe e_x ?_
              refine lv_iload_n hx hb dX3_copy_91 rfl (lv_at hl 2 rfl) ?_
              refine tpe e_y ?_
              refine ci_V F hE (k_X3_canUse l E a g im kp (ix x) (ix y) (by omega) (by omega)) (cwV 2 hts gX3_copy_X3_canUse rfl rfl rfl (by decide +kernel) ⟨Nat.le_of_ble_eq_true rfl, Nat.le_of_ble_eq_true rfl⟩) Fr.all 0 3 rfl rfl rfl hP hD hS hA rfl hl.1 rfl (Nat.le_of_ble_eq_true rfl) dX3_copy_92 ⟨Nat.zero_le _, Nat.zero_le _⟩ (fun H locs hP hD hS => ?_)
              have J_103_7 : ∀ (w : Int32) (H : Heap) (locs : List Loc), va_P E.1 vwCl (ms E a g im kp) H → va_D A (ms E a g im kp) → va_S A s.heap H locs → w = (if (f_X3_canUse g (ix x) (ix y)) = 0 then 0 else 1 : Int32) → W p l e { frames := 2, cells := 0, slots := 0, locals := 44 } s m args below meth c H locs 0 0 Q (F0 m 103 ls [.int w]) := by
                intro w H locs hP hD hS ew
                rw [ew]
                exact hret _ _ _ _ _ hP hD hS (by unfold f_X3_copy; exact ((if_neg c_1).trans ((if_neg c_2).trans ((if_neg c_3).trans ((if_neg c_4).trans ((if_neg c_5).trans (if_pos c_6)))))).symm) dX3_copy_103
              refine lv_if_eq (tgt := 102) hx hb dX3_copy_95 (by decide) (fun c_8 => ?_) (fun c_8 => ?_)
              · refine lv_iconst (v := 0) hx hb dX3_copy_102 (by decide) ?_
                exact J_103_7 _ _ _ hP hD hS (if_pos c_8).symm
              · refine lv_iconst (v := 1) hx hb dX3_copy_98 (by decide) ?_
                refine lv_goto (tgt := 103) hx hb dX3_copy_99 (by decide) ?_
                exact J_103_7 _ _ _ hP hD hS (if_neg c_8).symm
            · have nc_6 : k.toInt ≠ 3 := fun h => c_6 (Int32.toInt_inj.mp h)
              refine lv_tableOut (tgt := 104) hx hb dX3_copy_17 (by omega) (by decide) ?_
              refine lv_bipush (v := -2) hx hb dX3_copy_104 (by decide) ?_
              exact hret _ _ _ _ _ hP hD hS (by unfold f_X3_copy; exact ((if_neg c_1).trans ((if_neg c_2).trans ((if_neg c_3).trans ((if_neg c_4).trans ((if_neg c_5).trans (if_neg c_6)))))).symm) dX3_copy_106
    · refine lv_iconst (v := -1) hx hb dX3_copy_14 (by decide) ?_
      exact hret _ _ _ _ _ hP hD hS (by unfold f_X3_copy; exact ((if_neg c_1).trans (if_pos c_2)).symm) dX3_copy_15
def f_X3_volume (g : Nat → Int32) (x : Int32) (y : Int32) (k : Int32) : Int32 := (if (f_X3_in x 0 4) = 0 then (-1) else (if (f_X3_in y 0 2) = 0 then (-1) else (if (f_X3_in k 0 2) = 0 then (-2) else (if k = 0 then (g (52 + 3 * (ix x) + (ix y))) else (if k = 1 then (if (f_X3_isOver g (ix x) (g (52 + 3 * (ix x) + (ix y)))) = 0 then 0 else 1) else (g (67 + 3 * (ix x) + (ix y)))) : Int32))))
set_option maxHeartbeats 4000000 in
set_option maxRecDepth 100000 in
theorem k_X3_volume (l : Launch) (E : EE) (a : Nat → Nat) (g im kp : Nat → Int32) (x : Int32) (y : Int32) (k : Int32)  : Ci l E yX3_volume wsX3_volume { frames := 2, cells := 0, slots := 0, locals := 42 } [.ref (a 0), .int x, .int y, .int k] (ms E a g im kp) (f_X3_volume g x y k) (ms E a g im kp) := by
  refine Ci.of (cc := cX3_volume) (maxL := 5) (rt := .int) (by decide) rfl rfl (Nat.le_of_ble_eq_true rfl) ?_
  intro p e s m args below meth c A Q F hE hA hret hP hD ls hl
  obtain ⟨hx, hb, hml, hown, hts⟩ := id F
  have hS : va_S A s.heap s.heap [] := va_S.rf
  have hl : lv_has ls 5 [(0, .ref (a 0)), (1, .int x), (2, .int y), (3, .int k)] := hl
  have in3 : ∀ w ∈ wsX30, w ∈ wsX3_volume := fun w h => List.mem_cons_of_mem _ (List.mem_append_right _ h)
  have K7 := hts (.fieldLink RX3 7 "PromiseHoursModel" "state" "[I") (by decide +kernel)
  refine lv_iload_n hx hb dX3_volume_0 rfl (lv_at hl 1 rfl) ?_
  refine ci_S F hE (k_X3_isReader l E x) (va_cwS 1 hts gX3_volume_X3_isReader rfl rfl rfl (by decide +kernel) ⟨Nat.le_of_ble_eq_true rfl, Nat.le_of_ble_eq_true rfl⟩) Fr.nil hP hD hS hA rfl hl.1 rfl (Nat.le_of_ble_eq_true rfl) dX3_volume_1 ⟨Nat.zero_le _, Nat.zero_le _⟩ (fun H locs hP hD hS => ?_)
  refine lv_if_eq (tgt := 16) hx hb dX3_volume_4 (by decide) (fun c_1 => ?_) (fun c_1 => ?_)
  · refine lv_iconst (v := -1) hx hb dX3_volume_16 (by decide) ?_
    exact hret _ _ _ _ _ hP hD hS (by unfold f_X3_volume; exact (if_pos c_1).symm) dX3_volume_17
  · obtain ⟨b_x, e_x⟩ := in_ix (n := 4) c_1 (by decide) (by decide)
    refine lv_iload_n hx hb dX3_volume_7 rfl (lv_at hl 2 rfl) ?_
    refine lv_iconst (v := 0) hx hb dX3_volume_8 (by decide) ?_
    refine lv_iconst (v := 2) hx hb dX3_volume_9 (by decide) ?_
    refine ci_S F hE (k_X3_in l E y 0 2) (va_cwS 3 hts gX3_volume_X3_in rfl rfl rfl (by decide +kernel) ⟨Nat.le_of_ble_eq_true rfl, Nat.le_of_ble_eq_true rfl⟩) Fr.nil hP hD hS hA rfl hl.1 rfl (Nat.le_of_ble_eq_true rfl) dX3_volume_10 ⟨Nat.zero_le _, Nat.zero_le _⟩ (fun H locs hP hD hS => ?_)
    refine lv_if_ne (tgt := 18) hx hb dX3_volume_13 (by decide) (fun c_2 => ?_) (fun c_2 => ?_)
    · obtain ⟨b_y, e_y⟩ := in_ix (n := 2) c_2 (by decide) (by decide)
      refine lv_iload_n hx hb dX3_volume_18 rfl (lv_at hl 3 rfl) ?_
      refine lv_iconst (v := 0) hx hb dX3_volume_19 (by decide) ?_
      refine lv_iconst (v := 2) hx hb dX3_volume_20 (by decide) ?_
      refine ci_S F hE (k_X3_in l E k 0 2) (va_cwS 3 hts gX3_volume_X3_in rfl rfl rfl (by decide +kernel) ⟨Nat.le_of_ble_eq_true rfl, Nat.le_of_ble_eq_true rfl⟩) Fr.nil hP hD hS hA rfl hl.1 rfl (Nat.le_of_ble_eq_true rfl) dX3_volume_21 ⟨Nat.zero_le _, Nat.zero_le _⟩ (fun H locs hP hD hS => ?_)
      refine lv_if_ne (tgt := 30) hx hb dX3_volume_24 (by decide) (fun c_3 => ?_) (fun c_3 => ?_)
      · refine lv_aload_n hx hb dX3_volume_30 rfl (lv_at hl 0 rfl) ?_
        refine va_get (D := E.1) (ci := 3) (v := .ref (a 1)) (C := RX3) (T := TX3) (N := 3) hx hb hts in3 hown hE.1 hP 0 rfl rfl 0 (by decide) K7 (fun _ h9 => h9) rfl dX3_volume_31 ?_
        refine lv_bipush (v := 52) hx hb dX3_volume_34 (by decide) ?_
        refine lv_iconst (v := 3) hx hb dX3_volume_36 (by decide) ?_
        refine lv_iload_n hx hb dX3_volume_37 rfl (lv_at hl 1 rfl) ?_
        refine tpe e_x ?_
        refine lv_imul hx hb dX3_volume_38 ?_
        refine tpe (y := nI (3 * (ix x))) (pk_mul 3 (ix x)) ?_
        refine lv_iadd hx hb dX3_volume_39 ?_
        refine tpe (y := nI (52 + 3 * (ix x))) (nI_add 52 (3 * (ix x))) ?_
        refine lv_iload_n hx hb dX3_volume_40 rfl (lv_at hl 2 rfl) ?_
        refine tpe e_y ?_
        refine lv_iadd hx hb dX3_volume_41 ?_
        refine tpe (y := nI (52 + 3 * (ix x) + (ix y))) (nI_add (52 + 3 * (ix x)) (ix y)) ?_
        refine q_iald hx hb hE hP 1 rfl (j := (52 + 3 * (ix x) + (ix y))) (v := (g (52 + 3 * (ix x) + (ix y)))) rfl (by omega) (by decide) rfl dX3_volume_42 ?_
        refine lv_istore (lv' := [(4, .int (g (52 + 3 * (ix x) + (ix y)))), (0, .ref (a 0)), (1, .int x), (2, .int y), (3, .int k)]) hx hb dX3_volume_43 hl (by decide) rfl (fun ls hl => ?_)
        refine lv_iload_n hx hb dX3_volume_45 rfl (lv_at hl 4 rfl) ?_
        have J_90_4 : ∀ (w : Int32) (H : Heap) (locs : List Loc), va_P E.1 vwCl (ms E a g im kp) H → va_D A (ms E a g im kp) → va_S A s.heap H locs → w = (if k = 0 then (g (52 + 3 * (ix x) + (ix y))) else (if k = 1 then (if (f_X3_isOver g (ix x) (g (52 + 3 * (ix x) + (ix y)))) = 0 then 0 else 1) else (g (67 + 3 * (ix x) + (ix y)))) : Int32) → W p l e { frames := 2, cells := 0, slots := 0, locals := 42 } s m args below meth c H locs 0 0 Q (F0 m 90 ls [.int w]) := by
          intro w H locs hP hD hS ew
          rw [ew]
          exact hret _ _ _ _ _ hP hD hS (by unfold f_X3_volume; exact ((if_neg c_1).trans ((if_neg c_2).trans (if_neg c_3))).symm) dX3_volume_90
        refine lv_if_ne (tgt := 54) hx hb dX3_volume_46 (by decide) (fun c_5 => ?_) (fun c_5 => ?_)
        · refine lv_iload_n hx hb dX3_volume_54 rfl (lv_at hl 4 rfl) ?_
          refine lv_iconst (v := 1) hx hb dX3_volume_55 (by decide) ?_
          refine lv_icmp_ne (tgt := 77) hx hb dX3_volume_56 (by decide) (fun c_6 => ?_) (fun c_6 => ?_)
          · refine lv_aload_n hx hb dX3_volume_77 rfl (lv_at hl 1 rfl) ?_
            refine va_get (D := E.1) (ci := 3) (v := .ref (a 1)) (C := RX3) (T := TX3) (N := 3) hx hb hts in3 hown hE.1 hP 0 rfl rfl 0 (by decide) K7 (fun _ h9 => h9) rfl dX3_volume_78 ?_
            refine lv_bipush (v := 67) hx hb dX3_volume_81 (by decide) ?_
            refine lv_iconst (v := 3) hx hb dX3_volume_83 (by decide) ?_
            refine lv_iload_n hx hb dX3_volume_84 rfl (lv_at hl 2 rfl) ?_
            refine tpe e_x ?_
            refine lv_imul hx hb dX3_volume_85 ?_
            refine tpe (y := nI (3 * (ix x))) (pk_mul 3 (ix x)) ?_
            refine lv_iadd hx hb dX3_volume_86 ?_
            refine tpe (y := nI (67 + 3 * (ix x))) (nI_add 67 (3 * (ix x))) ?_
            refine lv_iload_n hx hb dX3_volume_87 rfl (lv_at hl 3 rfl) ?_
            refine tpe e_y ?_
            refine lv_iadd hx hb dX3_volume_88 ?_
            refine tpe (y := nI (67 + 3 * (ix x) + (ix y))) (nI_add (67 + 3 * (ix x)) (ix y)) ?_
            refine q_iald hx hb hE hP 1 rfl (j := (67 + 3 * (ix x) + (ix y))) (v := (g (67 + 3 * (ix x) + (ix y)))) rfl (by omega) (by decide) rfl dX3_volume_89 ?_
            exact J_90_4 _ _ _ hP hD hS ((if_neg c_5).trans (if_neg c_6)).symm
          · refine lv_aload_n hx hb dX3_volume_59 rfl (lv_at hl 1 rfl) ?_
            refine lv_iload_n hx hb dX3_volume_60 rfl (lv_at hl 2 rfl) ?_
            refine tpe e_x ?_
            refine lv_iload hx hb dX3_volume_61 (lv_at hl 0 rfl) ?_
            refine ci_V F hE (k_X3_isOver l E a g im kp (ix x) (g (52 + 3 * (ix x) + (ix y))) (by omega)) (cwV 2 hts gX3_volume_X3_isOver rfl rfl rfl (by decide +kernel) ⟨Nat.le_of_ble_eq_true rfl, Nat.le_of_ble_eq_true rfl⟩) Fr.all 0 3 rfl rfl rfl hP hD hS hA rfl hl.1 rfl (Nat.le_of_ble_eq_true rfl) dX3_volume_63 ⟨Nat.zero_le _, Nat.zero_le _⟩ (fun H locs hP hD hS => ?_)
            refine lv_if_eq (tgt := 73) hx hb dX3_volume_66 (by decide) (fun c_7 => ?_) (fun c_7 => ?_)
            · refine lv_iconst (v := 0) hx hb dX3_volume_73 (by decide) ?_
              refine lv_goto (tgt := 90) hx hb dX3_volume_74 (by decide) ?_
              exact J_90_4 _ _ _ hP hD hS ((if_neg c_5).trans ((if_pos c_6).trans (if_pos c_7))).symm
            · refine lv_iconst (v := 1) hx hb dX3_volume_69 (by decide) ?_
              refine lv_goto (tgt := 90) hx hb dX3_volume_70 (by decide) ?_
              exact J_90_4 _ _ _ hP hD hS ((if_neg c_5).trans ((if_pos c_6).trans (if_neg c_7))).symm
        · refine lv_iload hx hb dX3_volume_49 (lv_at hl 0 rfl) ?_
          refine lv_goto (tgt := 90) hx hb dX3_volume_51 (by decide) ?_
          exact J_90_4 _ _ _ hP hD hS (if_pos c_5).symm
      · refine lv_bipush (v := -2) hx hb dX3_volume_27 (by decide) ?_
        exact hret _ _ _ _ _ hP hD hS (by unfold f_X3_volume; exact ((if_neg c_1).trans ((if_neg c_2).trans (if_pos c_3))).symm) dX3_volume_29
    · refine lv_iconst (v := -1) hx hb dX3_volume_16 (by decide) ?_
      exact hret _ _ _ _ _ hP hD hS (by unfold f_X3_volume; exact ((if_neg c_1).trans (if_pos c_2)).symm) dX3_volume_17
def f_X3_reader (g : Nat → Int32) (x : Int32) (k : Int32) : Int32 := (if (f_X3_in x 0 4) = 0 then (-1) else (if (f_X3_in k 0 7) = 0 then (-2) else (if k = 0 then (g (42 + (ix x))) else (if k = 1 then ((g (47 + (ix x))) + 100) else (g (262 + 6 * (ix x) + (ix k - 2)))) : Int32)))
set_option maxHeartbeats 4000000 in
set_option maxRecDepth 100000 in
theorem k_X3_reader (l : Launch) (E : EE) (a : Nat → Nat) (g im kp : Nat → Int32) (x : Int32) (k : Int32)  : Ci l E yX3_reader wsX3_reader { frames := 2, cells := 0, slots := 0, locals := 42 } [.ref (a 0), .int x, .int k] (ms E a g im kp) (f_X3_reader g x k) (ms E a g im kp) := by
  refine Ci.of (cc := cX3_reader) (maxL := 3) (rt := .int) (by decide) rfl rfl (Nat.le_of_ble_eq_true rfl) ?_
  intro p e s m args below meth c A Q F hE hA hret hP hD ls hl
  obtain ⟨hx, hb, hml, hown, hts⟩ := id F
  have hS : va_S A s.heap s.heap [] := va_S.rf
  have hl : lv_has ls 3 [(0, .ref (a 0)), (1, .int x), (2, .int k)] := hl
  have in3 : ∀ w ∈ wsX30, w ∈ wsX3_reader := fun w h => List.mem_cons_of_mem _ (List.mem_append_right _ h)
  have K7 := hts (.fieldLink RX3 7 "PromiseHoursModel" "state" "[I") (by decide +kernel)
  refine lv_iload_n hx hb dX3_reader_0 rfl (lv_at hl 1 rfl) ?_
  refine ci_S F hE (k_X3_isReader l E x) (va_cwS 1 hts gX3_reader_X3_isReader rfl rfl rfl (by decide +kernel) ⟨Nat.le_of_ble_eq_true rfl, Nat.le_of_ble_eq_true rfl⟩) Fr.nil hP hD hS hA rfl hl.1 rfl (Nat.le_of_ble_eq_true rfl) dX3_reader_1 ⟨Nat.zero_le _, Nat.zero_le _⟩ (fun H locs hP hD hS => ?_)
  refine lv_if_ne (tgt := 9) hx hb dX3_reader_4 (by decide) (fun c_1 => ?_) (fun c_1 => ?_)
  · obtain ⟨b_x, e_x⟩ := in_ix (n := 4) c_1 (by decide) (by decide)
    refine lv_iload_n hx hb dX3_reader_9 rfl (lv_at hl 2 rfl) ?_
    refine lv_iconst (v := 0) hx hb dX3_reader_10 (by decide) ?_
    refine lv_bipush (v := 7) hx hb dX3_reader_11 (by decide) ?_
    refine ci_S F hE (k_X3_in l E k 0 7) (va_cwS 3 hts gX3_reader_X3_in rfl rfl rfl (by decide +kernel) ⟨Nat.le_of_ble_eq_true rfl, Nat.le_of_ble_eq_true rfl⟩) Fr.nil hP hD hS hA rfl hl.1 rfl (Nat.le_of_ble_eq_true rfl) dX3_reader_13 ⟨Nat.zero_le _, Nat.zero_le _⟩ (fun H locs hP hD hS => ?_)
    refine lv_if_ne (tgt := 22) hx hb dX3_reader_16 (by decide) (fun c_2 => ?_) (fun c_2 => ?_)
    · refine lv_iload_n hx hb dX3_reader_22 rfl (lv_at hl 2 rfl) ?_
      have J_70_3 : ∀ (w : Int32) (H : Heap) (locs : List Loc), va_P E.1 vwCl (ms E a g im kp) H → va_D A (ms E a g im kp) → va_S A s.heap H locs → w = (if k = 0 then (g (42 + (ix x))) else (if k = 1 then ((g (47 + (ix x))) + 100) else (g (262 + 6 * (ix x) + (ix k - 2)))) : Int32) → W p l e { frames := 2, cells := 0, slots := 0, locals := 42 } s m args below meth c H locs 0 0 Q (F0 m 70 ls [.int w]) := by
        intro w H locs hP hD hS ew
        rw [ew]
        exact hret _ _ _ _ _ hP hD hS (by unfold f_X3_reader; exact ((if_neg c_1).trans (if_neg c_2)).symm) dX3_reader_70
      refine lv_if_ne (tgt := 38) hx hb dX3_reader_23 (by decide) (fun c_4 => ?_) (fun c_4 => ?_)
      · refine lv_iload_n hx hb dX3_reader_38 rfl (lv_at hl 2 rfl) ?_
        refine lv_iconst (v := 1) hx hb dX3_reader_39 (by decide) ?_
        refine lv_icmp_ne (tgt := 58) hx hb dX3_reader_40 (by decide) (fun c_5 => ?_) (fun c_5 => ?_)
        · obtain ⟨b_k, e_k⟩ := in_ix (n := 7) c_2 (by decide) (by decide)
          obtain ⟨e_2, b_2⟩ := sub_2 e_k c_4 c_5
          refine lv_aload_n hx hb dX3_reader_58 rfl (lv_at hl 0 rfl) ?_
          refine va_get (D := E.1) (ci := 3) (v := .ref (a 1)) (C := RX3) (T := TX3) (N := 3) hx hb hts in3 hown hE.1 hP 0 rfl rfl 0 (by decide) K7 (fun _ h9 => h9) rfl dX3_reader_59 ?_
          refine lv_iload_n hx hb dX3_reader_62 rfl (lv_at hl 1 rfl) ?_
          refine tpe e_x ?_
          refine lv_iload_n hx hb dX3_reader_63 rfl (lv_at hl 2 rfl) ?_
          refine lv_iconst (v := 2) hx hb dX3_reader_64 (by decide) ?_
          refine lv_isub hx hb dX3_reader_65 ?_
          refine tpe (y := nI (ix k - 2)) e_2 ?_
          refine ci_S F hE (k_X3_said l E (ix x) (ix k - 2)) (va_cwS 2 hts gX3_reader_X3_said rfl rfl rfl (by decide +kernel) ⟨Nat.le_of_ble_eq_true rfl, Nat.le_of_ble_eq_true rfl⟩) Fr.nil hP hD hS hA rfl hl.1 rfl (Nat.le_of_ble_eq_true rfl) dX3_reader_66 ⟨Nat.zero_le _, Nat.zero_le _⟩ (fun H locs hP hD hS => ?_)
          refine q_iald hx hb hE hP 1 rfl (j := (262 + 6 * (ix x) + (ix k - 2))) (v := (g (262 + 6 * (ix x) + (ix k - 2)))) rfl (by omega) (by decide) rfl dX3_reader_69 ?_
          exact J_70_3 _ _ _ hP hD hS ((if_neg c_4).trans (if_neg c_5)).symm
        · refine lv_aload_n hx hb dX3_reader_43 rfl (lv_at hl 0 rfl) ?_
          refine va_get (D := E.1) (ci := 3) (v := .ref (a 1)) (C := RX3) (T := TX3) (N := 3) hx hb hts in3 hown hE.1 hP 0 rfl rfl 0 (by decide) K7 (fun _ h9 => h9) rfl dX3_reader_44 ?_
          refine lv_bipush (v := 47) hx hb dX3_reader_47 (by decide) ?_
          refine lv_iload_n hx hb dX3_reader_49 rfl (lv_at hl 1 rfl) ?_
          refine tpe e_x ?_
          refine lv_iadd hx hb dX3_reader_50 ?_
          refine tpe (y := nI (47 + (ix x))) (nI_add 47 (ix x)) ?_
          refine q_iald hx hb hE hP 1 rfl (j := (47 + (ix x))) (v := (g (47 + (ix x)))) rfl (by omega) (by decide) rfl dX3_reader_51 ?_
          refine lv_bipush (v := 100) hx hb dX3_reader_52 (by decide) ?_
          refine lv_iadd hx hb dX3_reader_54 ?_
          refine lv_goto (tgt := 70) hx hb dX3_reader_55 (by decide) ?_
          exact J_70_3 _ _ _ hP hD hS ((if_neg c_4).trans (if_pos c_5)).symm
      · refine lv_aload_n hx hb dX3_reader_26 rfl (lv_at hl 0 rfl) ?_
        refine va_get (D := E.1) (ci := 3) (v := .ref (a 1)) (C := RX3) (T := TX3) (N := 3) hx hb hts in3 hown hE.1 hP 0 rfl rfl 0 (by decide) K7 (fun _ h9 => h9) rfl dX3_reader_27 ?_
        refine lv_bipush (v := 42) hx hb dX3_reader_30 (by decide) ?_
        refine lv_iload_n hx hb dX3_reader_32 rfl (lv_at hl 1 rfl) ?_
        refine tpe e_x ?_
        refine lv_iadd hx hb dX3_reader_33 ?_
        refine tpe (y := nI (42 + (ix x))) (nI_add 42 (ix x)) ?_
        refine q_iald hx hb hE hP 1 rfl (j := (42 + (ix x))) (v := (g (42 + (ix x)))) rfl (by omega) (by decide) rfl dX3_reader_34 ?_
        refine lv_goto (tgt := 70) hx hb dX3_reader_35 (by decide) ?_
        exact J_70_3 _ _ _ hP hD hS (if_pos c_4).symm
    · refine lv_bipush (v := -2) hx hb dX3_reader_19 (by decide) ?_
      exact hret _ _ _ _ _ hP hD hS (by unfold f_X3_reader; exact ((if_neg c_1).trans (if_pos c_2)).symm) dX3_reader_21
  · refine lv_iconst (v := -1) hx hb dX3_reader_7 (by decide) ?_
    exact hret _ _ _ _ _ hP hD hS (by unfold f_X3_reader; exact (if_pos c_1).symm) dX3_reader_8
def f_X3_count (g : Nat → Int32) (k : Int32) (kp : Nat → Int32) : Int32 := (if k = 0 then (g 0) else (if k = 1 then (g 303) else (if k = 2 then (g 304) else (if k = 3 then (g 305) else (if k = 4 then (g 41) else (if k = 5 then (g 306) else (if k = 6 then (g 307) else (if k = 7 then (g 308) else (if k = 8 then ((if (kp 0) = 0 then 0 else 1 : Int32) + (if (kp 1) = 0 then 0 else 2 : Int32)) else (if (f_X3_in k 10 13) = 0 then (-2) else (g (ix k - 9)) : Int32))))))))))
set_option maxHeartbeats 4000000 in
set_option maxRecDepth 100000 in
theorem k_X3_count (l : Launch) (E : EE) (a : Nat → Nat) (g im kp : Nat → Int32) (k : Int32)  : Ci l E yX3_count wsX3_count { frames := 1, cells := 0, slots := 0, locals := 22 } [.ref (a 0), .int k] (ms E a g im kp) (f_X3_count g k kp) (ms E a g im kp) := by
  refine Ci.of (cc := cX3_count) (maxL := 2) (rt := .int) (by decide) rfl rfl (Nat.le_of_ble_eq_true rfl) ?_
  intro p e s m args below meth c A Q F hE hA hret hP hD ls hl
  obtain ⟨hx, hb, hml, hown, hts⟩ := id F
  have hS : va_S A s.heap s.heap [] := va_S.rf
  have hl : lv_has ls 2 [(0, .ref (a 0)), (1, .int k)] := hl
  have in3 : ∀ w ∈ wsX30, w ∈ wsX3_count := fun w h => List.mem_cons_of_mem _ (List.mem_append_right _ h)
  have K16 := hts (.fieldLink RX3 16 "PromiseHoursModel" "isKept" "[Z") (by decide +kernel)
  have K7 := hts (.fieldLink RX3 7 "PromiseHoursModel" "state" "[I") (by decide +kernel)
  refine lv_iload_n hx hb dX3_count_0 rfl (lv_at hl 1 rfl) ?_
  by_cases c_1 : k = 0
  · refine lv_tableIn (off := 51) (tgt := 52) hx hb dX3_count_1 (by rw [c_1]; decide) (by rw [c_1]; decide) (by rw [c_1]; decide) (by decide) ?_
    refine lv_aload_n hx hb dX3_count_52 rfl (lv_at hl 0 rfl) ?_
    refine va_get (D := E.1) (ci := 3) (v := .ref (a 1)) (C := RX3) (T := TX3) (N := 3) hx hb hts in3 hown hE.1 hP 0 rfl rfl 0 (by decide) K7 (fun _ h9 => h9) rfl dX3_count_53 ?_
    refine lv_iconst (v := 0) hx hb dX3_count_56 (by decide) ?_
    refine q_iald hx hb hE hP 1 rfl (j := 0) (v := (g 0)) rfl (by omega) (by decide) rfl dX3_count_57 ?_
    exact hret _ _ _ _ _ hP hD hS (by unfold f_X3_count; exact (if_pos c_1).symm) dX3_count_58
  · have nc_1 : k.toInt ≠ 0 := fun h => c_1 (Int32.toInt_inj.mp h)
    by_cases c_2 : k = 1
    · refine lv_tableIn (off := 58) (tgt := 59) hx hb dX3_count_1 (by rw [c_2]; decide) (by rw [c_2]; decide) (by rw [c_2]; decide) (by decide) ?_
      refine lv_aload_n hx hb dX3_count_59 rfl (lv_at hl 0 rfl) ?_
      refine va_get (D := E.1) (ci := 3) (v := .ref (a 1)) (C := RX3) (T := TX3) (N := 3) hx hb hts in3 hown hE.1 hP 0 rfl rfl 0 (by decide) K7 (fun _ h9 => h9) rfl dX3_count_60 ?_
      refine lv_sipush (v := 303) hx hb dX3_count_63 (by decide) ?_
      refine q_iald hx hb hE hP 1 rfl (j := 303) (v := (g 303)) rfl (by omega) (by decide) rfl dX3_count_66 ?_
      exact hret _ _ _ _ _ hP hD hS (by unfold f_X3_count; exact ((if_neg c_1).trans (if_pos c_2)).symm) dX3_count_67
    · have nc_2 : k.toInt ≠ 1 := fun h => c_2 (Int32.toInt_inj.mp h)
      by_cases c_3 : k = 2
      · refine lv_tableIn (off := 67) (tgt := 68) hx hb dX3_count_1 (by rw [c_3]; decide) (by rw [c_3]; decide) (by rw [c_3]; decide) (by decide) ?_
        refine lv_aload_n hx hb dX3_count_68 rfl (lv_at hl 0 rfl) ?_
        refine va_get (D := E.1) (ci := 3) (v := .ref (a 1)) (C := RX3) (T := TX3) (N := 3) hx hb hts in3 hown hE.1 hP 0 rfl rfl 0 (by decide) K7 (fun _ h9 => h9) rfl dX3_count_69 ?_
        refine lv_sipush (v := 304) hx hb dX3_count_72 (by decide) ?_
        refine q_iald hx hb hE hP 1 rfl (j := 304) (v := (g 304)) rfl (by omega) (by decide) rfl dX3_count_75 ?_
        exact hret _ _ _ _ _ hP hD hS (by unfold f_X3_count; exact ((if_neg c_1).trans ((if_neg c_2).trans (if_pos c_3))).symm) dX3_count_76
      · have nc_3 : k.toInt ≠ 2 := fun h => c_3 (Int32.toInt_inj.mp h)
        by_cases c_4 : k = 3
        · refine lv_tableIn (off := 76) (tgt := 77) hx hb dX3_count_1 (by rw [c_4]; decide) (by rw [c_4]; decide) (by rw [c_4]; decide) (by decide) ?_
          refine lv_aload_n hx hb dX3_count_77 rfl (lv_at hl 0 rfl) ?_
          refine va_get (D := E.1) (ci := 3) (v := .ref (a 1)) (C := RX3) (T := TX3) (N := 3) hx hb hts in3 hown hE.1 hP 0 rfl rfl 0 (by decide) K7 (fun _ h9 => h9) rfl dX3_count_78 ?_
          refine lv_sipush (v := 305) hx hb dX3_count_81 (by decide) ?_
          refine q_iald hx hb hE hP 1 rfl (j := 305) (v := (g 305)) rfl (by omega) (by decide) rfl dX3_count_84 ?_
          exact hret _ _ _ _ _ hP hD hS (by unfold f_X3_count; exact ((if_neg c_1).trans ((if_neg c_2).trans ((if_neg c_3).trans (if_pos c_4)))).symm) dX3_count_85
        · have nc_4 : k.toInt ≠ 3 := fun h => c_4 (Int32.toInt_inj.mp h)
          by_cases c_5 : k = 4
          · refine lv_tableIn (off := 85) (tgt := 86) hx hb dX3_count_1 (by rw [c_5]; decide) (by rw [c_5]; decide) (by rw [c_5]; decide) (by decide) ?_
            refine lv_aload_n hx hb dX3_count_86 rfl (lv_at hl 0 rfl) ?_
            refine va_get (D := E.1) (ci := 3) (v := .ref (a 1)) (C := RX3) (T := TX3) (N := 3) hx hb hts in3 hown hE.1 hP 0 rfl rfl 0 (by decide) K7 (fun _ h9 => h9) rfl dX3_count_87 ?_
            refine lv_bipush (v := 41) hx hb dX3_count_90 (by decide) ?_
            refine q_iald hx hb hE hP 1 rfl (j := 41) (v := (g 41)) rfl (by omega) (by decide) rfl dX3_count_92 ?_
            exact hret _ _ _ _ _ hP hD hS (by unfold f_X3_count; exact ((if_neg c_1).trans ((if_neg c_2).trans ((if_neg c_3).trans ((if_neg c_4).trans (if_pos c_5))))).symm) dX3_count_93
          · have nc_5 : k.toInt ≠ 4 := fun h => c_5 (Int32.toInt_inj.mp h)
            by_cases c_6 : k = 5
            · refine lv_tableIn (off := 93) (tgt := 94) hx hb dX3_count_1 (by rw [c_6]; decide) (by rw [c_6]; decide) (by rw [c_6]; decide) (by decide) ?_
              refine lv_aload_n hx hb dX3_count_94 rfl (lv_at hl 0 rfl) ?_
              refine va_get (D := E.1) (ci := 3) (v := .ref (a 1)) (C := RX3) (T := TX3) (N := 3) hx hb hts in3 hown hE.1 hP 0 rfl rfl 0 (by decide) K7 (fun _ h9 => h9) rfl dX3_count_95 ?_
              refine lv_sipush (v := 306) hx hb dX3_count_98 (by decide) ?_
              refine q_iald hx hb hE hP 1 rfl (j := 306) (v := (g 306)) rfl (by omega) (by decide) rfl dX3_count_101 ?_
              exact hret _ _ _ _ _ hP hD hS (by unfold f_X3_count; exact ((if_neg c_1).trans ((if_neg c_2).trans ((if_neg c_3).trans ((if_neg c_4).trans ((if_neg c_5).trans (if_pos c_6)))))).symm) dX3_count_102
            · have nc_6 : k.toInt ≠ 5 := fun h => c_6 (Int32.toInt_inj.mp h)
              by_cases c_7 : k = 6
              · refine lv_tableIn (off := 102) (tgt := 103) hx hb dX3_count_1 (by rw [c_7]; decide) (by rw [c_7]; decide) (by rw [c_7]; decide) (by decide) ?_
                refine lv_aload_n hx hb dX3_count_103 rfl (lv_at hl 0 rfl) ?_
                refine va_get (D := E.1) (ci := 3) (v := .ref (a 1)) (C := RX3) (T := TX3) (N := 3) hx hb hts in3 hown hE.1 hP 0 rfl rfl 0 (by decide) K7 (fun _ h9 => h9) rfl dX3_count_104 ?_
                refine lv_sipush (v := 307) hx hb dX3_count_107 (by decide) ?_
                refine q_iald hx hb hE hP 1 rfl (j := 307) (v := (g 307)) rfl (by omega) (by decide) rfl dX3_count_110 ?_
                exact hret _ _ _ _ _ hP hD hS (by unfold f_X3_count; exact ((if_neg c_1).trans ((if_neg c_2).trans ((if_neg c_3).trans ((if_neg c_4).trans ((if_neg c_5).trans ((if_neg c_6).trans (if_pos c_7))))))).symm) dX3_count_111
              · have nc_7 : k.toInt ≠ 6 := fun h => c_7 (Int32.toInt_inj.mp h)
                by_cases c_8 : k = 7
                · refine lv_tableIn (off := 111) (tgt := 112) hx hb dX3_count_1 (by rw [c_8]; decide) (by rw [c_8]; decide) (by rw [c_8]; decide) (by decide) ?_
                  refine lv_aload_n hx hb dX3_count_112 rfl (lv_at hl 0 rfl) ?_
                  refine va_get (D := E.1) (ci := 3) (v := .ref (a 1)) (C := RX3) (T := TX3) (N := 3) hx hb hts in3 hown hE.1 hP 0 rfl rfl 0 (by decide) K7 (fun _ h9 => h9) rfl dX3_count_113 ?_
                  refine lv_sipush (v := 308) hx hb dX3_count_116 (by decide) ?_
                  refine q_iald hx hb hE hP 1 rfl (j := 308) (v := (g 308)) rfl (by omega) (by decide) rfl dX3_count_119 ?_
                  exact hret _ _ _ _ _ hP hD hS (by unfold f_X3_count; exact ((if_neg c_1).trans ((if_neg c_2).trans ((if_neg c_3).trans ((if_neg c_4).trans ((if_neg c_5).trans ((if_neg c_6).trans ((if_neg c_7).trans (if_pos c_8)))))))).symm) dX3_count_120
                · have nc_8 : k.toInt ≠ 7 := fun h => c_8 (Int32.toInt_inj.mp h)
                  by_cases c_9 : k = 8
                  · refine lv_tableIn (off := 120) (tgt := 121) hx hb dX3_count_1 (by rw [c_9]; decide) (by rw [c_9]; decide) (by rw [c_9]; decide) (by decide) ?_
                    refine lv_aload_n hx hb dX3_count_121 rfl (lv_at hl 0 rfl) ?_
                    refine va_get (D := E.1) (ci := 3) (v := .ref (a 3)) (C := RX3) (T := TX3) (N := 3) hx hb hts in3 hown hE.1 hP 0 rfl rfl 2 (by decide) K16 (fun _ h9 => h9) rfl dX3_count_122 ?_
                    refine lv_iconst (v := 0) hx hb dX3_count_125 (by decide) ?_
                    refine q_zald hx hb hE hP 3 rfl (j := 0) (v := (kp 0)) rfl (by omega) (by decide) rfl dX3_count_126 ?_
                    have J_135_10 : ∀ (w : Int32) (H : Heap) (locs : List Loc), va_P E.1 vwCl (ms E a g im kp) H → va_D A (ms E a g im kp) → va_S A s.heap H locs → w = (if (kp 0) = 0 then 0 else 1 : Int32) → W p l e { frames := 1, cells := 0, slots := 0, locals := 22 } s m args below meth c H locs 0 0 Q (F0 m 135 ls [.int w]) := by
                      intro w H locs hP hD hS ew
                      rw [ew]
                      refine lv_aload_n hx hb dX3_count_135 rfl (lv_at hl 0 rfl) ?_
                      refine va_get (D := E.1) (ci := 3) (v := .ref (a 3)) (C := RX3) (T := TX3) (N := 3) hx hb hts in3 hown hE.1 hP 0 rfl rfl 2 (by decide) K16 (fun _ h9 => h9) rfl dX3_count_136 ?_
                      refine lv_iconst (v := 1) hx hb dX3_count_139 (by decide) ?_
                      refine q_zald hx hb hE hP 3 rfl (j := 1) (v := (kp 1)) rfl (by omega) (by decide) rfl dX3_count_140 ?_
                      have J_149_12 : ∀ (w : Int32) (H : Heap) (locs : List Loc), va_P E.1 vwCl (ms E a g im kp) H → va_D A (ms E a g im kp) → va_S A s.heap H locs → w = (if (kp 1) = 0 then 0 else 2 : Int32) → W p l e { frames := 1, cells := 0, slots := 0, locals := 22 } s m args below meth c H locs 0 0 Q (F0 m 149 ls [.int w, .int (if (kp 0) = 0 then 0 else 1 : Int32)]) := by
                        intro w H locs hP hD hS ew
                        rw [ew]
                        refine lv_iadd hx hb dX3_count_149 ?_
                        exact hret _ _ _ _ _ hP hD hS (by unfold f_X3_count; exact ((if_neg c_1).trans ((if_neg c_2).trans ((if_neg c_3).trans ((if_neg c_4).trans ((if_neg c_5).trans ((if_neg c_6).trans ((if_neg c_7).trans ((if_neg c_8).trans (if_pos c_9))))))))).symm) dX3_count_150
                      refine lv_if_eq (tgt := 148) hx hb dX3_count_141 (by decide) (fun c_13 => ?_) (fun c_13 => ?_)
                      · refine lv_iconst (v := 0) hx hb dX3_count_148 (by decide) ?_
                        exact J_149_12 _ _ _ hP hD hS (if_pos c_13).symm
                      · refine lv_iconst (v := 2) hx hb dX3_count_144 (by decide) ?_
                        refine lv_goto (tgt := 149) hx hb dX3_count_145 (by decide) ?_
                        exact J_149_12 _ _ _ hP hD hS (if_neg c_13).symm
                    refine lv_if_eq (tgt := 134) hx hb dX3_count_127 (by decide) (fun c_11 => ?_) (fun c_11 => ?_)
                    · refine lv_iconst (v := 0) hx hb dX3_count_134 (by decide) ?_
                      exact J_135_10 _ _ _ hP hD hS (if_pos c_11).symm
                    · refine lv_iconst (v := 1) hx hb dX3_count_130 (by decide) ?_
                      refine lv_goto (tgt := 135) hx hb dX3_count_131 (by decide) ?_
                      exact J_135_10 _ _ _ hP hD hS (if_neg c_11).symm
                  · have nc_9 : k.toInt ≠ 8 := fun h => c_9 (Int32.toInt_inj.mp h)
                    refine lv_tableOut (tgt := 151) hx hb dX3_count_1 (by omega) (by decide) ?_
                    refine lv_iload_n hx hb dX3_count_151 rfl (lv_at hl 1 rfl) ?_
                    refine lv_bipush (v := 10) hx hb dX3_count_152 (by decide) ?_
                    refine lv_bipush (v := 13) hx hb dX3_count_154 (by decide) ?_
                    refine ci_S F hE (k_X3_in l E k 10 13) (va_cwS 3 hts gX3_count_X3_in rfl rfl rfl (by decide +kernel) ⟨Nat.le_of_ble_eq_true rfl, Nat.le_of_ble_eq_true rfl⟩) Fr.nil hP hD hS hA rfl hl.1 rfl (Nat.le_of_ble_eq_true rfl) dX3_count_156 ⟨Nat.zero_le _, Nat.zero_le _⟩ (fun H locs hP hD hS => ?_)
                    have J_178_14 : ∀ (w : Int32) (H : Heap) (locs : List Loc), va_P E.1 vwCl (ms E a g im kp) H → va_D A (ms E a g im kp) → va_S A s.heap H locs → w = (if (f_X3_in k 10 13) = 0 then (-2) else (g (ix k - 9)) : Int32) → W p l e { frames := 1, cells := 0, slots := 0, locals := 22 } s m args below meth c H locs 0 0 Q (F0 m 178 ls [.int w]) := by
                      intro w H locs hP hD hS ew
                      rw [ew]
                      exact hret _ _ _ _ _ hP hD hS (by unfold f_X3_count; exact ((if_neg c_1).trans ((if_neg c_2).trans ((if_neg c_3).trans ((if_neg c_4).trans ((if_neg c_5).trans ((if_neg c_6).trans ((if_neg c_7).trans ((if_neg c_8).trans (if_neg c_9))))))))).symm) dX3_count_178
                    refine lv_if_eq (tgt := 176) hx hb dX3_count_159 (by decide) (fun c_15 => ?_) (fun c_15 => ?_)
                    · refine lv_bipush (v := -2) hx hb dX3_count_176 (by decide) ?_
                      exact J_178_14 _ _ _ hP hD hS (if_pos c_15).symm
                    · obtain ⟨e_k, b_k, b_l⟩ := in_10 c_15
                      refine lv_aload_n hx hb dX3_count_162 rfl (lv_at hl 0 rfl) ?_
                      refine va_get (D := E.1) (ci := 3) (v := .ref (a 1)) (C := RX3) (T := TX3) (N := 3) hx hb hts in3 hown hE.1 hP 0 rfl rfl 0 (by decide) K7 (fun _ h9 => h9) rfl dX3_count_163 ?_
                      refine lv_iconst (v := 1) hx hb dX3_count_166 (by decide) ?_
                      refine lv_iload_n hx hb dX3_count_167 rfl (lv_at hl 1 rfl) ?_
                      refine lv_iadd hx hb dX3_count_168 ?_
                      refine lv_bipush (v := 10) hx hb dX3_count_169 (by decide) ?_
                      refine lv_isub hx hb dX3_count_171 ?_
                      refine tpe (y := nI (ix k - 9)) e_k ?_
                      refine q_iald hx hb hE hP 1 rfl (j := (ix k - 9)) (v := (g (ix k - 9))) rfl (by omega) (by decide) rfl dX3_count_172 ?_
                      refine lv_goto (tgt := 178) hx hb dX3_count_173 (by decide) ?_
                      exact J_178_14 _ _ _ hP hD hS (if_neg c_15).symm
def p_X3_renew_63 (g : Nat → Int32) (r : Nat) (t : Nat) (S63 : (Nat → Int32)) (i : Nat) : (Nat → Int32) := (if (if ((g 0) - (g (52 + 3 * r + t / 4))) ≤ (g 4) then 0 else 1 : Int32) = 0 then (if (((S63 (67 + 3 * r + t / 4)) >>> ((nI (t / 4 * 4 + i)) &&& 31)) &&& 1) = 1 then (upd (upd (upd (upd S63 (262 + 6 * r + 5) ((S63 (262 + 6 * r + 5)) + (if (S63 (82 + 12 * r + (t / 4 * 4 + i))) < 0 then 0 else 1 : Int32))) (82 + 12 * r + (t / 4 * 4 + i)) (-6)) (142 + 12 * r + (t / 4 * 4 + i)) 0) (202 + 12 * r + (t / 4 * 4 + i)) 0) else S63) else (upd (upd (upd (upd S63 (262 + 6 * r + 5) ((S63 (262 + 6 * r + 5)) + (if (S63 (82 + 12 * r + (t / 4 * 4 + i))) < 0 then 0 else 1 : Int32))) (82 + 12 * r + (t / 4 * 4 + i)) (-6)) (142 + 12 * r + (t / 4 * 4 + i)) 0) (202 + 12 * r + (t / 4 * 4 + i)) 0))
def q_X3_renew_63 (g : Nat → Int32) (r : Nat) (t : Nat) (S0 : (Nat → Int32)) : Nat → (Nat → Int32)
  | 0 => S0
  | i + 1 => p_X3_renew_63 g r t (q_X3_renew_63 g r t S0 i) i
def s_X3_renew (g : Nat → Int32) (r : Nat) (t : Nat) : Nat → Int32 := (if (g (67 + 3 * r + t / 4)) = 0 then (upd (upd g (52 + 3 * r + t / 4) ((g 0) + (g 2))) 308 ((g 308) + 1)) else (upd (upd (upd (q_X3_renew_63 g r t g 4) (67 + 3 * r + t / 4) 0) (52 + 3 * r + t / 4) (((q_X3_renew_63 g r t g 4) 0) + ((q_X3_renew_63 g r t g 4) 2))) 308 (((q_X3_renew_63 g r t g 4) 308) + 1)))
set_option maxHeartbeats 4000000 in
set_option maxRecDepth 100000 in
theorem k_X3_renew (l : Launch) (E : EE) (a : Nat → Nat) (g im kp : Nat → Int32) (r : Nat) (t : Nat) (hr : r < 5) (ht : t < 12) : Cv l E yX3_renew wsX3_renew { frames := 2, cells := 0, slots := 0, locals := 44 } [.ref (a 0), .int (nI r), .int (nI t)] (ms E a g im kp) (ms E a (s_X3_renew g r t) im kp) := by
  refine Cv.of (cc := cX3_renew) (maxL := 7) (by decide) rfl (Nat.le_of_ble_eq_true rfl) ?_
  intro p e s m args below meth c A Q F hE hA hret hP hD ls hl
  obtain ⟨hx, hb, hml, hown, hts⟩ := id F
  have hS : va_S A s.heap s.heap [] := va_S.rf
  have hl : lv_has ls 7 [(0, .ref (a 0)), (1, .int (nI r)), (2, .int (nI t))] := hl
  have in3 : ∀ w ∈ wsX30, w ∈ wsX3_renew := fun w h => List.mem_cons_of_mem _ (List.mem_append_right _ h)
  have K7 := hts (.fieldLink RX3 7 "PromiseHoursModel" "state" "[I") (by decide +kernel)
  refine lv_bipush (v := 52) hx hb dX3_renew_0 (by decide) ?_
  refine lv_iload_n hx hb dX3_renew_2 rfl (lv_at hl 1 rfl) ?_
  refine lv_iload_n hx hb dX3_renew_3 rfl (lv_at hl 2 rfl) ?_
  refine ci_S F hE (k_X3_volumeAt l E 52 r t (by omega)) (va_cwS 3 hts gX3_renew_X3_volumeAt rfl rfl rfl (by decide +kernel) ⟨Nat.le_of_ble_eq_true rfl, Nat.le_of_ble_eq_true rfl⟩) Fr.nil hP hD hS hA rfl hl.1 rfl (Nat.le_of_ble_eq_true rfl) dX3_renew_4 ⟨Nat.zero_le _, Nat.zero_le _⟩ (fun H locs hP hD hS => ?_)
  refine lv_istore_n (lv' := [(3, .int (nI (52 + 3 * r + t / 4))), (0, .ref (a 0)), (1, .int (nI r)), (2, .int (nI t))]) hx hb dX3_renew_7 rfl hl (by decide) rfl (fun ls hl => ?_)
  refine lv_bipush (v := 67) hx hb dX3_renew_8 (by decide) ?_
  refine lv_iload_n hx hb dX3_renew_10 rfl (lv_at hl 2 rfl) ?_
  refine lv_iload_n hx hb dX3_renew_11 rfl (lv_at hl 3 rfl) ?_
  refine ci_S F hE (k_X3_volumeAt l E 67 r t (by omega)) (va_cwS 3 hts gX3_renew_X3_volumeAt rfl rfl rfl (by decide +kernel) ⟨Nat.le_of_ble_eq_true rfl, Nat.le_of_ble_eq_true rfl⟩) Fr.nil hP hD hS hA rfl hl.1 rfl (Nat.le_of_ble_eq_true rfl) dX3_renew_12 ⟨Nat.zero_le _, Nat.zero_le _⟩ (fun H locs hP hD hS => ?_)
  refine lv_istore (lv' := [(4, .int (nI (67 + 3 * r + t / 4))), (3, .int (nI (52 + 3 * r + t / 4))), (0, .ref (a 0)), (1, .int (nI r)), (2, .int (nI t))]) hx hb dX3_renew_15 hl (by decide) rfl (fun ls hl => ?_)
  refine lv_aload_n hx hb dX3_renew_17 rfl (lv_at hl 2 rfl) ?_
  refine va_get (D := E.1) (ci := 3) (v := .ref (a 1)) (C := RX3) (T := TX3) (N := 3) hx hb hts in3 hown hE.1 hP 0 rfl rfl 0 (by decide) K7 (fun _ h9 => h9) rfl dX3_renew_18 ?_
  refine lv_iconst (v := 0) hx hb dX3_renew_21 (by decide) ?_
  refine q_iald hx hb hE hP 1 rfl (j := 0) (v := (g 0)) rfl (by omega) (by decide) rfl dX3_renew_22 ?_
  refine lv_aload_n hx hb dX3_renew_23 rfl (lv_at hl 2 rfl) ?_
  refine va_get (D := E.1) (ci := 3) (v := .ref (a 1)) (C := RX3) (T := TX3) (N := 3) hx hb hts in3 hown hE.1 hP 0 rfl rfl 0 (by decide) K7 (fun _ h9 => h9) rfl dX3_renew_24 ?_
  refine lv_iload_n hx hb dX3_renew_27 rfl (lv_at hl 1 rfl) ?_
  refine q_iald hx hb hE hP 1 rfl (j := (52 + 3 * r + t / 4)) (v := (g (52 + 3 * r + t / 4))) rfl (by omega) (by decide) rfl dX3_renew_28 ?_
  refine lv_isub hx hb dX3_renew_29 ?_
  refine lv_aload_n hx hb dX3_renew_30 rfl (lv_at hl 2 rfl) ?_
  refine va_get (D := E.1) (ci := 3) (v := .ref (a 1)) (C := RX3) (T := TX3) (N := 3) hx hb hts in3 hown hE.1 hP 0 rfl rfl 0 (by decide) K7 (fun _ h9 => h9) rfl dX3_renew_31 ?_
  refine lv_iconst (v := 4) hx hb dX3_renew_34 (by decide) ?_
  refine q_iald hx hb hE hP 1 rfl (j := 4) (v := (g 4)) rfl (by omega) (by decide) rfl dX3_renew_35 ?_
  have J_44_1 : ∀ (w : Int32) (H : Heap) (locs : List Loc), va_P E.1 vwCl (ms E a g im kp) H → va_D A (ms E a g im kp) → va_S A s.heap H locs → w = (if ((g 0) - (g (52 + 3 * r + t / 4))) ≤ (g 4) then 0 else 1 : Int32) → W p l e { frames := 2, cells := 0, slots := 0, locals := 44 } s m args below meth c H locs 0 0 Q (F0 m 44 ls [.int w]) := by
    intro w H locs hP hD hS ew
    rw [ew]
    refine lv_istore (lv' := [(5, .int (if ((g 0) - (g (52 + 3 * r + t / 4))) ≤ (g 4) then 0 else 1 : Int32)), (4, .int (nI (67 + 3 * r + t / 4))), (3, .int (nI (52 + 3 * r + t / 4))), (0, .ref (a 0)), (1, .int (nI r)), (2, .int (nI t))]) hx hb dX3_renew_44 hl (by decide) rfl (fun ls hl => ?_)
    refine lv_aload_n hx hb dX3_renew_46 rfl (lv_at hl 3 rfl) ?_
    refine va_get (D := E.1) (ci := 3) (v := .ref (a 1)) (C := RX3) (T := TX3) (N := 3) hx hb hts in3 hown hE.1 hP 0 rfl rfl 0 (by decide) K7 (fun _ h9 => h9) rfl dX3_renew_47 ?_
    refine lv_iload hx hb dX3_renew_50 (lv_at hl 1 rfl) ?_
    refine q_iald hx hb hE hP 1 rfl (j := (67 + 3 * r + t / 4)) (v := (g (67 + 3 * r + t / 4))) rfl (by omega) (by decide) rfl dX3_renew_52 ?_
    refine lv_if_eq (tgt := 151) hx hb dX3_renew_53 (by decide) (fun c_3 => ?_) (fun c_3 => ?_)
    · refine lv_aload_n hx hb dX3_renew_151 rfl (lv_at hl 3 rfl) ?_
      refine va_get (D := E.1) (ci := 3) (v := .ref (a 1)) (C := RX3) (T := TX3) (N := 3) hx hb hts in3 hown hE.1 hP 0 rfl rfl 0 (by decide) K7 (fun _ h9 => h9) rfl dX3_renew_152 ?_
      refine lv_iload_n hx hb dX3_renew_155 rfl (lv_at hl 2 rfl) ?_
      refine lv_aload_n hx hb dX3_renew_156 rfl (lv_at hl 3 rfl) ?_
      refine va_get (D := E.1) (ci := 3) (v := .ref (a 1)) (C := RX3) (T := TX3) (N := 3) hx hb hts in3 hown hE.1 hP 0 rfl rfl 0 (by decide) K7 (fun _ h9 => h9) rfl dX3_renew_157 ?_
      refine lv_iconst (v := 0) hx hb dX3_renew_160 (by decide) ?_
      refine q_iald hx hb hE hP 1 rfl (j := 0) (v := (g 0)) rfl (by omega) (by decide) rfl dX3_renew_161 ?_
      refine lv_aload_n hx hb dX3_renew_162 rfl (lv_at hl 3 rfl) ?_
      refine va_get (D := E.1) (ci := 3) (v := .ref (a 1)) (C := RX3) (T := TX3) (N := 3) hx hb hts in3 hown hE.1 hP 0 rfl rfl 0 (by decide) K7 (fun _ h9 => h9) rfl dX3_renew_163 ?_
      refine lv_iconst (v := 2) hx hb dX3_renew_166 (by decide) ?_
      refine q_iald hx hb hE hP 1 rfl (j := 2) (v := (g 2)) rfl (by omega) (by decide) rfl dX3_renew_167 ?_
      refine lv_iadd hx hb dX3_renew_168 ?_
      refine q_iast hx hb hE hP hD hS 1 rfl (j := (52 + 3 * r + t / 4)) (wd' := (ms E a (upd g (52 + 3 * r + t / 4) ((g 0) + (g 2))) im kp)) rfl (by omega) (by decide) rfl dX3_renew_169 (fun H locs hP hD hS => ?_)
      refine lv_aload_n hx hb dX3_renew_170 rfl (lv_at hl 3 rfl) ?_
      refine va_get (D := E.1) (ci := 3) (v := .ref (a 1)) (C := RX3) (T := TX3) (N := 3) hx hb hts in3 hown hE.1 hP 0 rfl rfl 0 (by decide) K7 (fun _ h9 => h9) rfl dX3_renew_171 ?_
      refine lv_sipush (v := 308) hx hb dX3_renew_174 (by decide) ?_
      refine lv_dup2_11 hx hb dX3_renew_177 rfl rfl ?_
      refine q_iald hx hb hE hP 1 rfl (j := 308) (v := (g 308)) rfl (by omega) (by decide) (up_n (by omega)) dX3_renew_178 ?_
      refine lv_iconst (v := 1) hx hb dX3_renew_179 (by decide) ?_
      refine lv_iadd hx hb dX3_renew_180 ?_
      refine q_iast hx hb hE hP hD hS 1 rfl (j := 308) (wd' := (ms E a (upd (upd g (52 + 3 * r + t / 4) ((g 0) + (g 2))) 308 ((g 308) + 1)) im kp)) rfl (by omega) (by decide) rfl dX3_renew_181 (fun H locs hP hD hS => ?_)
      have eg : (upd (upd g (52 + 3 * r + t / 4) ((g 0) + (g 2))) 308 ((g 308) + 1)) = (s_X3_renew g r t) := (by unfold s_X3_renew; exact (if_pos c_3).symm)
      exact hret _ _ _ _ (by rw [← eg]; exact hP) (by rw [← eg]; exact hD) hS dX3_renew_182
    · refine lv_iload_n hx hb dX3_renew_56 rfl (lv_at hl 5 rfl) ?_
      refine lv_iconst (v := 4) hx hb dX3_renew_57 (by decide) ?_
      refine lv_idiv hx hb dX3_renew_58 (by decide) ?_
      refine tpe (y := nI (t / 4)) (pk_div (d := 4) (by omega) (by decide) (by decide)) ?_
      refine lv_iconst (v := 4) hx hb dX3_renew_59 (by decide) ?_
      refine lv_imul hx hb dX3_renew_60 ?_
      refine tpe (y := nI ((t / 4) * 4)) (pk_mul (t / 4) 4) ?_
      refine lv_istore (lv' := [(6, .int (nI ((t / 4) * 4))), (5, .int (if ((g 0) - (g (52 + 3 * r + t / 4))) ≤ (g 4) then 0 else 1 : Int32)), (4, .int (nI (67 + 3 * r + t / 4))), (3, .int (nI (52 + 3 * r + t / 4))), (0, .ref (a 0)), (1, .int (nI r)), (2, .int (nI t))]) hx hb dX3_renew_61 hl (by decide) rfl (fun ls hl => ?_)
      have lp63 : ∀ (fu i : Nat), i ≤ 4 → 4 + 1 ≤ i + fu → ∀ (S63 : (Nat → Int32)), S63 = (q_X3_renew_63 g r t g i) → ∀ (H : Heap) (locs : List Loc), va_P E.1 vwCl (ms E a S63 im kp) H → va_D A (ms E a S63 im kp) → va_S A s.heap H locs → ∀ ls : Array Slot, lv_has ls 7 [(0, .ref (a 0)), (1, .int (nI r)), (2, .int (nI t)), (3, .int (nI (52 + 3 * r + t / 4))), (4, .int (nI (67 + 3 * r + t / 4))), (5, .int (if ((g 0) - (g (52 + 3 * r + t / 4))) ≤ (g 4) then 0 else 1 : Int32)), (6, .int (nI (t / 4 * 4 + i)))] → W p l e { frames := 2, cells := 0, slots := 0, locals := 44 } s m args below meth c H locs 0 0 Q (F0 m 63 ls []) := by
        intro fu
        induction fu with
        | zero => intro i h1 h2; exact absurd h2 (by omega)
        | succ fu ih =>
          intro i hi hin S63 eS63 H locs hP hD hS ls hl
          refine lv_iload hx hb dX3_renew_63 (lv_at hl 6 rfl) ?_
          refine lv_iload_n hx hb dX3_renew_65 rfl (lv_at hl 2 rfl) ?_
          refine lv_iconst (v := 4) hx hb dX3_renew_66 (by decide) ?_
          refine lv_idiv hx hb dX3_renew_67 (by decide) ?_
          refine tpe (y := nI (t / 4)) (pk_div (d := 4) (by omega) (by decide) (by decide)) ?_
          refine lv_iconst (v := 4) hx hb dX3_renew_68 (by decide) ?_
          refine lv_imul hx hb dX3_renew_69 ?_
          refine tpe (y := nI ((t / 4) * 4)) (pk_mul (t / 4) 4) ?_
          refine lv_iconst (v := 4) hx hb dX3_renew_70 (by decide) ?_
          refine lv_iadd hx hb dX3_renew_71 ?_
          refine tpe (y := nI ((t / 4) * 4 + 4)) (nI_add ((t / 4) * 4) 4) ?_
          refine lv_icmp_ge (tgt := 143) hx hb dX3_renew_72 (by decide) (fun c_4 => ?_) (fun c_4 => ?_)
          · have hiN : i = 4 := by have := (nI_leI (a := (t / 4 * 4 + 4)) (b := (t / 4 * 4 + i)) (by omega) (by omega)).mp c_4; omega
            rw [hiN] at eS63 hl
            refine lv_aload_n hx hb dX3_renew_143 rfl (lv_at hl 0 rfl) ?_
            refine va_get (D := E.1) (ci := 3) (v := .ref (a 1)) (C := RX3) (T := TX3) (N := 3) hx hb hts in3 hown hE.1 hP 0 rfl rfl 0 (by decide) K7 (fun _ h9 => h9) rfl dX3_renew_144 ?_
            refine lv_iload hx hb dX3_renew_147 (lv_at hl 4 rfl) ?_
            refine lv_iconst (v := 0) hx hb dX3_renew_149 (by decide) ?_
            refine q_iast hx hb hE hP hD hS 1 rfl (j := (67 + 3 * r + t / 4)) (wd' := (ms E a (upd S63 (67 + 3 * r + t / 4) 0) im kp)) rfl (by omega) (by decide) rfl dX3_renew_150 (fun H locs hP hD hS => ?_)
            refine lv_aload_n hx hb dX3_renew_151 rfl (lv_at hl 0 rfl) ?_
            refine va_get (D := E.1) (ci := 3) (v := .ref (a 1)) (C := RX3) (T := TX3) (N := 3) hx hb hts in3 hown hE.1 hP 0 rfl rfl 0 (by decide) K7 (fun _ h9 => h9) rfl dX3_renew_152 ?_
            refine lv_iload_n hx hb dX3_renew_155 rfl (lv_at hl 3 rfl) ?_
            refine lv_aload_n hx hb dX3_renew_156 rfl (lv_at hl 0 rfl) ?_
            refine va_get (D := E.1) (ci := 3) (v := .ref (a 1)) (C := RX3) (T := TX3) (N := 3) hx hb hts in3 hown hE.1 hP 0 rfl rfl 0 (by decide) K7 (fun _ h9 => h9) rfl dX3_renew_157 ?_
            refine lv_iconst (v := 0) hx hb dX3_renew_160 (by decide) ?_
            refine q_iald hx hb hE hP 1 rfl (j := 0) (v := (S63 0)) rfl (by omega) (by decide) (up_n (by omega)) dX3_renew_161 ?_
            refine lv_aload_n hx hb dX3_renew_162 rfl (lv_at hl 0 rfl) ?_
            refine va_get (D := E.1) (ci := 3) (v := .ref (a 1)) (C := RX3) (T := TX3) (N := 3) hx hb hts in3 hown hE.1 hP 0 rfl rfl 0 (by decide) K7 (fun _ h9 => h9) rfl dX3_renew_163 ?_
            refine lv_iconst (v := 2) hx hb dX3_renew_166 (by decide) ?_
            refine q_iald hx hb hE hP 1 rfl (j := 2) (v := (S63 2)) rfl (by omega) (by decide) (up_n (by omega)) dX3_renew_167 ?_
            refine lv_iadd hx hb dX3_renew_168 ?_
            refine q_iast hx hb hE hP hD hS 1 rfl (j := (52 + 3 * r + t / 4)) (wd' := (ms E a (upd (upd S63 (67 + 3 * r + t / 4) 0) (52 + 3 * r + t / 4) ((S63 0) + (S63 2))) im kp)) rfl (by omega) (by decide) rfl dX3_renew_169 (fun H locs hP hD hS => ?_)
            refine lv_aload_n hx hb dX3_renew_170 rfl (lv_at hl 0 rfl) ?_
            refine va_get (D := E.1) (ci := 3) (v := .ref (a 1)) (C := RX3) (T := TX3) (N := 3) hx hb hts in3 hown hE.1 hP 0 rfl rfl 0 (by decide) K7 (fun _ h9 => h9) rfl dX3_renew_171 ?_
            refine lv_sipush (v := 308) hx hb dX3_renew_174 (by decide) ?_
            refine lv_dup2_11 hx hb dX3_renew_177 rfl rfl ?_
            refine q_iald hx hb hE hP 1 rfl (j := 308) (v := (S63 308)) rfl (by omega) (by decide) ((up_n (by omega)).trans (up_n (by omega))) dX3_renew_178 ?_
            refine lv_iconst (v := 1) hx hb dX3_renew_179 (by decide) ?_
            refine lv_iadd hx hb dX3_renew_180 ?_
            refine q_iast hx hb hE hP hD hS 1 rfl (j := 308) (wd' := (ms E a (upd (upd (upd S63 (67 + 3 * r + t / 4) 0) (52 + 3 * r + t / 4) ((S63 0) + (S63 2))) 308 ((S63 308) + 1)) im kp)) rfl (by omega) (by decide) rfl dX3_renew_181 (fun H locs hP hD hS => ?_)
            have eg : (upd (upd (upd S63 (67 + 3 * r + t / 4) 0) (52 + 3 * r + t / 4) ((S63 0) + (S63 2))) 308 ((S63 308) + 1)) = (s_X3_renew g r t) := (by unfold s_X3_renew; (try rw [← eS63]); exact (if_neg c_3).symm)
            exact hret _ _ _ _ (by rw [← eg]; exact hP) (by rw [← eg]; exact hD) hS dX3_renew_182
          · have hlt : i < 4 := Nat.lt_of_not_le (fun h => c_4 (nI_le (a := (t / 4 * 4 + 4)) (b := (t / 4 * 4 + i)) (by omega) (by omega)))
            refine lv_iload hx hb dX3_renew_75 (lv_at hl 5 rfl) ?_
            refine lv_if_ne (tgt := 96) hx hb dX3_renew_77 (by decide) (fun c_5 => ?_) (fun c_5 => ?_)
            · refine lv_aload_n hx hb dX3_renew_96 rfl (lv_at hl 0 rfl) ?_
              refine va_get (D := E.1) (ci := 3) (v := .ref (a 1)) (C := RX3) (T := TX3) (N := 3) hx hb hts in3 hown hE.1 hP 0 rfl rfl 0 (by decide) K7 (fun _ h9 => h9) rfl dX3_renew_97 ?_
              refine lv_iload_n hx hb dX3_renew_100 rfl (lv_at hl 1 rfl) ?_
              refine lv_iconst (v := 5) hx hb dX3_renew_101 (by decide) ?_
              refine ci_S F hE (k_X3_said l E r 5) (va_cwS 2 hts gX3_renew_X3_said rfl rfl rfl (by decide +kernel) ⟨Nat.le_of_ble_eq_true rfl, Nat.le_of_ble_eq_true rfl⟩) Fr.nil hP hD hS hA rfl hl.1 rfl (Nat.le_of_ble_eq_true rfl) dX3_renew_102 ⟨Nat.zero_le _, Nat.zero_le _⟩ (fun H locs hP hD hS => ?_)
              refine lv_dup2_11 hx hb dX3_renew_105 rfl rfl ?_
              refine q_iald hx hb hE hP 1 rfl (j := (262 + 6 * r + 5)) (v := (S63 (262 + 6 * r + 5))) rfl (by omega) (by decide) rfl dX3_renew_106 ?_
              refine lv_aload_n hx hb dX3_renew_107 rfl (lv_at hl 0 rfl) ?_
              refine va_get (D := E.1) (ci := 3) (v := .ref (a 1)) (C := RX3) (T := TX3) (N := 3) hx hb hts in3 hown hE.1 hP 0 rfl rfl 0 (by decide) K7 (fun _ h9 => h9) rfl dX3_renew_108 ?_
              refine lv_bipush (v := 82) hx hb dX3_renew_111 (by decide) ?_
              refine lv_iload_n hx hb dX3_renew_113 rfl (lv_at hl 1 rfl) ?_
              refine lv_iload hx hb dX3_renew_114 (lv_at hl 6 rfl) ?_
              refine ci_S F hE (k_X3_thingAt l E 82 r (t / 4 * 4 + i)) (va_cwS 3 hts gX3_renew_X3_thingAt rfl rfl rfl (by decide +kernel) ⟨Nat.le_of_ble_eq_true rfl, Nat.le_of_ble_eq_true rfl⟩) Fr.nil hP hD hS hA rfl hl.1 rfl (Nat.le_of_ble_eq_true rfl) dX3_renew_116 ⟨Nat.zero_le _, Nat.zero_le _⟩ (fun H locs hP hD hS => ?_)
              refine q_iald hx hb hE hP 1 rfl (j := (82 + 12 * r + (t / 4 * 4 + i))) (v := (S63 (82 + 12 * r + (t / 4 * 4 + i)))) rfl (by omega) (by decide) rfl dX3_renew_119 ?_
              have J_128_6 : ∀ (w : Int32) (H : Heap) (locs : List Loc), va_P E.1 vwCl (ms E a S63 im kp) H → va_D A (ms E a S63 im kp) → va_S A s.heap H locs → w = (if (S63 (82 + 12 * r + (t / 4 * 4 + i))) < 0 then 0 else 1 : Int32) → W p l e { frames := 2, cells := 0, slots := 0, locals := 44 } s m args below meth c H locs 0 0 Q (F0 m 128 ls [.int w, .int (S63 (262 + 6 * r + 5)), .int (nI (262 + 6 * r + 5)), .ref (a 1)]) := by
                intro w H locs hP hD hS ew
                rw [ew]
                refine lv_iadd hx hb dX3_renew_128 ?_
                refine q_iast hx hb hE hP hD hS 1 rfl (j := (262 + 6 * r + 5)) (wd' := (ms E a (upd S63 (262 + 6 * r + 5) ((S63 (262 + 6 * r + 5)) + (if (S63 (82 + 12 * r + (t / 4 * 4 + i))) < 0 then 0 else 1 : Int32))) im kp)) rfl (by omega) (by decide) rfl dX3_renew_129 (fun H locs hP hD hS => ?_)
                refine lv_aload_n hx hb dX3_renew_130 rfl (lv_at hl 0 rfl) ?_
                refine lv_iload_n hx hb dX3_renew_131 rfl (lv_at hl 1 rfl) ?_
                refine lv_iload hx hb dX3_renew_132 (lv_at hl 6 rfl) ?_
                refine cv_V F hE (k_X3_clear l E a (upd S63 (262 + 6 * r + 5) ((S63 (262 + 6 * r + 5)) + (if (S63 (82 + 12 * r + (t / 4 * 4 + i))) < 0 then 0 else 1 : Int32))) im kp r (t / 4 * 4 + i) (by omega) (by omega)) (cwV 2 hts gX3_renew_X3_clear rfl rfl rfl (by decide +kernel) ⟨Nat.le_of_ble_eq_true rfl, Nat.le_of_ble_eq_true rfl⟩) Fr.all 0 3 rfl rfl rfl hP hD hS hA rfl hl.1 rfl (Nat.le_of_ble_eq_true rfl) dX3_renew_134 ⟨Nat.zero_le _, Nat.zero_le _⟩ (fun H locs hP hD hS => ?_)
                have hP : va_P E.1 vwCl (ms E a (upd (upd (upd (upd S63 (262 + 6 * r + 5) ((S63 (262 + 6 * r + 5)) + (if (S63 (82 + 12 * r + (t / 4 * 4 + i))) < 0 then 0 else 1 : Int32))) (82 + 12 * r + (t / 4 * 4 + i)) (-6)) (142 + 12 * r + (t / 4 * 4 + i)) 0) (202 + 12 * r + (t / 4 * 4 + i)) 0) im kp) H := hP
                have hD : va_D A (ms E a (upd (upd (upd (upd S63 (262 + 6 * r + 5) ((S63 (262 + 6 * r + 5)) + (if (S63 (82 + 12 * r + (t / 4 * 4 + i))) < 0 then 0 else 1 : Int32))) (82 + 12 * r + (t / 4 * 4 + i)) (-6)) (142 + 12 * r + (t / 4 * 4 + i)) 0) (202 + 12 * r + (t / 4 * 4 + i)) 0) im kp) := hD
                refine lv_iinc (v := (nI (t / 4 * 4 + i + 1))) (lv' := [(6, .int (nI (t / 4 * 4 + i + 1))), (0, .ref (a 0)), (1, .int (nI r)), (2, .int (nI t)), (3, .int (nI (52 + 3 * r + t / 4))), (4, .int (nI (67 + 3 * r + t / 4))), (5, .int (if ((g 0) - (g (52 + 3 * r + t / 4))) ≤ (g 4) then 0 else 1 : Int32))]) hx hb dX3_renew_137 hl (k := 6) rfl (nI_1 (t / 4 * 4 + i)) (by decide) rfl (fun ls hl => ?_)
                refine lv_goto (tgt := 63) hx hb dX3_renew_140 (by decide) ?_
                have eS1 : ((upd (upd (upd (upd S63 (262 + 6 * r + 5) ((S63 (262 + 6 * r + 5)) + (if (S63 (82 + 12 * r + (t / 4 * 4 + i))) < 0 then 0 else 1 : Int32))) (82 + 12 * r + (t / 4 * 4 + i)) (-6)) (142 + 12 * r + (t / 4 * 4 + i)) 0) (202 + 12 * r + (t / 4 * 4 + i)) 0) : (Nat → Int32)) = (q_X3_renew_63 g r t g (i + 1)) := by
                  show _ = p_X3_renew_63 g r t (q_X3_renew_63 g r t g i) i
                  rw [← eS63]
                  unfold p_X3_renew_63; exact (if_neg c_5).symm
                exact ih (i + 1) (by omega) (by omega) (upd (upd (upd (upd S63 (262 + 6 * r + 5) ((S63 (262 + 6 * r + 5)) + (if (S63 (82 + 12 * r + (t / 4 * 4 + i))) < 0 then 0 else 1 : Int32))) (82 + 12 * r + (t / 4 * 4 + i)) (-6)) (142 + 12 * r + (t / 4 * 4 + i)) 0) (202 + 12 * r + (t / 4 * 4 + i)) 0) eS1 _ _ hP hD hS ls (lv_sub hl [1, 2, 3, 4, 5, 6, 0] rfl)
              refine lv_if_lt (tgt := 127) hx hb dX3_renew_120 (by decide) (fun c_7 => ?_) (fun c_7 => ?_)
              · refine lv_iconst (v := 0) hx hb dX3_renew_127 (by decide) ?_
                exact J_128_6 _ _ _ hP hD hS (if_pos c_7).symm
              · refine lv_iconst (v := 1) hx hb dX3_renew_123 (by decide) ?_
                refine lv_goto (tgt := 128) hx hb dX3_renew_124 (by decide) ?_
                exact J_128_6 _ _ _ hP hD hS (if_neg c_7).symm
            · refine lv_aload_n hx hb dX3_renew_80 rfl (lv_at hl 0 rfl) ?_
              refine va_get (D := E.1) (ci := 3) (v := .ref (a 1)) (C := RX3) (T := TX3) (N := 3) hx hb hts in3 hown hE.1 hP 0 rfl rfl 0 (by decide) K7 (fun _ h9 => h9) rfl dX3_renew_81 ?_
              refine lv_iload hx hb dX3_renew_84 (lv_at hl 4 rfl) ?_
              refine q_iald hx hb hE hP 1 rfl (j := (67 + 3 * r + t / 4)) (v := (S63 (67 + 3 * r + t / 4))) rfl (by omega) (by decide) rfl dX3_renew_86 ?_
              refine lv_iload hx hb dX3_renew_87 (lv_at hl 6 rfl) ?_
              refine lv_ishr hx hb dX3_renew_89 ?_
              refine lv_iconst (v := 1) hx hb dX3_renew_90 (by decide) ?_
              refine lv_iand hx hb dX3_renew_91 ?_
              refine lv_iconst (v := 1) hx hb dX3_renew_92 (by decide) ?_
              refine lv_icmp_ne (tgt := 137) hx hb dX3_renew_93 (by decide) (fun c_8 => ?_) (fun c_8 => ?_)
              · refine lv_iinc (v := (nI (t / 4 * 4 + i + 1))) (lv' := [(6, .int (nI (t / 4 * 4 + i + 1))), (0, .ref (a 0)), (1, .int (nI r)), (2, .int (nI t)), (3, .int (nI (52 + 3 * r + t / 4))), (4, .int (nI (67 + 3 * r + t / 4))), (5, .int (if ((g 0) - (g (52 + 3 * r + t / 4))) ≤ (g 4) then 0 else 1 : Int32))]) hx hb dX3_renew_137 hl (k := 6) rfl (nI_1 (t / 4 * 4 + i)) (by decide) rfl (fun ls hl => ?_)
                refine lv_goto (tgt := 63) hx hb dX3_renew_140 (by decide) ?_
                have eS1 : (S63 : (Nat → Int32)) = (q_X3_renew_63 g r t g (i + 1)) := by
                  show _ = p_X3_renew_63 g r t (q_X3_renew_63 g r t g i) i
                  rw [← eS63]
                  unfold p_X3_renew_63; exact ((if_pos c_5).trans (if_neg c_8)).symm
                exact ih (i + 1) (by omega) (by omega) S63 eS1 _ _ hP hD hS ls (lv_sub hl [1, 2, 3, 4, 5, 6, 0] rfl)
              · refine lv_aload_n hx hb dX3_renew_96 rfl (lv_at hl 0 rfl) ?_
                refine va_get (D := E.1) (ci := 3) (v := .ref (a 1)) (C := RX3) (T := TX3) (N := 3) hx hb hts in3 hown hE.1 hP 0 rfl rfl 0 (by decide) K7 (fun _ h9 => h9) rfl dX3_renew_97 ?_
                refine lv_iload_n hx hb dX3_renew_100 rfl (lv_at hl 1 rfl) ?_
                refine lv_iconst (v := 5) hx hb dX3_renew_101 (by decide) ?_
                refine ci_S F hE (k_X3_said l E r 5) (va_cwS 2 hts gX3_renew_X3_said rfl rfl rfl (by decide +kernel) ⟨Nat.le_of_ble_eq_true rfl, Nat.le_of_ble_eq_true rfl⟩) Fr.nil hP hD hS hA rfl hl.1 rfl (Nat.le_of_ble_eq_true rfl) dX3_renew_102 ⟨Nat.zero_le _, Nat.zero_le _⟩ (fun H locs hP hD hS => ?_)
                refine lv_dup2_11 hx hb dX3_renew_105 rfl rfl ?_
                refine q_iald hx hb hE hP 1 rfl (j := (262 + 6 * r + 5)) (v := (S63 (262 + 6 * r + 5))) rfl (by omega) (by decide) rfl dX3_renew_106 ?_
                refine lv_aload_n hx hb dX3_renew_107 rfl (lv_at hl 0 rfl) ?_
                refine va_get (D := E.1) (ci := 3) (v := .ref (a 1)) (C := RX3) (T := TX3) (N := 3) hx hb hts in3 hown hE.1 hP 0 rfl rfl 0 (by decide) K7 (fun _ h9 => h9) rfl dX3_renew_108 ?_
                refine lv_bipush (v := 82) hx hb dX3_renew_111 (by decide) ?_
                refine lv_iload_n hx hb dX3_renew_113 rfl (lv_at hl 1 rfl) ?_
                refine lv_iload hx hb dX3_renew_114 (lv_at hl 6 rfl) ?_
                refine ci_S F hE (k_X3_thingAt l E 82 r (t / 4 * 4 + i)) (va_cwS 3 hts gX3_renew_X3_thingAt rfl rfl rfl (by decide +kernel) ⟨Nat.le_of_ble_eq_true rfl, Nat.le_of_ble_eq_true rfl⟩) Fr.nil hP hD hS hA rfl hl.1 rfl (Nat.le_of_ble_eq_true rfl) dX3_renew_116 ⟨Nat.zero_le _, Nat.zero_le _⟩ (fun H locs hP hD hS => ?_)
                refine q_iald hx hb hE hP 1 rfl (j := (82 + 12 * r + (t / 4 * 4 + i))) (v := (S63 (82 + 12 * r + (t / 4 * 4 + i)))) rfl (by omega) (by decide) rfl dX3_renew_119 ?_
                have J_128_9 : ∀ (w : Int32) (H : Heap) (locs : List Loc), va_P E.1 vwCl (ms E a S63 im kp) H → va_D A (ms E a S63 im kp) → va_S A s.heap H locs → w = (if (S63 (82 + 12 * r + (t / 4 * 4 + i))) < 0 then 0 else 1 : Int32) → W p l e { frames := 2, cells := 0, slots := 0, locals := 44 } s m args below meth c H locs 0 0 Q (F0 m 128 ls [.int w, .int (S63 (262 + 6 * r + 5)), .int (nI (262 + 6 * r + 5)), .ref (a 1)]) := by
                  intro w H locs hP hD hS ew
                  rw [ew]
                  refine lv_iadd hx hb dX3_renew_128 ?_
                  refine q_iast hx hb hE hP hD hS 1 rfl (j := (262 + 6 * r + 5)) (wd' := (ms E a (upd S63 (262 + 6 * r + 5) ((S63 (262 + 6 * r + 5)) + (if (S63 (82 + 12 * r + (t / 4 * 4 + i))) < 0 then 0 else 1 : Int32))) im kp)) rfl (by omega) (by decide) rfl dX3_renew_129 (fun H locs hP hD hS => ?_)
                  refine lv_aload_n hx hb dX3_renew_130 rfl (lv_at hl 0 rfl) ?_
                  refine lv_iload_n hx hb dX3_renew_131 rfl (lv_at hl 1 rfl) ?_
                  refine lv_iload hx hb dX3_renew_132 (lv_at hl 6 rfl) ?_
                  refine cv_V F hE (k_X3_clear l E a (upd S63 (262 + 6 * r + 5) ((S63 (262 + 6 * r + 5)) + (if (S63 (82 + 12 * r + (t / 4 * 4 + i))) < 0 then 0 else 1 : Int32))) im kp r (t / 4 * 4 + i) (by omega) (by omega)) (cwV 2 hts gX3_renew_X3_clear rfl rfl rfl (by decide +kernel) ⟨Nat.le_of_ble_eq_true rfl, Nat.le_of_ble_eq_true rfl⟩) Fr.all 0 3 rfl rfl rfl hP hD hS hA rfl hl.1 rfl (Nat.le_of_ble_eq_true rfl) dX3_renew_134 ⟨Nat.zero_le _, Nat.zero_le _⟩ (fun H locs hP hD hS => ?_)
                  have hP : va_P E.1 vwCl (ms E a (upd (upd (upd (upd S63 (262 + 6 * r + 5) ((S63 (262 + 6 * r + 5)) + (if (S63 (82 + 12 * r + (t / 4 * 4 + i))) < 0 then 0 else 1 : Int32))) (82 + 12 * r + (t / 4 * 4 + i)) (-6)) (142 + 12 * r + (t / 4 * 4 + i)) 0) (202 + 12 * r + (t / 4 * 4 + i)) 0) im kp) H := hP
                  have hD : va_D A (ms E a (upd (upd (upd (upd S63 (262 + 6 * r + 5) ((S63 (262 + 6 * r + 5)) + (if (S63 (82 + 12 * r + (t / 4 * 4 + i))) < 0 then 0 else 1 : Int32))) (82 + 12 * r + (t / 4 * 4 + i)) (-6)) (142 + 12 * r + (t / 4 * 4 + i)) 0) (202 + 12 * r + (t / 4 * 4 + i)) 0) im kp) := hD
                  refine lv_iinc (v := (nI (t / 4 * 4 + i + 1))) (lv' := [(6, .int (nI (t / 4 * 4 + i + 1))), (0, .ref (a 0)), (1, .int (nI r)), (2, .int (nI t)), (3, .int (nI (52 + 3 * r + t / 4))), (4, .int (nI (67 + 3 * r + t / 4))), (5, .int (if ((g 0) - (g (52 + 3 * r + t / 4))) ≤ (g 4) then 0 else 1 : Int32))]) hx hb dX3_renew_137 hl (k := 6) rfl (nI_1 (t / 4 * 4 + i)) (by decide) rfl (fun ls hl => ?_)
                  refine lv_goto (tgt := 63) hx hb dX3_renew_140 (by decide) ?_
                  have eS1 : ((upd (upd (upd (upd S63 (262 + 6 * r + 5) ((S63 (262 + 6 * r + 5)) + (if (S63 (82 + 12 * r + (t / 4 * 4 + i))) < 0 then 0 else 1 : Int32))) (82 + 12 * r + (t / 4 * 4 + i)) (-6)) (142 + 12 * r + (t / 4 * 4 + i)) 0) (202 + 12 * r + (t / 4 * 4 + i)) 0) : (Nat → Int32)) = (q_X3_renew_63 g r t g (i + 1)) := by
                    show _ = p_X3_renew_63 g r t (q_X3_renew_63 g r t g i) i
                    rw [← eS63]
                    unfold p_X3_renew_63; exact ((if_pos c_5).trans (if_pos c_8)).symm
                  exact ih (i + 1) (by omega) (by omega) (upd (upd (upd (upd S63 (262 + 6 * r + 5) ((S63 (262 + 6 * r + 5)) + (if (S63 (82 + 12 * r + (t / 4 * 4 + i))) < 0 then 0 else 1 : Int32))) (82 + 12 * r + (t / 4 * 4 + i)) (-6)) (142 + 12 * r + (t / 4 * 4 + i)) 0) (202 + 12 * r + (t / 4 * 4 + i)) 0) eS1 _ _ hP hD hS ls (lv_sub hl [1, 2, 3, 4, 5, 6, 0] rfl)
                refine lv_if_lt (tgt := 127) hx hb dX3_renew_120 (by decide) (fun c_10 => ?_) (fun c_10 => ?_)
                · refine lv_iconst (v := 0) hx hb dX3_renew_127 (by decide) ?_
                  exact J_128_9 _ _ _ hP hD hS (if_pos c_10).symm
                · refine lv_iconst (v := 1) hx hb dX3_renew_123 (by decide) ?_
                  refine lv_goto (tgt := 128) hx hb dX3_renew_124 (by decide) ?_
                  exact J_128_9 _ _ _ hP hD hS (if_neg c_10).symm
      exact lp63 (4 + 1) 0 (Nat.zero_le _) (by omega) g rfl _ _ hP hD hS ls (lv_sub hl [4, 5, 6, 3, 2, 1, 0] rfl)
  refine lv_icmp_le (tgt := 43) hx hb dX3_renew_36 (by decide) (fun c_2 => ?_) (fun c_2 => ?_)
  · refine lv_iconst (v := 0) hx hb dX3_renew_43 (by decide) ?_
    exact J_44_1 _ _ _ hP hD hS (if_pos c_2).symm
  · refine lv_iconst (v := 1) hx hb dX3_renew_39 (by decide) ?_
    refine lv_goto (tgt := 44) hx hb dX3_renew_40 (by decide) ?_
    exact J_44_1 _ _ _ hP hD hS (if_neg c_2).symm
