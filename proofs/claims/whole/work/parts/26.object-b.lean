def f_X2_cause (g : Nat → Int32) (x : Int32) : Int32 := (if x < 0 then (-6) else (if (g 296) ≤ x then (-6) else (g (292 + (ix x)))) : Int32)
set_option maxHeartbeats 4000000 in
set_option maxRecDepth 100000 in
theorem k_X2_cause (l : Launch) (E : EE) (a o : Nat → Nat) (bA cA : Nat) (g : Nat → Int32) (kp : Int32) (rs : va_W) (x : Int32) (hm : ix (g 296) ≤ 4 ∧ g 296 = nI (ix (g 296))) : Ci l E yX2_cause wsX2_cause { frames := 0, cells := 0, slots := 0, locals := 0 } [.ref (o 0), .int x] (hs E a g ++ (phc E a o bA cA kp ++ rs)) (f_X2_cause g x) (hs E a g ++ (phc E a o bA cA kp ++ rs)) := by
  refine Ci.of (cc := cX2_cause) (maxL := 2) (rt := .int) (by decide) rfl rfl (Nat.le_of_ble_eq_true rfl) ?_
  intro p e s m args below meth c A Q F hE hA hret hP hD ls hl
  obtain ⟨hx, hb, hml, hown, hts⟩ := id F
  have hS : va_S A s.heap s.heap [] := va_S.rf
  have hl : lv_has ls 2 [(0, .ref (o 0)), (1, .int x)] := hl
  have in0 : ∀ w ∈ wsX00, w ∈ wsX2_cause := fun w h => List.mem_cons_of_mem _ (List.mem_append_right _ h)
  have in2 : ∀ w ∈ wsX20, w ∈ wsX2_cause := fun w h => List.mem_cons_of_mem _ (List.mem_append_left _ (List.mem_append_right _ h))
  have K10 := hts (.fieldLink RX2 10 "PromiseHours" "house" "LPromiseHours$House;") (by decide +kernel)
  obtain ⟨hm1, hm2⟩ := hm
  refine lv_iload_n hx hb dX2_cause_0 rfl (lv_at hl 1 rfl) ?_
  have J_29_1 : ∀ (w : Int32) (H : Heap) (locs : List Loc), va_P E.1 vwCl (hs E a g ++ (phc E a o bA cA kp ++ rs)) H → va_D A (hs E a g ++ (phc E a o bA cA kp ++ rs)) → va_S A s.heap H locs → w = (if x < 0 then (-6) else (if (g 296) ≤ x then (-6) else (g (292 + (ix x)))) : Int32) → W p l e { frames := 0, cells := 0, slots := 0, locals := 0 } s m args below meth c H locs 0 0 Q (F0 m 29 ls [.int w]) := by
    intro w H locs hP hD hS ew
    rw [ew]
    exact hret _ _ _ _ _ hP hD hS rfl dX2_cause_29
  refine lv_if_lt (tgt := 27) hx hb dX2_cause_1 (by decide) (fun c_2 => ?_) (fun c_2 => ?_)
  · refine lv_bipush (v := -6) hx hb dX2_cause_27 (by decide) ?_
    exact J_29_1 _ _ _ hP hD hS (if_pos c_2).symm
  · refine lv_iload_n hx hb dX2_cause_4 rfl (lv_at hl 1 rfl) ?_
    refine lv_aload_n hx hb dX2_cause_5 rfl (lv_at hl 0 rfl) ?_
    refine va_get (D := E.1) (ci := 2) (v := .ref (a 0)) (C := RX2) (T := TX2) (N := 3) hx hb hts in2 hown hE.1 hP (38 + 0) (ap_h rfl) rfl 0 (by decide) K10 (fun _ h9 => h9) rfl dX2_cause_6 ?_
    refine va_getN (D := E.1) (ci := 0) (v := .int (g 296)) (C := RX0) (T := TX0) (N := 17) hx hb hts in0 hown hE.1 hP 0 (ap_l (hs_lo 0 (by decide) rfl)) rfl 8 (by decide) (ev_use hE nk_X2_75 rfl) (fun _ h9 => h9) rfl dX2_cause_9 ?_
    refine lv_icmp_ge (tgt := 27) hx hb dX2_cause_12 (by decide) (fun c_3 => ?_) (fun c_3 => ?_)
    · refine lv_bipush (v := -6) hx hb dX2_cause_27 (by decide) ?_
      exact J_29_1 _ _ _ hP hD hS ((if_neg c_2).trans (if_pos c_3)).symm
    · obtain ⟨b_x, e_x⟩ := rg_ix c_2 c_3 hm2 (by omega)
      refine lv_aload_n hx hb dX2_cause_15 rfl (lv_at hl 0 rfl) ?_
      refine va_get (D := E.1) (ci := 2) (v := .ref (a 0)) (C := RX2) (T := TX2) (N := 3) hx hb hts in2 hown hE.1 hP (38 + 0) (ap_h rfl) rfl 0 (by decide) K10 (fun _ h9 => h9) rfl dX2_cause_16 ?_
      refine va_getN (D := E.1) (ci := 0) (v := .ref (a 6)) (C := RX0) (T := TX0) (N := 17) hx hb hts in0 hown hE.1 hP 0 (ap_l (hs_lo 0 (by decide) rfl)) rfl 7 (by decide) (ev_use hE nk_X2_78 rfl) (fun _ h9 => h9) rfl dX2_cause_19 ?_
      refine lv_iload_n hx hb dX2_cause_22 rfl (lv_at hl 1 rfl) ?_
      refine tpe e_x ?_
      refine q_iald hx hb hE hP 6 (ap_l (hs_lo 6 (by decide) rfl)) (j := (ix x)) (v := (g (292 + (ix x)))) rfl (by omega) (by decide) ((seg_at (by omega)).trans rfl) dX2_cause_23 ?_
      refine lv_goto (tgt := 29) hx hb dX2_cause_24 (by decide) ?_
      exact J_29_1 _ _ _ hP hD hS ((if_neg c_2).trans (if_neg c_3)).symm
def f_X2_waited (g : Nat → Int32) (x : Int32) : Int32 := (if x < 0 then (-6) else (if (g 302) ≤ x then (-6) else (g (297 + (ix x)))) : Int32)
set_option maxHeartbeats 4000000 in
set_option maxRecDepth 100000 in
theorem k_X2_waited (l : Launch) (E : EE) (a o : Nat → Nat) (bA cA : Nat) (g : Nat → Int32) (kp : Int32) (rs : va_W) (x : Int32) (hm : ix (g 302) ≤ 5 ∧ g 302 = nI (ix (g 302))) : Ci l E yX2_waited wsX2_waited { frames := 0, cells := 0, slots := 0, locals := 0 } [.ref (o 0), .int x] (hs E a g ++ (phc E a o bA cA kp ++ rs)) (f_X2_waited g x) (hs E a g ++ (phc E a o bA cA kp ++ rs)) := by
  refine Ci.of (cc := cX2_waited) (maxL := 2) (rt := .int) (by decide) rfl rfl (Nat.le_of_ble_eq_true rfl) ?_
  intro p e s m args below meth c A Q F hE hA hret hP hD ls hl
  obtain ⟨hx, hb, hml, hown, hts⟩ := id F
  have hS : va_S A s.heap s.heap [] := va_S.rf
  have hl : lv_has ls 2 [(0, .ref (o 0)), (1, .int x)] := hl
  have in0 : ∀ w ∈ wsX00, w ∈ wsX2_waited := fun w h => List.mem_cons_of_mem _ (List.mem_append_right _ h)
  have in2 : ∀ w ∈ wsX20, w ∈ wsX2_waited := fun w h => List.mem_cons_of_mem _ (List.mem_append_left _ (List.mem_append_right _ h))
  have K10 := hts (.fieldLink RX2 10 "PromiseHours" "house" "LPromiseHours$House;") (by decide +kernel)
  obtain ⟨hm1, hm2⟩ := hm
  refine lv_iload_n hx hb dX2_waited_0 rfl (lv_at hl 1 rfl) ?_
  have J_29_1 : ∀ (w : Int32) (H : Heap) (locs : List Loc), va_P E.1 vwCl (hs E a g ++ (phc E a o bA cA kp ++ rs)) H → va_D A (hs E a g ++ (phc E a o bA cA kp ++ rs)) → va_S A s.heap H locs → w = (if x < 0 then (-6) else (if (g 302) ≤ x then (-6) else (g (297 + (ix x)))) : Int32) → W p l e { frames := 0, cells := 0, slots := 0, locals := 0 } s m args below meth c H locs 0 0 Q (F0 m 29 ls [.int w]) := by
    intro w H locs hP hD hS ew
    rw [ew]
    exact hret _ _ _ _ _ hP hD hS rfl dX2_waited_29
  refine lv_if_lt (tgt := 27) hx hb dX2_waited_1 (by decide) (fun c_2 => ?_) (fun c_2 => ?_)
  · refine lv_bipush (v := -6) hx hb dX2_waited_27 (by decide) ?_
    exact J_29_1 _ _ _ hP hD hS (if_pos c_2).symm
  · refine lv_iload_n hx hb dX2_waited_4 rfl (lv_at hl 1 rfl) ?_
    refine lv_aload_n hx hb dX2_waited_5 rfl (lv_at hl 0 rfl) ?_
    refine va_get (D := E.1) (ci := 2) (v := .ref (a 0)) (C := RX2) (T := TX2) (N := 3) hx hb hts in2 hown hE.1 hP (38 + 0) (ap_h rfl) rfl 0 (by decide) K10 (fun _ h9 => h9) rfl dX2_waited_6 ?_
    refine va_getN (D := E.1) (ci := 0) (v := .int (g 302)) (C := RX0) (T := TX0) (N := 17) hx hb hts in0 hown hE.1 hP 0 (ap_l (hs_lo 0 (by decide) rfl)) rfl 10 (by decide) (ev_use hE nk_X2_81 rfl) (fun _ h9 => h9) rfl dX2_waited_9 ?_
    refine lv_icmp_ge (tgt := 27) hx hb dX2_waited_12 (by decide) (fun c_3 => ?_) (fun c_3 => ?_)
    · refine lv_bipush (v := -6) hx hb dX2_waited_27 (by decide) ?_
      exact J_29_1 _ _ _ hP hD hS ((if_neg c_2).trans (if_pos c_3)).symm
    · obtain ⟨b_x, e_x⟩ := rg_ix c_2 c_3 hm2 (by omega)
      refine lv_aload_n hx hb dX2_waited_15 rfl (lv_at hl 0 rfl) ?_
      refine va_get (D := E.1) (ci := 2) (v := .ref (a 0)) (C := RX2) (T := TX2) (N := 3) hx hb hts in2 hown hE.1 hP (38 + 0) (ap_h rfl) rfl 0 (by decide) K10 (fun _ h9 => h9) rfl dX2_waited_16 ?_
      refine va_getN (D := E.1) (ci := 0) (v := .ref (a 7)) (C := RX0) (T := TX0) (N := 17) hx hb hts in0 hown hE.1 hP 0 (ap_l (hs_lo 0 (by decide) rfl)) rfl 9 (by decide) (ev_use hE nk_X2_84 rfl) (fun _ h9 => h9) rfl dX2_waited_19 ?_
      refine lv_iload_n hx hb dX2_waited_22 rfl (lv_at hl 1 rfl) ?_
      refine tpe e_x ?_
      refine q_iald hx hb hE hP 7 (ap_l (hs_lo 7 (by decide) rfl)) (j := (ix x)) (v := (g (297 + (ix x)))) rfl (by omega) (by decide) ((seg_at (by omega)).trans rfl) dX2_waited_23 ?_
      refine lv_goto (tgt := 29) hx hb dX2_waited_24 (by decide) ?_
      exact J_29_1 _ _ _ hP hD hS ((if_neg c_2).trans (if_neg c_3)).symm
def f_X2_waiting (g : Nat → Int32) (x : Int32) : Int32 := (if x < 0 then (-6) else (if (g 41) ≤ x then (-6) else (g (29 + (ix x)))) : Int32)
set_option maxHeartbeats 4000000 in
set_option maxRecDepth 100000 in
theorem k_X2_waiting (l : Launch) (E : EE) (a o : Nat → Nat) (bA cA : Nat) (g : Nat → Int32) (kp : Int32) (rs : va_W) (x : Int32) (hm : ix (g 41) ≤ 12 ∧ g 41 = nI (ix (g 41))) : Ci l E yX2_waiting wsX2_waiting { frames := 0, cells := 0, slots := 0, locals := 0 } [.ref (o 0), .int x] (hs E a g ++ (phc E a o bA cA kp ++ rs)) (f_X2_waiting g x) (hs E a g ++ (phc E a o bA cA kp ++ rs)) := by
  refine Ci.of (cc := cX2_waiting) (maxL := 2) (rt := .int) (by decide) rfl rfl (Nat.le_of_ble_eq_true rfl) ?_
  intro p e s m args below meth c A Q F hE hA hret hP hD ls hl
  obtain ⟨hx, hb, hml, hown, hts⟩ := id F
  have hS : va_S A s.heap s.heap [] := va_S.rf
  have hl : lv_has ls 2 [(0, .ref (o 0)), (1, .int x)] := hl
  have in0 : ∀ w ∈ wsX00, w ∈ wsX2_waiting := fun w h => List.mem_cons_of_mem _ (List.mem_append_right _ h)
  have in2 : ∀ w ∈ wsX20, w ∈ wsX2_waiting := fun w h => List.mem_cons_of_mem _ (List.mem_append_left _ (List.mem_append_right _ h))
  have K10 := hts (.fieldLink RX2 10 "PromiseHours" "house" "LPromiseHours$House;") (by decide +kernel)
  obtain ⟨hm1, hm2⟩ := hm
  refine lv_iload_n hx hb dX2_waiting_0 rfl (lv_at hl 1 rfl) ?_
  have J_29_1 : ∀ (w : Int32) (H : Heap) (locs : List Loc), va_P E.1 vwCl (hs E a g ++ (phc E a o bA cA kp ++ rs)) H → va_D A (hs E a g ++ (phc E a o bA cA kp ++ rs)) → va_S A s.heap H locs → w = (if x < 0 then (-6) else (if (g 41) ≤ x then (-6) else (g (29 + (ix x)))) : Int32) → W p l e { frames := 0, cells := 0, slots := 0, locals := 0 } s m args below meth c H locs 0 0 Q (F0 m 29 ls [.int w]) := by
    intro w H locs hP hD hS ew
    rw [ew]
    exact hret _ _ _ _ _ hP hD hS rfl dX2_waiting_29
  refine lv_if_lt (tgt := 27) hx hb dX2_waiting_1 (by decide) (fun c_2 => ?_) (fun c_2 => ?_)
  · refine lv_bipush (v := -6) hx hb dX2_waiting_27 (by decide) ?_
    exact J_29_1 _ _ _ hP hD hS (if_pos c_2).symm
  · refine lv_iload_n hx hb dX2_waiting_4 rfl (lv_at hl 1 rfl) ?_
    refine lv_aload_n hx hb dX2_waiting_5 rfl (lv_at hl 0 rfl) ?_
    refine va_get (D := E.1) (ci := 2) (v := .ref (a 0)) (C := RX2) (T := TX2) (N := 3) hx hb hts in2 hown hE.1 hP (38 + 0) (ap_h rfl) rfl 0 (by decide) K10 (fun _ h9 => h9) rfl dX2_waiting_6 ?_
    refine va_getN (D := E.1) (ci := 0) (v := .int (g 41)) (C := RX0) (T := TX0) (N := 17) hx hb hts in0 hown hE.1 hP 0 (ap_l (hs_lo 0 (by decide) rfl)) rfl 6 (by decide) (ev_use hE nk_X2_150 rfl) (fun _ h9 => h9) rfl dX2_waiting_9 ?_
    refine lv_icmp_ge (tgt := 27) hx hb dX2_waiting_12 (by decide) (fun c_3 => ?_) (fun c_3 => ?_)
    · refine lv_bipush (v := -6) hx hb dX2_waiting_27 (by decide) ?_
      exact J_29_1 _ _ _ hP hD hS ((if_neg c_2).trans (if_pos c_3)).symm
    · obtain ⟨b_x, e_x⟩ := rg_ix c_2 c_3 hm2 (by omega)
      refine lv_aload_n hx hb dX2_waiting_15 rfl (lv_at hl 0 rfl) ?_
      refine va_get (D := E.1) (ci := 2) (v := .ref (a 0)) (C := RX2) (T := TX2) (N := 3) hx hb hts in2 hown hE.1 hP (38 + 0) (ap_h rfl) rfl 0 (by decide) K10 (fun _ h9 => h9) rfl dX2_waiting_16 ?_
      refine va_getN (D := E.1) (ci := 0) (v := .ref (a 5)) (C := RX0) (T := TX0) (N := 17) hx hb hts in0 hown hE.1 hP 0 (ap_l (hs_lo 0 (by decide) rfl)) rfl 5 (by decide) (ev_use hE nk_X2_153 rfl) (fun _ h9 => h9) rfl dX2_waiting_19 ?_
      refine lv_iload_n hx hb dX2_waiting_22 rfl (lv_at hl 1 rfl) ?_
      refine tpe e_x ?_
      refine q_iald hx hb hE hP 5 (ap_l (hs_lo 5 (by decide) rfl)) (j := (ix x)) (v := (g (29 + (ix x)))) rfl (by omega) (by decide) ((seg_at (by omega)).trans rfl) dX2_waiting_23 ?_
      refine lv_goto (tgt := 29) hx hb dX2_waiting_24 (by decide) ?_
      exact J_29_1 _ _ _ hP hD hS ((if_neg c_2).trans (if_neg c_3)).symm
def f_X2_thing (g : Nat → Int32) (y : Int32) (k : Int32) : Int32 := (if (f_X2_isThing y) = 0 then (-1) else (if k = 0 then (g (5 + (ix y))) else (if k = 1 then (f_X2_bit (f_X0_isWaiting g (ix y))) else (if k = 2 then (g (17 + (ix y))) else (if k = 3 then (if (f_X0_isWaiting g (ix y)) = 0 then (-6) else (q_X0_dueOf_9 g (ix y) ((g 0) + 1) 5) : Int32) else (if k = 4 then (q_X0_holdersOf_4 g (ix y) 0 5) else (if k = 5 then (q_X0_readersWithCopy_4 g (ix y) 0 5) else (if k = 6 then (q_X0_readersWithUse_4 g (ix y) 0 5) else (-2)))))))))
set_option maxHeartbeats 4000000 in
set_option maxRecDepth 100000 in
theorem k_X2_thing (l : Launch) (E : EE) (a o : Nat → Nat) (bA cA : Nat) (g : Nat → Int32) (kp : Int32) (rs : va_W) (y : Int32) (k : Int32)  : Ci l E yX2_thing wsX2_thing { frames := 4, cells := 0, slots := 0, locals := 86 } [.ref (o 0), .int y, .int k] (hs E a g ++ (phc E a o bA cA kp ++ rs)) (f_X2_thing g y k) (hs E a g ++ (phc E a o bA cA kp ++ rs)) := by
  refine Ci.of (cc := cX2_thing) (maxL := 3) (rt := .int) (by decide) rfl rfl (Nat.le_of_ble_eq_true rfl) ?_
  intro p e s m args below meth c A Q F hE hA hret hP hD ls hl
  obtain ⟨hx, hb, hml, hown, hts⟩ := id F
  have hS : va_S A s.heap s.heap [] := va_S.rf
  have hl : lv_has ls 3 [(0, .ref (o 0)), (1, .int y), (2, .int k)] := hl
  have in0 : ∀ w ∈ wsX00, w ∈ wsX2_thing := fun w h => List.mem_cons_of_mem _ (List.mem_append_left _ (List.mem_append_right _ h))
  have in2 : ∀ w ∈ wsX20, w ∈ wsX2_thing := fun w h => List.mem_cons_of_mem _ (List.mem_append_left _ (List.mem_append_left _ (List.mem_append_right _ h)))
  have K10 := hts (.fieldLink RX2 10 "PromiseHours" "house" "LPromiseHours$House;") (by decide +kernel)
  refine lv_iload_n hx hb dX2_thing_0 rfl (lv_at hl 1 rfl) ?_
  refine ci_S F hE (k_X2_isThing l E y) (va_cwS 1 hts gX2_thing_X2_isThing rfl rfl rfl (by decide +kernel) ⟨Nat.le_of_ble_eq_true rfl, Nat.le_of_ble_eq_true rfl⟩) Fr.nil hP hD hS hA rfl hl.1 rfl (Nat.le_of_ble_eq_true rfl) dX2_thing_1 ⟨Nat.zero_le _, Nat.zero_le _⟩ (fun H locs hP hD hS => ?_)
  refine lv_if_ne (tgt := 9) hx hb dX2_thing_4 (by decide) (fun c_1 => ?_) (fun c_1 => ?_)
  · obtain ⟨b_y, e_y⟩ := th_ix c_1
    refine lv_iload_n hx hb dX2_thing_9 rfl (lv_at hl 2 rfl) ?_
    by_cases c_2 : k = 0
    · refine lv_tableIn (off := 42) (tgt := 52) hx hb dX2_thing_10 (by rw [c_2]; decide) (by rw [c_2]; decide) (by rw [c_2]; decide) (by decide) ?_
      refine lv_aload_n hx hb dX2_thing_52 rfl (lv_at hl 0 rfl) ?_
      refine va_get (D := E.1) (ci := 2) (v := .ref (a 0)) (C := RX2) (T := TX2) (N := 3) hx hb hts in2 hown hE.1 hP (38 + 0) (ap_h rfl) rfl 0 (by decide) K10 (fun _ h9 => h9) rfl dX2_thing_53 ?_
      refine va_getN (D := E.1) (ci := 0) (v := .ref (a 3)) (C := RX0) (T := TX0) (N := 17) hx hb hts in0 hown hE.1 hP 0 (ap_l (hs_lo 0 (by decide) rfl)) rfl 3 (by decide) (ev_use hE nk_X2_87 rfl) (fun _ h9 => h9) rfl dX2_thing_56 ?_
      refine lv_iload_n hx hb dX2_thing_59 rfl (lv_at hl 1 rfl) ?_
      refine tpe e_y ?_
      refine q_iald hx hb hE hP 3 (ap_l (hs_lo 3 (by decide) rfl)) (j := (ix y)) (v := (g (5 + (ix y)))) rfl (by omega) (by decide) ((seg_at (by omega)).trans rfl) dX2_thing_60 ?_
      exact hret _ _ _ _ _ hP hD hS (by unfold f_X2_thing; exact ((if_neg c_1).trans (if_pos c_2)).symm) dX2_thing_61
    · have nc_2 : k.toInt ≠ 0 := fun h => c_2 (Int32.toInt_inj.mp h)
      by_cases c_3 : k = 1
      · refine lv_tableIn (off := 52) (tgt := 62) hx hb dX2_thing_10 (by rw [c_3]; decide) (by rw [c_3]; decide) (by rw [c_3]; decide) (by decide) ?_
        refine lv_aload_n hx hb dX2_thing_62 rfl (lv_at hl 0 rfl) ?_
        refine va_get (D := E.1) (ci := 2) (v := .ref (a 0)) (C := RX2) (T := TX2) (N := 3) hx hb hts in2 hown hE.1 hP (38 + 0) (ap_h rfl) rfl 0 (by decide) K10 (fun _ h9 => h9) rfl dX2_thing_63 ?_
        refine lv_iload_n hx hb dX2_thing_66 rfl (lv_at hl 1 rfl) ?_
        refine tpe e_y ?_
        refine ci_VN F hE (k_X0_isWaiting l E a g (ix y) (by omega)) ⟨va_cnB 1 hts gX2_thing_X0_isWaiting_n65 rfl rfl rfl (ev_link hE nk_X2_65 rfl) (hts (.initialized RX0) (by decide +kernel)) (by decide +kernel) ⟨Nat.le_of_ble_eq_true rfl, Nat.le_of_ble_eq_true rfl⟩, hts (.instanceMethod yX0_isWaiting) (by decide +kernel), hts (.selects RX0 yX0_isWaiting yX0_isWaiting) (by decide +kernel)⟩ Fr.pre 0 0 (hs_lo 0 (by decide) rfl) rfl rfl hP hD hS hA rfl hl.1 rfl (Nat.le_of_ble_eq_true rfl) dX2_thing_67 ⟨Nat.zero_le _, Nat.zero_le _⟩ (fun H locs hP hD hS => ?_)
        refine ci_S F hE (k_X2_bit l E (f_X0_isWaiting g (ix y))) (va_cwS 1 hts gX2_thing_X2_bit rfl rfl rfl (by decide +kernel) ⟨Nat.le_of_ble_eq_true rfl, Nat.le_of_ble_eq_true rfl⟩) Fr.nil hP hD hS hA rfl hl.1 rfl (Nat.le_of_ble_eq_true rfl) dX2_thing_70 ⟨Nat.zero_le _, Nat.zero_le _⟩ (fun H locs hP hD hS => ?_)
        exact hret _ _ _ _ _ hP hD hS (by unfold f_X2_thing; exact ((if_neg c_1).trans ((if_neg c_2).trans (if_pos c_3))).symm) dX2_thing_73
      · have nc_3 : k.toInt ≠ 1 := fun h => c_3 (Int32.toInt_inj.mp h)
        by_cases c_4 : k = 2
        · refine lv_tableIn (off := 64) (tgt := 74) hx hb dX2_thing_10 (by rw [c_4]; decide) (by rw [c_4]; decide) (by rw [c_4]; decide) (by decide) ?_
          refine lv_aload_n hx hb dX2_thing_74 rfl (lv_at hl 0 rfl) ?_
          refine va_get (D := E.1) (ci := 2) (v := .ref (a 0)) (C := RX2) (T := TX2) (N := 3) hx hb hts in2 hown hE.1 hP (38 + 0) (ap_h rfl) rfl 0 (by decide) K10 (fun _ h9 => h9) rfl dX2_thing_75 ?_
          refine va_getN (D := E.1) (ci := 0) (v := .ref (a 4)) (C := RX0) (T := TX0) (N := 17) hx hb hts in0 hown hE.1 hP 0 (ap_l (hs_lo 0 (by decide) rfl)) rfl 4 (by decide) (ev_use hE nk_X2_94 rfl) (fun _ h9 => h9) rfl dX2_thing_78 ?_
          refine lv_iload_n hx hb dX2_thing_81 rfl (lv_at hl 1 rfl) ?_
          refine tpe e_y ?_
          refine q_iald hx hb hE hP 4 (ap_l (hs_lo 4 (by decide) rfl)) (j := (ix y)) (v := (g (17 + (ix y)))) rfl (by omega) (by decide) ((seg_at (by omega)).trans rfl) dX2_thing_82 ?_
          exact hret _ _ _ _ _ hP hD hS (by unfold f_X2_thing; exact ((if_neg c_1).trans ((if_neg c_2).trans ((if_neg c_3).trans (if_pos c_4)))).symm) dX2_thing_83
        · have nc_4 : k.toInt ≠ 2 := fun h => c_4 (Int32.toInt_inj.mp h)
          by_cases c_5 : k = 3
          · refine lv_tableIn (off := 74) (tgt := 84) hx hb dX2_thing_10 (by rw [c_5]; decide) (by rw [c_5]; decide) (by rw [c_5]; decide) (by decide) ?_
            refine lv_aload_n hx hb dX2_thing_84 rfl (lv_at hl 0 rfl) ?_
            refine va_get (D := E.1) (ci := 2) (v := .ref (a 0)) (C := RX2) (T := TX2) (N := 3) hx hb hts in2 hown hE.1 hP (38 + 0) (ap_h rfl) rfl 0 (by decide) K10 (fun _ h9 => h9) rfl dX2_thing_85 ?_
            refine lv_iload_n hx hb dX2_thing_88 rfl (lv_at hl 1 rfl) ?_
            refine tpe e_y ?_
            refine ci_VN F hE (k_X0_isWaiting l E a g (ix y) (by omega)) ⟨va_cnB 1 hts gX2_thing_X0_isWaiting_n65 rfl rfl rfl (ev_link hE nk_X2_65 rfl) (hts (.initialized RX0) (by decide +kernel)) (by decide +kernel) ⟨Nat.le_of_ble_eq_true rfl, Nat.le_of_ble_eq_true rfl⟩, hts (.instanceMethod yX0_isWaiting) (by decide +kernel), hts (.selects RX0 yX0_isWaiting yX0_isWaiting) (by decide +kernel)⟩ Fr.pre 0 0 (hs_lo 0 (by decide) rfl) rfl rfl hP hD hS hA rfl hl.1 rfl (Nat.le_of_ble_eq_true rfl) dX2_thing_89 ⟨Nat.zero_le _, Nat.zero_le _⟩ (fun H locs hP hD hS => ?_)
            have J_108_6 : ∀ (w : Int32) (H : Heap) (locs : List Loc), va_P E.1 vwCl (hs E a g ++ (phc E a o bA cA kp ++ rs)) H → va_D A (hs E a g ++ (phc E a o bA cA kp ++ rs)) → va_S A s.heap H locs → w = (if (f_X0_isWaiting g (ix y)) = 0 then (-6) else (q_X0_dueOf_9 g (ix y) ((g 0) + 1) 5) : Int32) → W p l e { frames := 4, cells := 0, slots := 0, locals := 86 } s m args below meth c H locs 0 0 Q (F0 m 108 ls [.int w]) := by
              intro w H locs hP hD hS ew
              rw [ew]
              exact hret _ _ _ _ _ hP hD hS (by unfold f_X2_thing; exact ((if_neg c_1).trans ((if_neg c_2).trans ((if_neg c_3).trans ((if_neg c_4).trans (if_pos c_5))))).symm) dX2_thing_108
            refine lv_if_eq (tgt := 106) hx hb dX2_thing_92 (by decide) (fun c_7 => ?_) (fun c_7 => ?_)
            · refine lv_bipush (v := -6) hx hb dX2_thing_106 (by decide) ?_
              exact J_108_6 _ _ _ hP hD hS (if_pos c_7).symm
            · refine lv_aload_n hx hb dX2_thing_95 rfl (lv_at hl 0 rfl) ?_
              refine va_get (D := E.1) (ci := 2) (v := .ref (a 0)) (C := RX2) (T := TX2) (N := 3) hx hb hts in2 hown hE.1 hP (38 + 0) (ap_h rfl) rfl 0 (by decide) K10 (fun _ h9 => h9) rfl dX2_thing_96 ?_
              refine lv_iload_n hx hb dX2_thing_99 rfl (lv_at hl 1 rfl) ?_
              refine tpe e_y ?_
              refine ci_VN F hE (k_X0_dueOf l E a g (ix y) (by omega)) ⟨va_cnB 1 hts gX2_thing_X0_dueOf_n97 rfl rfl rfl (ev_link hE nk_X2_97 rfl) (hts (.initialized RX0) (by decide +kernel)) (by decide +kernel) ⟨Nat.le_of_ble_eq_true rfl, Nat.le_of_ble_eq_true rfl⟩, hts (.instanceMethod yX0_dueOf) (by decide +kernel), hts (.selects RX0 yX0_dueOf yX0_dueOf) (by decide +kernel)⟩ Fr.pre 0 0 (hs_lo 0 (by decide) rfl) rfl rfl hP hD hS hA rfl hl.1 rfl (Nat.le_of_ble_eq_true rfl) dX2_thing_100 ⟨Nat.zero_le _, Nat.zero_le _⟩ (fun H locs hP hD hS => ?_)
              refine lv_goto (tgt := 108) hx hb dX2_thing_103 (by decide) ?_
              exact J_108_6 _ _ _ hP hD hS (if_neg c_7).symm
          · have nc_5 : k.toInt ≠ 3 := fun h => c_5 (Int32.toInt_inj.mp h)
            by_cases c_8 : k = 4
            · refine lv_tableIn (off := 99) (tgt := 109) hx hb dX2_thing_10 (by rw [c_8]; decide) (by rw [c_8]; decide) (by rw [c_8]; decide) (by decide) ?_
              refine lv_aload_n hx hb dX2_thing_109 rfl (lv_at hl 0 rfl) ?_
              refine va_get (D := E.1) (ci := 2) (v := .ref (a 0)) (C := RX2) (T := TX2) (N := 3) hx hb hts in2 hown hE.1 hP (38 + 0) (ap_h rfl) rfl 0 (by decide) K10 (fun _ h9 => h9) rfl dX2_thing_110 ?_
              refine lv_iload_n hx hb dX2_thing_113 rfl (lv_at hl 1 rfl) ?_
              refine tpe e_y ?_
              refine ci_VN F hE (k_X0_holdersOf l E a g (ix y) (by omega)) ⟨va_cnB 1 hts gX2_thing_X0_holdersOf_n101 rfl rfl rfl (ev_link hE nk_X2_101 rfl) (hts (.initialized RX0) (by decide +kernel)) (by decide +kernel) ⟨Nat.le_of_ble_eq_true rfl, Nat.le_of_ble_eq_true rfl⟩, hts (.instanceMethod yX0_holdersOf) (by decide +kernel), hts (.selects RX0 yX0_holdersOf yX0_holdersOf) (by decide +kernel)⟩ Fr.pre 0 0 (hs_lo 0 (by decide) rfl) rfl rfl hP hD hS hA rfl hl.1 rfl (Nat.le_of_ble_eq_true rfl) dX2_thing_114 ⟨Nat.zero_le _, Nat.zero_le _⟩ (fun H locs hP hD hS => ?_)
              exact hret _ _ _ _ _ hP hD hS (by unfold f_X2_thing; exact ((if_neg c_1).trans ((if_neg c_2).trans ((if_neg c_3).trans ((if_neg c_4).trans ((if_neg c_5).trans (if_pos c_8)))))).symm) dX2_thing_117
            · have nc_8 : k.toInt ≠ 4 := fun h => c_8 (Int32.toInt_inj.mp h)
              by_cases c_9 : k = 5
              · refine lv_tableIn (off := 108) (tgt := 118) hx hb dX2_thing_10 (by rw [c_9]; decide) (by rw [c_9]; decide) (by rw [c_9]; decide) (by decide) ?_
                refine lv_aload_n hx hb dX2_thing_118 rfl (lv_at hl 0 rfl) ?_
                refine va_get (D := E.1) (ci := 2) (v := .ref (a 0)) (C := RX2) (T := TX2) (N := 3) hx hb hts in2 hown hE.1 hP (38 + 0) (ap_h rfl) rfl 0 (by decide) K10 (fun _ h9 => h9) rfl dX2_thing_119 ?_
                refine lv_iload_n hx hb dX2_thing_122 rfl (lv_at hl 1 rfl) ?_
                refine tpe e_y ?_
                refine ci_VN F hE (k_X0_readersWithCopy l E a g (ix y) (by omega)) ⟨va_cnB 1 hts gX2_thing_X0_readersWithCopy_n104 rfl rfl rfl (ev_link hE nk_X2_104 rfl) (hts (.initialized RX0) (by decide +kernel)) (by decide +kernel) ⟨Nat.le_of_ble_eq_true rfl, Nat.le_of_ble_eq_true rfl⟩, hts (.instanceMethod yX0_readersWithCopy) (by decide +kernel), hts (.selects RX0 yX0_readersWithCopy yX0_readersWithCopy) (by decide +kernel)⟩ Fr.pre 0 0 (hs_lo 0 (by decide) rfl) rfl rfl hP hD hS hA rfl hl.1 rfl (Nat.le_of_ble_eq_true rfl) dX2_thing_123 ⟨Nat.zero_le _, Nat.zero_le _⟩ (fun H locs hP hD hS => ?_)
                exact hret _ _ _ _ _ hP hD hS (by unfold f_X2_thing; exact ((if_neg c_1).trans ((if_neg c_2).trans ((if_neg c_3).trans ((if_neg c_4).trans ((if_neg c_5).trans ((if_neg c_8).trans (if_pos c_9))))))).symm) dX2_thing_126
              · have nc_9 : k.toInt ≠ 5 := fun h => c_9 (Int32.toInt_inj.mp h)
                by_cases c_10 : k = 6
                · refine lv_tableIn (off := 117) (tgt := 127) hx hb dX2_thing_10 (by rw [c_10]; decide) (by rw [c_10]; decide) (by rw [c_10]; decide) (by decide) ?_
                  refine lv_aload_n hx hb dX2_thing_127 rfl (lv_at hl 0 rfl) ?_
                  refine va_get (D := E.1) (ci := 2) (v := .ref (a 0)) (C := RX2) (T := TX2) (N := 3) hx hb hts in2 hown hE.1 hP (38 + 0) (ap_h rfl) rfl 0 (by decide) K10 (fun _ h9 => h9) rfl dX2_thing_128 ?_
                  refine lv_iload_n hx hb dX2_thing_131 rfl (lv_at hl 1 rfl) ?_
                  refine tpe e_y ?_
                  refine ci_VN F hE (k_X0_readersWithUse l E a g (ix y) (by omega)) ⟨va_cnB 1 hts gX2_thing_X0_readersWithUse_n107 rfl rfl rfl (ev_link hE nk_X2_107 rfl) (hts (.initialized RX0) (by decide +kernel)) (by decide +kernel) ⟨Nat.le_of_ble_eq_true rfl, Nat.le_of_ble_eq_true rfl⟩, hts (.instanceMethod yX0_readersWithUse) (by decide +kernel), hts (.selects RX0 yX0_readersWithUse yX0_readersWithUse) (by decide +kernel)⟩ Fr.pre 0 0 (hs_lo 0 (by decide) rfl) rfl rfl hP hD hS hA rfl hl.1 rfl (Nat.le_of_ble_eq_true rfl) dX2_thing_132 ⟨Nat.zero_le _, Nat.zero_le _⟩ (fun H locs hP hD hS => ?_)
                  exact hret _ _ _ _ _ hP hD hS (by unfold f_X2_thing; exact ((if_neg c_1).trans ((if_neg c_2).trans ((if_neg c_3).trans ((if_neg c_4).trans ((if_neg c_5).trans ((if_neg c_8).trans ((if_neg c_9).trans (if_pos c_10)))))))).symm) dX2_thing_135
                · have nc_10 : k.toInt ≠ 6 := fun h => c_10 (Int32.toInt_inj.mp h)
                  refine lv_tableOut (tgt := 136) hx hb dX2_thing_10 (by omega) (by decide) ?_
                  refine lv_bipush (v := -2) hx hb dX2_thing_136 (by decide) ?_
                  exact hret _ _ _ _ _ hP hD hS (by unfold f_X2_thing; exact ((if_neg c_1).trans ((if_neg c_2).trans ((if_neg c_3).trans ((if_neg c_4).trans ((if_neg c_5).trans ((if_neg c_8).trans ((if_neg c_9).trans (if_neg c_10)))))))).symm) dX2_thing_138
  · refine lv_iconst (v := -1) hx hb dX2_thing_7 (by decide) ?_
    exact hret _ _ _ _ _ hP hD hS (by unfold f_X2_thing; exact (if_pos c_1).symm) dX2_thing_8
def f_X2_copy (g : Nat → Int32) (x : Int32) (y : Int32) (k : Int32) : Int32 := (if (f_X2_isReader x) = 0 then (-1) else (if (f_X2_isThing y) = 0 then (-1) else (if k = 0 then (g (82 + 12 * (ix x) + (ix y))) else (if k = 1 then (g (142 + 12 * (ix x) + (ix y))) else (if k = 2 then (g (202 + 12 * (ix x) + (ix y))) else (if k = 3 then (f_X2_bit (f_X0_canUse g (ix x) (ix y))) else (-2)))))))
set_option maxHeartbeats 4000000 in
set_option maxRecDepth 100000 in
theorem k_X2_copy (l : Launch) (E : EE) (a o : Nat → Nat) (bA cA : Nat) (g : Nat → Int32) (kp : Int32) (rs : va_W) (x : Int32) (y : Int32) (k : Int32)  : Ci l E yX2_copy wsX2_copy { frames := 3, cells := 0, slots := 0, locals := 63 } [.ref (o 0), .int x, .int y, .int k] (hs E a g ++ (phc E a o bA cA kp ++ rs)) (f_X2_copy g x y k) (hs E a g ++ (phc E a o bA cA kp ++ rs)) := by
  refine Ci.of (cc := cX2_copy) (maxL := 5) (rt := .int) (by decide) rfl rfl (Nat.le_of_ble_eq_true rfl) ?_
  intro p e s m args below meth c A Q F hE hA hret hP hD ls hl
  obtain ⟨hx, hb, hml, hown, hts⟩ := id F
  have hS : va_S A s.heap s.heap [] := va_S.rf
  have hl : lv_has ls 5 [(0, .ref (o 0)), (1, .int x), (2, .int y), (3, .int k)] := hl
  have in0 : ∀ w ∈ wsX00, w ∈ wsX2_copy := fun w h => List.mem_cons_of_mem _ (List.mem_append_left _ (List.mem_append_right _ h))
  have in1 : ∀ w ∈ wsX10, w ∈ wsX2_copy := fun w h => List.mem_cons_of_mem _ (List.mem_append_right _ h)
  have in2 : ∀ w ∈ wsX20, w ∈ wsX2_copy := fun w h => List.mem_cons_of_mem _ (List.mem_append_left _ (List.mem_append_left _ (List.mem_append_right _ h)))
  have K10 := hts (.fieldLink RX2 10 "PromiseHours" "house" "LPromiseHours$House;") (by decide +kernel)
  refine lv_iload_n hx hb dX2_copy_0 rfl (lv_at hl 1 rfl) ?_
  refine ci_S F hE (k_X2_isReader l E x) (va_cwS 1 hts gX2_copy_X2_isReader rfl rfl rfl (by decide +kernel) ⟨Nat.le_of_ble_eq_true rfl, Nat.le_of_ble_eq_true rfl⟩) Fr.nil hP hD hS hA rfl hl.1 rfl (Nat.le_of_ble_eq_true rfl) dX2_copy_1 ⟨Nat.zero_le _, Nat.zero_le _⟩ (fun H locs hP hD hS => ?_)
  refine lv_if_eq (tgt := 14) hx hb dX2_copy_4 (by decide) (fun c_1 => ?_) (fun c_1 => ?_)
  · refine lv_iconst (v := -1) hx hb dX2_copy_14 (by decide) ?_
    exact hret _ _ _ _ _ hP hD hS (by unfold f_X2_copy; exact (if_pos c_1).symm) dX2_copy_15
  · obtain ⟨b_x, e_x⟩ := rd_ix c_1
    refine lv_iload_n hx hb dX2_copy_7 rfl (lv_at hl 2 rfl) ?_
    refine ci_S F hE (k_X2_isThing l E y) (va_cwS 1 hts gX2_copy_X2_isThing rfl rfl rfl (by decide +kernel) ⟨Nat.le_of_ble_eq_true rfl, Nat.le_of_ble_eq_true rfl⟩) Fr.nil hP hD hS hA rfl hl.1 rfl (Nat.le_of_ble_eq_true rfl) dX2_copy_8 ⟨Nat.zero_le _, Nat.zero_le _⟩ (fun H locs hP hD hS => ?_)
    refine lv_if_ne (tgt := 16) hx hb dX2_copy_11 (by decide) (fun c_2 => ?_) (fun c_2 => ?_)
    · obtain ⟨b_y, e_y⟩ := th_ix c_2
      refine lv_aload_n hx hb dX2_copy_16 rfl (lv_at hl 0 rfl) ?_
      refine va_get (D := E.1) (ci := 2) (v := .ref (a 0)) (C := RX2) (T := TX2) (N := 3) hx hb hts in2 hown hE.1 hP (38 + 0) (ap_h rfl) rfl 0 (by decide) K10 (fun _ h9 => h9) rfl dX2_copy_17 ?_
      refine va_getN (D := E.1) (ci := 0) (v := .ref (a 2)) (C := RX0) (T := TX0) (N := 17) hx hb hts in0 hown hE.1 hP 0 (ap_l (hs_lo 0 (by decide) rfl)) rfl 2 (by decide) (ev_use hE nk_X2_38 rfl) (fun _ h9 => h9) rfl dX2_copy_20 ?_
      refine lv_iload_n hx hb dX2_copy_23 rfl (lv_at hl 1 rfl) ?_
      refine tpe e_x ?_
      refine q_aald hx hb hE hP 2 1 (ap_l (hs_lo 2 (by decide) rfl)) rfl (j := (ix x)) rfl (by omega) (by decide) rfl dX2_copy_24 ?_
      refine lv_astore (lv' := [(4, .ref (a (8 + 6 * (ix x)))), (0, .ref (o 0)), (1, .int x), (2, .int y), (3, .int k)]) hx hb dX2_copy_25 hl (by decide) rfl (fun ls hl => ?_)
      refine lv_iload_n hx hb dX2_copy_27 rfl (lv_at hl 4 rfl) ?_
      by_cases c_3 : k = 0
      · refine lv_tableIn (off := 32) (tgt := 60) hx hb dX2_copy_28 (by rw [c_3]; decide) (by rw [c_3]; decide) (by rw [c_3]; decide) (by decide) ?_
        refine lv_aload hx hb dX2_copy_60 (lv_at hl 0 rfl) ?_
        refine va_getN (D := E.1) (ci := 1) (v := .ref (a (8 + 6 * (ix x) + 1))) (C := RX1) (T := TX1) (N := 13) hx hb hts in1 hown hE.1 hP (8 + 6 * (ix x)) (ap_l (hs_hi0 (by omega))) rfl 2 (by decide) (ev_use hE nk_X2_110 rfl) (fun _ h9 => h9) rfl dX2_copy_62 ?_
        refine lv_iload_n hx hb dX2_copy_65 rfl (lv_at hl 3 rfl) ?_
        refine tpe e_y ?_
        refine q_iald hx hb hE hP (8 + 6 * (ix x) + 1) (ap_l (hs_hi 1 (by omega) (by decide) rfl)) (j := (ix y)) (v := (g (82 + 12 * (ix x) + (ix y)))) rfl (by omega) (by decide) ((seg_at (by omega)).trans rfl) dX2_copy_66 ?_
        exact hret _ _ _ _ _ hP hD hS (by unfold f_X2_copy; exact ((if_neg c_1).trans ((if_neg c_2).trans (if_pos c_3))).symm) dX2_copy_67
      · have nc_3 : k.toInt ≠ 0 := fun h => c_3 (Int32.toInt_inj.mp h)
        by_cases c_4 : k = 1
        · refine lv_tableIn (off := 40) (tgt := 68) hx hb dX2_copy_28 (by rw [c_4]; decide) (by rw [c_4]; decide) (by rw [c_4]; decide) (by decide) ?_
          refine lv_aload hx hb dX2_copy_68 (lv_at hl 0 rfl) ?_
          refine va_getN (D := E.1) (ci := 1) (v := .ref (a (8 + 6 * (ix x) + 2))) (C := RX1) (T := TX1) (N := 13) hx hb hts in1 hown hE.1 hP (8 + 6 * (ix x)) (ap_l (hs_hi0 (by omega))) rfl 3 (by decide) (ev_use hE nk_X2_113 rfl) (fun _ h9 => h9) rfl dX2_copy_70 ?_
          refine lv_iload_n hx hb dX2_copy_73 rfl (lv_at hl 3 rfl) ?_
          refine tpe e_y ?_
          refine q_iald hx hb hE hP (8 + 6 * (ix x) + 2) (ap_l (hs_hi 2 (by omega) (by decide) rfl)) (j := (ix y)) (v := (g (142 + 12 * (ix x) + (ix y)))) rfl (by omega) (by decide) ((seg_at (by omega)).trans rfl) dX2_copy_74 ?_
          exact hret _ _ _ _ _ hP hD hS (by unfold f_X2_copy; exact ((if_neg c_1).trans ((if_neg c_2).trans ((if_neg c_3).trans (if_pos c_4)))).symm) dX2_copy_75
        · have nc_4 : k.toInt ≠ 1 := fun h => c_4 (Int32.toInt_inj.mp h)
          by_cases c_5 : k = 2
          · refine lv_tableIn (off := 48) (tgt := 76) hx hb dX2_copy_28 (by rw [c_5]; decide) (by rw [c_5]; decide) (by rw [c_5]; decide) (by decide) ?_
            refine lv_aload hx hb dX2_copy_76 (lv_at hl 0 rfl) ?_
            refine va_getN (D := E.1) (ci := 1) (v := .ref (a (8 + 6 * (ix x) + 3))) (C := RX1) (T := TX1) (N := 13) hx hb hts in1 hown hE.1 hP (8 + 6 * (ix x)) (ap_l (hs_hi0 (by omega))) rfl 4 (by decide) (ev_use hE nk_X2_116 rfl) (fun _ h9 => h9) rfl dX2_copy_78 ?_
            refine lv_iload_n hx hb dX2_copy_81 rfl (lv_at hl 3 rfl) ?_
            refine tpe e_y ?_
            refine q_iald hx hb hE hP (8 + 6 * (ix x) + 3) (ap_l (hs_hi 3 (by omega) (by decide) rfl)) (j := (ix y)) (v := (g (202 + 12 * (ix x) + (ix y)))) rfl (by omega) (by decide) ((seg_at (by omega)).trans rfl) dX2_copy_82 ?_
            exact hret _ _ _ _ _ hP hD hS (by unfold f_X2_copy; exact ((if_neg c_1).trans ((if_neg c_2).trans ((if_neg c_3).trans ((if_neg c_4).trans (if_pos c_5))))).symm) dX2_copy_83
          · have nc_5 : k.toInt ≠ 2 := fun h => c_5 (Int32.toInt_inj.mp h)
            by_cases c_6 : k = 3
            · refine lv_tableIn (off := 56) (tgt := 84) hx hb dX2_copy_28 (by rw [c_6]; decide) (by rw [c_6]; decide) (by rw [c_6]; decide) (by decide) ?_
              refine lv_aload_n hx hb dX2_copy_84 rfl (lv_at hl 1 rfl) ?_
              refine va_get (D := E.1) (ci := 2) (v := .ref (a 0)) (C := RX2) (T := TX2) (N := 3) hx hb hts in2 hown hE.1 hP (38 + 0) (ap_h rfl) rfl 0 (by decide) K10 (fun _ h9 => h9) rfl dX2_copy_85 ?_
              refine lv_aload hx hb dX2_copy_88 (lv_at hl 0 rfl) ?_
              refine lv_iload_n hx hb dX2_copy_90 rfl (lv_at hl 3 rfl) ?_
              refine tpe e_y ?_
              refine ci_VN F hE (k_X0_canUse l E a g (ix x) (ix y) (by omega) (by omega)) ⟨va_cnB 2 hts gX2_copy_X0_canUse_n119 rfl rfl rfl (ev_link hE nk_X2_119 rfl) (hts (.initialized RX0) (by decide +kernel)) (by decide +kernel) ⟨Nat.le_of_ble_eq_true rfl, Nat.le_of_ble_eq_true rfl⟩, hts (.instanceMethod yX0_canUse) (by decide +kernel), hts (.selects RX0 yX0_canUse yX0_canUse) (by decide +kernel)⟩ Fr.pre 0 0 (hs_lo 0 (by decide) rfl) rfl rfl hP hD hS hA rfl hl.1 rfl (Nat.le_of_ble_eq_true rfl) dX2_copy_91 ⟨Nat.zero_le _, Nat.zero_le _⟩ (fun H locs hP hD hS => ?_)
              refine ci_S F hE (k_X2_bit l E (f_X0_canUse g (ix x) (ix y))) (va_cwS 1 hts gX2_copy_X2_bit rfl rfl rfl (by decide +kernel) ⟨Nat.le_of_ble_eq_true rfl, Nat.le_of_ble_eq_true rfl⟩) Fr.nil hP hD hS hA rfl hl.1 rfl (Nat.le_of_ble_eq_true rfl) dX2_copy_94 ⟨Nat.zero_le _, Nat.zero_le _⟩ (fun H locs hP hD hS => ?_)
              exact hret _ _ _ _ _ hP hD hS (by unfold f_X2_copy; exact ((if_neg c_1).trans ((if_neg c_2).trans ((if_neg c_3).trans ((if_neg c_4).trans ((if_neg c_5).trans (if_pos c_6)))))).symm) dX2_copy_97
            · have nc_6 : k.toInt ≠ 3 := fun h => c_6 (Int32.toInt_inj.mp h)
              refine lv_tableOut (tgt := 98) hx hb dX2_copy_28 (by omega) (by decide) ?_
              refine lv_bipush (v := -2) hx hb dX2_copy_98 (by decide) ?_
              exact hret _ _ _ _ _ hP hD hS (by unfold f_X2_copy; exact ((if_neg c_1).trans ((if_neg c_2).trans ((if_neg c_3).trans ((if_neg c_4).trans ((if_neg c_5).trans (if_neg c_6)))))).symm) dX2_copy_100
    · refine lv_iconst (v := -1) hx hb dX2_copy_14 (by decide) ?_
      exact hret _ _ _ _ _ hP hD hS (by unfold f_X2_copy; exact ((if_neg c_1).trans (if_pos c_2)).symm) dX2_copy_15
def f_X2_volume (g : Nat → Int32) (x : Int32) (y : Int32) (k : Int32) : Int32 := (if (f_X2_isReader x) = 0 then (-1) else (if y < 0 then (-1) else (if y < 3 then (if k = 0 then (g (52 + 3 * (ix x) + (ix y))) else (if k = 1 then (f_X2_bit (f_X0_isOver g (ix x) (g (52 + 3 * (ix x) + (ix y))))) else (if k = 2 then (g (67 + 3 * (ix x) + (ix y))) else (-2)))) else (-1))))
set_option maxHeartbeats 4000000 in
set_option maxRecDepth 100000 in
theorem k_X2_volume (l : Launch) (E : EE) (a o : Nat → Nat) (bA cA : Nat) (g : Nat → Int32) (kp : Int32) (rs : va_W) (x : Int32) (y : Int32) (k : Int32)  : Ci l E yX2_volume wsX2_volume { frames := 1, cells := 0, slots := 0, locals := 22 } [.ref (o 0), .int x, .int y, .int k] (hs E a g ++ (phc E a o bA cA kp ++ rs)) (f_X2_volume g x y k) (hs E a g ++ (phc E a o bA cA kp ++ rs)) := by
  refine Ci.of (cc := cX2_volume) (maxL := 5) (rt := .int) (by decide) rfl rfl (Nat.le_of_ble_eq_true rfl) ?_
  intro p e s m args below meth c A Q F hE hA hret hP hD ls hl
  obtain ⟨hx, hb, hml, hown, hts⟩ := id F
  have hS : va_S A s.heap s.heap [] := va_S.rf
  have hl : lv_has ls 5 [(0, .ref (o 0)), (1, .int x), (2, .int y), (3, .int k)] := hl
  have in0 : ∀ w ∈ wsX00, w ∈ wsX2_volume := fun w h => List.mem_cons_of_mem _ (List.mem_append_left _ (List.mem_append_right _ h))
  have in1 : ∀ w ∈ wsX10, w ∈ wsX2_volume := fun w h => List.mem_cons_of_mem _ (List.mem_append_right _ h)
  have in2 : ∀ w ∈ wsX20, w ∈ wsX2_volume := fun w h => List.mem_cons_of_mem _ (List.mem_append_left _ (List.mem_append_left _ (List.mem_append_right _ h)))
  have K10 := hts (.fieldLink RX2 10 "PromiseHours" "house" "LPromiseHours$House;") (by decide +kernel)
  refine lv_iload_n hx hb dX2_volume_0 rfl (lv_at hl 1 rfl) ?_
  refine ci_S F hE (k_X2_isReader l E x) (va_cwS 1 hts gX2_volume_X2_isReader rfl rfl rfl (by decide +kernel) ⟨Nat.le_of_ble_eq_true rfl, Nat.le_of_ble_eq_true rfl⟩) Fr.nil hP hD hS hA rfl hl.1 rfl (Nat.le_of_ble_eq_true rfl) dX2_volume_1 ⟨Nat.zero_le _, Nat.zero_le _⟩ (fun H locs hP hD hS => ?_)
  refine lv_if_eq (tgt := 16) hx hb dX2_volume_4 (by decide) (fun c_1 => ?_) (fun c_1 => ?_)
  · refine lv_iconst (v := -1) hx hb dX2_volume_16 (by decide) ?_
    exact hret _ _ _ _ _ hP hD hS (by unfold f_X2_volume; exact (if_pos c_1).symm) dX2_volume_17
  · obtain ⟨b_x, e_x⟩ := rd_ix c_1
    refine lv_iload_n hx hb dX2_volume_7 rfl (lv_at hl 2 rfl) ?_
    refine lv_if_lt (tgt := 16) hx hb dX2_volume_8 (by decide) (fun c_2 => ?_) (fun c_2 => ?_)
    · refine lv_iconst (v := -1) hx hb dX2_volume_16 (by decide) ?_
      exact hret _ _ _ _ _ hP hD hS (by unfold f_X2_volume; exact ((if_neg c_1).trans (if_pos c_2)).symm) dX2_volume_17
    · refine lv_iload_n hx hb dX2_volume_11 rfl (lv_at hl 2 rfl) ?_
      refine lv_iconst (v := 3) hx hb dX2_volume_12 (by decide) ?_
      refine lv_icmp_lt (tgt := 18) hx hb dX2_volume_13 (by decide) (fun c_3 => ?_) (fun c_3 => ?_)
      · obtain ⟨b_y, e_y⟩ := v3_ix c_2 c_3
        refine lv_aload_n hx hb dX2_volume_18 rfl (lv_at hl 0 rfl) ?_
        refine va_get (D := E.1) (ci := 2) (v := .ref (a 0)) (C := RX2) (T := TX2) (N := 3) hx hb hts in2 hown hE.1 hP (38 + 0) (ap_h rfl) rfl 0 (by decide) K10 (fun _ h9 => h9) rfl dX2_volume_19 ?_
        refine va_getN (D := E.1) (ci := 0) (v := .ref (a 2)) (C := RX0) (T := TX0) (N := 17) hx hb hts in0 hown hE.1 hP 0 (ap_l (hs_lo 0 (by decide) rfl)) rfl 2 (by decide) (ev_use hE nk_X2_38 rfl) (fun _ h9 => h9) rfl dX2_volume_22 ?_
        refine lv_iload_n hx hb dX2_volume_25 rfl (lv_at hl 1 rfl) ?_
        refine tpe e_x ?_
        refine q_aald hx hb hE hP 2 1 (ap_l (hs_lo 2 (by decide) rfl)) rfl (j := (ix x)) rfl (by omega) (by decide) rfl dX2_volume_26 ?_
        refine lv_astore (lv' := [(4, .ref (a (8 + 6 * (ix x)))), (0, .ref (o 0)), (1, .int x), (2, .int y), (3, .int k)]) hx hb dX2_volume_27 hl (by decide) rfl (fun ls hl => ?_)
        refine lv_iload_n hx hb dX2_volume_29 rfl (lv_at hl 4 rfl) ?_
        by_cases c_4 : k = 0
        · refine lv_tableIn (off := 26) (tgt := 56) hx hb dX2_volume_30 (by rw [c_4]; decide) (by rw [c_4]; decide) (by rw [c_4]; decide) (by decide) ?_
          refine lv_aload hx hb dX2_volume_56 (lv_at hl 0 rfl) ?_
          refine va_getN (D := E.1) (ci := 1) (v := .ref (a (8 + 6 * (ix x) + 4))) (C := RX1) (T := TX1) (N := 13) hx hb hts in1 hown hE.1 hP (8 + 6 * (ix x)) (ap_l (hs_hi0 (by omega))) rfl 5 (by decide) (ev_use hE nk_X2_123 rfl) (fun _ h9 => h9) rfl dX2_volume_58 ?_
          refine lv_iload_n hx hb dX2_volume_61 rfl (lv_at hl 3 rfl) ?_
          refine tpe e_y ?_
          refine q_iald hx hb hE hP (8 + 6 * (ix x) + 4) (ap_l (hs_hi 4 (by omega) (by decide) rfl)) (j := (ix y)) (v := (g (52 + 3 * (ix x) + (ix y)))) rfl (by omega) (by decide) ((seg_at (by omega)).trans rfl) dX2_volume_62 ?_
          exact hret _ _ _ _ _ hP hD hS (by unfold f_X2_volume; exact ((if_neg c_1).trans ((if_neg c_2).trans ((if_pos c_3).trans (if_pos c_4)))).symm) dX2_volume_63
        · have nc_4 : k.toInt ≠ 0 := fun h => c_4 (Int32.toInt_inj.mp h)
          by_cases c_5 : k = 1
          · refine lv_tableIn (off := 34) (tgt := 64) hx hb dX2_volume_30 (by rw [c_5]; decide) (by rw [c_5]; decide) (by rw [c_5]; decide) (by decide) ?_
            refine lv_aload_n hx hb dX2_volume_64 rfl (lv_at hl 1 rfl) ?_
            refine va_get (D := E.1) (ci := 2) (v := .ref (a 0)) (C := RX2) (T := TX2) (N := 3) hx hb hts in2 hown hE.1 hP (38 + 0) (ap_h rfl) rfl 0 (by decide) K10 (fun _ h9 => h9) rfl dX2_volume_65 ?_
            refine lv_aload hx hb dX2_volume_68 (lv_at hl 0 rfl) ?_
            refine lv_aload hx hb dX2_volume_70 (lv_at hl 0 rfl) ?_
            refine va_getN (D := E.1) (ci := 1) (v := .ref (a (8 + 6 * (ix x) + 4))) (C := RX1) (T := TX1) (N := 13) hx hb hts in1 hown hE.1 hP (8 + 6 * (ix x)) (ap_l (hs_hi0 (by omega))) rfl 5 (by decide) (ev_use hE nk_X2_123 rfl) (fun _ h9 => h9) rfl dX2_volume_72 ?_
            refine lv_iload_n hx hb dX2_volume_75 rfl (lv_at hl 3 rfl) ?_
            refine tpe e_y ?_
            refine q_iald hx hb hE hP (8 + 6 * (ix x) + 4) (ap_l (hs_hi 4 (by omega) (by decide) rfl)) (j := (ix y)) (v := (g (52 + 3 * (ix x) + (ix y)))) rfl (by omega) (by decide) ((seg_at (by omega)).trans rfl) dX2_volume_76 ?_
            refine ci_VN F hE (k_X0_isOver l E a g (ix x) (g (52 + 3 * (ix x) + (ix y))) (by omega)) ⟨va_cnB 2 hts gX2_volume_X0_isOver_n126 rfl rfl rfl (ev_link hE nk_X2_126 rfl) (hts (.initialized RX0) (by decide +kernel)) (by decide +kernel) ⟨Nat.le_of_ble_eq_true rfl, Nat.le_of_ble_eq_true rfl⟩, hts (.instanceMethod yX0_isOver) (by decide +kernel), hts (.selects RX0 yX0_isOver yX0_isOver) (by decide +kernel)⟩ Fr.pre 0 0 (hs_lo 0 (by decide) rfl) rfl rfl hP hD hS hA rfl hl.1 rfl (Nat.le_of_ble_eq_true rfl) dX2_volume_77 ⟨Nat.zero_le _, Nat.zero_le _⟩ (fun H locs hP hD hS => ?_)
            refine ci_S F hE (k_X2_bit l E (f_X0_isOver g (ix x) (g (52 + 3 * (ix x) + (ix y))))) (va_cwS 1 hts gX2_volume_X2_bit rfl rfl rfl (by decide +kernel) ⟨Nat.le_of_ble_eq_true rfl, Nat.le_of_ble_eq_true rfl⟩) Fr.nil hP hD hS hA rfl hl.1 rfl (Nat.le_of_ble_eq_true rfl) dX2_volume_80 ⟨Nat.zero_le _, Nat.zero_le _⟩ (fun H locs hP hD hS => ?_)
            exact hret _ _ _ _ _ hP hD hS (by unfold f_X2_volume; exact ((if_neg c_1).trans ((if_neg c_2).trans ((if_pos c_3).trans ((if_neg c_4).trans (if_pos c_5))))).symm) dX2_volume_83
          · have nc_5 : k.toInt ≠ 1 := fun h => c_5 (Int32.toInt_inj.mp h)
            by_cases c_6 : k = 2
            · refine lv_tableIn (off := 54) (tgt := 84) hx hb dX2_volume_30 (by rw [c_6]; decide) (by rw [c_6]; decide) (by rw [c_6]; decide) (by decide) ?_
              refine lv_aload hx hb dX2_volume_84 (lv_at hl 0 rfl) ?_
              refine va_getN (D := E.1) (ci := 1) (v := .ref (a (8 + 6 * (ix x) + 5))) (C := RX1) (T := TX1) (N := 13) hx hb hts in1 hown hE.1 hP (8 + 6 * (ix x)) (ap_l (hs_hi0 (by omega))) rfl 6 (by decide) (ev_use hE nk_X2_129 rfl) (fun _ h9 => h9) rfl dX2_volume_86 ?_
              refine lv_iload_n hx hb dX2_volume_89 rfl (lv_at hl 3 rfl) ?_
              refine tpe e_y ?_
              refine q_iald hx hb hE hP (8 + 6 * (ix x) + 5) (ap_l (hs_hi 5 (by omega) (by decide) rfl)) (j := (ix y)) (v := (g (67 + 3 * (ix x) + (ix y)))) rfl (by omega) (by decide) ((seg_at (by omega)).trans rfl) dX2_volume_90 ?_
              exact hret _ _ _ _ _ hP hD hS (by unfold f_X2_volume; exact ((if_neg c_1).trans ((if_neg c_2).trans ((if_pos c_3).trans ((if_neg c_4).trans ((if_neg c_5).trans (if_pos c_6)))))).symm) dX2_volume_91
            · have nc_6 : k.toInt ≠ 2 := fun h => c_6 (Int32.toInt_inj.mp h)
              refine lv_tableOut (tgt := 92) hx hb dX2_volume_30 (by omega) (by decide) ?_
              refine lv_bipush (v := -2) hx hb dX2_volume_92 (by decide) ?_
              exact hret _ _ _ _ _ hP hD hS (by unfold f_X2_volume; exact ((if_neg c_1).trans ((if_neg c_2).trans ((if_pos c_3).trans ((if_neg c_4).trans ((if_neg c_5).trans (if_neg c_6)))))).symm) dX2_volume_94
      · refine lv_iconst (v := -1) hx hb dX2_volume_16 (by decide) ?_
        exact hret _ _ _ _ _ hP hD hS (by unfold f_X2_volume; exact ((if_neg c_1).trans ((if_neg c_2).trans (if_neg c_3))).symm) dX2_volume_17
def f_X2_reader (g : Nat → Int32) (x : Int32) (k : Int32) : Int32 := (if (f_X2_isReader x) = 0 then (-1) else (if k = 0 then (f_X2_bit (g (42 + (ix x)))) else (if k = 1 then ((g (47 + (ix x))) + 100) else (if k = 2 then (g (262 + 6 * (ix x) + 0)) else (if k = 3 then (g (262 + 6 * (ix x) + 1)) else (if k = 4 then (g (262 + 6 * (ix x) + 2)) else (if k = 5 then (g (262 + 6 * (ix x) + 3)) else (if k = 6 then (g (262 + 6 * (ix x) + 4)) else (if k = 7 then (g (262 + 6 * (ix x) + 5)) else (-2))))))))))
set_option maxHeartbeats 4000000 in
set_option maxRecDepth 100000 in
theorem k_X2_reader (l : Launch) (E : EE) (a o : Nat → Nat) (bA cA : Nat) (g : Nat → Int32) (kp : Int32) (rs : va_W) (x : Int32) (k : Int32)  : Ci l E yX2_reader wsX2_reader { frames := 1, cells := 0, slots := 0, locals := 20 } [.ref (o 0), .int x, .int k] (hs E a g ++ (phc E a o bA cA kp ++ rs)) (f_X2_reader g x k) (hs E a g ++ (phc E a o bA cA kp ++ rs)) := by
  refine Ci.of (cc := cX2_reader) (maxL := 4) (rt := .int) (by decide) rfl rfl (Nat.le_of_ble_eq_true rfl) ?_
  intro p e s m args below meth c A Q F hE hA hret hP hD ls hl
  obtain ⟨hx, hb, hml, hown, hts⟩ := id F
  have hS : va_S A s.heap s.heap [] := va_S.rf
  have hl : lv_has ls 4 [(0, .ref (o 0)), (1, .int x), (2, .int k)] := hl
  have in0 : ∀ w ∈ wsX00, w ∈ wsX2_reader := fun w h => List.mem_cons_of_mem _ (List.mem_append_left _ (List.mem_append_right _ h))
  have in1 : ∀ w ∈ wsX10, w ∈ wsX2_reader := fun w h => List.mem_cons_of_mem _ (List.mem_append_right _ h)
  have in2 : ∀ w ∈ wsX20, w ∈ wsX2_reader := fun w h => List.mem_cons_of_mem _ (List.mem_append_left _ (List.mem_append_left _ (List.mem_append_right _ h)))
  have K10 := hts (.fieldLink RX2 10 "PromiseHours" "house" "LPromiseHours$House;") (by decide +kernel)
  refine lv_iload_n hx hb dX2_reader_0 rfl (lv_at hl 1 rfl) ?_
  refine ci_S F hE (k_X2_isReader l E x) (va_cwS 1 hts gX2_reader_X2_isReader rfl rfl rfl (by decide +kernel) ⟨Nat.le_of_ble_eq_true rfl, Nat.le_of_ble_eq_true rfl⟩) Fr.nil hP hD hS hA rfl hl.1 rfl (Nat.le_of_ble_eq_true rfl) dX2_reader_1 ⟨Nat.zero_le _, Nat.zero_le _⟩ (fun H locs hP hD hS => ?_)
  refine lv_if_ne (tgt := 9) hx hb dX2_reader_4 (by decide) (fun c_1 => ?_) (fun c_1 => ?_)
  · obtain ⟨b_x, e_x⟩ := rd_ix c_1
    refine lv_aload_n hx hb dX2_reader_9 rfl (lv_at hl 0 rfl) ?_
    refine va_get (D := E.1) (ci := 2) (v := .ref (a 0)) (C := RX2) (T := TX2) (N := 3) hx hb hts in2 hown hE.1 hP (38 + 0) (ap_h rfl) rfl 0 (by decide) K10 (fun _ h9 => h9) rfl dX2_reader_10 ?_
    refine va_getN (D := E.1) (ci := 0) (v := .ref (a 2)) (C := RX0) (T := TX0) (N := 17) hx hb hts in0 hown hE.1 hP 0 (ap_l (hs_lo 0 (by decide) rfl)) rfl 2 (by decide) (ev_use hE nk_X2_38 rfl) (fun _ h9 => h9) rfl dX2_reader_13 ?_
    refine lv_iload_n hx hb dX2_reader_16 rfl (lv_at hl 1 rfl) ?_
    refine tpe e_x ?_
    refine q_aald hx hb hE hP 2 1 (ap_l (hs_lo 2 (by decide) rfl)) rfl (j := (ix x)) rfl (by omega) (by decide) rfl dX2_reader_17 ?_
    refine lv_astore_n (lv' := [(3, .ref (a (8 + 6 * (ix x)))), (0, .ref (o 0)), (1, .int x), (2, .int k)]) hx hb dX2_reader_18 rfl hl (by decide) rfl (fun ls hl => ?_)
    refine lv_iload_n hx hb dX2_reader_19 rfl (lv_at hl 3 rfl) ?_
    by_cases c_2 : k = 0
    · refine lv_tableIn (off := 48) (tgt := 68) hx hb dX2_reader_20 (by rw [c_2]; decide) (by rw [c_2]; decide) (by rw [c_2]; decide) (by decide) ?_
      refine lv_aload_n hx hb dX2_reader_68 rfl (lv_at hl 0 rfl) ?_
      refine va_getN (D := E.1) (ci := 1) (v := .int (g (42 + (ix x)))) (C := RX1) (T := TX1) (N := 13) hx hb hts in1 hown hE.1 hP (8 + 6 * (ix x)) (ap_l (hs_hi0 (by omega))) rfl 0 (by decide) (ev_use hE nk_X2_51 rfl) (fun _ h9 => h9) rfl dX2_reader_69 ?_
      refine ci_S F hE (k_X2_bit l E (g (42 + (ix x)))) (va_cwS 1 hts gX2_reader_X2_bit rfl rfl rfl (by decide +kernel) ⟨Nat.le_of_ble_eq_true rfl, Nat.le_of_ble_eq_true rfl⟩) Fr.nil hP hD hS hA rfl hl.1 rfl (Nat.le_of_ble_eq_true rfl) dX2_reader_72 ⟨Nat.zero_le _, Nat.zero_le _⟩ (fun H locs hP hD hS => ?_)
      exact hret _ _ _ _ _ hP hD hS (by unfold f_X2_reader; exact ((if_neg c_1).trans (if_pos c_2)).symm) dX2_reader_75
    · have nc_2 : k.toInt ≠ 0 := fun h => c_2 (Int32.toInt_inj.mp h)
      by_cases c_3 : k = 1
      · refine lv_tableIn (off := 56) (tgt := 76) hx hb dX2_reader_20 (by rw [c_3]; decide) (by rw [c_3]; decide) (by rw [c_3]; decide) (by decide) ?_
        refine lv_aload_n hx hb dX2_reader_76 rfl (lv_at hl 0 rfl) ?_
        refine va_getN (D := E.1) (ci := 1) (v := .int (g (47 + (ix x)))) (C := RX1) (T := TX1) (N := 13) hx hb hts in1 hown hE.1 hP (8 + 6 * (ix x)) (ap_l (hs_hi0 (by omega))) rfl 1 (by decide) (ev_use hE nk_X2_42 rfl) (fun _ h9 => h9) rfl dX2_reader_77 ?_
        refine lv_bipush (v := 100) hx hb dX2_reader_80 (by decide) ?_
        refine lv_iadd hx hb dX2_reader_82 ?_
        exact hret _ _ _ _ _ hP hD hS (by unfold f_X2_reader; exact ((if_neg c_1).trans ((if_neg c_2).trans (if_pos c_3))).symm) dX2_reader_83
      · have nc_3 : k.toInt ≠ 1 := fun h => c_3 (Int32.toInt_inj.mp h)
        by_cases c_4 : k = 2
        · refine lv_tableIn (off := 64) (tgt := 84) hx hb dX2_reader_20 (by rw [c_4]; decide) (by rw [c_4]; decide) (by rw [c_4]; decide) (by decide) ?_
          refine lv_aload_n hx hb dX2_reader_84 rfl (lv_at hl 0 rfl) ?_
          refine va_getN (D := E.1) (ci := 1) (v := .int (g (262 + 6 * (ix x) + 0))) (C := RX1) (T := TX1) (N := 13) hx hb hts in1 hown hE.1 hP (8 + 6 * (ix x)) (ap_l (hs_hi0 (by omega))) rfl 7 (by decide) (ev_use hE nk_X2_132 rfl) (fun _ h9 => h9) rfl dX2_reader_85 ?_
          exact hret _ _ _ _ _ hP hD hS (by unfold f_X2_reader; exact ((if_neg c_1).trans ((if_neg c_2).trans ((if_neg c_3).trans (if_pos c_4)))).symm) dX2_reader_88
        · have nc_4 : k.toInt ≠ 2 := fun h => c_4 (Int32.toInt_inj.mp h)
          by_cases c_5 : k = 3
          · refine lv_tableIn (off := 69) (tgt := 89) hx hb dX2_reader_20 (by rw [c_5]; decide) (by rw [c_5]; decide) (by rw [c_5]; decide) (by decide) ?_
            refine lv_aload_n hx hb dX2_reader_89 rfl (lv_at hl 0 rfl) ?_
            refine va_getN (D := E.1) (ci := 1) (v := .int (g (262 + 6 * (ix x) + 1))) (C := RX1) (T := TX1) (N := 13) hx hb hts in1 hown hE.1 hP (8 + 6 * (ix x)) (ap_l (hs_hi0 (by omega))) rfl 8 (by decide) (ev_use hE nk_X2_135 rfl) (fun _ h9 => h9) rfl dX2_reader_90 ?_
            exact hret _ _ _ _ _ hP hD hS (by unfold f_X2_reader; exact ((if_neg c_1).trans ((if_neg c_2).trans ((if_neg c_3).trans ((if_neg c_4).trans (if_pos c_5))))).symm) dX2_reader_93
          · have nc_5 : k.toInt ≠ 3 := fun h => c_5 (Int32.toInt_inj.mp h)
            by_cases c_6 : k = 4
            · refine lv_tableIn (off := 74) (tgt := 94) hx hb dX2_reader_20 (by rw [c_6]; decide) (by rw [c_6]; decide) (by rw [c_6]; decide) (by decide) ?_
              refine lv_aload_n hx hb dX2_reader_94 rfl (lv_at hl 0 rfl) ?_
              refine va_getN (D := E.1) (ci := 1) (v := .int (g (262 + 6 * (ix x) + 2))) (C := RX1) (T := TX1) (N := 13) hx hb hts in1 hown hE.1 hP (8 + 6 * (ix x)) (ap_l (hs_hi0 (by omega))) rfl 9 (by decide) (ev_use hE nk_X2_138 rfl) (fun _ h9 => h9) rfl dX2_reader_95 ?_
              exact hret _ _ _ _ _ hP hD hS (by unfold f_X2_reader; exact ((if_neg c_1).trans ((if_neg c_2).trans ((if_neg c_3).trans ((if_neg c_4).trans ((if_neg c_5).trans (if_pos c_6)))))).symm) dX2_reader_98
            · have nc_6 : k.toInt ≠ 4 := fun h => c_6 (Int32.toInt_inj.mp h)
              by_cases c_7 : k = 5
              · refine lv_tableIn (off := 79) (tgt := 99) hx hb dX2_reader_20 (by rw [c_7]; decide) (by rw [c_7]; decide) (by rw [c_7]; decide) (by decide) ?_
                refine lv_aload_n hx hb dX2_reader_99 rfl (lv_at hl 0 rfl) ?_
                refine va_getN (D := E.1) (ci := 1) (v := .int (g (262 + 6 * (ix x) + 3))) (C := RX1) (T := TX1) (N := 13) hx hb hts in1 hown hE.1 hP (8 + 6 * (ix x)) (ap_l (hs_hi0 (by omega))) rfl 10 (by decide) (ev_use hE nk_X2_141 rfl) (fun _ h9 => h9) rfl dX2_reader_100 ?_
                exact hret _ _ _ _ _ hP hD hS (by unfold f_X2_reader; exact ((if_neg c_1).trans ((if_neg c_2).trans ((if_neg c_3).trans ((if_neg c_4).trans ((if_neg c_5).trans ((if_neg c_6).trans (if_pos c_7))))))).symm) dX2_reader_103
              · have nc_7 : k.toInt ≠ 5 := fun h => c_7 (Int32.toInt_inj.mp h)
                by_cases c_8 : k = 6
                · refine lv_tableIn (off := 84) (tgt := 104) hx hb dX2_reader_20 (by rw [c_8]; decide) (by rw [c_8]; decide) (by rw [c_8]; decide) (by decide) ?_
                  refine lv_aload_n hx hb dX2_reader_104 rfl (lv_at hl 0 rfl) ?_
                  refine va_getN (D := E.1) (ci := 1) (v := .int (g (262 + 6 * (ix x) + 4))) (C := RX1) (T := TX1) (N := 13) hx hb hts in1 hown hE.1 hP (8 + 6 * (ix x)) (ap_l (hs_hi0 (by omega))) rfl 11 (by decide) (ev_use hE nk_X2_144 rfl) (fun _ h9 => h9) rfl dX2_reader_105 ?_
                  exact hret _ _ _ _ _ hP hD hS (by unfold f_X2_reader; exact ((if_neg c_1).trans ((if_neg c_2).trans ((if_neg c_3).trans ((if_neg c_4).trans ((if_neg c_5).trans ((if_neg c_6).trans ((if_neg c_7).trans (if_pos c_8)))))))).symm) dX2_reader_108
                · have nc_8 : k.toInt ≠ 6 := fun h => c_8 (Int32.toInt_inj.mp h)
                  by_cases c_9 : k = 7
                  · refine lv_tableIn (off := 89) (tgt := 109) hx hb dX2_reader_20 (by rw [c_9]; decide) (by rw [c_9]; decide) (by rw [c_9]; decide) (by decide) ?_
                    refine lv_aload_n hx hb dX2_reader_109 rfl (lv_at hl 0 rfl) ?_
                    refine va_getN (D := E.1) (ci := 1) (v := .int (g (262 + 6 * (ix x) + 5))) (C := RX1) (T := TX1) (N := 13) hx hb hts in1 hown hE.1 hP (8 + 6 * (ix x)) (ap_l (hs_hi0 (by omega))) rfl 12 (by decide) (ev_use hE nk_X2_147 rfl) (fun _ h9 => h9) rfl dX2_reader_110 ?_
                    exact hret _ _ _ _ _ hP hD hS (by unfold f_X2_reader; exact ((if_neg c_1).trans ((if_neg c_2).trans ((if_neg c_3).trans ((if_neg c_4).trans ((if_neg c_5).trans ((if_neg c_6).trans ((if_neg c_7).trans ((if_neg c_8).trans (if_pos c_9))))))))).symm) dX2_reader_113
                  · have nc_9 : k.toInt ≠ 7 := fun h => c_9 (Int32.toInt_inj.mp h)
                    refine lv_tableOut (tgt := 114) hx hb dX2_reader_20 (by omega) (by decide) ?_
                    refine lv_bipush (v := -2) hx hb dX2_reader_114 (by decide) ?_
                    exact hret _ _ _ _ _ hP hD hS (by unfold f_X2_reader; exact ((if_neg c_1).trans ((if_neg c_2).trans ((if_neg c_3).trans ((if_neg c_4).trans ((if_neg c_5).trans ((if_neg c_6).trans ((if_neg c_7).trans ((if_neg c_8).trans (if_neg c_9))))))))).symm) dX2_reader_116
  · refine lv_iconst (v := -1) hx hb dX2_reader_7 (by decide) ?_
    exact hret _ _ _ _ _ hP hD hS (by unfold f_X2_reader; exact (if_pos c_1).symm) dX2_reader_8
def f_X2_count (g : Nat → Int32) (k : Int32) (kp : Int32) : Int32 := (if k = 0 then (g 0) else (if k = 1 then (g 303) else (if k = 2 then (g 304) else (if k = 3 then (g 305) else (if k = 4 then (g 41) else (if k = 5 then (g 306) else (if k = 6 then (g 307) else (if k = 7 then (g 308) else (if k = 8 then kp else (if k = 9 then (-2) else (if k = 10 then (g 1) else (if k = 11 then (g 2) else (if k = 12 then (g 3) else (if k = 13 then (g 4) else (-2)))))))))))))))
set_option maxHeartbeats 4000000 in
set_option maxRecDepth 100000 in
theorem k_X2_count (l : Launch) (E : EE) (a o : Nat → Nat) (bA cA : Nat) (g : Nat → Int32) (kp : Int32) (rs : va_W) (k : Int32)  : Ci l E yX2_count wsX2_count { frames := 0, cells := 0, slots := 0, locals := 0 } [.ref (o 0), .int k] (hs E a g ++ (phc E a o bA cA kp ++ rs)) (f_X2_count g k kp) (hs E a g ++ (phc E a o bA cA kp ++ rs)) := by
  refine Ci.of (cc := cX2_count) (maxL := 2) (rt := .int) (by decide) rfl rfl (Nat.le_of_ble_eq_true rfl) ?_
  intro p e s m args below meth c A Q F hE hA hret hP hD ls hl
  obtain ⟨hx, hb, hml, hown, hts⟩ := id F
  have hS : va_S A s.heap s.heap [] := va_S.rf
  have hl : lv_has ls 2 [(0, .ref (o 0)), (1, .int k)] := hl
  have in0 : ∀ w ∈ wsX00, w ∈ wsX2_count := fun w h => List.mem_cons_of_mem _ (List.mem_append_right _ h)
  have in2 : ∀ w ∈ wsX20, w ∈ wsX2_count := fun w h => List.mem_cons_of_mem _ (List.mem_append_left _ (List.mem_append_right _ h))
  have K10 := hts (.fieldLink RX2 10 "PromiseHours" "house" "LPromiseHours$House;") (by decide +kernel)
  have K20 := hts (.fieldLink RX2 20 "PromiseHours" "keptImages" "I") (by decide +kernel)
  refine lv_iload_n hx hb dX2_count_0 rfl (lv_at hl 1 rfl) ?_
  by_cases c_1 : k = 0
  · refine lv_tableIn (off := 71) (tgt := 72) hx hb dX2_count_1 (by rw [c_1]; decide) (by rw [c_1]; decide) (by rw [c_1]; decide) (by decide) ?_
    refine lv_aload_n hx hb dX2_count_72 rfl (lv_at hl 0 rfl) ?_
    refine va_get (D := E.1) (ci := 2) (v := .ref (a 0)) (C := RX2) (T := TX2) (N := 3) hx hb hts in2 hown hE.1 hP (38 + 0) (ap_h rfl) rfl 0 (by decide) K10 (fun _ h9 => h9) rfl dX2_count_73 ?_
    refine va_getN (D := E.1) (ci := 0) (v := .int (g 0)) (C := RX0) (T := TX0) (N := 17) hx hb hts in0 hown hE.1 hP 0 (ap_l (hs_lo 0 (by decide) rfl)) rfl 0 (by decide) (ev_use hE nk_X2_72 rfl) (fun _ h9 => h9) rfl dX2_count_76 ?_
    exact hret _ _ _ _ _ hP hD hS (by unfold f_X2_count; exact (if_pos c_1).symm) dX2_count_79
  · have nc_1 : k.toInt ≠ 0 := fun h => c_1 (Int32.toInt_inj.mp h)
    by_cases c_2 : k = 1
    · refine lv_tableIn (off := 79) (tgt := 80) hx hb dX2_count_1 (by rw [c_2]; decide) (by rw [c_2]; decide) (by rw [c_2]; decide) (by decide) ?_
      refine lv_aload_n hx hb dX2_count_80 rfl (lv_at hl 0 rfl) ?_
      refine va_get (D := E.1) (ci := 2) (v := .ref (a 0)) (C := RX2) (T := TX2) (N := 3) hx hb hts in2 hown hE.1 hP (38 + 0) (ap_h rfl) rfl 0 (by decide) K10 (fun _ h9 => h9) rfl dX2_count_81 ?_
      refine va_getN (D := E.1) (ci := 0) (v := .int (g 303)) (C := RX0) (T := TX0) (N := 17) hx hb hts in0 hown hE.1 hP 0 (ap_l (hs_lo 0 (by decide) rfl)) rfl 11 (by decide) (ev_use hE nk_X2_156 rfl) (fun _ h9 => h9) rfl dX2_count_84 ?_
      exact hret _ _ _ _ _ hP hD hS (by unfold f_X2_count; exact ((if_neg c_1).trans (if_pos c_2)).symm) dX2_count_87
    · have nc_2 : k.toInt ≠ 1 := fun h => c_2 (Int32.toInt_inj.mp h)
      by_cases c_3 : k = 2
      · refine lv_tableIn (off := 87) (tgt := 88) hx hb dX2_count_1 (by rw [c_3]; decide) (by rw [c_3]; decide) (by rw [c_3]; decide) (by decide) ?_
        refine lv_aload_n hx hb dX2_count_88 rfl (lv_at hl 0 rfl) ?_
        refine va_get (D := E.1) (ci := 2) (v := .ref (a 0)) (C := RX2) (T := TX2) (N := 3) hx hb hts in2 hown hE.1 hP (38 + 0) (ap_h rfl) rfl 0 (by decide) K10 (fun _ h9 => h9) rfl dX2_count_89 ?_
        refine va_getN (D := E.1) (ci := 0) (v := .int (g 304)) (C := RX0) (T := TX0) (N := 17) hx hb hts in0 hown hE.1 hP 0 (ap_l (hs_lo 0 (by decide) rfl)) rfl 12 (by decide) (ev_use hE nk_X2_159 rfl) (fun _ h9 => h9) rfl dX2_count_92 ?_
        exact hret _ _ _ _ _ hP hD hS (by unfold f_X2_count; exact ((if_neg c_1).trans ((if_neg c_2).trans (if_pos c_3))).symm) dX2_count_95
      · have nc_3 : k.toInt ≠ 2 := fun h => c_3 (Int32.toInt_inj.mp h)
        by_cases c_4 : k = 3
        · refine lv_tableIn (off := 95) (tgt := 96) hx hb dX2_count_1 (by rw [c_4]; decide) (by rw [c_4]; decide) (by rw [c_4]; decide) (by decide) ?_
          refine lv_aload_n hx hb dX2_count_96 rfl (lv_at hl 0 rfl) ?_
          refine va_get (D := E.1) (ci := 2) (v := .ref (a 0)) (C := RX2) (T := TX2) (N := 3) hx hb hts in2 hown hE.1 hP (38 + 0) (ap_h rfl) rfl 0 (by decide) K10 (fun _ h9 => h9) rfl dX2_count_97 ?_
          refine va_getN (D := E.1) (ci := 0) (v := .int (g 305)) (C := RX0) (T := TX0) (N := 17) hx hb hts in0 hown hE.1 hP 0 (ap_l (hs_lo 0 (by decide) rfl)) rfl 13 (by decide) (ev_use hE nk_X2_162 rfl) (fun _ h9 => h9) rfl dX2_count_100 ?_
          exact hret _ _ _ _ _ hP hD hS (by unfold f_X2_count; exact ((if_neg c_1).trans ((if_neg c_2).trans ((if_neg c_3).trans (if_pos c_4)))).symm) dX2_count_103
        · have nc_4 : k.toInt ≠ 3 := fun h => c_4 (Int32.toInt_inj.mp h)
          by_cases c_5 : k = 4
          · refine lv_tableIn (off := 103) (tgt := 104) hx hb dX2_count_1 (by rw [c_5]; decide) (by rw [c_5]; decide) (by rw [c_5]; decide) (by decide) ?_
            refine lv_aload_n hx hb dX2_count_104 rfl (lv_at hl 0 rfl) ?_
            refine va_get (D := E.1) (ci := 2) (v := .ref (a 0)) (C := RX2) (T := TX2) (N := 3) hx hb hts in2 hown hE.1 hP (38 + 0) (ap_h rfl) rfl 0 (by decide) K10 (fun _ h9 => h9) rfl dX2_count_105 ?_
            refine va_getN (D := E.1) (ci := 0) (v := .int (g 41)) (C := RX0) (T := TX0) (N := 17) hx hb hts in0 hown hE.1 hP 0 (ap_l (hs_lo 0 (by decide) rfl)) rfl 6 (by decide) (ev_use hE nk_X2_150 rfl) (fun _ h9 => h9) rfl dX2_count_108 ?_
            exact hret _ _ _ _ _ hP hD hS (by unfold f_X2_count; exact ((if_neg c_1).trans ((if_neg c_2).trans ((if_neg c_3).trans ((if_neg c_4).trans (if_pos c_5))))).symm) dX2_count_111
          · have nc_5 : k.toInt ≠ 4 := fun h => c_5 (Int32.toInt_inj.mp h)
            by_cases c_6 : k = 5
            · refine lv_tableIn (off := 111) (tgt := 112) hx hb dX2_count_1 (by rw [c_6]; decide) (by rw [c_6]; decide) (by rw [c_6]; decide) (by decide) ?_
              refine lv_aload_n hx hb dX2_count_112 rfl (lv_at hl 0 rfl) ?_
              refine va_get (D := E.1) (ci := 2) (v := .ref (a 0)) (C := RX2) (T := TX2) (N := 3) hx hb hts in2 hown hE.1 hP (38 + 0) (ap_h rfl) rfl 0 (by decide) K10 (fun _ h9 => h9) rfl dX2_count_113 ?_
              refine va_getN (D := E.1) (ci := 0) (v := .int (g 306)) (C := RX0) (T := TX0) (N := 17) hx hb hts in0 hown hE.1 hP 0 (ap_l (hs_lo 0 (by decide) rfl)) rfl 14 (by decide) (ev_use hE nk_X2_165 rfl) (fun _ h9 => h9) rfl dX2_count_116 ?_
              exact hret _ _ _ _ _ hP hD hS (by unfold f_X2_count; exact ((if_neg c_1).trans ((if_neg c_2).trans ((if_neg c_3).trans ((if_neg c_4).trans ((if_neg c_5).trans (if_pos c_6)))))).symm) dX2_count_119
            · have nc_6 : k.toInt ≠ 5 := fun h => c_6 (Int32.toInt_inj.mp h)
              by_cases c_7 : k = 6
              · refine lv_tableIn (off := 119) (tgt := 120) hx hb dX2_count_1 (by rw [c_7]; decide) (by rw [c_7]; decide) (by rw [c_7]; decide) (by decide) ?_
                refine lv_aload_n hx hb dX2_count_120 rfl (lv_at hl 0 rfl) ?_
                refine va_get (D := E.1) (ci := 2) (v := .ref (a 0)) (C := RX2) (T := TX2) (N := 3) hx hb hts in2 hown hE.1 hP (38 + 0) (ap_h rfl) rfl 0 (by decide) K10 (fun _ h9 => h9) rfl dX2_count_121 ?_
                refine va_getN (D := E.1) (ci := 0) (v := .int (g 307)) (C := RX0) (T := TX0) (N := 17) hx hb hts in0 hown hE.1 hP 0 (ap_l (hs_lo 0 (by decide) rfl)) rfl 15 (by decide) (ev_use hE nk_X2_168 rfl) (fun _ h9 => h9) rfl dX2_count_124 ?_
                exact hret _ _ _ _ _ hP hD hS (by unfold f_X2_count; exact ((if_neg c_1).trans ((if_neg c_2).trans ((if_neg c_3).trans ((if_neg c_4).trans ((if_neg c_5).trans ((if_neg c_6).trans (if_pos c_7))))))).symm) dX2_count_127
              · have nc_7 : k.toInt ≠ 6 := fun h => c_7 (Int32.toInt_inj.mp h)
                by_cases c_8 : k = 7
                · refine lv_tableIn (off := 127) (tgt := 128) hx hb dX2_count_1 (by rw [c_8]; decide) (by rw [c_8]; decide) (by rw [c_8]; decide) (by decide) ?_
                  refine lv_aload_n hx hb dX2_count_128 rfl (lv_at hl 0 rfl) ?_
                  refine va_get (D := E.1) (ci := 2) (v := .ref (a 0)) (C := RX2) (T := TX2) (N := 3) hx hb hts in2 hown hE.1 hP (38 + 0) (ap_h rfl) rfl 0 (by decide) K10 (fun _ h9 => h9) rfl dX2_count_129 ?_
                  refine va_getN (D := E.1) (ci := 0) (v := .int (g 308)) (C := RX0) (T := TX0) (N := 17) hx hb hts in0 hown hE.1 hP 0 (ap_l (hs_lo 0 (by decide) rfl)) rfl 16 (by decide) (ev_use hE nk_X2_171 rfl) (fun _ h9 => h9) rfl dX2_count_132 ?_
                  exact hret _ _ _ _ _ hP hD hS (by unfold f_X2_count; exact ((if_neg c_1).trans ((if_neg c_2).trans ((if_neg c_3).trans ((if_neg c_4).trans ((if_neg c_5).trans ((if_neg c_6).trans ((if_neg c_7).trans (if_pos c_8)))))))).symm) dX2_count_135
                · have nc_8 : k.toInt ≠ 7 := fun h => c_8 (Int32.toInt_inj.mp h)
                  by_cases c_9 : k = 8
                  · refine lv_tableIn (off := 135) (tgt := 136) hx hb dX2_count_1 (by rw [c_9]; decide) (by rw [c_9]; decide) (by rw [c_9]; decide) (by decide) ?_
                    refine lv_aload_n hx hb dX2_count_136 rfl (lv_at hl 0 rfl) ?_
                    refine va_get (D := E.1) (ci := 2) (v := .int kp) (C := RX2) (T := TX2) (N := 3) hx hb hts in2 hown hE.1 hP (38 + 0) (ap_h rfl) rfl 2 (by decide) K20 (fun _ h9 => h9) rfl dX2_count_137 ?_
                    exact hret _ _ _ _ _ hP hD hS (by unfold f_X2_count; exact ((if_neg c_1).trans ((if_neg c_2).trans ((if_neg c_3).trans ((if_neg c_4).trans ((if_neg c_5).trans ((if_neg c_6).trans ((if_neg c_7).trans ((if_neg c_8).trans (if_pos c_9))))))))).symm) dX2_count_140
                  · have nc_9 : k.toInt ≠ 8 := fun h => c_9 (Int32.toInt_inj.mp h)
                    by_cases c_10 : k = 9
                    · refine lv_tableIn (off := 180) (tgt := 181) hx hb dX2_count_1 (by rw [c_10]; decide) (by rw [c_10]; decide) (by rw [c_10]; decide) (by decide) ?_
                      refine lv_bipush (v := -2) hx hb dX2_count_181 (by decide) ?_
                      exact hret _ _ _ _ _ hP hD hS (by unfold f_X2_count; exact ((if_neg c_1).trans ((if_neg c_2).trans ((if_neg c_3).trans ((if_neg c_4).trans ((if_neg c_5).trans ((if_neg c_6).trans ((if_neg c_7).trans ((if_neg c_8).trans ((if_neg c_9).trans (if_pos c_10)))))))))).symm) dX2_count_183
                    · have nc_10 : k.toInt ≠ 9 := fun h => c_10 (Int32.toInt_inj.mp h)
                      by_cases c_11 : k = 10
                      · refine lv_tableIn (off := 140) (tgt := 141) hx hb dX2_count_1 (by rw [c_11]; decide) (by rw [c_11]; decide) (by rw [c_11]; decide) (by decide) ?_
                        refine lv_aload_n hx hb dX2_count_141 rfl (lv_at hl 0 rfl) ?_
                        refine va_get (D := E.1) (ci := 2) (v := .ref (a 0)) (C := RX2) (T := TX2) (N := 3) hx hb hts in2 hown hE.1 hP (38 + 0) (ap_h rfl) rfl 0 (by decide) K10 (fun _ h9 => h9) rfl dX2_count_142 ?_
                        refine va_getN (D := E.1) (ci := 0) (v := .ref (a 1)) (C := RX0) (T := TX0) (N := 17) hx hb hts in0 hown hE.1 hP 0 (ap_l (hs_lo 0 (by decide) rfl)) rfl 1 (by decide) (ev_use hE nk_X2_31 rfl) (fun _ h9 => h9) rfl dX2_count_145 ?_
                        refine lv_iconst (v := 0) hx hb dX2_count_148 (by decide) ?_
                        refine q_iald hx hb hE hP 1 (ap_l (hs_lo 1 (by decide) rfl)) (j := 0) (v := (g 1)) rfl (by omega) (by decide) ((seg_at (by omega)).trans rfl) dX2_count_149 ?_
                        exact hret _ _ _ _ _ hP hD hS (by unfold f_X2_count; exact ((if_neg c_1).trans ((if_neg c_2).trans ((if_neg c_3).trans ((if_neg c_4).trans ((if_neg c_5).trans ((if_neg c_6).trans ((if_neg c_7).trans ((if_neg c_8).trans ((if_neg c_9).trans ((if_neg c_10).trans (if_pos c_11))))))))))).symm) dX2_count_150
                      · have nc_11 : k.toInt ≠ 10 := fun h => c_11 (Int32.toInt_inj.mp h)
                        by_cases c_12 : k = 11
                        · refine lv_tableIn (off := 150) (tgt := 151) hx hb dX2_count_1 (by rw [c_12]; decide) (by rw [c_12]; decide) (by rw [c_12]; decide) (by decide) ?_
                          refine lv_aload_n hx hb dX2_count_151 rfl (lv_at hl 0 rfl) ?_
                          refine va_get (D := E.1) (ci := 2) (v := .ref (a 0)) (C := RX2) (T := TX2) (N := 3) hx hb hts in2 hown hE.1 hP (38 + 0) (ap_h rfl) rfl 0 (by decide) K10 (fun _ h9 => h9) rfl dX2_count_152 ?_
                          refine va_getN (D := E.1) (ci := 0) (v := .ref (a 1)) (C := RX0) (T := TX0) (N := 17) hx hb hts in0 hown hE.1 hP 0 (ap_l (hs_lo 0 (by decide) rfl)) rfl 1 (by decide) (ev_use hE nk_X2_31 rfl) (fun _ h9 => h9) rfl dX2_count_155 ?_
                          refine lv_iconst (v := 1) hx hb dX2_count_158 (by decide) ?_
                          refine q_iald hx hb hE hP 1 (ap_l (hs_lo 1 (by decide) rfl)) (j := 1) (v := (g 2)) rfl (by omega) (by decide) ((seg_at (by omega)).trans rfl) dX2_count_159 ?_
                          exact hret _ _ _ _ _ hP hD hS (by unfold f_X2_count; exact ((if_neg c_1).trans ((if_neg c_2).trans ((if_neg c_3).trans ((if_neg c_4).trans ((if_neg c_5).trans ((if_neg c_6).trans ((if_neg c_7).trans ((if_neg c_8).trans ((if_neg c_9).trans ((if_neg c_10).trans ((if_neg c_11).trans (if_pos c_12)))))))))))).symm) dX2_count_160
                        · have nc_12 : k.toInt ≠ 11 := fun h => c_12 (Int32.toInt_inj.mp h)
                          by_cases c_13 : k = 12
                          · refine lv_tableIn (off := 160) (tgt := 161) hx hb dX2_count_1 (by rw [c_13]; decide) (by rw [c_13]; decide) (by rw [c_13]; decide) (by decide) ?_
                            refine lv_aload_n hx hb dX2_count_161 rfl (lv_at hl 0 rfl) ?_
                            refine va_get (D := E.1) (ci := 2) (v := .ref (a 0)) (C := RX2) (T := TX2) (N := 3) hx hb hts in2 hown hE.1 hP (38 + 0) (ap_h rfl) rfl 0 (by decide) K10 (fun _ h9 => h9) rfl dX2_count_162 ?_
                            refine va_getN (D := E.1) (ci := 0) (v := .ref (a 1)) (C := RX0) (T := TX0) (N := 17) hx hb hts in0 hown hE.1 hP 0 (ap_l (hs_lo 0 (by decide) rfl)) rfl 1 (by decide) (ev_use hE nk_X2_31 rfl) (fun _ h9 => h9) rfl dX2_count_165 ?_
                            refine lv_iconst (v := 2) hx hb dX2_count_168 (by decide) ?_
                            refine q_iald hx hb hE hP 1 (ap_l (hs_lo 1 (by decide) rfl)) (j := 2) (v := (g 3)) rfl (by omega) (by decide) ((seg_at (by omega)).trans rfl) dX2_count_169 ?_
                            exact hret _ _ _ _ _ hP hD hS (by unfold f_X2_count; exact ((if_neg c_1).trans ((if_neg c_2).trans ((if_neg c_3).trans ((if_neg c_4).trans ((if_neg c_5).trans ((if_neg c_6).trans ((if_neg c_7).trans ((if_neg c_8).trans ((if_neg c_9).trans ((if_neg c_10).trans ((if_neg c_11).trans ((if_neg c_12).trans (if_pos c_13))))))))))))).symm) dX2_count_170
                          · have nc_13 : k.toInt ≠ 12 := fun h => c_13 (Int32.toInt_inj.mp h)
                            by_cases c_14 : k = 13
                            · refine lv_tableIn (off := 170) (tgt := 171) hx hb dX2_count_1 (by rw [c_14]; decide) (by rw [c_14]; decide) (by rw [c_14]; decide) (by decide) ?_
                              refine lv_aload_n hx hb dX2_count_171 rfl (lv_at hl 0 rfl) ?_
                              refine va_get (D := E.1) (ci := 2) (v := .ref (a 0)) (C := RX2) (T := TX2) (N := 3) hx hb hts in2 hown hE.1 hP (38 + 0) (ap_h rfl) rfl 0 (by decide) K10 (fun _ h9 => h9) rfl dX2_count_172 ?_
                              refine va_getN (D := E.1) (ci := 0) (v := .ref (a 1)) (C := RX0) (T := TX0) (N := 17) hx hb hts in0 hown hE.1 hP 0 (ap_l (hs_lo 0 (by decide) rfl)) rfl 1 (by decide) (ev_use hE nk_X2_31 rfl) (fun _ h9 => h9) rfl dX2_count_175 ?_
                              refine lv_iconst (v := 3) hx hb dX2_count_178 (by decide) ?_
                              refine q_iald hx hb hE hP 1 (ap_l (hs_lo 1 (by decide) rfl)) (j := 3) (v := (g 4)) rfl (by omega) (by decide) ((seg_at (by omega)).trans rfl) dX2_count_179 ?_
                              exact hret _ _ _ _ _ hP hD hS (by unfold f_X2_count; exact ((if_neg c_1).trans ((if_neg c_2).trans ((if_neg c_3).trans ((if_neg c_4).trans ((if_neg c_5).trans ((if_neg c_6).trans ((if_neg c_7).trans ((if_neg c_8).trans ((if_neg c_9).trans ((if_neg c_10).trans ((if_neg c_11).trans ((if_neg c_12).trans ((if_neg c_13).trans (if_pos c_14)))))))))))))).symm) dX2_count_180
                            · have nc_14 : k.toInt ≠ 13 := fun h => c_14 (Int32.toInt_inj.mp h)
                              refine lv_tableOut (tgt := 181) hx hb dX2_count_1 (by omega) (by decide) ?_
                              refine lv_bipush (v := -2) hx hb dX2_count_181 (by decide) ?_
                              exact hret _ _ _ _ _ hP hD hS (by unfold f_X2_count; exact ((if_neg c_1).trans ((if_neg c_2).trans ((if_neg c_3).trans ((if_neg c_4).trans ((if_neg c_5).trans ((if_neg c_6).trans ((if_neg c_7).trans ((if_neg c_8).trans ((if_neg c_9).trans ((if_neg c_10).trans ((if_neg c_11).trans ((if_neg c_12).trans ((if_neg c_13).trans (if_neg c_14)))))))))))))).symm) dX2_count_183
