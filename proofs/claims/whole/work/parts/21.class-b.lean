def s_X0_putOnList (g : Nat → Int32) (r : Nat) (t : Nat) : Nat → Int32 := (if (f_X2_isInSet (g (67 + 3 * r + t / 4)) (nI t)) = 0 then (upd (upd (upd g 307 ((g 307) + 1)) (67 + 3 * r + t / 4) ((g (67 + 3 * r + t / 4)) ||| (1 <<< ((nI t) &&& 31)))) (202 + 12 * r + t) 0) else (upd (upd g (67 + 3 * r + t / 4) ((g (67 + 3 * r + t / 4)) ||| (1 <<< ((nI t) &&& 31)))) (202 + 12 * r + t) 0))
set_option maxHeartbeats 4000000 in
set_option maxRecDepth 100000 in
theorem k_X0_putOnList (l : Launch) (E : EE) (a : Nat → Nat) (g : Nat → Int32) (r : Nat) (t : Nat) (hr : r < 5) (ht : t < 12) : Cv l E yX0_putOnList wsX0_putOnList { frames := 1, cells := 0, slots := 0, locals := 21 } [.ref (a 0), .ref (a (8 + 6 * r)), .int (nI t)] (hs E a g) (hs E a (s_X0_putOnList g r t)) := by
  refine Cv.of (cc := cX0_putOnList) (maxL := 4) (by decide) rfl (Nat.le_of_ble_eq_true rfl) ?_
  intro p e s m args below meth c A Q F hE hA hret hP hD ls hl
  obtain ⟨hx, hb, hml, hown, hts⟩ := id F
  have hS : va_S A s.heap s.heap [] := va_S.rf
  have hl : lv_has ls 4 [(0, .ref (a 0)), (1, .ref (a (8 + 6 * r))), (2, .int (nI t))] := hl
  have in0 : ∀ w ∈ wsX00, w ∈ wsX0_putOnList := fun w h => List.mem_cons_of_mem _ (List.mem_append_right _ h)
  have in1 : ∀ w ∈ wsX10, w ∈ wsX0_putOnList := fun w h => List.mem_cons_of_mem _ (List.mem_append_left _ (List.mem_append_right _ h))
  have K62 := hts (.fieldLink RX0 62 "PromiseHours$House" "timesListed" "I") (by decide +kernel)
  refine lv_iload_n hx hb dX0_putOnList_0 rfl (lv_at hl 2 rfl) ?_
  refine ci_SN F hE (k_X2_volumeOf l E t (by omega)) ⟨va_cnB 1 hts gX0_putOnList_X2_volumeOf_n148 rfl rfl rfl (ev_link hE nk_X0_148 rfl) (hts (.initialized RX2) (by decide +kernel)) (by decide +kernel) ⟨Nat.le_of_ble_eq_true rfl, Nat.le_of_ble_eq_true rfl⟩, hts (.static yX2_volumeOf) (by decide +kernel), trivial⟩ Fr.nil hP hD hS hA rfl hl.1 rfl (Nat.le_of_ble_eq_true rfl) dX0_putOnList_1 ⟨Nat.zero_le _, Nat.zero_le _⟩ (fun H locs hP hD hS => ?_)
  refine lv_istore_n (lv' := [(3, .int (nI (t / 4))), (0, .ref (a 0)), (1, .ref (a (8 + 6 * r))), (2, .int (nI t))]) hx hb dX0_putOnList_4 rfl hl (by decide) rfl (fun ls hl => ?_)
  refine lv_aload_n hx hb dX0_putOnList_5 rfl (lv_at hl 2 rfl) ?_
  refine va_getN (D := E.1) (ci := 1) (v := .ref (a (8 + 6 * r + 5))) (C := RX1) (T := TX1) (N := 13) hx hb hts in1 hown hE.1 hP (8 + 6 * r) (hs_hi0 (by omega)) rfl 6 (by decide) (ev_use hE nk_X0_161 rfl) (fun _ h9 => h9) rfl dX0_putOnList_6 ?_
  refine lv_iload_n hx hb dX0_putOnList_9 rfl (lv_at hl 0 rfl) ?_
  refine q_iald hx hb hE hP (8 + 6 * r + 5) (hs_hi 5 (by omega) (by decide) rfl) (j := (t / 4)) (v := (g (67 + 3 * r + t / 4))) rfl (by omega) (by decide) ((seg_at (by omega)).trans rfl) dX0_putOnList_10 ?_
  refine lv_iload_n hx hb dX0_putOnList_11 rfl (lv_at hl 3 rfl) ?_
  refine ci_SN F hE (k_X2_isInSet l E (g (67 + 3 * r + t / 4)) (nI t)) ⟨va_cnB 2 hts gX0_putOnList_X2_isInSet_n170 rfl rfl rfl (ev_link hE nk_X0_170 rfl) (hts (.initialized RX2) (by decide +kernel)) (by decide +kernel) ⟨Nat.le_of_ble_eq_true rfl, Nat.le_of_ble_eq_true rfl⟩, hts (.static yX2_isInSet) (by decide +kernel), trivial⟩ Fr.nil hP hD hS hA rfl hl.1 rfl (Nat.le_of_ble_eq_true rfl) dX0_putOnList_12 ⟨Nat.zero_le _, Nat.zero_le _⟩ (fun H locs hP hD hS => ?_)
  refine lv_if_ne (tgt := 28) hx hb dX0_putOnList_15 (by decide) (fun c_1 => ?_) (fun c_1 => ?_)
  · refine lv_aload_n hx hb dX0_putOnList_28 rfl (lv_at hl 2 rfl) ?_
    refine va_getN (D := E.1) (ci := 1) (v := .ref (a (8 + 6 * r + 5))) (C := RX1) (T := TX1) (N := 13) hx hb hts in1 hown hE.1 hP (8 + 6 * r) (hs_hi0 (by omega)) rfl 6 (by decide) (ev_use hE nk_X0_161 rfl) (fun _ h9 => h9) rfl dX0_putOnList_29 ?_
    refine lv_iload_n hx hb dX0_putOnList_32 rfl (lv_at hl 0 rfl) ?_
    refine lv_dup2_11 hx hb dX0_putOnList_33 rfl rfl ?_
    refine q_iald hx hb hE hP (8 + 6 * r + 5) (hs_hi 5 (by omega) (by decide) rfl) (j := (t / 4)) (v := (g (67 + 3 * r + t / 4))) rfl (by omega) (by decide) ((seg_at (by omega)).trans rfl) dX0_putOnList_34 ?_
    refine lv_iconst (v := 1) hx hb dX0_putOnList_35 (by decide) ?_
    refine lv_iload_n hx hb dX0_putOnList_36 rfl (lv_at hl 3 rfl) ?_
    refine lv_ishl hx hb dX0_putOnList_37 ?_
    refine lv_ior hx hb dX0_putOnList_38 ?_
    refine q_iast hx hb hE hP hD hS (8 + 6 * r + 5) (hs_hi 5 (by omega) (by decide) rfl) (j := (t / 4)) (wd' := (hs E a (upd g (67 + 3 * r + t / 4) ((g (67 + 3 * r + t / 4)) ||| (1 <<< ((nI t) &&& 31)))))) rfl (by omega) (by decide) (hs_u5 (by omega) (by omega)) dX0_putOnList_39 (fun H locs hP hD hS => ?_)
    refine lv_aload_n hx hb dX0_putOnList_40 rfl (lv_at hl 2 rfl) ?_
    refine va_getN (D := E.1) (ci := 1) (v := .ref (a (8 + 6 * r + 3))) (C := RX1) (T := TX1) (N := 13) hx hb hts in1 hown hE.1 hP (8 + 6 * r) (hs_hi0 (by omega)) rfl 4 (by decide) (ev_use hE nk_X0_99 rfl) (fun _ h9 => h9) rfl dX0_putOnList_41 ?_
    refine lv_iload_n hx hb dX0_putOnList_44 rfl (lv_at hl 3 rfl) ?_
    refine lv_iconst (v := 0) hx hb dX0_putOnList_45 (by decide) ?_
    refine q_iast hx hb hE hP hD hS (8 + 6 * r + 3) (hs_hi 3 (by omega) (by decide) rfl) (j := t) (wd' := (hs E a (upd (upd g (67 + 3 * r + t / 4) ((g (67 + 3 * r + t / 4)) ||| (1 <<< ((nI t) &&& 31)))) (202 + 12 * r + t) 0))) rfl (by omega) (by decide) (hs_u3 (by omega) (by omega)) dX0_putOnList_46 (fun H locs hP hD hS => ?_)
    have eg : (upd (upd g (67 + 3 * r + t / 4) ((g (67 + 3 * r + t / 4)) ||| (1 <<< ((nI t) &&& 31)))) (202 + 12 * r + t) 0) = (s_X0_putOnList g r t) := (by unfold s_X0_putOnList; exact (if_neg c_1).symm)
    exact hret _ _ _ _ (by rw [← eg]; exact hP) (by rw [← eg]; exact hD) hS dX0_putOnList_47
  · refine lv_aload_n hx hb dX0_putOnList_18 rfl (lv_at hl 1 rfl) ?_
    refine lv_dup hx hb dX0_putOnList_19 rfl ?_
    refine va_get (D := E.1) (ci := 0) (v := .int (g 307)) (C := RX0) (T := TX0) (N := 17) hx hb hts in0 hown hE.1 hP 0 (hs_lo 0 (by decide) rfl) rfl 15 (by decide) K62 (fun _ h9 => h9) rfl dX0_putOnList_20 ?_
    refine lv_iconst (v := 1) hx hb dX0_putOnList_23 (by decide) ?_
    refine lv_iadd hx hb dX0_putOnList_24 ?_
    refine va_put (D := E.1) (ci := 0) (v := .int ((g 307) + 1)) (ty := .int) (C := RX0) (T := TX0) (N := 17) hx hb hts in0 tyX0 tyX0_ok nmX0 hown hE.1 hP hD hS 0 (hs_lo 0 (by decide) rfl) rfl 15 (by decide) K62 (fun _ h9 => h9) rfl (by decide +kernel) rfl rfl (Nat.le_of_ble_eq_true rfl) dX0_putOnList_25 (fun H locs hP hD hS => ?_)
    rw [hs_f15] at hP hD
    have hP : va_P E.1 vwCl (hs E a (upd g 307 ((g 307) + 1))) H := hP
    have hD : va_D A (hs E a (upd g 307 ((g 307) + 1))) := hD
    refine lv_aload_n hx hb dX0_putOnList_28 rfl (lv_at hl 2 rfl) ?_
    refine va_getN (D := E.1) (ci := 1) (v := .ref (a (8 + 6 * r + 5))) (C := RX1) (T := TX1) (N := 13) hx hb hts in1 hown hE.1 hP (8 + 6 * r) (hs_hi0 (by omega)) rfl 6 (by decide) (ev_use hE nk_X0_161 rfl) (fun _ h9 => h9) rfl dX0_putOnList_29 ?_
    refine lv_iload_n hx hb dX0_putOnList_32 rfl (lv_at hl 0 rfl) ?_
    refine lv_dup2_11 hx hb dX0_putOnList_33 rfl rfl ?_
    refine q_iald hx hb hE hP (8 + 6 * r + 5) (hs_hi 5 (by omega) (by decide) rfl) (j := (t / 4)) (v := (g (67 + 3 * r + t / 4))) rfl (by omega) (by decide) ((seg_at (by omega)).trans (up_n (by omega))) dX0_putOnList_34 ?_
    refine lv_iconst (v := 1) hx hb dX0_putOnList_35 (by decide) ?_
    refine lv_iload_n hx hb dX0_putOnList_36 rfl (lv_at hl 3 rfl) ?_
    refine lv_ishl hx hb dX0_putOnList_37 ?_
    refine lv_ior hx hb dX0_putOnList_38 ?_
    refine q_iast hx hb hE hP hD hS (8 + 6 * r + 5) (hs_hi 5 (by omega) (by decide) rfl) (j := (t / 4)) (wd' := (hs E a (upd (upd g 307 ((g 307) + 1)) (67 + 3 * r + t / 4) ((g (67 + 3 * r + t / 4)) ||| (1 <<< ((nI t) &&& 31)))))) rfl (by omega) (by decide) (hs_u5 (by omega) (by omega)) dX0_putOnList_39 (fun H locs hP hD hS => ?_)
    refine lv_aload_n hx hb dX0_putOnList_40 rfl (lv_at hl 2 rfl) ?_
    refine va_getN (D := E.1) (ci := 1) (v := .ref (a (8 + 6 * r + 3))) (C := RX1) (T := TX1) (N := 13) hx hb hts in1 hown hE.1 hP (8 + 6 * r) (hs_hi0 (by omega)) rfl 4 (by decide) (ev_use hE nk_X0_99 rfl) (fun _ h9 => h9) rfl dX0_putOnList_41 ?_
    refine lv_iload_n hx hb dX0_putOnList_44 rfl (lv_at hl 3 rfl) ?_
    refine lv_iconst (v := 0) hx hb dX0_putOnList_45 (by decide) ?_
    refine q_iast hx hb hE hP hD hS (8 + 6 * r + 3) (hs_hi 3 (by omega) (by decide) rfl) (j := t) (wd' := (hs E a (upd (upd (upd g 307 ((g 307) + 1)) (67 + 3 * r + t / 4) ((g (67 + 3 * r + t / 4)) ||| (1 <<< ((nI t) &&& 31)))) (202 + 12 * r + t) 0))) rfl (by omega) (by decide) (hs_u3 (by omega) (by omega)) dX0_putOnList_46 (fun H locs hP hD hS => ?_)
    have eg : (upd (upd (upd g 307 ((g 307) + 1)) (67 + 3 * r + t / 4) ((g (67 + 3 * r + t / 4)) ||| (1 <<< ((nI t) &&& 31)))) (202 + 12 * r + t) 0) = (s_X0_putOnList g r t) := (by unfold s_X0_putOnList; exact (if_pos c_1).symm)
    exact hret _ _ _ _ (by rw [← eg]; exact hP) (by rw [← eg]; exact hD) hS dX0_putOnList_47
set_option maxHeartbeats 4000000 in
set_option maxRecDepth 100000 in
theorem k_X0_sendLetter (l : Launch) (E : EE) (a : Nat → Nat) (g : Nat → Int32) (r : Nat) (t : Nat) (hr : r < 5) (ht : t < 12) : Cv l E yX0_sendLetter wsX0_sendLetter { frames := 2, cells := 0, slots := 0, locals := 44 } [.ref (a 0), .ref (a (8 + 6 * r)), .int (nI t)] (hs E a g) (hs E a (upd (upd (upd (upd (upd g 306 ((g 306) + 1)) (262 + 6 * r + 4) ((g (262 + 6 * r + 4)) + 1)) (82 + 12 * r + t) (-6)) (142 + 12 * r + t) 0) (202 + 12 * r + t) 0)) := by
  refine Cv.of (cc := cX0_sendLetter) (maxL := 3) (by decide) rfl (Nat.le_of_ble_eq_true rfl) ?_
  intro p e s m args below meth c A Q F hE hA hret hP hD ls hl
  obtain ⟨hx, hb, hml, hown, hts⟩ := id F
  have hS : va_S A s.heap s.heap [] := va_S.rf
  have hl : lv_has ls 3 [(0, .ref (a 0)), (1, .ref (a (8 + 6 * r))), (2, .int (nI t))] := hl
  have in0 : ∀ w ∈ wsX00, w ∈ wsX0_sendLetter := fun w h => List.mem_cons_of_mem _ (List.mem_append_left _ (List.mem_append_right _ h))
  have in1 : ∀ w ∈ wsX10, w ∈ wsX0_sendLetter := fun w h => List.mem_cons_of_mem _ (List.mem_append_right _ h)
  have K59 := hts (.fieldLink RX0 59 "PromiseHours$House" "lettersSent" "I") (by decide +kernel)
  refine lv_aload_n hx hb dX0_sendLetter_0 rfl (lv_at hl 0 rfl) ?_
  refine lv_dup hx hb dX0_sendLetter_1 rfl ?_
  refine va_get (D := E.1) (ci := 0) (v := .int (g 306)) (C := RX0) (T := TX0) (N := 17) hx hb hts in0 hown hE.1 hP 0 (hs_lo 0 (by decide) rfl) rfl 14 (by decide) K59 (fun _ h9 => h9) rfl dX0_sendLetter_2 ?_
  refine lv_iconst (v := 1) hx hb dX0_sendLetter_5 (by decide) ?_
  refine lv_iadd hx hb dX0_sendLetter_6 ?_
  refine va_put (D := E.1) (ci := 0) (v := .int ((g 306) + 1)) (ty := .int) (C := RX0) (T := TX0) (N := 17) hx hb hts in0 tyX0 tyX0_ok nmX0 hown hE.1 hP hD hS 0 (hs_lo 0 (by decide) rfl) rfl 14 (by decide) K59 (fun _ h9 => h9) rfl (by decide +kernel) rfl rfl (Nat.le_of_ble_eq_true rfl) dX0_sendLetter_7 (fun H locs hP hD hS => ?_)
  rw [hs_f14] at hP hD
  have hP : va_P E.1 vwCl (hs E a (upd g 306 ((g 306) + 1))) H := hP
  have hD : va_D A (hs E a (upd g 306 ((g 306) + 1))) := hD
  refine lv_aload_n hx hb dX0_sendLetter_10 rfl (lv_at hl 1 rfl) ?_
  refine lv_dup hx hb dX0_sendLetter_11 rfl ?_
  refine va_getN (D := E.1) (ci := 1) (v := .int ((upd g 306 ((g 306) + 1)) (262 + 6 * r + 4))) (C := RX1) (T := TX1) (N := 13) hx hb hts in1 hown hE.1 hP (8 + 6 * r) (hs_hi0 (by omega)) rfl 11 (by decide) (ev_use hE nk_X0_208 rfl) (fun _ h9 => h9) rfl dX0_sendLetter_12 ?_
  refine tpe (up_n (by omega)) ?_
  refine lv_iconst (v := 1) hx hb dX0_sendLetter_15 (by decide) ?_
  refine lv_iadd hx hb dX0_sendLetter_16 ?_
  refine va_putN (D := E.1) (ci := 1) (v := .int ((g (262 + 6 * r + 4)) + 1)) (ty := .int) (C := RX1) (T := TX1) (N := 13) hx hb hts in1 tyX1 tyX1_ok nmX1 hown hE.1 hP hD hS (8 + 6 * r) (hs_hi0 (by omega)) rfl 11 (by decide) (ev_use hE nk_X0_208 rfl) (fun _ h9 => h9) rfl (by decide +kernel) rfl rfl (Nat.le_of_ble_eq_true rfl) dX0_sendLetter_17 (fun H locs hP hD hS => ?_)
  rw [(hs_r11 (r := r) (by omega))] at hP hD
  have hP : va_P E.1 vwCl (hs E a (upd (upd g 306 ((g 306) + 1)) (262 + 6 * r + 4) ((g (262 + 6 * r + 4)) + 1))) H := hP
  have hD : va_D A (hs E a (upd (upd g 306 ((g 306) + 1)) (262 + 6 * r + 4) ((g (262 + 6 * r + 4)) + 1))) := hD
  refine lv_aload_n hx hb dX0_sendLetter_20 rfl (lv_at hl 1 rfl) ?_
  refine lv_iload_n hx hb dX0_sendLetter_21 rfl (lv_at hl 2 rfl) ?_
  refine cv_VN F hE (k_X1_dropCopy l E a (upd (upd g 306 ((g 306) + 1)) (262 + 6 * r + 4) ((g (262 + 6 * r + 4)) + 1)) r t (by omega) (by omega)) ⟨va_cnB 1 hts gX0_sendLetter_X1_dropCopy_n177 rfl rfl rfl (ev_link hE nk_X0_177 rfl) (hts (.initialized RX1) (by decide +kernel)) (by decide +kernel) ⟨Nat.le_of_ble_eq_true rfl, Nat.le_of_ble_eq_true rfl⟩, hts (.instanceMethod yX1_dropCopy) (by decide +kernel), hts (.selects RX1 yX1_dropCopy yX1_dropCopy) (by decide +kernel)⟩ Fr.all (8 + 6 * r) 1 (hs_hi0 (by omega)) rfl rfl hP hD hS hA rfl hl.1 rfl (Nat.le_of_ble_eq_true rfl) dX0_sendLetter_22 ⟨Nat.zero_le _, Nat.zero_le _⟩ (fun H locs hP hD hS => ?_)
  have hP : va_P E.1 vwCl (hs E a (upd (upd (upd (upd (upd g 306 ((g 306) + 1)) (262 + 6 * r + 4) ((g (262 + 6 * r + 4)) + 1)) (82 + 12 * r + t) (-6)) (142 + 12 * r + t) 0) (202 + 12 * r + t) 0)) H := hP
  have hD : va_D A (hs E a (upd (upd (upd (upd (upd g 306 ((g 306) + 1)) (262 + 6 * r + 4) ((g (262 + 6 * r + 4)) + 1)) (82 + 12 * r + t) (-6)) (142 + 12 * r + t) 0) (202 + 12 * r + t) 0)) := hD
  exact hret _ _ _ _ hP hD hS dX0_sendLetter_25
def t1_X0_settleHolder (g : Nat → Int32) (r : Nat) (t : Nat) : Nat → Int32 := (s_X0_putOnList g r t)
def s_X0_settleHolder (g : Nat → Int32) (r : Nat) (t : Nat) : Nat → Int32 := (if (g 0) < (g (52 + 3 * r + t / 4)) then (if (g (17 + t)) = 1 then (if (g (42 + r)) = 0 then g else (upd (upd (upd (upd (upd g 306 ((g 306) + 1)) (262 + 6 * r + 4) ((g (262 + 6 * r + 4)) + 1)) (82 + 12 * r + t) (-6)) (142 + 12 * r + t) 0) (202 + 12 * r + t) 0)) else g) else (t1_X0_settleHolder g r t))
set_option maxHeartbeats 4000000 in
set_option maxRecDepth 100000 in
theorem k_X0_settleHolder (l : Launch) (E : EE) (a : Nat → Nat) (g : Nat → Int32) (r : Nat) (t : Nat) (hr : r < 5) (ht : t < 12) : Cv l E yX0_settleHolder wsX0_settleHolder { frames := 3, cells := 0, slots := 0, locals := 66 } [.ref (a 0), .ref (a (8 + 6 * r)), .int (nI t)] (hs E a g) (hs E a (s_X0_settleHolder g r t)) := by
  refine Cv.of (cc := cX0_settleHolder) (maxL := 3) (by decide) rfl (Nat.le_of_ble_eq_true rfl) ?_
  intro p e s m args below meth c A Q F hE hA hret hP hD ls hl
  obtain ⟨hx, hb, hml, hown, hts⟩ := id F
  have hS : va_S A s.heap s.heap [] := va_S.rf
  have hl : lv_has ls 3 [(0, .ref (a 0)), (1, .ref (a (8 + 6 * r))), (2, .int (nI t))] := hl
  have in0 : ∀ w ∈ wsX00, w ∈ wsX0_settleHolder := fun w h => List.mem_cons_of_mem _ (List.mem_append_left _ (List.mem_append_right _ h))
  have in1 : ∀ w ∈ wsX10, w ∈ wsX0_settleHolder := fun w h => List.mem_cons_of_mem _ (List.mem_append_right _ h)
  have K29 := hts (.fieldLink RX0 29 "PromiseHours$House" "ways" "[I") (by decide +kernel)
  have K9 := hts (.fieldLink RX0 9 "PromiseHours$House" "tick" "I") (by decide +kernel)
  refine lv_aload_n hx hb dX0_settleHolder_0 rfl (lv_at hl 1 rfl) ?_
  refine lv_iload_n hx hb dX0_settleHolder_1 rfl (lv_at hl 2 rfl) ?_
  refine ci_VN F hE (k_X1_volumeTermFor l E a g r t (by omega) (by omega)) ⟨va_cnB 1 hts gX0_settleHolder_X1_volumeTermFor_n95 rfl rfl rfl (ev_link hE nk_X0_95 rfl) (hts (.initialized RX1) (by decide +kernel)) (by decide +kernel) ⟨Nat.le_of_ble_eq_true rfl, Nat.le_of_ble_eq_true rfl⟩, hts (.instanceMethod yX1_volumeTermFor) (by decide +kernel), hts (.selects RX1 yX1_volumeTermFor yX1_volumeTermFor) (by decide +kernel)⟩ Fr.all (8 + 6 * r) 1 (hs_hi0 (by omega)) rfl rfl hP hD hS hA rfl hl.1 rfl (Nat.le_of_ble_eq_true rfl) dX0_settleHolder_2 ⟨Nat.zero_le _, Nat.zero_le _⟩ (fun H locs hP hD hS => ?_)
  refine lv_aload_n hx hb dX0_settleHolder_5 rfl (lv_at hl 0 rfl) ?_
  refine va_get (D := E.1) (ci := 0) (v := .int (g 0)) (C := RX0) (T := TX0) (N := 17) hx hb hts in0 hown hE.1 hP 0 (hs_lo 0 (by decide) rfl) rfl 0 (by decide) K9 (fun _ h9 => h9) rfl dX0_settleHolder_6 ?_
  refine lv_icmp_gt (tgt := 21) hx hb dX0_settleHolder_9 (by decide) (fun c_1 => ?_) (fun c_1 => ?_)
  · refine lv_aload_n hx hb dX0_settleHolder_21 rfl (lv_at hl 0 rfl) ?_
    refine va_get (D := E.1) (ci := 0) (v := .ref (a 4)) (C := RX0) (T := TX0) (N := 17) hx hb hts in0 hown hE.1 hP 0 (hs_lo 0 (by decide) rfl) rfl 4 (by decide) K29 (fun _ h9 => h9) rfl dX0_settleHolder_22 ?_
    refine lv_iload_n hx hb dX0_settleHolder_25 rfl (lv_at hl 2 rfl) ?_
    refine q_iald hx hb hE hP 4 (hs_lo 4 (by decide) rfl) (j := t) (v := (g (17 + t))) rfl (by omega) (by decide) ((seg_at (by omega)).trans rfl) dX0_settleHolder_26 ?_
    refine lv_iconst (v := 1) hx hb dX0_settleHolder_27 (by decide) ?_
    refine lv_icmp_ne (tgt := 44) hx hb dX0_settleHolder_28 (by decide) (fun c_2 => ?_) (fun c_2 => ?_)
    · skip
      have eg : g = (s_X0_settleHolder g r t) := (by unfold s_X0_settleHolder; exact ((if_pos c_1).trans (if_neg c_2)).symm)
      exact hret _ _ _ _ (by rw [← eg]; exact hP) (by rw [← eg]; exact hD) hS dX0_settleHolder_44
    · refine lv_aload_n hx hb dX0_settleHolder_31 rfl (lv_at hl 1 rfl) ?_
      refine va_getN (D := E.1) (ci := 1) (v := .int (g (42 + r))) (C := RX1) (T := TX1) (N := 13) hx hb hts in1 hown hE.1 hP (8 + 6 * r) (hs_hi0 (by omega)) rfl 0 (by decide) (ev_use hE nk_X0_122 rfl) (fun _ h9 => h9) rfl dX0_settleHolder_32 ?_
      refine lv_if_eq (tgt := 44) hx hb dX0_settleHolder_35 (by decide) (fun c_3 => ?_) (fun c_3 => ?_)
      · skip
        have eg : g = (s_X0_settleHolder g r t) := (by unfold s_X0_settleHolder; exact ((if_pos c_1).trans ((if_pos c_2).trans (if_pos c_3))).symm)
        exact hret _ _ _ _ (by rw [← eg]; exact hP) (by rw [← eg]; exact hD) hS dX0_settleHolder_44
      · refine lv_aload_n hx hb dX0_settleHolder_38 rfl (lv_at hl 0 rfl) ?_
        refine lv_aload_n hx hb dX0_settleHolder_39 rfl (lv_at hl 1 rfl) ?_
        refine lv_iload_n hx hb dX0_settleHolder_40 rfl (lv_at hl 2 rfl) ?_
        refine cv_V F hE (k_X0_sendLetter l E a g r t (by omega) (by omega)) (cwV 2 hts gX0_settleHolder_X0_sendLetter rfl rfl rfl (by decide +kernel) ⟨Nat.le_of_ble_eq_true rfl, Nat.le_of_ble_eq_true rfl⟩) Fr.all 0 0 (hs_lo 0 (by decide) rfl) rfl rfl hP hD hS hA rfl hl.1 rfl (Nat.le_of_ble_eq_true rfl) dX0_settleHolder_41 ⟨Nat.zero_le _, Nat.zero_le _⟩ (fun H locs hP hD hS => ?_)
        have hP : va_P E.1 vwCl (hs E a (upd (upd (upd (upd (upd g 306 ((g 306) + 1)) (262 + 6 * r + 4) ((g (262 + 6 * r + 4)) + 1)) (82 + 12 * r + t) (-6)) (142 + 12 * r + t) 0) (202 + 12 * r + t) 0)) H := hP
        have hD : va_D A (hs E a (upd (upd (upd (upd (upd g 306 ((g 306) + 1)) (262 + 6 * r + 4) ((g (262 + 6 * r + 4)) + 1)) (82 + 12 * r + t) (-6)) (142 + 12 * r + t) 0) (202 + 12 * r + t) 0)) := hD
        have eg : (upd (upd (upd (upd (upd g 306 ((g 306) + 1)) (262 + 6 * r + 4) ((g (262 + 6 * r + 4)) + 1)) (82 + 12 * r + t) (-6)) (142 + 12 * r + t) 0) (202 + 12 * r + t) 0) = (s_X0_settleHolder g r t) := (by unfold s_X0_settleHolder; exact ((if_pos c_1).trans ((if_pos c_2).trans (if_neg c_3))).symm)
        exact hret _ _ _ _ (by rw [← eg]; exact hP) (by rw [← eg]; exact hD) hS dX0_settleHolder_44
  · refine lv_aload_n hx hb dX0_settleHolder_12 rfl (lv_at hl 0 rfl) ?_
    refine lv_aload_n hx hb dX0_settleHolder_13 rfl (lv_at hl 1 rfl) ?_
    refine lv_iload_n hx hb dX0_settleHolder_14 rfl (lv_at hl 2 rfl) ?_
    refine cv_V F hE (k_X0_putOnList l E a g r t (by omega) (by omega)) (cwV 2 hts gX0_settleHolder_X0_putOnList rfl rfl rfl (by decide +kernel) ⟨Nat.le_of_ble_eq_true rfl, Nat.le_of_ble_eq_true rfl⟩) Fr.all 0 0 (hs_lo 0 (by decide) rfl) rfl rfl hP hD hS hA rfl hl.1 rfl (Nat.le_of_ble_eq_true rfl) dX0_settleHolder_15 ⟨Nat.zero_le _, Nat.zero_le _⟩ (fun H locs hP hD hS => ?_)
    have hP : va_P E.1 vwCl (hs E a (t1_X0_settleHolder g r t)) H := hP
    have hD : va_D A (hs E a (t1_X0_settleHolder g r t)) := hD
    refine lv_goto (tgt := 44) hx hb dX0_settleHolder_18 (by decide) ?_
    have eg : (t1_X0_settleHolder g r t) = (s_X0_settleHolder g r t) := (by unfold s_X0_settleHolder; exact (if_neg c_1).symm)
    exact hret _ _ _ _ (by rw [← eg]; exact hP) (by rw [← eg]; exact hD) hS dX0_settleHolder_44
def p_X0_holdersOf_4 (g : Nat → Int32) (t : Nat) (S4 : Int32) (i : Nat) : Int32 := (S4 ||| ((f_X2_bit (f_X0_isHolder g i t)) <<< ((nI i) &&& 31)))
def q_X0_holdersOf_4 (g : Nat → Int32) (t : Nat) (S0 : Int32) : Nat → Int32
  | 0 => S0
  | i + 1 => p_X0_holdersOf_4 g t (q_X0_holdersOf_4 g t S0 i) i
set_option maxHeartbeats 4000000 in
set_option maxRecDepth 100000 in
theorem k_X0_holdersOf (l : Launch) (E : EE) (a : Nat → Nat) (g : Nat → Int32) (t : Nat) (ht : t < 12) : Ci l E yX0_holdersOf wsX0_holdersOf { frames := 1, cells := 0, slots := 0, locals := 22 } [.ref (a 0), .int (nI t)] (hs E a g) (q_X0_holdersOf_4 g t 0 5) (hs E a g) := by
  refine Ci.of (cc := cX0_holdersOf) (maxL := 4) (rt := .int) (by decide) rfl rfl (Nat.le_of_ble_eq_true rfl) ?_
  intro p e s m args below meth c A Q F hE hA hret hP hD ls hl
  obtain ⟨hx, hb, hml, hown, hts⟩ := id F
  have hS : va_S A s.heap s.heap [] := va_S.rf
  have hl : lv_has ls 4 [(0, .ref (a 0)), (1, .int (nI t))] := hl
  have in0 : ∀ w ∈ wsX00, w ∈ wsX0_holdersOf := fun w h => List.mem_cons_of_mem _ (List.mem_append_left _ (List.mem_append_right _ h))
  have K22 := hts (.fieldLink RX0 22 "PromiseHours$House" "readers" "[LPromiseHours$Reader;") (by decide +kernel)
  refine lv_iconst (v := 0) hx hb dX0_holdersOf_0 (by decide) ?_
  refine lv_istore_n (lv' := [(2, .int 0), (0, .ref (a 0)), (1, .int (nI t))]) hx hb dX0_holdersOf_1 rfl hl (by decide) rfl (fun ls hl => ?_)
  refine lv_iconst (v := 0) hx hb dX0_holdersOf_2 (by decide) ?_
  refine lv_istore_n (lv' := [(3, .int 0), (2, .int 0), (0, .ref (a 0)), (1, .int (nI t))]) hx hb dX0_holdersOf_3 rfl hl (by decide) rfl (fun ls hl => ?_)
  have lp4 : ∀ (fu i : Nat), i ≤ 5 → 5 + 1 ≤ i + fu → ∀ (S4 : Int32), S4 = (q_X0_holdersOf_4 g t 0 i) → ∀ (H : Heap) (locs : List Loc), va_P E.1 vwCl (hs E a g) H → va_D A (hs E a g) → va_S A s.heap H locs → ∀ ls : Array Slot, lv_has ls 4 [(0, .ref (a 0)), (1, .int (nI t)), (2, .int S4), (3, .int (nI i))] → W p l e { frames := 1, cells := 0, slots := 0, locals := 22 } s m args below meth c H locs 0 0 Q (F0 m 4 ls []) := by
    intro fu
    induction fu with
    | zero => intro i h1 h2; exact absurd h2 (by omega)
    | succ fu ih =>
      intro i hi hin S4 eS4 H locs hP hD hS ls hl
      refine lv_iload_n hx hb dX0_holdersOf_4 rfl (lv_at hl 3 rfl) ?_
      refine lv_iconst (v := 5) hx hb dX0_holdersOf_5 (by decide) ?_
      refine lv_icmp_ge (tgt := 34) hx hb dX0_holdersOf_6 (by decide) (fun c_1 => ?_) (fun c_1 => ?_)
      · have hiN : i = 5 := by have := (nI_leI (a := 5) (b := i) (by omega) (by omega)).mp c_1; omega
        rw [hiN] at eS4 hl
        refine lv_iload_n hx hb dX0_holdersOf_34 rfl (lv_at hl 2 rfl) ?_
        exact hret _ _ _ _ _ hP hD hS (by rw [← eS4]) dX0_holdersOf_35
      · have hlt : i < 5 := Nat.lt_of_not_le (fun h => c_1 (nI_le (a := 5) (b := i) (by omega) (by omega)))
        refine lv_iload_n hx hb dX0_holdersOf_9 rfl (lv_at hl 2 rfl) ?_
        refine lv_aload_n hx hb dX0_holdersOf_10 rfl (lv_at hl 0 rfl) ?_
        refine lv_aload_n hx hb dX0_holdersOf_11 rfl (lv_at hl 0 rfl) ?_
        refine va_get (D := E.1) (ci := 0) (v := .ref (a 2)) (C := RX0) (T := TX0) (N := 17) hx hb hts in0 hown hE.1 hP 0 (hs_lo 0 (by decide) rfl) rfl 2 (by decide) K22 (fun _ h9 => h9) rfl dX0_holdersOf_12 ?_
        refine lv_iload_n hx hb dX0_holdersOf_15 rfl (lv_at hl 3 rfl) ?_
        refine q_aald hx hb hE hP 2 1 (hs_lo 2 (by decide) rfl) rfl (j := i) rfl (by omega) (by decide) rfl dX0_holdersOf_16 ?_
        refine lv_iload_n hx hb dX0_holdersOf_17 rfl (lv_at hl 1 rfl) ?_
        refine ci_V F hE (k_X0_isHolder l E a g i t (by omega) (by omega)) (cwV 2 hts gX0_holdersOf_X0_isHolder rfl rfl rfl (by decide +kernel) ⟨Nat.le_of_ble_eq_true rfl, Nat.le_of_ble_eq_true rfl⟩) Fr.all 0 0 (hs_lo 0 (by decide) rfl) rfl rfl hP hD hS hA rfl hl.1 rfl (Nat.le_of_ble_eq_true rfl) dX0_holdersOf_18 ⟨Nat.zero_le _, Nat.zero_le _⟩ (fun H locs hP hD hS => ?_)
        refine ci_SN F hE (k_X2_bit l E (f_X0_isHolder g i t)) ⟨va_cnB 1 hts gX0_holdersOf_X2_bit_n107 rfl rfl rfl (ev_link hE nk_X0_107 rfl) (hts (.initialized RX2) (by decide +kernel)) (by decide +kernel) ⟨Nat.le_of_ble_eq_true rfl, Nat.le_of_ble_eq_true rfl⟩, hts (.static yX2_bit) (by decide +kernel), trivial⟩ Fr.nil hP hD hS hA rfl hl.1 rfl (Nat.le_of_ble_eq_true rfl) dX0_holdersOf_21 ⟨Nat.zero_le _, Nat.zero_le _⟩ (fun H locs hP hD hS => ?_)
        refine lv_iload_n hx hb dX0_holdersOf_24 rfl (lv_at hl 3 rfl) ?_
        refine lv_ishl hx hb dX0_holdersOf_25 ?_
        refine lv_ior hx hb dX0_holdersOf_26 ?_
        refine lv_istore_n (lv' := [(2, .int (S4 ||| ((f_X2_bit (f_X0_isHolder g i t)) <<< ((nI i) &&& 31)))), (0, .ref (a 0)), (1, .int (nI t)), (3, .int (nI i))]) hx hb dX0_holdersOf_27 rfl hl (by decide) rfl (fun ls hl => ?_)
        refine lv_iinc (v := (nI (i + 1))) (lv' := [(3, .int (nI (i + 1))), (2, .int (S4 ||| ((f_X2_bit (f_X0_isHolder g i t)) <<< ((nI i) &&& 31)))), (0, .ref (a 0)), (1, .int (nI t))]) hx hb dX0_holdersOf_28 hl (k := 3) rfl (nI_1 i) (by decide) rfl (fun ls hl => ?_)
        refine lv_goto (tgt := 4) hx hb dX0_holdersOf_31 (by decide) ?_
        have eS1 : ((S4 ||| ((f_X2_bit (f_X0_isHolder g i t)) <<< ((nI i) &&& 31))) : Int32) = (q_X0_holdersOf_4 g t 0 (i + 1)) := by
          show _ = p_X0_holdersOf_4 g t (q_X0_holdersOf_4 g t 0 i) i
          rw [← eS4]
          rfl
        exact ih (i + 1) (by omega) (by omega) (S4 ||| ((f_X2_bit (f_X0_isHolder g i t)) <<< ((nI i) &&& 31))) eS1 _ _ hP hD hS ls (lv_sub hl [2, 3, 1, 0] rfl)
  exact lp4 (5 + 1) 0 (Nat.zero_le _) (by omega) 0 rfl _ _ hP hD hS ls (lv_sub hl [2, 3, 1, 0] rfl)
def p_X0_readersWithCopy_4 (g : Nat → Int32) (t : Nat) (S4 : Int32) (i : Nat) : Int32 := (S4 ||| ((f_X2_bit (f_X1_hasCopy g i t)) <<< ((nI i) &&& 31)))
def q_X0_readersWithCopy_4 (g : Nat → Int32) (t : Nat) (S0 : Int32) : Nat → Int32
  | 0 => S0
  | i + 1 => p_X0_readersWithCopy_4 g t (q_X0_readersWithCopy_4 g t S0 i) i
set_option maxHeartbeats 4000000 in
set_option maxRecDepth 100000 in
theorem k_X0_readersWithCopy (l : Launch) (E : EE) (a : Nat → Nat) (g : Nat → Int32) (t : Nat) (ht : t < 12) : Ci l E yX0_readersWithCopy wsX0_readersWithCopy { frames := 1, cells := 0, slots := 0, locals := 21 } [.ref (a 0), .int (nI t)] (hs E a g) (q_X0_readersWithCopy_4 g t 0 5) (hs E a g) := by
  refine Ci.of (cc := cX0_readersWithCopy) (maxL := 4) (rt := .int) (by decide) rfl rfl (Nat.le_of_ble_eq_true rfl) ?_
  intro p e s m args below meth c A Q F hE hA hret hP hD ls hl
  obtain ⟨hx, hb, hml, hown, hts⟩ := id F
  have hS : va_S A s.heap s.heap [] := va_S.rf
  have hl : lv_has ls 4 [(0, .ref (a 0)), (1, .int (nI t))] := hl
  have in0 : ∀ w ∈ wsX00, w ∈ wsX0_readersWithCopy := fun w h => List.mem_cons_of_mem _ (List.mem_append_left _ (List.mem_append_right _ h))
  have K22 := hts (.fieldLink RX0 22 "PromiseHours$House" "readers" "[LPromiseHours$Reader;") (by decide +kernel)
  refine lv_iconst (v := 0) hx hb dX0_readersWithCopy_0 (by decide) ?_
  refine lv_istore_n (lv' := [(2, .int 0), (0, .ref (a 0)), (1, .int (nI t))]) hx hb dX0_readersWithCopy_1 rfl hl (by decide) rfl (fun ls hl => ?_)
  refine lv_iconst (v := 0) hx hb dX0_readersWithCopy_2 (by decide) ?_
  refine lv_istore_n (lv' := [(3, .int 0), (2, .int 0), (0, .ref (a 0)), (1, .int (nI t))]) hx hb dX0_readersWithCopy_3 rfl hl (by decide) rfl (fun ls hl => ?_)
  have lp4 : ∀ (fu i : Nat), i ≤ 5 → 5 + 1 ≤ i + fu → ∀ (S4 : Int32), S4 = (q_X0_readersWithCopy_4 g t 0 i) → ∀ (H : Heap) (locs : List Loc), va_P E.1 vwCl (hs E a g) H → va_D A (hs E a g) → va_S A s.heap H locs → ∀ ls : Array Slot, lv_has ls 4 [(0, .ref (a 0)), (1, .int (nI t)), (2, .int S4), (3, .int (nI i))] → W p l e { frames := 1, cells := 0, slots := 0, locals := 21 } s m args below meth c H locs 0 0 Q (F0 m 4 ls []) := by
    intro fu
    induction fu with
    | zero => intro i h1 h2; exact absurd h2 (by omega)
    | succ fu ih =>
      intro i hi hin S4 eS4 H locs hP hD hS ls hl
      refine lv_iload_n hx hb dX0_readersWithCopy_4 rfl (lv_at hl 3 rfl) ?_
      refine lv_iconst (v := 5) hx hb dX0_readersWithCopy_5 (by decide) ?_
      refine lv_icmp_ge (tgt := 33) hx hb dX0_readersWithCopy_6 (by decide) (fun c_1 => ?_) (fun c_1 => ?_)
      · have hiN : i = 5 := by have := (nI_leI (a := 5) (b := i) (by omega) (by omega)).mp c_1; omega
        rw [hiN] at eS4 hl
        refine lv_iload_n hx hb dX0_readersWithCopy_33 rfl (lv_at hl 2 rfl) ?_
        exact hret _ _ _ _ _ hP hD hS (by rw [← eS4]) dX0_readersWithCopy_34
      · have hlt : i < 5 := Nat.lt_of_not_le (fun h => c_1 (nI_le (a := 5) (b := i) (by omega) (by omega)))
        refine lv_iload_n hx hb dX0_readersWithCopy_9 rfl (lv_at hl 2 rfl) ?_
        refine lv_aload_n hx hb dX0_readersWithCopy_10 rfl (lv_at hl 0 rfl) ?_
        refine va_get (D := E.1) (ci := 0) (v := .ref (a 2)) (C := RX0) (T := TX0) (N := 17) hx hb hts in0 hown hE.1 hP 0 (hs_lo 0 (by decide) rfl) rfl 2 (by decide) K22 (fun _ h9 => h9) rfl dX0_readersWithCopy_11 ?_
        refine lv_iload_n hx hb dX0_readersWithCopy_14 rfl (lv_at hl 3 rfl) ?_
        refine q_aald hx hb hE hP 2 1 (hs_lo 2 (by decide) rfl) rfl (j := i) rfl (by omega) (by decide) rfl dX0_readersWithCopy_15 ?_
        refine lv_iload_n hx hb dX0_readersWithCopy_16 rfl (lv_at hl 1 rfl) ?_
        refine ci_VN F hE (k_X1_hasCopy l E a g i t (by omega) (by omega)) ⟨va_cnB 1 hts gX0_readersWithCopy_X1_hasCopy_n84 rfl rfl rfl (ev_link hE nk_X0_84 rfl) (hts (.initialized RX1) (by decide +kernel)) (by decide +kernel) ⟨Nat.le_of_ble_eq_true rfl, Nat.le_of_ble_eq_true rfl⟩, hts (.instanceMethod yX1_hasCopy) (by decide +kernel), hts (.selects RX1 yX1_hasCopy yX1_hasCopy) (by decide +kernel)⟩ Fr.all (8 + 6 * i) 1 (hs_hi0 (by omega)) rfl rfl hP hD hS hA rfl hl.1 rfl (Nat.le_of_ble_eq_true rfl) dX0_readersWithCopy_17 ⟨Nat.zero_le _, Nat.zero_le _⟩ (fun H locs hP hD hS => ?_)
        refine ci_SN F hE (k_X2_bit l E (f_X1_hasCopy g i t)) ⟨va_cnB 1 hts gX0_readersWithCopy_X2_bit_n107 rfl rfl rfl (ev_link hE nk_X0_107 rfl) (hts (.initialized RX2) (by decide +kernel)) (by decide +kernel) ⟨Nat.le_of_ble_eq_true rfl, Nat.le_of_ble_eq_true rfl⟩, hts (.static yX2_bit) (by decide +kernel), trivial⟩ Fr.nil hP hD hS hA rfl hl.1 rfl (Nat.le_of_ble_eq_true rfl) dX0_readersWithCopy_20 ⟨Nat.zero_le _, Nat.zero_le _⟩ (fun H locs hP hD hS => ?_)
        refine lv_iload_n hx hb dX0_readersWithCopy_23 rfl (lv_at hl 3 rfl) ?_
        refine lv_ishl hx hb dX0_readersWithCopy_24 ?_
        refine lv_ior hx hb dX0_readersWithCopy_25 ?_
        refine lv_istore_n (lv' := [(2, .int (S4 ||| ((f_X2_bit (f_X1_hasCopy g i t)) <<< ((nI i) &&& 31)))), (0, .ref (a 0)), (1, .int (nI t)), (3, .int (nI i))]) hx hb dX0_readersWithCopy_26 rfl hl (by decide) rfl (fun ls hl => ?_)
        refine lv_iinc (v := (nI (i + 1))) (lv' := [(3, .int (nI (i + 1))), (2, .int (S4 ||| ((f_X2_bit (f_X1_hasCopy g i t)) <<< ((nI i) &&& 31)))), (0, .ref (a 0)), (1, .int (nI t))]) hx hb dX0_readersWithCopy_27 hl (k := 3) rfl (nI_1 i) (by decide) rfl (fun ls hl => ?_)
        refine lv_goto (tgt := 4) hx hb dX0_readersWithCopy_30 (by decide) ?_
        have eS1 : ((S4 ||| ((f_X2_bit (f_X1_hasCopy g i t)) <<< ((nI i) &&& 31))) : Int32) = (q_X0_readersWithCopy_4 g t 0 (i + 1)) := by
          show _ = p_X0_readersWithCopy_4 g t (q_X0_readersWithCopy_4 g t 0 i) i
          rw [← eS4]
          rfl
        exact ih (i + 1) (by omega) (by omega) (S4 ||| ((f_X2_bit (f_X1_hasCopy g i t)) <<< ((nI i) &&& 31))) eS1 _ _ hP hD hS ls (lv_sub hl [2, 3, 1, 0] rfl)
  exact lp4 (5 + 1) 0 (Nat.zero_le _) (by omega) 0 rfl _ _ hP hD hS ls (lv_sub hl [2, 3, 1, 0] rfl)
def p_X0_readersWithUse_4 (g : Nat → Int32) (t : Nat) (S4 : Int32) (i : Nat) : Int32 := (S4 ||| ((f_X2_bit (f_X0_canUse g i t)) <<< ((nI i) &&& 31)))
def q_X0_readersWithUse_4 (g : Nat → Int32) (t : Nat) (S0 : Int32) : Nat → Int32
  | 0 => S0
  | i + 1 => p_X0_readersWithUse_4 g t (q_X0_readersWithUse_4 g t S0 i) i
set_option maxHeartbeats 4000000 in
set_option maxRecDepth 100000 in
theorem k_X0_readersWithUse (l : Launch) (E : EE) (a : Nat → Nat) (g : Nat → Int32) (t : Nat) (ht : t < 12) : Ci l E yX0_readersWithUse wsX0_readersWithUse { frames := 3, cells := 0, slots := 0, locals := 63 } [.ref (a 0), .int (nI t)] (hs E a g) (q_X0_readersWithUse_4 g t 0 5) (hs E a g) := by
  refine Ci.of (cc := cX0_readersWithUse) (maxL := 4) (rt := .int) (by decide) rfl rfl (Nat.le_of_ble_eq_true rfl) ?_
  intro p e s m args below meth c A Q F hE hA hret hP hD ls hl
  obtain ⟨hx, hb, hml, hown, hts⟩ := id F
  have hS : va_S A s.heap s.heap [] := va_S.rf
  have hl : lv_has ls 4 [(0, .ref (a 0)), (1, .int (nI t))] := hl
  have in0 : ∀ w ∈ wsX00, w ∈ wsX0_readersWithUse := fun w h => List.mem_cons_of_mem _ (List.mem_append_left _ (List.mem_append_right _ h))
  have K22 := hts (.fieldLink RX0 22 "PromiseHours$House" "readers" "[LPromiseHours$Reader;") (by decide +kernel)
  refine lv_iconst (v := 0) hx hb dX0_readersWithUse_0 (by decide) ?_
  refine lv_istore_n (lv' := [(2, .int 0), (0, .ref (a 0)), (1, .int (nI t))]) hx hb dX0_readersWithUse_1 rfl hl (by decide) rfl (fun ls hl => ?_)
  refine lv_iconst (v := 0) hx hb dX0_readersWithUse_2 (by decide) ?_
  refine lv_istore_n (lv' := [(3, .int 0), (2, .int 0), (0, .ref (a 0)), (1, .int (nI t))]) hx hb dX0_readersWithUse_3 rfl hl (by decide) rfl (fun ls hl => ?_)
  have lp4 : ∀ (fu i : Nat), i ≤ 5 → 5 + 1 ≤ i + fu → ∀ (S4 : Int32), S4 = (q_X0_readersWithUse_4 g t 0 i) → ∀ (H : Heap) (locs : List Loc), va_P E.1 vwCl (hs E a g) H → va_D A (hs E a g) → va_S A s.heap H locs → ∀ ls : Array Slot, lv_has ls 4 [(0, .ref (a 0)), (1, .int (nI t)), (2, .int S4), (3, .int (nI i))] → W p l e { frames := 3, cells := 0, slots := 0, locals := 63 } s m args below meth c H locs 0 0 Q (F0 m 4 ls []) := by
    intro fu
    induction fu with
    | zero => intro i h1 h2; exact absurd h2 (by omega)
    | succ fu ih =>
      intro i hi hin S4 eS4 H locs hP hD hS ls hl
      refine lv_iload_n hx hb dX0_readersWithUse_4 rfl (lv_at hl 3 rfl) ?_
      refine lv_iconst (v := 5) hx hb dX0_readersWithUse_5 (by decide) ?_
      refine lv_icmp_ge (tgt := 34) hx hb dX0_readersWithUse_6 (by decide) (fun c_1 => ?_) (fun c_1 => ?_)
      · have hiN : i = 5 := by have := (nI_leI (a := 5) (b := i) (by omega) (by omega)).mp c_1; omega
        rw [hiN] at eS4 hl
        refine lv_iload_n hx hb dX0_readersWithUse_34 rfl (lv_at hl 2 rfl) ?_
        exact hret _ _ _ _ _ hP hD hS (by rw [← eS4]) dX0_readersWithUse_35
      · have hlt : i < 5 := Nat.lt_of_not_le (fun h => c_1 (nI_le (a := 5) (b := i) (by omega) (by omega)))
        refine lv_iload_n hx hb dX0_readersWithUse_9 rfl (lv_at hl 2 rfl) ?_
        refine lv_aload_n hx hb dX0_readersWithUse_10 rfl (lv_at hl 0 rfl) ?_
        refine lv_aload_n hx hb dX0_readersWithUse_11 rfl (lv_at hl 0 rfl) ?_
        refine va_get (D := E.1) (ci := 0) (v := .ref (a 2)) (C := RX0) (T := TX0) (N := 17) hx hb hts in0 hown hE.1 hP 0 (hs_lo 0 (by decide) rfl) rfl 2 (by decide) K22 (fun _ h9 => h9) rfl dX0_readersWithUse_12 ?_
        refine lv_iload_n hx hb dX0_readersWithUse_15 rfl (lv_at hl 3 rfl) ?_
        refine q_aald hx hb hE hP 2 1 (hs_lo 2 (by decide) rfl) rfl (j := i) rfl (by omega) (by decide) rfl dX0_readersWithUse_16 ?_
        refine lv_iload_n hx hb dX0_readersWithUse_17 rfl (lv_at hl 1 rfl) ?_
        refine ci_V F hE (k_X0_canUse l E a g i t (by omega) (by omega)) (cwV 2 hts gX0_readersWithUse_X0_canUse rfl rfl rfl (by decide +kernel) ⟨Nat.le_of_ble_eq_true rfl, Nat.le_of_ble_eq_true rfl⟩) Fr.all 0 0 (hs_lo 0 (by decide) rfl) rfl rfl hP hD hS hA rfl hl.1 rfl (Nat.le_of_ble_eq_true rfl) dX0_readersWithUse_18 ⟨Nat.zero_le _, Nat.zero_le _⟩ (fun H locs hP hD hS => ?_)
        refine ci_SN F hE (k_X2_bit l E (f_X0_canUse g i t)) ⟨va_cnB 1 hts gX0_readersWithUse_X2_bit_n107 rfl rfl rfl (ev_link hE nk_X0_107 rfl) (hts (.initialized RX2) (by decide +kernel)) (by decide +kernel) ⟨Nat.le_of_ble_eq_true rfl, Nat.le_of_ble_eq_true rfl⟩, hts (.static yX2_bit) (by decide +kernel), trivial⟩ Fr.nil hP hD hS hA rfl hl.1 rfl (Nat.le_of_ble_eq_true rfl) dX0_readersWithUse_21 ⟨Nat.zero_le _, Nat.zero_le _⟩ (fun H locs hP hD hS => ?_)
        refine lv_iload_n hx hb dX0_readersWithUse_24 rfl (lv_at hl 3 rfl) ?_
        refine lv_ishl hx hb dX0_readersWithUse_25 ?_
        refine lv_ior hx hb dX0_readersWithUse_26 ?_
        refine lv_istore_n (lv' := [(2, .int (S4 ||| ((f_X2_bit (f_X0_canUse g i t)) <<< ((nI i) &&& 31)))), (0, .ref (a 0)), (1, .int (nI t)), (3, .int (nI i))]) hx hb dX0_readersWithUse_27 rfl hl (by decide) rfl (fun ls hl => ?_)
        refine lv_iinc (v := (nI (i + 1))) (lv' := [(3, .int (nI (i + 1))), (2, .int (S4 ||| ((f_X2_bit (f_X0_canUse g i t)) <<< ((nI i) &&& 31)))), (0, .ref (a 0)), (1, .int (nI t))]) hx hb dX0_readersWithUse_28 hl (k := 3) rfl (nI_1 i) (by decide) rfl (fun ls hl => ?_)
        refine lv_goto (tgt := 4) hx hb dX0_readersWithUse_31 (by decide) ?_
        have eS1 : ((S4 ||| ((f_X2_bit (f_X0_canUse g i t)) <<< ((nI i) &&& 31))) : Int32) = (q_X0_readersWithUse_4 g t 0 (i + 1)) := by
          show _ = p_X0_readersWithUse_4 g t (q_X0_readersWithUse_4 g t 0 i) i
          rw [← eS4]
          rfl
        exact ih (i + 1) (by omega) (by omega) (S4 ||| ((f_X2_bit (f_X0_canUse g i t)) <<< ((nI i) &&& 31))) eS1 _ _ hP hD hS ls (lv_sub hl [2, 3, 1, 0] rfl)
  exact lp4 (5 + 1) 0 (Nat.zero_le _) (by omega) 0 rfl _ _ hP hD hS ls (lv_sub hl [2, 3, 1, 0] rfl)
def p_X0_settle_2 (g : Nat → Int32) (t : Nat) (S2 : (Nat → Int32)) (i : Nat) : (Nat → Int32) := (if (f_X0_isHolder S2 i t) = 0 then S2 else (s_X0_settleHolder S2 i t))
def q_X0_settle_2 (g : Nat → Int32) (t : Nat) (S0 : (Nat → Int32)) : Nat → (Nat → Int32)
  | 0 => S0
  | i + 1 => p_X0_settle_2 g t (q_X0_settle_2 g t S0 i) i
def s_X0_settle (g : Nat → Int32) (t : Nat) : Nat → Int32 := (if (q_X0_holdersOf_4 (q_X0_settle_2 g t g 5) t 0 5) = 0 then (upd (upd (upd (q_X0_settle_2 g t g 5) (5 + t) (((q_X0_settle_2 g t g 5) (5 + t)) + 1)) (17 + t) (-6)) 305 (((q_X0_settle_2 g t g 5) 305) + 1)) else (q_X0_settle_2 g t g 5))
def f_X0_settle (g : Nat → Int32) (t : Nat) : Int32 := (if (q_X0_holdersOf_4 (q_X0_settle_2 g t g 5) t 0 5) = 0 then 1 else 0)
theorem nar_X0_settle (g : Nat → Int32) (t : Nat) : narrow .boolean (.int (f_X0_settle g t)) = .int (f_X0_settle g t) := by unfold f_X0_settle; (repeat' split) <;> rfl
set_option maxHeartbeats 4000000 in
set_option maxRecDepth 100000 in
theorem k_X0_settle (l : Launch) (E : EE) (a : Nat → Nat) (g : Nat → Int32) (t : Nat) (ht : t < 12) : Ci l E yX0_settle wsX0_settle { frames := 4, cells := 0, slots := 0, locals := 88 } [.ref (a 0), .int (nI t)] (hs E a g) (f_X0_settle g t) (hs E a (s_X0_settle g t)) := by
  refine Ci.of (cc := cX0_settle) (maxL := 3) (rt := .boolean) (by decide) rfl (nar_X0_settle g t) (Nat.le_of_ble_eq_true rfl) ?_
  intro p e s m args below meth c A Q F hE hA hret hP hD ls hl
  obtain ⟨hx, hb, hml, hown, hts⟩ := id F
  have hS : va_S A s.heap s.heap [] := va_S.rf
  have hl : lv_has ls 3 [(0, .ref (a 0)), (1, .int (nI t))] := hl
  have in0 : ∀ w ∈ wsX00, w ∈ wsX0_settle := fun w h => List.mem_cons_of_mem _ (List.mem_append_left _ (List.mem_append_right _ h))
  have K22 := hts (.fieldLink RX0 22 "PromiseHours$House" "readers" "[LPromiseHours$Reader;") (by decide +kernel)
  have K26 := hts (.fieldLink RX0 26 "PromiseHours$House" "versions" "[I") (by decide +kernel)
  have K29 := hts (.fieldLink RX0 29 "PromiseHours$House" "ways" "[I") (by decide +kernel)
  have K56 := hts (.fieldLink RX0 56 "PromiseHours$House" "writesDone" "I") (by decide +kernel)
  refine lv_iconst (v := 0) hx hb dX0_settle_0 (by decide) ?_
  refine lv_istore_n (lv' := [(2, .int 0), (0, .ref (a 0)), (1, .int (nI t))]) hx hb dX0_settle_1 rfl hl (by decide) rfl (fun ls hl => ?_)
  have lp2 : ∀ (fu i : Nat), i ≤ 5 → 5 + 1 ≤ i + fu → ∀ (S2 : (Nat → Int32)), S2 = (q_X0_settle_2 g t g i) → ∀ (H : Heap) (locs : List Loc), va_P E.1 vwCl (hs E a S2) H → va_D A (hs E a S2) → va_S A s.heap H locs → ∀ ls : Array Slot, lv_has ls 3 [(0, .ref (a 0)), (1, .int (nI t)), (2, .int (nI i))] → W p l e { frames := 4, cells := 0, slots := 0, locals := 88 } s m args below meth c H locs 0 0 Q (F0 m 2 ls []) := by
    intro fu
    induction fu with
    | zero => intro i h1 h2; exact absurd h2 (by omega)
    | succ fu ih =>
      intro i hi hin S2 eS2 H locs hP hD hS ls hl
      refine lv_iload_n hx hb dX0_settle_2 rfl (lv_at hl 2 rfl) ?_
      refine lv_iconst (v := 5) hx hb dX0_settle_3 (by decide) ?_
      refine lv_icmp_ge (tgt := 38) hx hb dX0_settle_4 (by decide) (fun c_1 => ?_) (fun c_1 => ?_)
      · have hiN : i = 5 := by have := (nI_leI (a := 5) (b := i) (by omega) (by omega)).mp c_1; omega
        rw [hiN] at eS2 hl
        refine lv_aload_n hx hb dX0_settle_38 rfl (lv_at hl 0 rfl) ?_
        refine lv_iload_n hx hb dX0_settle_39 rfl (lv_at hl 1 rfl) ?_
        refine ci_V F hE (k_X0_holdersOf l E a S2 t (by omega)) (cwV 1 hts gX0_settle_X0_holdersOf rfl rfl rfl (by decide +kernel) ⟨Nat.le_of_ble_eq_true rfl, Nat.le_of_ble_eq_true rfl⟩) Fr.all 0 0 (hs_lo 0 (by decide) rfl) rfl rfl hP hD hS hA rfl hl.1 rfl (Nat.le_of_ble_eq_true rfl) dX0_settle_40 ⟨Nat.zero_le _, Nat.zero_le _⟩ (fun H locs hP hD hS => ?_)
        refine lv_if_eq (tgt := 48) hx hb dX0_settle_43 (by decide) (fun c_2 => ?_) (fun c_2 => ?_)
        · refine lv_aload_n hx hb dX0_settle_48 rfl (lv_at hl 0 rfl) ?_
          refine va_get (D := E.1) (ci := 0) (v := .ref (a 3)) (C := RX0) (T := TX0) (N := 17) hx hb hts in0 hown hE.1 hP 0 (hs_lo 0 (by decide) rfl) rfl 3 (by decide) K26 (fun _ h9 => h9) rfl dX0_settle_49 ?_
          refine lv_iload_n hx hb dX0_settle_52 rfl (lv_at hl 1 rfl) ?_
          refine lv_dup2_11 hx hb dX0_settle_53 rfl rfl ?_
          refine q_iald hx hb hE hP 3 (hs_lo 3 (by decide) rfl) (j := t) (v := (S2 (5 + t))) rfl (by omega) (by decide) ((seg_at (by omega)).trans rfl) dX0_settle_54 ?_
          refine lv_iconst (v := 1) hx hb dX0_settle_55 (by decide) ?_
          refine lv_iadd hx hb dX0_settle_56 ?_
          refine q_iast hx hb hE hP hD hS 3 (hs_lo 3 (by decide) rfl) (j := t) (wd' := (hs E a (upd S2 (5 + t) ((S2 (5 + t)) + 1)))) rfl (by omega) (by decide) (hs_w3 (by omega)) dX0_settle_57 (fun H locs hP hD hS => ?_)
          refine lv_aload_n hx hb dX0_settle_58 rfl (lv_at hl 0 rfl) ?_
          refine va_get (D := E.1) (ci := 0) (v := .ref (a 4)) (C := RX0) (T := TX0) (N := 17) hx hb hts in0 hown hE.1 hP 0 (hs_lo 0 (by decide) rfl) rfl 4 (by decide) K29 (fun _ h9 => h9) rfl dX0_settle_59 ?_
          refine lv_iload_n hx hb dX0_settle_62 rfl (lv_at hl 1 rfl) ?_
          refine lv_bipush (v := -6) hx hb dX0_settle_63 (by decide) ?_
          refine q_iast hx hb hE hP hD hS 4 (hs_lo 4 (by decide) rfl) (j := t) (wd' := (hs E a (upd (upd S2 (5 + t) ((S2 (5 + t)) + 1)) (17 + t) (-6)))) rfl (by omega) (by decide) (hs_w4 (by omega)) dX0_settle_65 (fun H locs hP hD hS => ?_)
          refine lv_aload_n hx hb dX0_settle_66 rfl (lv_at hl 0 rfl) ?_
          refine lv_dup hx hb dX0_settle_67 rfl ?_
          refine va_get (D := E.1) (ci := 0) (v := .int ((upd (upd S2 (5 + t) ((S2 (5 + t)) + 1)) (17 + t) (-6)) 305)) (C := RX0) (T := TX0) (N := 17) hx hb hts in0 hown hE.1 hP 0 (hs_lo 0 (by decide) rfl) rfl 13 (by decide) K56 (fun _ h9 => h9) rfl dX0_settle_68 ?_
          refine tpe ((up_n (by omega)).trans (up_n (by omega))) ?_
          refine lv_iconst (v := 1) hx hb dX0_settle_71 (by decide) ?_
          refine lv_iadd hx hb dX0_settle_72 ?_
          refine va_put (D := E.1) (ci := 0) (v := .int ((S2 305) + 1)) (ty := .int) (C := RX0) (T := TX0) (N := 17) hx hb hts in0 tyX0 tyX0_ok nmX0 hown hE.1 hP hD hS 0 (hs_lo 0 (by decide) rfl) rfl 13 (by decide) K56 (fun _ h9 => h9) rfl (by decide +kernel) rfl rfl (Nat.le_of_ble_eq_true rfl) dX0_settle_73 (fun H locs hP hD hS => ?_)
          rw [hs_f13] at hP hD
          have hP : va_P E.1 vwCl (hs E a (upd (upd (upd S2 (5 + t) ((S2 (5 + t)) + 1)) (17 + t) (-6)) 305 ((S2 305) + 1))) H := hP
          have hD : va_D A (hs E a (upd (upd (upd S2 (5 + t) ((S2 (5 + t)) + 1)) (17 + t) (-6)) 305 ((S2 305) + 1))) := hD
          refine lv_iconst (v := 1) hx hb dX0_settle_76 (by decide) ?_
          have eg : (upd (upd (upd S2 (5 + t) ((S2 (5 + t)) + 1)) (17 + t) (-6)) 305 ((S2 305) + 1)) = (s_X0_settle g t) := (by unfold s_X0_settle; (try rw [← eS2]); exact (if_pos c_2).symm)
          exact hret _ _ _ _ _ (by rw [← eg]; exact hP) (by rw [← eg]; exact hD) hS (by unfold f_X0_settle; (try rw [← eS2]); exact (if_pos c_2).symm) dX0_settle_77
        · refine lv_iconst (v := 0) hx hb dX0_settle_46 (by decide) ?_
          have eg : S2 = (s_X0_settle g t) := (by unfold s_X0_settle; (try rw [← eS2]); exact (if_neg c_2).symm)
          exact hret _ _ _ _ _ (by rw [← eg]; exact hP) (by rw [← eg]; exact hD) hS (by unfold f_X0_settle; (try rw [← eS2]); exact (if_neg c_2).symm) dX0_settle_47
      · have hlt : i < 5 := Nat.lt_of_not_le (fun h => c_1 (nI_le (a := 5) (b := i) (by omega) (by omega)))
        refine lv_aload_n hx hb dX0_settle_7 rfl (lv_at hl 0 rfl) ?_
        refine lv_aload_n hx hb dX0_settle_8 rfl (lv_at hl 0 rfl) ?_
        refine va_get (D := E.1) (ci := 0) (v := .ref (a 2)) (C := RX0) (T := TX0) (N := 17) hx hb hts in0 hown hE.1 hP 0 (hs_lo 0 (by decide) rfl) rfl 2 (by decide) K22 (fun _ h9 => h9) rfl dX0_settle_9 ?_
        refine lv_iload_n hx hb dX0_settle_12 rfl (lv_at hl 2 rfl) ?_
        refine q_aald hx hb hE hP 2 1 (hs_lo 2 (by decide) rfl) rfl (j := i) rfl (by omega) (by decide) rfl dX0_settle_13 ?_
        refine lv_iload_n hx hb dX0_settle_14 rfl (lv_at hl 1 rfl) ?_
        refine ci_V F hE (k_X0_isHolder l E a S2 i t (by omega) (by omega)) (cwV 2 hts gX0_settle_X0_isHolder rfl rfl rfl (by decide +kernel) ⟨Nat.le_of_ble_eq_true rfl, Nat.le_of_ble_eq_true rfl⟩) Fr.all 0 0 (hs_lo 0 (by decide) rfl) rfl rfl hP hD hS hA rfl hl.1 rfl (Nat.le_of_ble_eq_true rfl) dX0_settle_15 ⟨Nat.zero_le _, Nat.zero_le _⟩ (fun H locs hP hD hS => ?_)
        refine lv_if_eq (tgt := 32) hx hb dX0_settle_18 (by decide) (fun c_3 => ?_) (fun c_3 => ?_)
        · refine lv_iinc (v := (nI (i + 1))) (lv' := [(2, .int (nI (i + 1))), (0, .ref (a 0)), (1, .int (nI t))]) hx hb dX0_settle_32 hl (k := 2) rfl (nI_1 i) (by decide) rfl (fun ls hl => ?_)
          refine lv_goto (tgt := 2) hx hb dX0_settle_35 (by decide) ?_
          have eS1 : (S2 : (Nat → Int32)) = (q_X0_settle_2 g t g (i + 1)) := by
            show _ = p_X0_settle_2 g t (q_X0_settle_2 g t g i) i
            rw [← eS2]
            unfold p_X0_settle_2; exact (if_pos c_3).symm
          exact ih (i + 1) (by omega) (by omega) S2 eS1 _ _ hP hD hS ls (lv_sub hl [1, 2, 0] rfl)
        · refine lv_aload_n hx hb dX0_settle_21 rfl (lv_at hl 0 rfl) ?_
          refine lv_aload_n hx hb dX0_settle_22 rfl (lv_at hl 0 rfl) ?_
          refine va_get (D := E.1) (ci := 0) (v := .ref (a 2)) (C := RX0) (T := TX0) (N := 17) hx hb hts in0 hown hE.1 hP 0 (hs_lo 0 (by decide) rfl) rfl 2 (by decide) K22 (fun _ h9 => h9) rfl dX0_settle_23 ?_
          refine lv_iload_n hx hb dX0_settle_26 rfl (lv_at hl 2 rfl) ?_
          refine q_aald hx hb hE hP 2 1 (hs_lo 2 (by decide) rfl) rfl (j := i) rfl (by omega) (by decide) rfl dX0_settle_27 ?_
          refine lv_iload_n hx hb dX0_settle_28 rfl (lv_at hl 1 rfl) ?_
          refine cv_V F hE (k_X0_settleHolder l E a S2 i t (by omega) (by omega)) (cwV 2 hts gX0_settle_X0_settleHolder rfl rfl rfl (by decide +kernel) ⟨Nat.le_of_ble_eq_true rfl, Nat.le_of_ble_eq_true rfl⟩) Fr.all 0 0 (hs_lo 0 (by decide) rfl) rfl rfl hP hD hS hA rfl hl.1 rfl (Nat.le_of_ble_eq_true rfl) dX0_settle_29 ⟨Nat.zero_le _, Nat.zero_le _⟩ (fun H locs hP hD hS => ?_)
          have hP : va_P E.1 vwCl (hs E a (s_X0_settleHolder S2 i t)) H := hP
          have hD : va_D A (hs E a (s_X0_settleHolder S2 i t)) := hD
          refine lv_iinc (v := (nI (i + 1))) (lv' := [(2, .int (nI (i + 1))), (0, .ref (a 0)), (1, .int (nI t))]) hx hb dX0_settle_32 hl (k := 2) rfl (nI_1 i) (by decide) rfl (fun ls hl => ?_)
          refine lv_goto (tgt := 2) hx hb dX0_settle_35 (by decide) ?_
          have eS1 : ((s_X0_settleHolder S2 i t) : (Nat → Int32)) = (q_X0_settle_2 g t g (i + 1)) := by
            show _ = p_X0_settle_2 g t (q_X0_settle_2 g t g i) i
            rw [← eS2]
            unfold p_X0_settle_2; exact (if_neg c_3).symm
          exact ih (i + 1) (by omega) (by omega) (s_X0_settleHolder S2 i t) eS1 _ _ hP hD hS ls (lv_sub hl [1, 2, 0] rfl)
  exact lp2 (5 + 1) 0 (Nat.zero_le _) (by omega) g rfl _ _ hP hD hS ls (lv_sub hl [1, 2, 0] rfl)
def p_X0_dueOf_9 (g : Nat → Int32) (t : Nat) (S9 : Int32) (i : Nat) : Int32 := (if (f_X0_isHolder g i t) = 0 then S9 else (if S9 < (f_X1_holdsUntil g i t) then (f_X1_holdsUntil g i t) else S9))
def q_X0_dueOf_9 (g : Nat → Int32) (t : Nat) (S0 : Int32) : Nat → Int32
  | 0 => S0
  | i + 1 => p_X0_dueOf_9 g t (q_X0_dueOf_9 g t S0 i) i
set_option maxHeartbeats 4000000 in
set_option maxRecDepth 100000 in
theorem k_X0_dueOf (l : Launch) (E : EE) (a : Nat → Nat) (g : Nat → Int32) (t : Nat) (ht : t < 12) : Ci l E yX0_dueOf wsX0_dueOf { frames := 3, cells := 0, slots := 0, locals := 62 } [.ref (a 0), .int (nI t)] (hs E a g) (q_X0_dueOf_9 g t ((g 0) + 1) 5) (hs E a g) := by
  refine Ci.of (cc := cX0_dueOf) (maxL := 4) (rt := .int) (by decide) rfl rfl (Nat.le_of_ble_eq_true rfl) ?_
  intro p e s m args below meth c A Q F hE hA hret hP hD ls hl
  obtain ⟨hx, hb, hml, hown, hts⟩ := id F
  have hS : va_S A s.heap s.heap [] := va_S.rf
  have hl : lv_has ls 4 [(0, .ref (a 0)), (1, .int (nI t))] := hl
  have in0 : ∀ w ∈ wsX00, w ∈ wsX0_dueOf := fun w h => List.mem_cons_of_mem _ (List.mem_append_left _ (List.mem_append_right _ h))
  have K22 := hts (.fieldLink RX0 22 "PromiseHours$House" "readers" "[LPromiseHours$Reader;") (by decide +kernel)
  have K9 := hts (.fieldLink RX0 9 "PromiseHours$House" "tick" "I") (by decide +kernel)
  refine lv_aload_n hx hb dX0_dueOf_0 rfl (lv_at hl 0 rfl) ?_
  refine va_get (D := E.1) (ci := 0) (v := .int (g 0)) (C := RX0) (T := TX0) (N := 17) hx hb hts in0 hown hE.1 hP 0 (hs_lo 0 (by decide) rfl) rfl 0 (by decide) K9 (fun _ h9 => h9) rfl dX0_dueOf_1 ?_
  refine lv_iconst (v := 1) hx hb dX0_dueOf_4 (by decide) ?_
  refine lv_iadd hx hb dX0_dueOf_5 ?_
  refine lv_istore_n (lv' := [(2, .int ((g 0) + 1)), (0, .ref (a 0)), (1, .int (nI t))]) hx hb dX0_dueOf_6 rfl hl (by decide) rfl (fun ls hl => ?_)
  refine lv_iconst (v := 0) hx hb dX0_dueOf_7 (by decide) ?_
  refine lv_istore_n (lv' := [(3, .int 0), (2, .int ((g 0) + 1)), (0, .ref (a 0)), (1, .int (nI t))]) hx hb dX0_dueOf_8 rfl hl (by decide) rfl (fun ls hl => ?_)
  have lp9 : ∀ (fu i : Nat), i ≤ 5 → 5 + 1 ≤ i + fu → ∀ (S9 : Int32), S9 = (q_X0_dueOf_9 g t ((g 0) + 1) i) → ∀ (H : Heap) (locs : List Loc), va_P E.1 vwCl (hs E a g) H → va_D A (hs E a g) → va_S A s.heap H locs → ∀ ls : Array Slot, lv_has ls 4 [(0, .ref (a 0)), (1, .int (nI t)), (2, .int S9), (3, .int (nI i))] → W p l e { frames := 3, cells := 0, slots := 0, locals := 62 } s m args below meth c H locs 0 0 Q (F0 m 9 ls []) := by
    intro fu
    induction fu with
    | zero => intro i h1 h2; exact absurd h2 (by omega)
    | succ fu ih =>
      intro i hi hin S9 eS9 H locs hP hD hS ls hl
      refine lv_iload_n hx hb dX0_dueOf_9 rfl (lv_at hl 3 rfl) ?_
      refine lv_iconst (v := 5) hx hb dX0_dueOf_10 (by decide) ?_
      refine lv_icmp_ge (tgt := 49) hx hb dX0_dueOf_11 (by decide) (fun c_1 => ?_) (fun c_1 => ?_)
      · have hiN : i = 5 := by have := (nI_leI (a := 5) (b := i) (by omega) (by omega)).mp c_1; omega
        rw [hiN] at eS9 hl
        refine lv_iload_n hx hb dX0_dueOf_49 rfl (lv_at hl 2 rfl) ?_
        exact hret _ _ _ _ _ hP hD hS (by rw [← eS9]) dX0_dueOf_50
      · have hlt : i < 5 := Nat.lt_of_not_le (fun h => c_1 (nI_le (a := 5) (b := i) (by omega) (by omega)))
        refine lv_aload_n hx hb dX0_dueOf_14 rfl (lv_at hl 0 rfl) ?_
        refine lv_aload_n hx hb dX0_dueOf_15 rfl (lv_at hl 0 rfl) ?_
        refine va_get (D := E.1) (ci := 0) (v := .ref (a 2)) (C := RX0) (T := TX0) (N := 17) hx hb hts in0 hown hE.1 hP 0 (hs_lo 0 (by decide) rfl) rfl 2 (by decide) K22 (fun _ h9 => h9) rfl dX0_dueOf_16 ?_
        refine lv_iload_n hx hb dX0_dueOf_19 rfl (lv_at hl 3 rfl) ?_
        refine q_aald hx hb hE hP 2 1 (hs_lo 2 (by decide) rfl) rfl (j := i) rfl (by omega) (by decide) rfl dX0_dueOf_20 ?_
        refine lv_iload_n hx hb dX0_dueOf_21 rfl (lv_at hl 1 rfl) ?_
        refine ci_V F hE (k_X0_isHolder l E a g i t (by omega) (by omega)) (cwV 2 hts gX0_dueOf_X0_isHolder rfl rfl rfl (by decide +kernel) ⟨Nat.le_of_ble_eq_true rfl, Nat.le_of_ble_eq_true rfl⟩) Fr.all 0 0 (hs_lo 0 (by decide) rfl) rfl rfl hP hD hS hA rfl hl.1 rfl (Nat.le_of_ble_eq_true rfl) dX0_dueOf_22 ⟨Nat.zero_le _, Nat.zero_le _⟩ (fun H locs hP hD hS => ?_)
        refine lv_if_eq (tgt := 43) hx hb dX0_dueOf_25 (by decide) (fun c_2 => ?_) (fun c_2 => ?_)
        · refine lv_iinc (v := (nI (i + 1))) (lv' := [(3, .int (nI (i + 1))), (0, .ref (a 0)), (1, .int (nI t)), (2, .int S9)]) hx hb dX0_dueOf_43 hl (k := 3) rfl (nI_1 i) (by decide) rfl (fun ls hl => ?_)
          refine lv_goto (tgt := 9) hx hb dX0_dueOf_46 (by decide) ?_
          have eS1 : (S9 : Int32) = (q_X0_dueOf_9 g t ((g 0) + 1) (i + 1)) := by
            show _ = p_X0_dueOf_9 g t (q_X0_dueOf_9 g t ((g 0) + 1) i) i
            rw [← eS9]
            unfold p_X0_dueOf_9; exact (if_pos c_2).symm
          exact ih (i + 1) (by omega) (by omega) S9 eS1 _ _ hP hD hS ls (lv_sub hl [1, 2, 3, 0] rfl)
        · refine lv_iload_n hx hb dX0_dueOf_28 rfl (lv_at hl 2 rfl) ?_
          refine lv_aload_n hx hb dX0_dueOf_29 rfl (lv_at hl 0 rfl) ?_
          refine va_get (D := E.1) (ci := 0) (v := .ref (a 2)) (C := RX0) (T := TX0) (N := 17) hx hb hts in0 hown hE.1 hP 0 (hs_lo 0 (by decide) rfl) rfl 2 (by decide) K22 (fun _ h9 => h9) rfl dX0_dueOf_30 ?_
          refine lv_iload_n hx hb dX0_dueOf_33 rfl (lv_at hl 3 rfl) ?_
          refine q_aald hx hb hE hP 2 1 (hs_lo 2 (by decide) rfl) rfl (j := i) rfl (by omega) (by decide) rfl dX0_dueOf_34 ?_
          refine lv_iload_n hx hb dX0_dueOf_35 rfl (lv_at hl 1 rfl) ?_
          refine ci_VN F hE (k_X1_holdsUntil l E a g i t (by omega) (by omega)) ⟨va_cnB 1 hts gX0_dueOf_X1_holdsUntil_n211 rfl rfl rfl (ev_link hE nk_X0_211 rfl) (hts (.initialized RX1) (by decide +kernel)) (by decide +kernel) ⟨Nat.le_of_ble_eq_true rfl, Nat.le_of_ble_eq_true rfl⟩, hts (.instanceMethod yX1_holdsUntil) (by decide +kernel), hts (.selects RX1 yX1_holdsUntil yX1_holdsUntil) (by decide +kernel)⟩ Fr.all (8 + 6 * i) 1 (hs_hi0 (by omega)) rfl rfl hP hD hS hA rfl hl.1 rfl (Nat.le_of_ble_eq_true rfl) dX0_dueOf_36 ⟨Nat.zero_le _, Nat.zero_le _⟩ (fun H locs hP hD hS => ?_)
          refine va_mmax hx hb (hml.trans hl.1.symm) hown (hts (.methodLink RX0 214 Lib.Math.max.name) (by decide +kernel)) (hts (.static Lib.Math.max.name) (by decide +kernel)) (hts (.initialized "java/lang/Math") (by decide +kernel)) (hts (.code Lib.Math.max.name Lib.Math.max.code 2 (some .int)) (by decide +kernel)) (Nat.le_of_ble_eq_true rfl) (Nat.le_of_ble_eq_true rfl) (Nat.zero_le _) (Nat.zero_le _) dX0_dueOf_39 ?_
          refine lv_istore_n (lv' := [(2, .int (if S9 < (f_X1_holdsUntil g i t) then (f_X1_holdsUntil g i t) else S9)), (0, .ref (a 0)), (1, .int (nI t)), (3, .int (nI i))]) hx hb dX0_dueOf_42 rfl hl (by decide) rfl (fun ls hl => ?_)
          refine lv_iinc (v := (nI (i + 1))) (lv' := [(3, .int (nI (i + 1))), (2, .int (if S9 < (f_X1_holdsUntil g i t) then (f_X1_holdsUntil g i t) else S9)), (0, .ref (a 0)), (1, .int (nI t))]) hx hb dX0_dueOf_43 hl (k := 3) rfl (nI_1 i) (by decide) rfl (fun ls hl => ?_)
          refine lv_goto (tgt := 9) hx hb dX0_dueOf_46 (by decide) ?_
          have eS1 : ((if S9 < (f_X1_holdsUntil g i t) then (f_X1_holdsUntil g i t) else S9) : Int32) = (q_X0_dueOf_9 g t ((g 0) + 1) (i + 1)) := by
            show _ = p_X0_dueOf_9 g t (q_X0_dueOf_9 g t ((g 0) + 1) i) i
            rw [← eS9]
            unfold p_X0_dueOf_9; exact (if_neg c_2).symm
          exact ih (i + 1) (by omega) (by omega) (if S9 < (f_X1_holdsUntil g i t) then (f_X1_holdsUntil g i t) else S9) eS1 _ _ hP hD hS ls (lv_sub hl [2, 3, 1, 0] rfl)
  exact lp9 (5 + 1) 0 (Nat.zero_le _) (by omega) ((g 0) + 1) rfl _ _ hP hD hS ls (lv_sub hl [2, 3, 1, 0] rfl)
