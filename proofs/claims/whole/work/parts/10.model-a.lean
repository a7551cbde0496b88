def f_X3_in (v : Int32) (lo : Int32) (hi : Int32) : Int32 := (if v < lo then 0 else (if hi < v then 0 else 1) : Int32)
theorem nar_X3_in (v : Int32) (lo : Int32) (hi : Int32) : narrow .boolean (.int (f_X3_in v lo hi)) = .int (f_X3_in v lo hi) := by unfold f_X3_in; (repeat' split) <;> rfl
set_option maxHeartbeats 4000000 in
set_option maxRecDepth 100000 in
theorem k_X3_in (l : Launch) (E : EE)  (v : Int32) (lo : Int32) (hi : Int32)  : Ci l E yX3_in wsX3_in { frames := 0, cells := 0, slots := 0, locals := 0 } [.int v, .int lo, .int hi] [] (f_X3_in v lo hi) [] := by
  refine Ci.of (cc := cX3_in) (maxL := 3) (rt := .boolean) (by decide) rfl (nar_X3_in v lo hi) (Nat.le_of_ble_eq_true rfl) ?_
  intro p e s m args below meth c A Q F hE hA hret hP hD ls hl
  obtain ⟨hx, hb, hml, hown, hts⟩ := id F
  have hS : va_S A s.heap s.heap [] := va_S.rf
  have hl : lv_has ls 3 [(0, .int v), (1, .int lo), (2, .int hi)] := hl
  refine lv_iload_n hx hb dX3_in_0 rfl (lv_at hl 0 rfl) ?_
  refine lv_iload_n hx hb dX3_in_1 rfl (lv_at hl 1 rfl) ?_
  have J_15_1 : ∀ (w : Int32) (H : Heap) (locs : List Loc), va_P E.1 vwCl [] H → va_D A [] → va_S A s.heap H locs → w = (if v < lo then 0 else (if hi < v then 0 else 1) : Int32) → W p l e { frames := 0, cells := 0, slots := 0, locals := 0 } s m args below meth c H locs 0 0 Q (F0 m 15 ls [.int w]) := by
    intro w H locs hP hD hS ew
    rw [ew]
    exact hret _ _ _ _ _ hP hD hS rfl dX3_in_15
  refine lv_icmp_lt (tgt := 14) hx hb dX3_in_2 (by decide) (fun c_2 => ?_) (fun c_2 => ?_)
  · refine lv_iconst (v := 0) hx hb dX3_in_14 (by decide) ?_
    exact J_15_1 _ _ _ hP hD hS (if_pos c_2).symm
  · refine lv_iload_n hx hb dX3_in_5 rfl (lv_at hl 0 rfl) ?_
    refine lv_iload_n hx hb dX3_in_6 rfl (lv_at hl 2 rfl) ?_
    refine lv_icmp_gt (tgt := 14) hx hb dX3_in_7 (by decide) (fun c_3 => ?_) (fun c_3 => ?_)
    · refine lv_iconst (v := 0) hx hb dX3_in_14 (by decide) ?_
      exact J_15_1 _ _ _ hP hD hS ((if_neg c_2).trans (if_pos c_3)).symm
    · refine lv_iconst (v := 1) hx hb dX3_in_10 (by decide) ?_
      refine lv_goto (tgt := 15) hx hb dX3_in_11 (by decide) ?_
      exact J_15_1 _ _ _ hP hD hS ((if_neg c_2).trans (if_neg c_3)).symm
set_option maxHeartbeats 4000000 in
set_option maxRecDepth 100000 in
theorem k_X3_isReader (l : Launch) (E : EE)  (x : Int32)  : Ci l E yX3_isReader wsX3_isReader { frames := 1, cells := 0, slots := 0, locals := 22 } [.int x] [] (f_X3_in x 0 4) [] := by
  refine Ci.of (cc := cX3_isReader) (maxL := 1) (rt := .boolean) (by decide) rfl (nar_X3_in _ _ _) (Nat.le_of_ble_eq_true rfl) ?_
  intro p e s m args below meth c A Q F hE hA hret hP hD ls hl
  obtain ⟨hx, hb, hml, hown, hts⟩ := id F
  have hS : va_S A s.heap s.heap [] := va_S.rf
  have hl : lv_has ls 1 [(0, .int x)] := hl
  refine lv_iload_n hx hb dX3_isReader_0 rfl (lv_at hl 0 rfl) ?_
  refine lv_iconst (v := 0) hx hb dX3_isReader_1 (by decide) ?_
  refine lv_iconst (v := 4) hx hb dX3_isReader_2 (by decide) ?_
  refine ci_S F hE (k_X3_in l E x 0 4) (va_cwS 3 hts gX3_isReader_X3_in rfl rfl rfl (by decide +kernel) ⟨Nat.le_of_ble_eq_true rfl, Nat.le_of_ble_eq_true rfl⟩) Fr.nil hP hD hS hA rfl hl.1 rfl (Nat.le_of_ble_eq_true rfl) dX3_isReader_3 ⟨Nat.zero_le _, Nat.zero_le _⟩ (fun H locs hP hD hS => ?_)
  exact hret _ _ _ _ _ hP hD hS rfl dX3_isReader_6
set_option maxHeartbeats 4000000 in
set_option maxRecDepth 100000 in
theorem k_X3_isThing (l : Launch) (E : EE)  (x : Int32)  : Ci l E yX3_isThing wsX3_isThing { frames := 1, cells := 0, slots := 0, locals := 22 } [.int x] [] (f_X3_in x 0 11) [] := by
  refine Ci.of (cc := cX3_isThing) (maxL := 1) (rt := .boolean) (by decide) rfl (nar_X3_in _ _ _) (Nat.le_of_ble_eq_true rfl) ?_
  intro p e s m args below meth c A Q F hE hA hret hP hD ls hl
  obtain ⟨hx, hb, hml, hown, hts⟩ := id F
  have hS : va_S A s.heap s.heap [] := va_S.rf
  have hl : lv_has ls 1 [(0, .int x)] := hl
  refine lv_iload_n hx hb dX3_isThing_0 rfl (lv_at hl 0 rfl) ?_
  refine lv_iconst (v := 0) hx hb dX3_isThing_1 (by decide) ?_
  refine lv_bipush (v := 11) hx hb dX3_isThing_2 (by decide) ?_
  refine ci_S F hE (k_X3_in l E x 0 11) (va_cwS 3 hts gX3_isThing_X3_in rfl rfl rfl (by decide +kernel) ⟨Nat.le_of_ble_eq_true rfl, Nat.le_of_ble_eq_true rfl⟩) Fr.nil hP hD hS hA rfl hl.1 rfl (Nat.le_of_ble_eq_true rfl) dX3_isThing_4 ⟨Nat.zero_le _, Nat.zero_le _⟩ (fun H locs hP hD hS => ?_)
  exact hret _ _ _ _ _ hP hD hS rfl dX3_isThing_7
set_option maxHeartbeats 4000000 in
set_option maxRecDepth 100000 in
theorem k_X3_said (l : Launch) (E : EE)  (r : Nat) (k : Nat)  : Ci l E yX3_said wsX3_said { frames := 0, cells := 0, slots := 0, locals := 0 } [.int (nI r), .int (nI k)] [] (nI (262 + 6 * r + k)) [] := by
  refine Ci.of (cc := cX3_said) (maxL := 2) (rt := .int) (by decide) rfl rfl (Nat.le_of_ble_eq_true rfl) ?_
  intro p e s m args below meth c A Q F hE hA hret hP hD ls hl
  obtain ⟨hx, hb, hml, hown, hts⟩ := id F
  have hS : va_S A s.heap s.heap [] := va_S.rf
  have hl : lv_has ls 2 [(0, .int (nI r)), (1, .int (nI k))] := hl
  refine lv_sipush (v := 262) hx hb dX3_said_0 (by decide) ?_
  refine lv_bipush (v := 6) hx hb dX3_said_3 (by decide) ?_
  refine lv_iload_n hx hb dX3_said_5 rfl (lv_at hl 0 rfl) ?_
  refine lv_imul hx hb dX3_said_6 ?_
  refine tpe (y := nI (6 * r)) (pk_mul 6 r) ?_
  refine lv_iadd hx hb dX3_said_7 ?_
  refine tpe (y := nI (262 + 6 * r)) (nI_add 262 (6 * r)) ?_
  refine lv_iload_n hx hb dX3_said_8 rfl (lv_at hl 1 rfl) ?_
  refine lv_iadd hx hb dX3_said_9 ?_
  refine tpe (y := nI (262 + 6 * r + k)) (nI_add (262 + 6 * r) k) ?_
  exact hret _ _ _ _ _ hP hD hS rfl dX3_said_10
set_option maxHeartbeats 4000000 in
set_option maxRecDepth 100000 in
theorem k_X3_volumeAt (l : Launch) (E : EE)  (o : Nat) (r : Nat) (t : Nat) (ht : t < 2 ^ 31) : Ci l E yX3_volumeAt wsX3_volumeAt { frames := 0, cells := 0, slots := 0, locals := 0 } [.int (nI o), .int (nI r), .int (nI t)] [] (nI (o + 3 * r + t / 4)) [] := by
  refine Ci.of (cc := cX3_volumeAt) (maxL := 3) (rt := .int) (by decide) rfl rfl (Nat.le_of_ble_eq_true rfl) ?_
  intro p e s m args below meth c A Q F hE hA hret hP hD ls hl
  obtain ⟨hx, hb, hml, hown, hts⟩ := id F
  have hS : va_S A s.heap s.heap [] := va_S.rf
  have hl : lv_has ls 3 [(0, .int (nI o)), (1, .int (nI r)), (2, .int (nI t))] := hl
  refine lv_iload_n hx hb dX3_volumeAt_0 rfl (lv_at hl 0 rfl) ?_
  refine lv_iconst (v := 3) hx hb dX3_volumeAt_1 (by decide) ?_
  refine lv_iload_n hx hb dX3_volumeAt_2 rfl (lv_at hl 1 rfl) ?_
  refine lv_imul hx hb dX3_volumeAt_3 ?_
  refine tpe (y := nI (3 * r)) (pk_mul 3 r) ?_
  refine lv_iadd hx hb dX3_volumeAt_4 ?_
  refine tpe (y := nI (o + 3 * r)) (nI_add o (3 * r)) ?_
  refine lv_iload_n hx hb dX3_volumeAt_5 rfl (lv_at hl 2 rfl) ?_
  refine lv_iconst (v := 4) hx hb dX3_volumeAt_6 (by decide) ?_
  refine lv_idiv hx hb dX3_volumeAt_7 (by decide) ?_
  refine tpe (y := nI (t / 4)) (pk_div (d := 4) (by omega) (by decide) (by decide)) ?_
  refine lv_iadd hx hb dX3_volumeAt_8 ?_
  refine tpe (y := nI (o + 3 * r + t / 4)) (nI_add (o + 3 * r) (t / 4)) ?_
  exact hret _ _ _ _ _ hP hD hS rfl dX3_volumeAt_9
set_option maxHeartbeats 4000000 in
set_option maxRecDepth 100000 in
theorem k_X3_thingAt (l : Launch) (E : EE)  (o : Nat) (r : Nat) (t : Nat)  : Ci l E yX3_thingAt wsX3_thingAt { frames := 0, cells := 0, slots := 0, locals := 0 } [.int (nI o), .int (nI r), .int (nI t)] [] (nI (o + 12 * r + t)) [] := by
  refine Ci.of (cc := cX3_thingAt) (maxL := 3) (rt := .int) (by decide) rfl rfl (Nat.le_of_ble_eq_true rfl) ?_
  intro p e s m args below meth c A Q F hE hA hret hP hD ls hl
  obtain ⟨hx, hb, hml, hown, hts⟩ := id F
  have hS : va_S A s.heap s.heap [] := va_S.rf
  have hl : lv_has ls 3 [(0, .int (nI o)), (1, .int (nI r)), (2, .int (nI t))] := hl
  refine lv_iload_n hx hb dX3_thingAt_0 rfl (lv_at hl 0 rfl) ?_
  refine lv_bipush (v := 12) hx hb dX3_thingAt_1 (by decide) ?_
  refine lv_iload_n hx hb dX3_thingAt_3 rfl (lv_at hl 1 rfl) ?_
  refine lv_imul hx hb dX3_thingAt_4 ?_
  refine tpe (y := nI (12 * r)) (pk_mul 12 r) ?_
  refine lv_iadd hx hb dX3_thingAt_5 ?_
  refine tpe (y := nI (o + 12 * r)) (nI_add o (12 * r)) ?_
  refine lv_iload_n hx hb dX3_thingAt_6 rfl (lv_at hl 2 rfl) ?_
  refine lv_iadd hx hb dX3_thingAt_7 ?_
  refine tpe (y := nI (o + 12 * r + t)) (nI_add (o + 12 * r) t) ?_
  exact hret _ _ _ _ _ hP hD hS rfl dX3_thingAt_8
def f_X3_isOver (g : Nat → Int32) (r : Nat) (x : Int32) : Int32 := (if (((g 0) + (g (47 + r))) + (g 3)) < x then 0 else 1 : Int32)
theorem nar_X3_isOver (g : Nat → Int32) (r : Nat) (x : Int32) : narrow .boolean (.int (f_X3_isOver g r x)) = .int (f_X3_isOver g r x) := by unfold f_X3_isOver; (repeat' split) <;> rfl
set_option maxHeartbeats 4000000 in
set_option maxRecDepth 100000 in
theorem k_X3_isOver (l : Launch) (E : EE) (a : Nat → Nat) (g im kp : Nat → Int32) (r : Nat) (x : Int32) (hr : r < 5) : Ci l E yX3_isOver wsX3_isOver { frames := 0, cells := 0, slots := 0, locals := 0 } [.ref (a 0), .int (nI r), .int x] (ms E a g im kp) (f_X3_isOver g r x) (ms E a g im kp) := by
  refine Ci.of (cc := cX3_isOver) (maxL := 3) (rt := .boolean) (by decide) rfl (nar_X3_isOver g r x) (Nat.le_of_ble_eq_true rfl) ?_
  intro p e s m args below meth c A Q F hE hA hret hP hD ls hl
  obtain ⟨hx, hb, hml, hown, hts⟩ := id F
  have hS : va_S A s.heap s.heap [] := va_S.rf
  have hl : lv_has ls 3 [(0, .ref (a 0)), (1, .int (nI r)), (2, .int x)] := hl
  have in3 : ∀ w ∈ wsX30, w ∈ wsX3_isOver := fun w h => List.mem_cons_of_mem _ (List.mem_append_right _ h)
  have K7 := hts (.fieldLink RX3 7 "PromiseHoursModel" "state" "[I") (by decide +kernel)
  refine lv_aload_n hx hb dX3_isOver_0 rfl (lv_at hl 0 rfl) ?_
  refine va_get (D := E.1) (ci := 3) (v := .ref (a 1)) (C := RX3) (T := TX3) (N := 3) hx hb hts in3 hown hE.1 hP 0 rfl rfl 0 (by decide) K7 (fun _ h9 => h9) rfl dX3_isOver_1 ?_
  refine lv_iconst (v := 0) hx hb dX3_isOver_4 (by decide) ?_
  refine q_iald hx hb hE hP 1 rfl (j := 0) (v := (g 0)) rfl (by omega) (by decide) rfl dX3_isOver_5 ?_
  refine lv_aload_n hx hb dX3_isOver_6 rfl (lv_at hl 0 rfl) ?_
  refine va_get (D := E.1) (ci := 3) (v := .ref (a 1)) (C := RX3) (T := TX3) (N := 3) hx hb hts in3 hown hE.1 hP 0 rfl rfl 0 (by decide) K7 (fun _ h9 => h9) rfl dX3_isOver_7 ?_
  refine lv_bipush (v := 47) hx hb dX3_isOver_10 (by decide) ?_
  refine lv_iload_n hx hb dX3_isOver_12 rfl (lv_at hl 1 rfl) ?_
  refine lv_iadd hx hb dX3_isOver_13 ?_
  refine tpe (y := nI (47 + r)) (nI_add 47 r) ?_
  refine q_iald hx hb hE hP 1 rfl (j := (47 + r)) (v := (g (47 + r))) rfl (by omega) (by decide) rfl dX3_isOver_14 ?_
  refine lv_iadd hx hb dX3_isOver_15 ?_
  refine lv_aload_n hx hb dX3_isOver_16 rfl (lv_at hl 0 rfl) ?_
  refine va_get (D := E.1) (ci := 3) (v := .ref (a 1)) (C := RX3) (T := TX3) (N := 3) hx hb hts in3 hown hE.1 hP 0 rfl rfl 0 (by decide) K7 (fun _ h9 => h9) rfl dX3_isOver_17 ?_
  refine lv_iconst (v := 3) hx hb dX3_isOver_20 (by decide) ?_
  refine q_iald hx hb hE hP 1 rfl (j := 3) (v := (g 3)) rfl (by omega) (by decide) rfl dX3_isOver_21 ?_
  refine lv_iadd hx hb dX3_isOver_22 ?_
  refine lv_iload_n hx hb dX3_isOver_23 rfl (lv_at hl 2 rfl) ?_
  have J_32_1 : ∀ (w : Int32) (H : Heap) (locs : List Loc), va_P E.1 vwCl (ms E a g im kp) H → va_D A (ms E a g im kp) → va_S A s.heap H locs → w = (if (((g 0) + (g (47 + r))) + (g 3)) < x then 0 else 1 : Int32) → W p l e { frames := 0, cells := 0, slots := 0, locals := 0 } s m args below meth c H locs 0 0 Q (F0 m 32 ls [.int w]) := by
    intro w H locs hP hD hS ew
    rw [ew]
    exact hret _ _ _ _ _ hP hD hS rfl dX3_isOver_32
  refine lv_icmp_lt (tgt := 31) hx hb dX3_isOver_24 (by decide) (fun c_2 => ?_) (fun c_2 => ?_)
  · refine lv_iconst (v := 0) hx hb dX3_isOver_31 (by decide) ?_
    exact J_32_1 _ _ _ hP hD hS (if_pos c_2).symm
  · refine lv_iconst (v := 1) hx hb dX3_isOver_27 (by decide) ?_
    refine lv_goto (tgt := 32) hx hb dX3_isOver_28 (by decide) ?_
    exact J_32_1 _ _ _ hP hD hS (if_neg c_2).symm
def f_X3_canUse (g : Nat → Int32) (r : Nat) (t : Nat) : Int32 := (if (g (82 + 12 * r + t)) < 0 then 0 else (if (f_X3_isOver g r (g (142 + 12 * r + t))) = 0 then (if (f_X3_isOver g r (g (52 + 3 * r + t / 4))) = 0 then 1 else 0) else 0) : Int32)
theorem nar_X3_canUse (g : Nat → Int32) (r : Nat) (t : Nat) : narrow .boolean (.int (f_X3_canUse g r t)) = .int (f_X3_canUse g r t) := by unfold f_X3_canUse; (repeat' split) <;> rfl
set_option maxHeartbeats 4000000 in
set_option maxRecDepth 100000 in
theorem k_X3_canUse (l : Launch) (E : EE) (a : Nat → Nat) (g im kp : Nat → Int32) (r : Nat) (t : Nat) (hr : r < 5) (ht : t < 12) : Ci l E yX3_canUse wsX3_canUse { frames := 1, cells := 0, slots := 0, locals := 22 } [.ref (a 0), .int (nI r), .int (nI t)] (ms E a g im kp) (f_X3_canUse g r t) (ms E a g im kp) := by
  refine Ci.of (cc := cX3_canUse) (maxL := 3) (rt := .boolean) (by decide) rfl (nar_X3_canUse g r t) (Nat.le_of_ble_eq_true rfl) ?_
  intro p e s m args below meth c A Q F hE hA hret hP hD ls hl
  obtain ⟨hx, hb, hml, hown, hts⟩ := id F
  have hS : va_S A s.heap s.heap [] := va_S.rf
  have hl : lv_has ls 3 [(0, .ref (a 0)), (1, .int (nI r)), (2, .int (nI t))] := hl
  have in3 : ∀ w ∈ wsX30, w ∈ wsX3_canUse := fun w h => List.mem_cons_of_mem _ (List.mem_append_right _ h)
  have K7 := hts (.fieldLink RX3 7 "PromiseHoursModel" "state" "[I") (by decide +kernel)
  refine lv_aload_n hx hb dX3_canUse_0 rfl (lv_at hl 0 rfl) ?_
  refine va_get (D := E.1) (ci := 3) (v := .ref (a 1)) (C := RX3) (T := TX3) (N := 3) hx hb hts in3 hown hE.1 hP 0 rfl rfl 0 (by decide) K7 (fun _ h9 => h9) rfl dX3_canUse_1 ?_
  refine lv_bipush (v := 82) hx hb dX3_canUse_4 (by decide) ?_
  refine lv_iload_n hx hb dX3_canUse_6 rfl (lv_at hl 1 rfl) ?_
  refine lv_iload_n hx hb dX3_canUse_7 rfl (lv_at hl 2 rfl) ?_
  refine ci_S F hE (k_X3_thingAt l E 82 r t) (va_cwS 3 hts gX3_canUse_X3_thingAt rfl rfl rfl (by decide +kernel) ⟨Nat.le_of_ble_eq_true rfl, Nat.le_of_ble_eq_true rfl⟩) Fr.nil hP hD hS hA rfl hl.1 rfl (Nat.le_of_ble_eq_true rfl) dX3_canUse_8 ⟨Nat.zero_le _, Nat.zero_le _⟩ (fun H locs hP hD hS => ?_)
  refine q_iald hx hb hE hP 1 rfl (j := (82 + 12 * r + t)) (v := (g (82 + 12 * r + t))) rfl (by omega) (by decide) rfl dX3_canUse_11 ?_
  have J_61_1 : ∀ (w : Int32) (H : Heap) (locs : List Loc), va_P E.1 vwCl (ms E a g im kp) H → va_D A (ms E a g im kp) → va_S A s.heap H locs → w = (if (g (82 + 12 * r + t)) < 0 then 0 else (if (f_X3_isOver g r (g (142 + 12 * r + t))) = 0 then (if (f_X3_isOver g r (g (52 + 3 * r + t / 4))) = 0 then 1 else 0) else 0) : Int32) → W p l e { frames := 1, cells := 0, slots := 0, locals := 22 } s m args below meth c H locs 0 0 Q (F0 m 61 ls [.int w]) := by
    intro w H locs hP hD hS ew
    rw [ew]
    exact hret _ _ _ _ _ hP hD hS rfl dX3_canUse_61
  refine lv_if_lt (tgt := 60) hx hb dX3_canUse_12 (by decide) (fun c_2 => ?_) (fun c_2 => ?_)
  · refine lv_iconst (v := 0) hx hb dX3_canUse_60 (by decide) ?_
    exact J_61_1 _ _ _ hP hD hS (if_pos c_2).symm
  · refine lv_aload_n hx hb dX3_canUse_15 rfl (lv_at hl 0 rfl) ?_
    refine lv_iload_n hx hb dX3_canUse_16 rfl (lv_at hl 1 rfl) ?_
    refine lv_aload_n hx hb dX3_canUse_17 rfl (lv_at hl 0 rfl) ?_
    refine va_get (D := E.1) (ci := 3) (v := .ref (a 1)) (C := RX3) (T := TX3) (N := 3) hx hb hts in3 hown hE.1 hP 0 rfl rfl 0 (by decide) K7 (fun _ h9 => h9) rfl dX3_canUse_18 ?_
    refine lv_sipush (v := 142) hx hb dX3_canUse_21 (by decide) ?_
    refine lv_iload_n hx hb dX3_canUse_24 rfl (lv_at hl 1 rfl) ?_
    refine lv_iload_n hx hb dX3_canUse_25 rfl (lv_at hl 2 rfl) ?_
    refine ci_S F hE (k_X3_thingAt l E 142 r t) (va_cwS 3 hts gX3_canUse_X3_thingAt rfl rfl rfl (by decide +kernel) ⟨Nat.le_of_ble_eq_true rfl, Nat.le_of_ble_eq_true rfl⟩) Fr.nil hP hD hS hA rfl hl.1 rfl (Nat.le_of_ble_eq_true rfl) dX3_canUse_26 ⟨Nat.zero_le _, Nat.zero_le _⟩ (fun H locs hP hD hS => ?_)
    refine q_iald hx hb hE hP 1 rfl (j := (142 + 12 * r + t)) (v := (g (142 + 12 * r + t))) rfl (by omega) (by decide) rfl dX3_canUse_29 ?_
    refine ci_V F hE (k_X3_isOver l E a g im kp r (g (142 + 12 * r + t)) (by omega)) (cwV 2 hts gX3_canUse_X3_isOver rfl rfl rfl (by decide +kernel) ⟨Nat.le_of_ble_eq_true rfl, Nat.le_of_ble_eq_true rfl⟩) Fr.all 0 3 rfl rfl rfl hP hD hS hA rfl hl.1 rfl (Nat.le_of_ble_eq_true rfl) dX3_canUse_30 ⟨Nat.zero_le _, Nat.zero_le _⟩ (fun H locs hP hD hS => ?_)
    refine lv_if_ne (tgt := 60) hx hb dX3_canUse_33 (by decide) (fun c_3 => ?_) (fun c_3 => ?_)
    · refine lv_iconst (v := 0) hx hb dX3_canUse_60 (by decide) ?_
      exact J_61_1 _ _ _ hP hD hS ((if_neg c_2).trans (if_neg c_3)).symm
    · refine lv_aload_n hx hb dX3_canUse_36 rfl (lv_at hl 0 rfl) ?_
      refine lv_iload_n hx hb dX3_canUse_37 rfl (lv_at hl 1 rfl) ?_
      refine lv_aload_n hx hb dX3_canUse_38 rfl (lv_at hl 0 rfl) ?_
      refine va_get (D := E.1) (ci := 3) (v := .ref (a 1)) (C := RX3) (T := TX3) (N := 3) hx hb hts in3 hown hE.1 hP 0 rfl rfl 0 (by decide) K7 (fun _ h9 => h9) rfl dX3_canUse_39 ?_
      refine lv_bipush (v := 52) hx hb dX3_canUse_42 (by decide) ?_
      refine lv_iload_n hx hb dX3_canUse_44 rfl (lv_at hl 1 rfl) ?_
      refine lv_iload_n hx hb dX3_canUse_45 rfl (lv_at hl 2 rfl) ?_
      refine ci_S F hE (k_X3_volumeAt l E 52 r t (by omega)) (va_cwS 3 hts gX3_canUse_X3_volumeAt rfl rfl rfl (by decide +kernel) ⟨Nat.le_of_ble_eq_true rfl, Nat.le_of_ble_eq_true rfl⟩) Fr.nil hP hD hS hA rfl hl.1 rfl (Nat.le_of_ble_eq_true rfl) dX3_canUse_46 ⟨Nat.zero_le _, Nat.zero_le _⟩ (fun H locs hP hD hS => ?_)
      refine q_iald hx hb hE hP 1 rfl (j := (52 + 3 * r + t / 4)) (v := (g (52 + 3 * r + t / 4))) rfl (by omega) (by decide) rfl dX3_canUse_49 ?_
      refine ci_V F hE (k_X3_isOver l E a g im kp r (g (52 + 3 * r + t / 4)) (by omega)) (cwV 2 hts gX3_canUse_X3_isOver rfl rfl rfl (by decide +kernel) ⟨Nat.le_of_ble_eq_true rfl, Nat.le_of_ble_eq_true rfl⟩) Fr.all 0 3 rfl rfl rfl hP hD hS hA rfl hl.1 rfl (Nat.le_of_ble_eq_true rfl) dX3_canUse_50 ⟨Nat.zero_le _, Nat.zero_le _⟩ (fun H locs hP hD hS => ?_)
      refine lv_if_ne (tgt := 60) hx hb dX3_canUse_53 (by decide) (fun c_4 => ?_) (fun c_4 => ?_)
      · refine lv_iconst (v := 0) hx hb dX3_canUse_60 (by decide) ?_
        exact J_61_1 _ _ _ hP hD hS ((if_neg c_2).trans ((if_pos c_3).trans (if_neg c_4))).symm
      · refine lv_iconst (v := 1) hx hb dX3_canUse_56 (by decide) ?_
        refine lv_goto (tgt := 61) hx hb dX3_canUse_57 (by decide) ?_
        exact J_61_1 _ _ _ hP hD hS ((if_neg c_2).trans ((if_pos c_3).trans (if_pos c_4))).symm
def f_X3_isHolder (g : Nat → Int32) (r : Nat) (t : Nat) : Int32 := (if (g (202 + 12 * r + t)) ≤ (g 0) then 0 else 1 : Int32)
theorem nar_X3_isHolder (g : Nat → Int32) (r : Nat) (t : Nat) : narrow .boolean (.int (f_X3_isHolder g r t)) = .int (f_X3_isHolder g r t) := by unfold f_X3_isHolder; (repeat' split) <;> rfl
set_option maxHeartbeats 4000000 in
set_option maxRecDepth 100000 in
theorem k_X3_isHolder (l : Launch) (E : EE) (a : Nat → Nat) (g im kp : Nat → Int32) (r : Nat) (t : Nat) (hr : r < 5) (ht : t < 12) : Ci l E yX3_isHolder wsX3_isHolder { frames := 1, cells := 0, slots := 0, locals := 22 } [.ref (a 0), .int (nI r), .int (nI t)] (ms E a g im kp) (f_X3_isHolder g r t) (ms E a g im kp) := by
  refine Ci.of (cc := cX3_isHolder) (maxL := 3) (rt := .boolean) (by decide) rfl (nar_X3_isHolder g r t) (Nat.le_of_ble_eq_true rfl) ?_
  intro p e s m args below meth c A Q F hE hA hret hP hD ls hl
  obtain ⟨hx, hb, hml, hown, hts⟩ := id F
  have hS : va_S A s.heap s.heap [] := va_S.rf
  have hl : lv_has ls 3 [(0, .ref (a 0)), (1, .int (nI r)), (2, .int (nI t))] := hl
  have in3 : ∀ w ∈ wsX30, w ∈ wsX3_isHolder := fun w h => List.mem_cons_of_mem _ (List.mem_append_right _ h)
  have K7 := hts (.fieldLink RX3 7 "PromiseHoursModel" "state" "[I") (by decide +kernel)
  refine lv_aload_n hx hb dX3_isHolder_0 rfl (lv_at hl 0 rfl) ?_
  refine va_get (D := E.1) (ci := 3) (v := .ref (a 1)) (C := RX3) (T := TX3) (N := 3) hx hb hts in3 hown hE.1 hP 0 rfl rfl 0 (by decide) K7 (fun _ h9 => h9) rfl dX3_isHolder_1 ?_
  refine lv_sipush (v := 202) hx hb dX3_isHolder_4 (by decide) ?_
  refine lv_iload_n hx hb dX3_isHolder_7 rfl (lv_at hl 1 rfl) ?_
  refine lv_iload_n hx hb dX3_isHolder_8 rfl (lv_at hl 2 rfl) ?_
  refine ci_S F hE (k_X3_thingAt l E 202 r t) (va_cwS 3 hts gX3_isHolder_X3_thingAt rfl rfl rfl (by decide +kernel) ⟨Nat.le_of_ble_eq_true rfl, Nat.le_of_ble_eq_true rfl⟩) Fr.nil hP hD hS hA rfl hl.1 rfl (Nat.le_of_ble_eq_true rfl) dX3_isHolder_9 ⟨Nat.zero_le _, Nat.zero_le _⟩ (fun H locs hP hD hS => ?_)
  refine q_iald hx hb hE hP 1 rfl (j := (202 + 12 * r + t)) (v := (g (202 + 12 * r + t))) rfl (by omega) (by decide) rfl dX3_isHolder_12 ?_
  refine lv_aload_n hx hb dX3_isHolder_13 rfl (lv_at hl 0 rfl) ?_
  refine va_get (D := E.1) (ci := 3) (v := .ref (a 1)) (C := RX3) (T := TX3) (N := 3) hx hb hts in3 hown hE.1 hP 0 rfl rfl 0 (by decide) K7 (fun _ h9 => h9) rfl dX3_isHolder_14 ?_
  refine lv_iconst (v := 0) hx hb dX3_isHolder_17 (by decide) ?_
  refine q_iald hx hb hE hP 1 rfl (j := 0) (v := (g 0)) rfl (by omega) (by decide) rfl dX3_isHolder_18 ?_
  have J_27_1 : ∀ (w : Int32) (H : Heap) (locs : List Loc), va_P E.1 vwCl (ms E a g im kp) H → va_D A (ms E a g im kp) → va_S A s.heap H locs → w = (if (g (202 + 12 * r + t)) ≤ (g 0) then 0 else 1 : Int32) → W p l e { frames := 1, cells := 0, slots := 0, locals := 22 } s m args below meth c H locs 0 0 Q (F0 m 27 ls [.int w]) := by
    intro w H locs hP hD hS ew
    rw [ew]
    exact hret _ _ _ _ _ hP hD hS rfl dX3_isHolder_27
  refine lv_icmp_le (tgt := 26) hx hb dX3_isHolder_19 (by decide) (fun c_2 => ?_) (fun c_2 => ?_)
  · refine lv_iconst (v := 0) hx hb dX3_isHolder_26 (by decide) ?_
    exact J_27_1 _ _ _ hP hD hS (if_pos c_2).symm
  · refine lv_iconst (v := 1) hx hb dX3_isHolder_22 (by decide) ?_
    refine lv_goto (tgt := 27) hx hb dX3_isHolder_23 (by decide) ?_
    exact J_27_1 _ _ _ hP hD hS (if_neg c_2).symm
set_option maxHeartbeats 4000000 in
set_option maxRecDepth 100000 in
theorem k_X3_clear (l : Launch) (E : EE) (a : Nat → Nat) (g im kp : Nat → Int32) (r : Nat) (t : Nat) (hr : r < 5) (ht : t < 12) : Cv l E yX3_clear wsX3_clear { frames := 1, cells := 0, slots := 0, locals := 22 } [.ref (a 0), .int (nI r), .int (nI t)] (ms E a g im kp) (ms E a (upd (upd (upd g (82 + 12 * r + t) (-6)) (142 + 12 * r + t) 0) (202 + 12 * r + t) 0) im kp) := by
  refine Cv.of (cc := cX3_clear) (maxL := 3) (by decide) rfl (Nat.le_of_ble_eq_true rfl) ?_
  intro p e s m args below meth c A Q F hE hA hret hP hD ls hl
  obtain ⟨hx, hb, hml, hown, hts⟩ := id F
  have hS : va_S A s.heap s.heap [] := va_S.rf
  have hl : lv_has ls 3 [(0, .ref (a 0)), (1, .int (nI r)), (2, .int (nI t))] := hl
  have in3 : ∀ w ∈ wsX30, w ∈ wsX3_clear := fun w h => List.mem_cons_of_mem _ (List.mem_append_right _ h)
  have K7 := hts (.fieldLink RX3 7 "PromiseHoursModel" "state" "[I") (by decide +kernel)
  refine lv_aload_n hx hb dX3_clear_0 rfl (lv_at hl 0 rfl) ?_
  refine va_get (D := E.1) (ci := 3) (v := .ref (a 1)) (C := RX3) (T := TX3) (N := 3) hx hb hts in3 hown hE.1 hP 0 rfl rfl 0 (by decide) K7 (fun _ h9 => h9) rfl dX3_clear_1 ?_
  refine lv_bipush (v := 82) hx hb dX3_clear_4 (by decide) ?_
  refine lv_iload_n hx hb dX3_clear_6 rfl (lv_at hl 1 rfl) ?_
  refine lv_iload_n hx hb dX3_clear_7 rfl (lv_at hl 2 rfl) ?_
  refine ci_S F hE (k_X3_thingAt l E 82 r t) (va_cwS 3 hts gX3_clear_X3_thingAt rfl rfl rfl (by decide +kernel) ⟨Nat.le_of_ble_eq_true rfl, Nat.le_of_ble_eq_true rfl⟩) Fr.nil hP hD hS hA rfl hl.1 rfl (Nat.le_of_ble_eq_true rfl) dX3_clear_8 ⟨Nat.zero_le _, Nat.zero_le _⟩ (fun H locs hP hD hS => ?_)
  refine lv_bipush (v := -6) hx hb dX3_clear_11 (by decide) ?_
  refine q_iast hx hb hE hP hD hS 1 rfl (j := (82 + 12 * r + t)) (wd' := (ms E a (upd g (82 + 12 * r + t) (-6)) im kp)) rfl (by omega) (by decide) rfl dX3_clear_13 (fun H locs hP hD hS => ?_)
  refine lv_aload_n hx hb dX3_clear_14 rfl (lv_at hl 0 rfl) ?_
  refine va_get (D := E.1) (ci := 3) (v := .ref (a 1)) (C := RX3) (T := TX3) (N := 3) hx hb hts in3 hown hE.1 hP 0 rfl rfl 0 (by decide) K7 (fun _ h9 => h9) rfl dX3_clear_15 ?_
  refine lv_sipush (v := 142) hx hb dX3_clear_18 (by decide) ?_
  refine lv_iload_n hx hb dX3_clear_21 rfl (lv_at hl 1 rfl) ?_
  refine lv_iload_n hx hb dX3_clear_22 rfl (lv_at hl 2 rfl) ?_
  refine ci_S F hE (k_X3_thingAt l E 142 r t) (va_cwS 3 hts gX3_clear_X3_thingAt rfl rfl rfl (by decide +kernel) ⟨Nat.le_of_ble_eq_true rfl, Nat.le_of_ble_eq_true rfl⟩) Fr.nil hP hD hS hA rfl hl.1 rfl (Nat.le_of_ble_eq_true rfl) dX3_clear_23 ⟨Nat.zero_le _, Nat.zero_le _⟩ (fun H locs hP hD hS => ?_)
  refine lv_iconst (v := 0) hx hb dX3_clear_26 (by decide) ?_
  refine q_iast hx hb hE hP hD hS 1 rfl (j := (142 + 12 * r + t)) (wd' := (ms E a (upd (upd g (82 + 12 * r + t) (-6)) (142 + 12 * r + t) 0) im kp)) rfl (by omega) (by decide) rfl dX3_clear_27 (fun H locs hP hD hS => ?_)
  refine lv_aload_n hx hb dX3_clear_28 rfl (lv_at hl 0 rfl) ?_
  refine va_get (D := E.1) (ci := 3) (v := .ref (a 1)) (C := RX3) (T := TX3) (N := 3) hx hb hts in3 hown hE.1 hP 0 rfl rfl 0 (by decide) K7 (fun _ h9 => h9) rfl dX3_clear_29 ?_
  refine lv_sipush (v := 202) hx hb dX3_clear_32 (by decide) ?_
  refine lv_iload_n hx hb dX3_clear_35 rfl (lv_at hl 1 rfl) ?_
  refine lv_iload_n hx hb dX3_clear_36 rfl (lv_at hl 2 rfl) ?_
  refine ci_S F hE (k_X3_thingAt l E 202 r t) (va_cwS 3 hts gX3_clear_X3_thingAt rfl rfl rfl (by decide +kernel) ⟨Nat.le_of_ble_eq_true rfl, Nat.le_of_ble_eq_true rfl⟩) Fr.nil hP hD hS hA rfl hl.1 rfl (Nat.le_of_ble_eq_true rfl) dX3_clear_37 ⟨Nat.zero_le _, Nat.zero_le _⟩ (fun H locs hP hD hS => ?_)
  refine lv_iconst (v := 0) hx hb dX3_clear_40 (by decide) ?_
  refine q_iast hx hb hE hP hD hS 1 rfl (j := (202 + 12 * r + t)) (wd' := (ms E a (upd (upd (upd g (82 + 12 * r + t) (-6)) (142 + 12 * r + t) 0) (202 + 12 * r + t) 0) im kp)) rfl (by omega) (by decide) rfl dX3_clear_41 (fun H locs hP hD hS => ?_)
  exact hret _ _ _ _ hP hD hS dX3_clear_42
def f_X3_lesser (g : Nat → Int32) (r : Nat) (t : Nat) : Int32 := (if (g (52 + 3 * r + t / 4)) ≤ (g (202 + 12 * r + t)) then (g (52 + 3 * r + t / 4)) else (g (202 + 12 * r + t)) : Int32)
set_option maxHeartbeats 4000000 in
set_option maxRecDepth 100000 in
theorem k_X3_lesser (l : Launch) (E : EE) (a : Nat → Nat) (g im kp : Nat → Int32) (r : Nat) (t : Nat) (hr : r < 5) (ht : t < 12) : Ci l E yX3_lesser wsX3_lesser { frames := 1, cells := 0, slots := 0, locals := 22 } [.ref (a 0), .int (nI r), .int (nI t)] (ms E a g im kp) (f_X3_lesser g r t) (ms E a g im kp) := by
  refine Ci.of (cc := cX3_lesser) (maxL := 5) (rt := .int) (by decide) rfl rfl (Nat.le_of_ble_eq_true rfl) ?_
  intro p e s m args below meth c A Q F hE hA hret hP hD ls hl
  obtain ⟨hx, hb, hml, hown, hts⟩ := id F
  have hS : va_S A s.heap s.heap [] := va_S.rf
  have hl : lv_has ls 5 [(0, .ref (a 0)), (1, .int (nI r)), (2, .int (nI t))] := hl
  have in3 : ∀ w ∈ wsX30, w ∈ wsX3_lesser := fun w h => List.mem_cons_of_mem _ (List.mem_append_right _ h)
  have K7 := hts (.fieldLink RX3 7 "PromiseHoursModel" "state" "[I") (by decide +kernel)
  refine lv_aload_n hx hb dX3_lesser_0 rfl (lv_at hl 0 rfl) ?_
  refine va_get (D := E.1) (ci := 3) (v := .ref (a 1)) (C := RX3) (T := TX3) (N := 3) hx hb hts in3 hown hE.1 hP 0 rfl rfl 0 (by decide) K7 (fun _ h9 => h9) rfl dX3_lesser_1 ?_
  refine lv_sipush (v := 202) hx hb dX3_lesser_4 (by decide) ?_
  refine lv_iload_n hx hb dX3_lesser_7 rfl (lv_at hl 1 rfl) ?_
  refine lv_iload_n hx hb dX3_lesser_8 rfl (lv_at hl 2 rfl) ?_
  refine ci_S F hE (k_X3_thingAt l E 202 r t) (va_cwS 3 hts gX3_lesser_X3_thingAt rfl rfl rfl (by decide +kernel) ⟨Nat.le_of_ble_eq_true rfl, Nat.le_of_ble_eq_true rfl⟩) Fr.nil hP hD hS hA rfl hl.1 rfl (Nat.le_of_ble_eq_true rfl) dX3_lesser_9 ⟨Nat.zero_le _, Nat.zero_le _⟩ (fun H locs hP hD hS => ?_)
  refine q_iald hx hb hE hP 1 rfl (j := (202 + 12 * r + t)) (v := (g (202 + 12 * r + t))) rfl (by omega) (by decide) rfl dX3_lesser_12 ?_
  refine lv_istore_n (lv' := [(3, .int (g (202 + 12 * r + t))), (0, .ref (a 0)), (1, .int (nI r)), (2, .int (nI t))]) hx hb dX3_lesser_13 rfl hl (by decide) rfl (fun ls hl => ?_)
  refine lv_aload_n hx hb dX3_lesser_14 rfl (lv_at hl 1 rfl) ?_
  refine va_get (D := E.1) (ci := 3) (v := .ref (a 1)) (C := RX3) (T := TX3) (N := 3) hx hb hts in3 hown hE.1 hP 0 rfl rfl 0 (by decide) K7 (fun _ h9 => h9) rfl dX3_lesser_15 ?_
  refine lv_bipush (v := 52) hx hb dX3_lesser_18 (by decide) ?_
  refine lv_iload_n hx hb dX3_lesser_20 rfl (lv_at hl 2 rfl) ?_
  refine lv_iload_n hx hb dX3_lesser_21 rfl (lv_at hl 3 rfl) ?_
  refine ci_S F hE (k_X3_volumeAt l E 52 r t (by omega)) (va_cwS 3 hts gX3_lesser_X3_volumeAt rfl rfl rfl (by decide +kernel) ⟨Nat.le_of_ble_eq_true rfl, Nat.le_of_ble_eq_true rfl⟩) Fr.nil hP hD hS hA rfl hl.1 rfl (Nat.le_of_ble_eq_true rfl) dX3_lesser_22 ⟨Nat.zero_le _, Nat.zero_le _⟩ (fun H locs hP hD hS => ?_)
  refine q_iald hx hb hE hP 1 rfl (j := (52 + 3 * r + t / 4)) (v := (g (52 + 3 * r + t / 4))) rfl (by omega) (by decide) rfl dX3_lesser_25 ?_
  refine lv_istore (lv' := [(4, .int (g (52 + 3 * r + t / 4))), (3, .int (g (202 + 12 * r + t))), (0, .ref (a 0)), (1, .int (nI r)), (2, .int (nI t))]) hx hb dX3_lesser_26 hl (by decide) rfl (fun ls hl => ?_)
  refine lv_iload_n hx hb dX3_lesser_28 rfl (lv_at hl 1 rfl) ?_
  refine lv_iload hx hb dX3_lesser_29 (lv_at hl 0 rfl) ?_
  have J_40_1 : ∀ (w : Int32) (H : Heap) (locs : List Loc), va_P E.1 vwCl (ms E a g im kp) H → va_D A (ms E a g im kp) → va_S A s.heap H locs → w = (if (g (52 + 3 * r + t / 4)) ≤ (g (202 + 12 * r + t)) then (g (52 + 3 * r + t / 4)) else (g (202 + 12 * r + t)) : Int32) → W p l e { frames := 1, cells := 0, slots := 0, locals := 22 } s m args below meth c H locs 0 0 Q (F0 m 40 ls [.int w]) := by
    intro w H locs hP hD hS ew
    rw [ew]
    exact hret _ _ _ _ _ hP hD hS rfl dX3_lesser_40
  refine lv_icmp_ge (tgt := 38) hx hb dX3_lesser_31 (by decide) (fun c_2 => ?_) (fun c_2 => ?_)
  · refine lv_iload hx hb dX3_lesser_38 (lv_at hl 0 rfl) ?_
    exact J_40_1 _ _ _ hP hD hS (if_pos c_2).symm
  · refine lv_iload_n hx hb dX3_lesser_34 rfl (lv_at hl 1 rfl) ?_
    refine lv_goto (tgt := 40) hx hb dX3_lesser_35 (by decide) ?_
    exact J_40_1 _ _ _ hP hD hS (if_neg c_2).symm
theorem in_ix {x hi : Int32} {n : Nat} (h : ¬ f_X3_in x 0 hi = 0) (hh : hi = nI n) (hn : n < 2 ^ 31) : ix x < n + 1 ∧ x = nI (ix x) := by
  unfold f_X3_in at h
  by_cases h1 : x < 0
  · rw [if_pos h1] at h; exact absurd rfl h
  rw [if_neg h1] at h
  by_cases h2 : hi < x
  · rw [if_pos h2] at h; exact absurd rfl h
  obtain ⟨j, hj, e⟩ := nI_of h1
  subst e
  subst hh
  have h3 : j ≤ n := by
    rcases Nat.lt_or_ge n j with q | q
    · exact absurd (nI_lt q hj) h2
    · exact q
  have e2 : ix (nI j) = j := nI_clamp hj
  rw [e2]
  exact ⟨by omega, rfl⟩
theorem in_cnt {x c : Int32} {m : Nat} (h : ¬ f_X3_in x 0 (c - 1) = 0) (hc : c = nI m) (hm : m < 2 ^ 31) : ix x < m ∧ x = nI (ix x) := by
  subst hc
  cases m with
  | zero =>
    unfold f_X3_in at h
    by_cases h1 : x < 0
    · rw [if_pos h1] at h; exact absurd rfl h
    rw [if_neg h1] at h
    by_cases h2 : nI 0 - 1 < x
    · rw [if_pos h2] at h; exact absurd rfl h
    obtain ⟨j, hj, e⟩ := nI_of h1
    subst e
    exfalso
    apply h2
    rw [Int32.lt_iff_toInt_lt, nI_toInt hj]
    have : (nI 0 - 1 : Int32).toInt = -1 := by decide
    omega
  | succ m =>
    rw [nI_pred] at h
    obtain ⟨a, b⟩ := in_ix h rfl (by omega)
    exact ⟨a, b⟩
