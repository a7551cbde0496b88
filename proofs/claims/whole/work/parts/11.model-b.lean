def s_X3_rule (g : Nat → Int32) (x : Int32) (n : Int32) : Nat → Int32 := (if (f_X3_in x 0 3) = 0 then g else (if (f_X3_in n (if 2 ≤ x then 0 else 1 : Int32) (if x = 0 then 200 else (if x = 1 then 100 else (if x = 2 then 9 else 500)) : Int32)) = 0 then g else (upd g (1 + (ix x)) n)))
def f_X3_rule (g : Nat → Int32) (x : Int32) (n : Int32) : Int32 := (if (f_X3_in x 0 3) = 0 then (-2) else (if (f_X3_in n (if 2 ≤ x then 0 else 1 : Int32) (if x = 0 then 200 else (if x = 1 then 100 else (if x = 2 then 9 else 500)) : Int32)) = 0 then (-2) else (g (1 + (ix x)))))
set_option maxHeartbeats 4000000 in
set_option maxRecDepth 100000 in
theorem k_X3_rule (l : Launch) (E : EE) (a : Nat → Nat) (g im kp : Nat → Int32) (x : Int32) (n : Int32)  : Ci l E yX3_rule wsX3_rule { frames := 1, cells := 0, slots := 0, locals := 22 } [.ref (a 0), .int x, .int n] (ms E a g im kp) (f_X3_rule g x n) (ms E a (s_X3_rule g x n) im kp) := by
  refine Ci.of (cc := cX3_rule) (maxL := 4) (rt := .int) (by decide) rfl rfl (Nat.le_of_ble_eq_true rfl) ?_
  intro p e s m args below meth c A Q F hE hA hret hP hD ls hl
  obtain ⟨hx, hb, hml, hown, hts⟩ := id F
  have hS : va_S A s.heap s.heap [] := va_S.rf
  have hl : lv_has ls 4 [(0, .ref (a 0)), (1, .int x), (2, .int n)] := hl
  have in3 : ∀ w ∈ wsX30, w ∈ wsX3_rule := fun w h => List.mem_cons_of_mem _ (List.mem_append_right _ h)
  have K7 := hts (.fieldLink RX3 7 "PromiseHoursModel" "state" "[I") (by decide +kernel)
  refine lv_iload_n hx hb dX3_rule_0 rfl (lv_at hl 1 rfl) ?_
  refine lv_iconst (v := 0) hx hb dX3_rule_1 (by decide) ?_
  refine lv_iconst (v := 3) hx hb dX3_rule_2 (by decide) ?_
  refine ci_S F hE (k_X3_in l E x 0 3) (va_cwS 3 hts gX3_rule_X3_in rfl rfl rfl (by decide +kernel) ⟨Nat.le_of_ble_eq_true rfl, Nat.le_of_ble_eq_true rfl⟩) Fr.nil hP hD hS hA rfl hl.1 rfl (Nat.le_of_ble_eq_true rfl) dX3_rule_3 ⟨Nat.zero_le _, Nat.zero_le _⟩ (fun H locs hP hD hS => ?_)
  refine lv_if_eq (tgt := 59) hx hb dX3_rule_6 (by decide) (fun c_1 => ?_) (fun c_1 => ?_)
  · refine lv_bipush (v := -2) hx hb dX3_rule_59 (by decide) ?_
    have eg : g = (s_X3_rule g x n) := (by unfold s_X3_rule; exact (if_pos c_1).symm)
    exact hret _ _ _ _ _ (by rw [← eg]; exact hP) (by rw [← eg]; exact hD) hS (by unfold f_X3_rule; exact (if_pos c_1).symm) dX3_rule_61
  · refine lv_iload_n hx hb dX3_rule_9 rfl (lv_at hl 2 rfl) ?_
    refine lv_iload_n hx hb dX3_rule_10 rfl (lv_at hl 1 rfl) ?_
    refine lv_iconst (v := 2) hx hb dX3_rule_11 (by decide) ?_
    have J_20_2 : ∀ (w : Int32) (H : Heap) (locs : List Loc), va_P E.1 vwCl (ms E a g im kp) H → va_D A (ms E a g im kp) → va_S A s.heap H locs → w = (if 2 ≤ x then 0 else 1 : Int32) → W p l e { frames := 1, cells := 0, slots := 0, locals := 22 } s m args below meth c H locs 0 0 Q (F0 m 20 ls [.int w, .int n]) := by
      intro w H locs hP hD hS ew
      rw [ew]
      refine lv_iload_n hx hb dX3_rule_20 rfl (lv_at hl 1 rfl) ?_
      have J_53_4 : ∀ (w : Int32) (H : Heap) (locs : List Loc), va_P E.1 vwCl (ms E a g im kp) H → va_D A (ms E a g im kp) → va_S A s.heap H locs → w = (if x = 0 then 200 else (if x = 1 then 100 else (if x = 2 then 9 else 500)) : Int32) → W p l e { frames := 1, cells := 0, slots := 0, locals := 22 } s m args below meth c H locs 0 0 Q (F0 m 53 ls [.int w, .int (if 2 ≤ x then 0 else 1 : Int32), .int n]) := by
        intro w H locs hP hD hS ew
        rw [ew]
        refine ci_S F hE (k_X3_in l E n (if 2 ≤ x then 0 else 1 : Int32) (if x = 0 then 200 else (if x = 1 then 100 else (if x = 2 then 9 else 500)) : Int32)) (va_cwS 3 hts gX3_rule_X3_in rfl rfl rfl (by decide +kernel) ⟨Nat.le_of_ble_eq_true rfl, Nat.le_of_ble_eq_true rfl⟩) Fr.nil hP hD hS hA rfl hl.1 rfl (Nat.le_of_ble_eq_true rfl) dX3_rule_53 ⟨Nat.zero_le _, Nat.zero_le _⟩ (fun H locs hP hD hS => ?_)
        refine lv_if_ne (tgt := 62) hx hb dX3_rule_56 (by decide) (fun c_8 => ?_) (fun c_8 => ?_)
        · obtain ⟨b_x, e_x⟩ := in_ix (n := 3) c_1 (by decide) (by decide)
          refine lv_aload_n hx hb dX3_rule_62 rfl (lv_at hl 0 rfl) ?_
          refine va_get (D := E.1) (ci := 3) (v := .ref (a 1)) (C := RX3) (T := TX3) (N := 3) hx hb hts in3 hown hE.1 hP 0 rfl rfl 0 (by decide) K7 (fun _ h9 => h9) rfl dX3_rule_63 ?_
          refine lv_iconst (v := 1) hx hb dX3_rule_66 (by decide) ?_
          refine lv_iload_n hx hb dX3_rule_67 rfl (lv_at hl 1 rfl) ?_
          refine tpe e_x ?_
          refine lv_iadd hx hb dX3_rule_68 ?_
          refine tpe (y := nI (1 + (ix x))) (nI_add 1 (ix x)) ?_
          refine q_iald hx hb hE hP 1 rfl (j := (1 + (ix x))) (v := (g (1 + (ix x)))) rfl (by omega) (by decide) rfl dX3_rule_69 ?_
          refine lv_istore_n (lv' := [(3, .int (g (1 + (ix x)))), (0, .ref (a 0)), (1, .int x), (2, .int n)]) hx hb dX3_rule_70 rfl hl (by decide) rfl (fun ls hl => ?_)
          refine lv_aload_n hx hb dX3_rule_71 rfl (lv_at hl 1 rfl) ?_
          refine va_get (D := E.1) (ci := 3) (v := .ref (a 1)) (C := RX3) (T := TX3) (N := 3) hx hb hts in3 hown hE.1 hP 0 rfl rfl 0 (by decide) K7 (fun _ h9 => h9) rfl dX3_rule_72 ?_
          refine lv_iconst (v := 1) hx hb dX3_rule_75 (by decide) ?_
          refine lv_iload_n hx hb dX3_rule_76 rfl (lv_at hl 2 rfl) ?_
          refine tpe e_x ?_
          refine lv_iadd hx hb dX3_rule_77 ?_
          refine tpe (y := nI (1 + (ix x))) (nI_add 1 (ix x)) ?_
          refine lv_iload_n hx hb dX3_rule_78 rfl (lv_at hl 3 rfl) ?_
          refine q_iast hx hb hE hP hD hS 1 rfl (j := (1 + (ix x))) (wd' := (ms E a (upd g (1 + (ix x)) n) im kp)) rfl (by omega) (by decide) rfl dX3_rule_79 (fun H locs hP hD hS => ?_)
          refine lv_iload_n hx hb dX3_rule_80 rfl (lv_at hl 0 rfl) ?_
          have eg : (upd g (1 + (ix x)) n) = (s_X3_rule g x n) := (by unfold s_X3_rule; exact ((if_neg c_1).trans (if_neg c_8)).symm)
          exact hret _ _ _ _ _ (by rw [← eg]; exact hP) (by rw [← eg]; exact hD) hS (by unfold f_X3_rule; exact ((if_neg c_1).trans (if_neg c_8)).symm) dX3_rule_81
        · refine lv_bipush (v := -2) hx hb dX3_rule_59 (by decide) ?_
          have eg : g = (s_X3_rule g x n) := (by unfold s_X3_rule; exact ((if_neg c_1).trans (if_pos c_8)).symm)
          exact hret _ _ _ _ _ (by rw [← eg]; exact hP) (by rw [← eg]; exact hD) hS (by unfold f_X3_rule; exact ((if_neg c_1).trans (if_pos c_8)).symm) dX3_rule_61
      refine lv_if_ne (tgt := 30) hx hb dX3_rule_21 (by decide) (fun c_5 => ?_) (fun c_5 => ?_)
      · refine lv_iload_n hx hb dX3_rule_30 rfl (lv_at hl 1 rfl) ?_
        refine lv_iconst (v := 1) hx hb dX3_rule_31 (by decide) ?_
        refine lv_icmp_ne (tgt := 40) hx hb dX3_rule_32 (by decide) (fun c_6 => ?_) (fun c_6 => ?_)
        · refine lv_iload_n hx hb dX3_rule_40 rfl (lv_at hl 1 rfl) ?_
          refine lv_iconst (v := 2) hx hb dX3_rule_41 (by decide) ?_
          refine lv_icmp_ne (tgt := 50) hx hb dX3_rule_42 (by decide) (fun c_7 => ?_) (fun c_7 => ?_)
          · refine lv_sipush (v := 500) hx hb dX3_rule_50 (by decide) ?_
            exact J_53_4 _ _ _ hP hD hS ((if_neg c_5).trans ((if_neg c_6).trans (if_neg c_7))).symm
          · refine lv_bipush (v := 9) hx hb dX3_rule_45 (by decide) ?_
            refine lv_goto (tgt := 53) hx hb dX3_rule_47 (by decide) ?_
            exact J_53_4 _ _ _ hP hD hS ((if_neg c_5).trans ((if_neg c_6).trans (if_pos c_7))).symm
        · refine lv_bipush (v := 100) hx hb dX3_rule_35 (by decide) ?_
          refine lv_goto (tgt := 53) hx hb dX3_rule_37 (by decide) ?_
          exact J_53_4 _ _ _ hP hD hS ((if_neg c_5).trans (if_pos c_6)).symm
      · refine lv_sipush (v := 200) hx hb dX3_rule_24 (by decide) ?_
        refine lv_goto (tgt := 53) hx hb dX3_rule_27 (by decide) ?_
        exact J_53_4 _ _ _ hP hD hS (if_pos c_5).symm
    refine lv_icmp_ge (tgt := 19) hx hb dX3_rule_12 (by decide) (fun c_3 => ?_) (fun c_3 => ?_)
    · refine lv_iconst (v := 0) hx hb dX3_rule_19 (by decide) ?_
      exact J_20_2 _ _ _ hP hD hS (if_pos c_3).symm
    · refine lv_iconst (v := 1) hx hb dX3_rule_15 (by decide) ?_
      refine lv_goto (tgt := 20) hx hb dX3_rule_16 (by decide) ?_
      exact J_20_2 _ _ _ hP hD hS (if_neg c_3).symm
def p_X3_skew_38 (g : Nat → Int32) (x : Int32) (n : Int32) (S38 : Int32) (i : Nat) : Int32 := (S38 + (if (g 3) < ((upd g (47 + (ix x)) n) (47 + i)) then 1 else (if (-(g 3)) ≤ ((upd g (47 + (ix x)) n) (47 + i)) then 0 else 1) : Int32))
def q_X3_skew_38 (g : Nat → Int32) (x : Int32) (n : Int32) (S0 : Int32) : Nat → Int32
  | 0 => S0
  | i + 1 => p_X3_skew_38 g x n (q_X3_skew_38 g x n S0 i) i
def s_X3_skew (g : Nat → Int32) (x : Int32) (n : Int32) : Nat → Int32 := (if (f_X3_in x 0 4) = 0 then g else (if (f_X3_in n (-20) 20) = 0 then g else (upd g (47 + (ix x)) n)))
def f_X3_skew (g : Nat → Int32) (x : Int32) (n : Int32) : Int32 := (if (f_X3_in x 0 4) = 0 then (-1) else (if (f_X3_in n (-20) 20) = 0 then (-2) else (q_X3_skew_38 g x n 0 5)))
set_option maxHeartbeats 4000000 in
set_option maxRecDepth 100000 in
theorem k_X3_skew (l : Launch) (E : EE) (a : Nat → Nat) (g im kp : Nat → Int32) (x : Int32) (n : Int32)  : Ci l E yX3_skew wsX3_skew { frames := 2, cells := 0, slots := 0, locals := 42 } [.ref (a 0), .int x, .int n] (ms E a g im kp) (f_X3_skew g x n) (ms E a (s_X3_skew g x n) im kp) := by
  refine Ci.of (cc := cX3_skew) (maxL := 5) (rt := .int) (by decide) rfl rfl (Nat.le_of_ble_eq_true rfl) ?_
  intro p e s m args below meth c A Q F hE hA hret hP hD ls hl
  obtain ⟨hx, hb, hml, hown, hts⟩ := id F
  have hS : va_S A s.heap s.heap [] := va_S.rf
  have hl : lv_has ls 5 [(0, .ref (a 0)), (1, .int x), (2, .int n)] := hl
  have in3 : ∀ w ∈ wsX30, w ∈ wsX3_skew := fun w h => List.mem_cons_of_mem _ (List.mem_append_right _ h)
  have K7 := hts (.fieldLink RX3 7 "PromiseHoursModel" "state" "[I") (by decide +kernel)
  refine lv_iload_n hx hb dX3_skew_0 rfl (lv_at hl 1 rfl) ?_
  refine ci_S F hE (k_X3_isReader l E x) (va_cwS 1 hts gX3_skew_X3_isReader rfl rfl rfl (by decide +kernel) ⟨Nat.le_of_ble_eq_true rfl, Nat.le_of_ble_eq_true rfl⟩) Fr.nil hP hD hS hA rfl hl.1 rfl (Nat.le_of_ble_eq_true rfl) dX3_skew_1 ⟨Nat.zero_le _, Nat.zero_le _⟩ (fun H locs hP hD hS => ?_)
  refine lv_if_ne (tgt := 9) hx hb dX3_skew_4 (by decide) (fun c_1 => ?_) (fun c_1 => ?_)
  · obtain ⟨b_x, e_x⟩ := in_ix (n := 4) c_1 (by decide) (by decide)
    refine lv_iload_n hx hb dX3_skew_9 rfl (lv_at hl 2 rfl) ?_
    refine lv_bipush (v := -20) hx hb dX3_skew_10 (by decide) ?_
    refine lv_bipush (v := 20) hx hb dX3_skew_12 (by decide) ?_
    refine ci_S F hE (k_X3_in l E n (-20) 20) (va_cwS 3 hts gX3_skew_X3_in rfl rfl rfl (by decide +kernel) ⟨Nat.le_of_ble_eq_true rfl, Nat.le_of_ble_eq_true rfl⟩) Fr.nil hP hD hS hA rfl hl.1 rfl (Nat.le_of_ble_eq_true rfl) dX3_skew_14 ⟨Nat.zero_le _, Nat.zero_le _⟩ (fun H locs hP hD hS => ?_)
    refine lv_if_ne (tgt := 23) hx hb dX3_skew_17 (by decide) (fun c_2 => ?_) (fun c_2 => ?_)
    · refine lv_aload_n hx hb dX3_skew_23 rfl (lv_at hl 0 rfl) ?_
      refine va_get (D := E.1) (ci := 3) (v := .ref (a 1)) (C := RX3) (T := TX3) (N := 3) hx hb hts in3 hown hE.1 hP 0 rfl rfl 0 (by decide) K7 (fun _ h9 => h9) rfl dX3_skew_24 ?_
      refine lv_bipush (v := 47) hx hb dX3_skew_27 (by decide) ?_
      refine lv_iload_n hx hb dX3_skew_29 rfl (lv_at hl 1 rfl) ?_
      refine tpe e_x ?_
      refine lv_iadd hx hb dX3_skew_30 ?_
      refine tpe (y := nI (47 + (ix x))) (nI_add 47 (ix x)) ?_
      refine lv_iload_n hx hb dX3_skew_31 rfl (lv_at hl 2 rfl) ?_
      refine q_iast hx hb hE hP hD hS 1 rfl (j := (47 + (ix x))) (wd' := (ms E a (upd g (47 + (ix x)) n) im kp)) rfl (by omega) (by decide) rfl dX3_skew_32 (fun H locs hP hD hS => ?_)
      refine lv_iconst (v := 0) hx hb dX3_skew_33 (by decide) ?_
      refine lv_istore_n (lv' := [(3, .int 0), (0, .ref (a 0)), (1, .int x), (2, .int n)]) hx hb dX3_skew_34 rfl hl (by decide) rfl (fun ls hl => ?_)
      refine lv_iconst (v := 0) hx hb dX3_skew_35 (by decide) ?_
      refine lv_istore (lv' := [(4, .int 0), (3, .int 0), (0, .ref (a 0)), (1, .int x), (2, .int n)]) hx hb dX3_skew_36 hl (by decide) rfl (fun ls hl => ?_)
      have lp38 : ∀ (fu i : Nat), i ≤ 5 → 5 + 1 ≤ i + fu → ∀ (S38 : Int32), S38 = (q_X3_skew_38 g x n 0 i) → ∀ (H : Heap) (locs : List Loc), va_P E.1 vwCl (ms E a (upd g (47 + (ix x)) n) im kp) H → va_D A (ms E a (upd g (47 + (ix x)) n) im kp) → va_S A s.heap H locs → ∀ ls : Array Slot, lv_has ls 5 [(0, .ref (a 0)), (1, .int x), (2, .int n), (3, .int S38), (4, .int (nI i))] → W p l e { frames := 2, cells := 0, slots := 0, locals := 42 } s m args below meth c H locs 0 0 Q (F0 m 38 ls []) := by
        intro fu
        induction fu with
        | zero => intro i h1 h2; exact absurd h2 (by omega)
        | succ fu ih =>
          intro i hi hin S38 eS38 H locs hP hD hS ls hl
          refine lv_iload hx hb dX3_skew_38 (lv_at hl 4 rfl) ?_
          refine lv_iconst (v := 5) hx hb dX3_skew_40 (by decide) ?_
          refine lv_icmp_ge (tgt := 97) hx hb dX3_skew_41 (by decide) (fun c_3 => ?_) (fun c_3 => ?_)
          · have hiN : i = 5 := by have := (nI_leI (a := 5) (b := i) (by omega) (by omega)).mp c_3; omega
            rw [hiN] at eS38 hl
            refine lv_iload_n hx hb dX3_skew_97 rfl (lv_at hl 3 rfl) ?_
            have eg : (upd g (47 + (ix x)) n) = (s_X3_skew g x n) := (by unfold s_X3_skew; (try rw [← eS38]); exact ((if_neg c_1).trans (if_neg c_2)).symm)
            exact hret _ _ _ _ _ (by rw [← eg]; exact hP) (by rw [← eg]; exact hD) hS (by unfold f_X3_skew; (try rw [← eS38]); exact ((if_neg c_1).trans (if_neg c_2)).symm) dX3_skew_98
          · have hlt : i < 5 := Nat.lt_of_not_le (fun h => c_3 (nI_le (a := 5) (b := i) (by omega) (by omega)))
            refine lv_iload_n hx hb dX3_skew_44 rfl (lv_at hl 3 rfl) ?_
            refine lv_aload_n hx hb dX3_skew_45 rfl (lv_at hl 0 rfl) ?_
            refine va_get (D := E.1) (ci := 3) (v := .ref (a 1)) (C := RX3) (T := TX3) (N := 3) hx hb hts in3 hown hE.1 hP 0 rfl rfl 0 (by decide) K7 (fun _ h9 => h9) rfl dX3_skew_46 ?_
            refine lv_bipush (v := 47) hx hb dX3_skew_49 (by decide) ?_
            refine lv_iload hx hb dX3_skew_51 (lv_at hl 4 rfl) ?_
            refine lv_iadd hx hb dX3_skew_53 ?_
            refine tpe (y := nI (47 + i)) (nI_add 47 i) ?_
            refine q_iald hx hb hE hP 1 rfl (j := (47 + i)) (v := ((upd g (47 + (ix x)) n) (47 + i))) rfl (by omega) (by decide) rfl dX3_skew_54 ?_
            refine lv_aload_n hx hb dX3_skew_55 rfl (lv_at hl 0 rfl) ?_
            refine va_get (D := E.1) (ci := 3) (v := .ref (a 1)) (C := RX3) (T := TX3) (N := 3) hx hb hts in3 hown hE.1 hP 0 rfl rfl 0 (by decide) K7 (fun _ h9 => h9) rfl dX3_skew_56 ?_
            refine lv_iconst (v := 3) hx hb dX3_skew_59 (by decide) ?_
            refine q_iald hx hb hE hP 1 rfl (j := 3) (v := (g 3)) rfl (by omega) (by decide) (up_n (by omega)) dX3_skew_60 ?_
            have J_89_4 : ∀ (w : Int32) (H : Heap) (locs : List Loc), va_P E.1 vwCl (ms E a (upd g (47 + (ix x)) n) im kp) H → va_D A (ms E a (upd g (47 + (ix x)) n) im kp) → va_S A s.heap H locs → w = (if (g 3) < ((upd g (47 + (ix x)) n) (47 + i)) then 1 else (if (-(g 3)) ≤ ((upd g (47 + (ix x)) n) (47 + i)) then 0 else 1) : Int32) → W p l e { frames := 2, cells := 0, slots := 0, locals := 42 } s m args below meth c H locs 0 0 Q (F0 m 89 ls [.int w, .int S38]) := by
              intro w H locs hP hD hS ew
              rw [ew]
              refine lv_iadd hx hb dX3_skew_89 ?_
              refine lv_istore_n (lv' := [(3, .int (S38 + (if (g 3) < ((upd g (47 + (ix x)) n) (47 + i)) then 1 else (if (-(g 3)) ≤ ((upd g (47 + (ix x)) n) (47 + i)) then 0 else 1) : Int32))), (0, .ref (a 0)), (1, .int x), (2, .int n), (4, .int (nI i))]) hx hb dX3_skew_90 rfl hl (by decide) rfl (fun ls hl => ?_)
              refine lv_iinc (v := (nI (i + 1))) (lv' := [(4, .int (nI (i + 1))), (3, .int (S38 + (if (g 3) < ((upd g (47 + (ix x)) n) (47 + i)) then 1 else (if (-(g 3)) ≤ ((upd g (47 + (ix x)) n) (47 + i)) then 0 else 1) : Int32))), (0, .ref (a 0)), (1, .int x), (2, .int n)]) hx hb dX3_skew_91 hl (k := 4) rfl (nI_1 i) (by decide) rfl (fun ls hl => ?_)
              refine lv_goto (tgt := 38) hx hb dX3_skew_94 (by decide) ?_
              have eS1 : ((S38 + (if (g 3) < ((upd g (47 + (ix x)) n) (47 + i)) then 1 else (if (-(g 3)) ≤ ((upd g (47 + (ix x)) n) (47 + i)) then 0 else 1) : Int32)) : Int32) = (q_X3_skew_38 g x n 0 (i + 1)) := by
                show _ = p_X3_skew_38 g x n (q_X3_skew_38 g x n 0 i) i
                rw [← eS38]
                rfl
              exact ih (i + 1) (by omega) (by omega) (S38 + (if (g 3) < ((upd g (47 + (ix x)) n) (47 + i)) then 1 else (if (-(g 3)) ≤ ((upd g (47 + (ix x)) n) (47 + i)) then 0 else 1) : Int32)) eS1 _ _ hP hD hS ls (lv_sub hl [2, 3, 4, 1, 0] rfl)
            refine lv_icmp_gt (tgt := 84) hx hb dX3_skew_61 (by decide) (fun c_5 => ?_) (fun c_5 => ?_)
            · refine lv_iconst (v := 1) hx hb dX3_skew_84 (by decide) ?_
              refine lv_goto (tgt := 89) hx hb dX3_skew_85 (by decide) ?_
              exact J_89_4 _ _ _ hP hD hS (if_pos c_5).symm
            · refine lv_aload_n hx hb dX3_skew_64 rfl (lv_at hl 0 rfl) ?_
              refine va_get (D := E.1) (ci := 3) (v := .ref (a 1)) (C := RX3) (T := TX3) (N := 3) hx hb hts in3 hown hE.1 hP 0 rfl rfl 0 (by decide) K7 (fun _ h9 => h9) rfl dX3_skew_65 ?_
              refine lv_bipush (v := 47) hx hb dX3_skew_68 (by decide) ?_
              refine lv_iload hx hb dX3_skew_70 (lv_at hl 4 rfl) ?_
              refine lv_iadd hx hb dX3_skew_72 ?_
              refine tpe (y := nI (47 + i)) (nI_add 47 i) ?_
              refine q_iald hx hb hE hP 1 rfl (j := (47 + i)) (v := ((upd g (47 + (ix x)) n) (47 + i))) rfl (by omega) (by decide) rfl dX3_skew_73 ?_
              refine lv_aload_n hx hb dX3_skew_74 rfl (lv_at hl 0 rfl) ?_
              refine va_get (D := E.1) (ci := 3) (v := .ref (a 1)) (C := RX3) (T := TX3) (N := 3) hx hb hts in3 hown hE.1 hP 0 rfl rfl 0 (by decide) K7 (fun _ h9 => h9) rfl dX3_skew_75 ?_
              refine lv_iconst (v := 3) hx hb dX3_skew_78 (by decide) ?_
              refine q_iald hx hb hE hP 1 rfl (j := 3) (v := (g 3)) rfl (by omega) (by decide) (up_n (by omega)) dX3_skew_79 ?_
              refine lv_ineg hx hb dX3_skew_80 ?_
              refine lv_icmp_ge (tgt := 88) hx hb dX3_skew_81 (by decide) (fun c_6 => ?_) (fun c_6 => ?_)
              · refine lv_iconst (v := 0) hx hb dX3_skew_88 (by decide) ?_
                exact J_89_4 _ _ _ hP hD hS ((if_neg c_5).trans (if_pos c_6)).symm
              · refine lv_iconst (v := 1) hx hb dX3_skew_84 (by decide) ?_
                refine lv_goto (tgt := 89) hx hb dX3_skew_85 (by decide) ?_
                exact J_89_4 _ _ _ hP hD hS ((if_neg c_5).trans (if_neg c_6)).symm
      exact lp38 (5 + 1) 0 (Nat.zero_le _) (by omega) 0 rfl _ _ hP hD hS ls (lv_sub hl [2, 3, 4, 1, 0] rfl)
    · refine lv_bipush (v := -2) hx hb dX3_skew_20 (by decide) ?_
      have eg : g = (s_X3_skew g x n) := (by unfold s_X3_skew; exact ((if_neg c_1).trans (if_pos c_2)).symm)
      exact hret _ _ _ _ _ (by rw [← eg]; exact hP) (by rw [← eg]; exact hD) hS (by unfold f_X3_skew; exact ((if_neg c_1).trans (if_pos c_2)).symm) dX3_skew_22
  · refine lv_iconst (v := -1) hx hb dX3_skew_7 (by decide) ?_
    have eg : g = (s_X3_skew g x n) := (by unfold s_X3_skew; exact (if_pos c_1).symm)
    exact hret _ _ _ _ _ (by rw [← eg]; exact hP) (by rw [← eg]; exact hD) hS (by unfold f_X3_skew; exact (if_pos c_1).symm) dX3_skew_8
def p_X3_isSettled_4 (g : Nat → Int32) (t : Nat) (S4 : (Nat → Int32) × Int32) (i : Nat) : (Nat → Int32) × Int32 := (if (f_X3_isHolder S4.1 i t) = 0 then (S4.1, S4.2) else (if (S4.1 0) < (S4.1 (52 + 3 * i + t / 4)) then (if (S4.1 (17 + t)) = 1 then (if (S4.1 (42 + i)) = 1 then ((upd (upd (upd (upd (upd S4.1 306 ((S4.1 306) + 1)) (262 + 6 * i + 4) ((S4.1 (262 + 6 * i + 4)) + 1)) (82 + 12 * i + t) (-6)) (142 + 12 * i + t) 0) (202 + 12 * i + t) 0), S4.2) else (S4.1, 0)) else (S4.1, 0)) else ((upd (upd (upd S4.1 307 ((S4.1 307) + (if (((S4.1 (67 + 3 * i + t / 4)) >>> ((nI t) &&& 31)) &&& 1) = 0 then 1 else 0 : Int32))) (67 + 3 * i + t / 4) ((S4.1 (67 + 3 * i + t / 4)) ||| (1 <<< ((nI t) &&& 31)))) (202 + 12 * i + t) 0), S4.2)))
def q_X3_isSettled_4 (g : Nat → Int32) (t : Nat) (S0 : (Nat → Int32) × Int32) : Nat → (Nat → Int32) × Int32
  | 0 => S0
  | i + 1 => p_X3_isSettled_4 g t (q_X3_isSettled_4 g t S0 i) i
def s_X3_isSettled (g : Nat → Int32) (t : Nat) : Nat → Int32 := (if (q_X3_isSettled_4 g t (g, 1) 5).2 = 0 then (q_X3_isSettled_4 g t (g, 1) 5).1 else (upd (upd (upd (q_X3_isSettled_4 g t (g, 1) 5).1 (5 + t) (((q_X3_isSettled_4 g t (g, 1) 5).1 (5 + t)) + 1)) (17 + t) (-6)) 305 (((q_X3_isSettled_4 g t (g, 1) 5).1 305) + 1)))
def f_X3_isSettled (g : Nat → Int32) (t : Nat) : Int32 := (if (q_X3_isSettled_4 g t (g, 1) 5).2 = 0 then (q_X3_isSettled_4 g t (g, 1) 5).2 else (q_X3_isSettled_4 g t (g, 1) 5).2)
theorem fr_X3_isSettled (g : Nat → Int32) (t : Nat) (S0 : (Nat → Int32) × Int32) (h0 : S0.2 = 0 ∨ S0.2 = 1) : ∀ i, (q_X3_isSettled_4 g t S0 i).2 = 0 ∨ (q_X3_isSettled_4 g t S0 i).2 = 1
  | 0 => h0
  | i + 1 => by
    have ih := fr_X3_isSettled g t S0 h0 i
    show (p_X3_isSettled_4 g t (q_X3_isSettled_4 g t S0 i) i).2 = 0 ∨ (p_X3_isSettled_4 g t (q_X3_isSettled_4 g t S0 i) i).2 = 1
    generalize q_X3_isSettled_4 g t S0 i = S at ih ⊢
    unfold p_X3_isSettled_4
    (repeat' split) <;> first | exact ih | exact Or.inl rfl
theorem nar_X3_isSettled (g : Nat → Int32) (t : Nat) : narrow .boolean (.int (f_X3_isSettled g t)) = .int (f_X3_isSettled g t) := by
  unfold f_X3_isSettled
  have h := fr_X3_isSettled g t (g, 1) (Or.inr rfl) 5
  generalize (q_X3_isSettled_4 g t (g, 1) 5).2 = z at h ⊢
  rcases h with rfl | rfl <;> rfl
theorem kq_X3_isSettled (g : Nat → Int32) (t : Nat) {j : Nat} (h : j < 67) : ∀ i, (q_X3_isSettled_4 g t (g, 1) i).1 j = g j
  | 0 => rfl
  | i + 1 => by
    have ih := kq_X3_isSettled g t h i
    show (p_X3_isSettled_4 g t (q_X3_isSettled_4 g t (g, 1) i) i).1 j = g j
    generalize q_X3_isSettled_4 g t (g, 1) i = S at ih ⊢
    unfold p_X3_isSettled_4
    (repeat' split) <;> dsimp only <;> (repeat rw [up_n (by omega)]) <;> exact ih
theorem ks_X3_isSettled (g : Nat → Int32) {t j : Nat} (h : j < 67) (h1 : j ≠ 5 + t) (h2 : j ≠ 17 + t) : s_X3_isSettled g t j = g j := by
  unfold s_X3_isSettled
  have e := kq_X3_isSettled g t h 5
  generalize q_X3_isSettled_4 g t (g, 1) 5 = S at e ⊢
  split
  · exact e
  · (repeat rw [up_n (by omega)]); exact e
set_option maxHeartbeats 4000000 in
set_option maxRecDepth 100000 in
theorem k_X3_isSettled (l : Launch) (E : EE) (a : Nat → Nat) (g im kp : Nat → Int32) (t : Nat) (ht : t < 12) : Ci l E yX3_isSettled wsX3_isSettled { frames := 2, cells := 0, slots := 0, locals := 44 } [.ref (a 0), .int (nI t)] (ms E a g im kp) (f_X3_isSettled g t) (ms E a (s_X3_isSettled g t) im kp) := by
  refine Ci.of (cc := cX3_isSettled) (maxL := 5) (rt := .boolean) (by decide) rfl (nar_X3_isSettled g t) (Nat.le_of_ble_eq_true rfl) ?_
  intro p e s m args below meth c A Q F hE hA hret hP hD ls hl
  obtain ⟨hx, hb, hml, hown, hts⟩ := id F
  have hS : va_S A s.heap s.heap [] := va_S.rf
  have hl : lv_has ls 5 [(0, .ref (a 0)), (1, .int (nI t))] := hl
  have in3 : ∀ w ∈ wsX30, w ∈ wsX3_isSettled := fun w h => List.mem_cons_of_mem _ (List.mem_append_right _ h)
  have K7 := hts (.fieldLink RX3 7 "PromiseHoursModel" "state" "[I") (by decide +kernel)
  refine lv_iconst (v := 1) hx hb dX3_isSettled_0 (by decide) ?_
  refine lv_istore_n (lv' := [(2, .int 1), (0, .ref (a 0)), (1, .int (nI t))]) hx hb dX3_isSettled_1 rfl hl (by decide) rfl (fun ls hl => ?_)
  refine lv_iconst (v := 0) hx hb dX3_isSettled_2 (by decide) ?_
  refine lv_istore_n (lv' := [(3, .int 0), (2, .int 1), (0, .ref (a 0)), (1, .int (nI t))]) hx hb dX3_isSettled_3 rfl hl (by decide) rfl (fun ls hl => ?_)
  have lp4 : ∀ (fu i : Nat), i ≤ 5 → 5 + 1 ≤ i + fu → ∀ (S4a : (Nat → Int32)) (S4b : Int32), (S4a, S4b) = (q_X3_isSettled_4 g t (g, 1) i) → ∀ (H : Heap) (locs : List Loc), va_P E.1 vwCl (ms E a S4a im kp) H → va_D A (ms E a S4a im kp) → va_S A s.heap H locs → ∀ ls : Array Slot, lv_has ls 5 [(0, .ref (a 0)), (1, .int (nI t)), (2, .int S4b), (3, .int (nI i))] → W p l e { frames := 2, cells := 0, slots := 0, locals := 44 } s m args below meth c H locs 0 0 Q (F0 m 4 ls []) := by
    intro fu
    induction fu with
    | zero => intro i h1 h2; exact absurd h2 (by omega)
    | succ fu ih =>
      intro i hi hin S4a S4b eS4 H locs hP hD hS ls hl
      refine lv_iload_n hx hb dX3_isSettled_4 rfl (lv_at hl 3 rfl) ?_
      refine lv_iconst (v := 5) hx hb dX3_isSettled_5 (by decide) ?_
      refine lv_icmp_ge (tgt := 177) hx hb dX3_isSettled_6 (by decide) (fun c_1 => ?_) (fun c_1 => ?_)
      · have hiN : i = 5 := by have := (nI_leI (a := 5) (b := i) (by omega) (by omega)).mp c_1; omega
        rw [hiN] at eS4 hl
        have eS4a : S4a = (q_X3_isSettled_4 g t (g, 1) 5).1 := by rw [← eS4]
        have eS4b : S4b = (q_X3_isSettled_4 g t (g, 1) 5).2 := by rw [← eS4]
        refine lv_iload_n hx hb dX3_isSettled_177 rfl (lv_at hl 2 rfl) ?_
        refine lv_if_eq (tgt := 216) hx hb dX3_isSettled_178 (by decide) (fun c_2 => ?_) (fun c_2 => ?_)
        · refine lv_iload_n hx hb dX3_isSettled_216 rfl (lv_at hl 2 rfl) ?_
          have eg : S4a = (s_X3_isSettled g t) := (by unfold s_X3_isSettled; (try rw [← eS4b]); (try rw [← eS4a]); exact (if_pos c_2).symm)
          exact hret _ _ _ _ _ (by rw [← eg]; exact hP) (by rw [← eg]; exact hD) hS (by unfold f_X3_isSettled; (try rw [← eS4b]); (try rw [← eS4a]); exact (if_pos c_2).symm) dX3_isSettled_217
        · refine lv_aload_n hx hb dX3_isSettled_181 rfl (lv_at hl 0 rfl) ?_
          refine va_get (D := E.1) (ci := 3) (v := .ref (a 1)) (C := RX3) (T := TX3) (N := 3) hx hb hts in3 hown hE.1 hP 0 rfl rfl 0 (by decide) K7 (fun _ h9 => h9) rfl dX3_isSettled_182 ?_
          refine lv_iconst (v := 5) hx hb dX3_isSettled_185 (by decide) ?_
          refine lv_iload_n hx hb dX3_isSettled_186 rfl (lv_at hl 1 rfl) ?_
          refine lv_iadd hx hb dX3_isSettled_187 ?_
          refine tpe (y := nI (5 + t)) (nI_add 5 t) ?_
          refine lv_dup2_11 hx hb dX3_isSettled_188 rfl rfl ?_
          refine q_iald hx hb hE hP 1 rfl (j := (5 + t)) (v := (S4a (5 + t))) rfl (by omega) (by decide) rfl dX3_isSettled_189 ?_
          refine lv_iconst (v := 1) hx hb dX3_isSettled_190 (by decide) ?_
          refine lv_iadd hx hb dX3_isSettled_191 ?_
          refine q_iast hx hb hE hP hD hS 1 rfl (j := (5 + t)) (wd' := (ms E a (upd S4a (5 + t) ((S4a (5 + t)) + 1)) im kp)) rfl (by omega) (by decide) rfl dX3_isSettled_192 (fun H locs hP hD hS => ?_)
          refine lv_aload_n hx hb dX3_isSettled_193 rfl (lv_at hl 0 rfl) ?_
          refine va_get (D := E.1) (ci := 3) (v := .ref (a 1)) (C := RX3) (T := TX3) (N := 3) hx hb hts in3 hown hE.1 hP 0 rfl rfl 0 (by decide) K7 (fun _ h9 => h9) rfl dX3_isSettled_194 ?_
          refine lv_bipush (v := 17) hx hb dX3_isSettled_197 (by decide) ?_
          refine lv_iload_n hx hb dX3_isSettled_199 rfl (lv_at hl 1 rfl) ?_
          refine lv_iadd hx hb dX3_isSettled_200 ?_
          refine tpe (y := nI (17 + t)) (nI_add 17 t) ?_
          refine lv_bipush (v := -6) hx hb dX3_isSettled_201 (by decide) ?_
          refine q_iast hx hb hE hP hD hS 1 rfl (j := (17 + t)) (wd' := (ms E a (upd (upd S4a (5 + t) ((S4a (5 + t)) + 1)) (17 + t) (-6)) im kp)) rfl (by omega) (by decide) rfl dX3_isSettled_203 (fun H locs hP hD hS => ?_)
          refine lv_aload_n hx hb dX3_isSettled_204 rfl (lv_at hl 0 rfl) ?_
          refine va_get (D := E.1) (ci := 3) (v := .ref (a 1)) (C := RX3) (T := TX3) (N := 3) hx hb hts in3 hown hE.1 hP 0 rfl rfl 0 (by decide) K7 (fun _ h9 => h9) rfl dX3_isSettled_205 ?_
          refine lv_sipush (v := 305) hx hb dX3_isSettled_208 (by decide) ?_
          refine lv_dup2_11 hx hb dX3_isSettled_211 rfl rfl ?_
          refine q_iald hx hb hE hP 1 rfl (j := 305) (v := (S4a 305)) rfl (by omega) (by decide) ((up_n (by omega)).trans (up_n (by omega))) dX3_isSettled_212 ?_
          refine lv_iconst (v := 1) hx hb dX3_isSettled_213 (by decide) ?_
          refine lv_iadd hx hb dX3_isSettled_214 ?_
          refine q_iast hx hb hE hP hD hS 1 rfl (j := 305) (wd' := (ms E a (upd (upd (upd S4a (5 + t) ((S4a (5 + t)) + 1)) (17 + t) (-6)) 305 ((S4a 305) + 1)) im kp)) rfl (by omega) (by decide) rfl dX3_isSettled_215 (fun H locs hP hD hS => ?_)
          refine lv_iload_n hx hb dX3_isSettled_216 rfl (lv_at hl 2 rfl) ?_
          have eg : (upd (upd (upd S4a (5 + t) ((S4a (5 + t)) + 1)) (17 + t) (-6)) 305 ((S4a 305) + 1)) = (s_X3_isSettled g t) := (by unfold s_X3_isSettled; (try rw [← eS4b]); (try rw [← eS4a]); exact (if_neg c_2).symm)
          exact hret _ _ _ _ _ (by rw [← eg]; exact hP) (by rw [← eg]; exact hD) hS (by unfold f_X3_isSettled; (try rw [← eS4b]); (try rw [← eS4a]); exact (if_neg c_2).symm) dX3_isSettled_217
      · have hlt : i < 5 := Nat.lt_of_not_le (fun h => c_1 (nI_le (a := 5) (b := i) (by omega) (by omega)))
        refine lv_aload_n hx hb dX3_isSettled_9 rfl (lv_at hl 0 rfl) ?_
        refine lv_iload_n hx hb dX3_isSettled_10 rfl (lv_at hl 3 rfl) ?_
        refine lv_iload_n hx hb dX3_isSettled_11 rfl (lv_at hl 1 rfl) ?_
        refine ci_V F hE (k_X3_isHolder l E a S4a im kp i t (by omega) (by omega)) (cwV 2 hts gX3_isSettled_X3_isHolder rfl rfl rfl (by decide +kernel) ⟨Nat.le_of_ble_eq_true rfl, Nat.le_of_ble_eq_true rfl⟩) Fr.all 0 3 rfl rfl rfl hP hD hS hA rfl hl.1 rfl (Nat.le_of_ble_eq_true rfl) dX3_isSettled_12 ⟨Nat.zero_le _, Nat.zero_le _⟩ (fun H locs hP hD hS => ?_)
        refine lv_if_eq (tgt := 171) hx hb dX3_isSettled_15 (by decide) (fun c_3 => ?_) (fun c_3 => ?_)
        · refine lv_iinc (v := (nI (i + 1))) (lv' := [(3, .int (nI (i + 1))), (0, .ref (a 0)), (1, .int (nI t)), (2, .int S4b)]) hx hb dX3_isSettled_171 hl (k := 3) rfl (nI_1 i) (by decide) rfl (fun ls hl => ?_)
          refine lv_goto (tgt := 4) hx hb dX3_isSettled_174 (by decide) ?_
          have eS1 : ((S4a, S4b) : (Nat → Int32) × Int32) = (q_X3_isSettled_4 g t (g, 1) (i + 1)) := by
            show _ = p_X3_isSettled_4 g t (q_X3_isSettled_4 g t (g, 1) i) i
            rw [← eS4]
            unfold p_X3_isSettled_4; dsimp only; exact (if_pos c_3).symm
          exact ih (i + 1) (by omega) (by omega) S4a S4b eS1 _ _ hP hD hS ls (lv_sub hl [1, 2, 3, 0] rfl)
        · refine lv_aload_n hx hb dX3_isSettled_18 rfl (lv_at hl 0 rfl) ?_
          refine va_get (D := E.1) (ci := 3) (v := .ref (a 1)) (C := RX3) (T := TX3) (N := 3) hx hb hts in3 hown hE.1 hP 0 rfl rfl 0 (by decide) K7 (fun _ h9 => h9) rfl dX3_isSettled_19 ?_
          refine lv_bipush (v := 52) hx hb dX3_isSettled_22 (by decide) ?_
          refine lv_iload_n hx hb dX3_isSettled_24 rfl (lv_at hl 3 rfl) ?_
          refine lv_iload_n hx hb dX3_isSettled_25 rfl (lv_at hl 1 rfl) ?_
          refine ci_S F hE (k_X3_volumeAt l E 52 i t (by omega)) (va_cwS 3 hts gX3_isSettled_X3_volumeAt rfl rfl rfl (by decide +kernel) ⟨Nat.le_of_ble_eq_true rfl, Nat.le_of_ble_eq_true rfl⟩) Fr.nil hP hD hS hA rfl hl.1 rfl (Nat.le_of_ble_eq_true rfl) dX3_isSettled_26 ⟨Nat.zero_le _, Nat.zero_le _⟩ (fun H locs hP hD hS => ?_)
          refine q_iald hx hb hE hP 1 rfl (j := (52 + 3 * i + t / 4)) (v := (S4a (52 + 3 * i + t / 4))) rfl (by omega) (by decide) rfl dX3_isSettled_29 ?_
          refine lv_aload_n hx hb dX3_isSettled_30 rfl (lv_at hl 0 rfl) ?_
          refine va_get (D := E.1) (ci := 3) (v := .ref (a 1)) (C := RX3) (T := TX3) (N := 3) hx hb hts in3 hown hE.1 hP 0 rfl rfl 0 (by decide) K7 (fun _ h9 => h9) rfl dX3_isSettled_31 ?_
          refine lv_iconst (v := 0) hx hb dX3_isSettled_34 (by decide) ?_
          refine q_iald hx hb hE hP 1 rfl (j := 0) (v := (S4a 0)) rfl (by omega) (by decide) rfl dX3_isSettled_35 ?_
          refine lv_icmp_gt (tgt := 108) hx hb dX3_isSettled_36 (by decide) (fun c_4 => ?_) (fun c_4 => ?_)
          · refine lv_aload_n hx hb dX3_isSettled_108 rfl (lv_at hl 0 rfl) ?_
            refine va_get (D := E.1) (ci := 3) (v := .ref (a 1)) (C := RX3) (T := TX3) (N := 3) hx hb hts in3 hown hE.1 hP 0 rfl rfl 0 (by decide) K7 (fun _ h9 => h9) rfl dX3_isSettled_109 ?_
            refine lv_bipush (v := 17) hx hb dX3_isSettled_112 (by decide) ?_
            refine lv_iload_n hx hb dX3_isSettled_114 rfl (lv_at hl 1 rfl) ?_
            refine lv_iadd hx hb dX3_isSettled_115 ?_
            refine tpe (y := nI (17 + t)) (nI_add 17 t) ?_
            refine q_iald hx hb hE hP 1 rfl (j := (17 + t)) (v := (S4a (17 + t))) rfl (by omega) (by decide) rfl dX3_isSettled_116 ?_
            refine lv_iconst (v := 1) hx hb dX3_isSettled_117 (by decide) ?_
            refine lv_icmp_ne (tgt := 169) hx hb dX3_isSettled_118 (by decide) (fun c_5 => ?_) (fun c_5 => ?_)
            · refine lv_iconst (v := 0) hx hb dX3_isSettled_169 (by decide) ?_
              refine lv_istore_n (lv' := [(2, .int 0), (0, .ref (a 0)), (1, .int (nI t)), (3, .int (nI i))]) hx hb dX3_isSettled_170 rfl hl (by decide) rfl (fun ls hl => ?_)
              refine lv_iinc (v := (nI (i + 1))) (lv' := [(3, .int (nI (i + 1))), (2, .int 0), (0, .ref (a 0)), (1, .int (nI t))]) hx hb dX3_isSettled_171 hl (k := 3) rfl (nI_1 i) (by decide) rfl (fun ls hl => ?_)
              refine lv_goto (tgt := 4) hx hb dX3_isSettled_174 (by decide) ?_
              have eS1 : ((S4a, 0) : (Nat → Int32) × Int32) = (q_X3_isSettled_4 g t (g, 1) (i + 1)) := by
                show _ = p_X3_isSettled_4 g t (q_X3_isSettled_4 g t (g, 1) i) i
                rw [← eS4]
                unfold p_X3_isSettled_4; dsimp only; exact ((if_neg c_3).trans ((if_pos c_4).trans (if_neg c_5))).symm
              exact ih (i + 1) (by omega) (by omega) S4a 0 eS1 _ _ hP hD hS ls (lv_sub hl [2, 3, 1, 0] rfl)
            · refine lv_aload_n hx hb dX3_isSettled_121 rfl (lv_at hl 0 rfl) ?_
              refine va_get (D := E.1) (ci := 3) (v := .ref (a 1)) (C := RX3) (T := TX3) (N := 3) hx hb hts in3 hown hE.1 hP 0 rfl rfl 0 (by decide) K7 (fun _ h9 => h9) rfl dX3_isSettled_122 ?_
              refine lv_bipush (v := 42) hx hb dX3_isSettled_125 (by decide) ?_
              refine lv_iload_n hx hb dX3_isSettled_127 rfl (lv_at hl 3 rfl) ?_
              refine lv_iadd hx hb dX3_isSettled_128 ?_
              refine tpe (y := nI (42 + i)) (nI_add 42 i) ?_
              refine q_iald hx hb hE hP 1 rfl (j := (42 + i)) (v := (S4a (42 + i))) rfl (by omega) (by decide) rfl dX3_isSettled_129 ?_
              refine lv_iconst (v := 1) hx hb dX3_isSettled_130 (by decide) ?_
              refine lv_icmp_ne (tgt := 169) hx hb dX3_isSettled_131 (by decide) (fun c_6 => ?_) (fun c_6 => ?_)
              · refine lv_iconst (v := 0) hx hb dX3_isSettled_169 (by decide) ?_
                refine lv_istore_n (lv' := [(2, .int 0), (0, .ref (a 0)), (1, .int (nI t)), (3, .int (nI i))]) hx hb dX3_isSettled_170 rfl hl (by decide) rfl (fun ls hl => ?_)
                refine lv_iinc (v := (nI (i + 1))) (lv' := [(3, .int (nI (i + 1))), (2, .int 0), (0, .ref (a 0)), (1, .int (nI t))]) hx hb dX3_isSettled_171 hl (k := 3) rfl (nI_1 i) (by decide) rfl (fun ls hl => ?_)
                refine lv_goto (tgt := 4) hx hb dX3_isSettled_174 (by decide) ?_
                have eS1 : ((S4a, 0) : (Nat → Int32) × Int32) = (q_X3_isSettled_4 g t (g, 1) (i + 1)) := by
                  show _ = p_X3_isSettled_4 g t (q_X3_isSettled_4 g t (g, 1) i) i
                  rw [← eS4]
                  unfold p_X3_isSettled_4; dsimp only; exact ((if_neg c_3).trans ((if_pos c_4).trans ((if_pos c_5).trans (if_neg c_6)))).symm
                exact ih (i + 1) (by omega) (by omega) S4a 0 eS1 _ _ hP hD hS ls (lv_sub hl [2, 3, 1, 0] rfl)
              · refine lv_aload_n hx hb dX3_isSettled_134 rfl (lv_at hl 0 rfl) ?_
                refine va_get (D := E.1) (ci := 3) (v := .ref (a 1)) (C := RX3) (T := TX3) (N := 3) hx hb hts in3 hown hE.1 hP 0 rfl rfl 0 (by decide) K7 (fun _ h9 => h9) rfl dX3_isSettled_135 ?_
                refine lv_sipush (v := 306) hx hb dX3_isSettled_138 (by decide) ?_
                refine lv_dup2_11 hx hb dX3_isSettled_141 rfl rfl ?_
                refine q_iald hx hb hE hP 1 rfl (j := 306) (v := (S4a 306)) rfl (by omega) (by decide) rfl dX3_isSettled_142 ?_
                refine lv_iconst (v := 1) hx hb dX3_isSettled_143 (by decide) ?_
                refine lv_iadd hx hb dX3_isSettled_144 ?_
                refine q_iast hx hb hE hP hD hS 1 rfl (j := 306) (wd' := (ms E a (upd S4a 306 ((S4a 306) + 1)) im kp)) rfl (by omega) (by decide) rfl dX3_isSettled_145 (fun H locs hP hD hS => ?_)
                refine lv_aload_n hx hb dX3_isSettled_146 rfl (lv_at hl 0 rfl) ?_
                refine va_get (D := E.1) (ci := 3) (v := .ref (a 1)) (C := RX3) (T := TX3) (N := 3) hx hb hts in3 hown hE.1 hP 0 rfl rfl 0 (by decide) K7 (fun _ h9 => h9) rfl dX3_isSettled_147 ?_
                refine lv_iload_n hx hb dX3_isSettled_150 rfl (lv_at hl 3 rfl) ?_
                refine lv_iconst (v := 4) hx hb dX3_isSettled_151 (by decide) ?_
                refine ci_S F hE (k_X3_said l E i 4) (va_cwS 2 hts gX3_isSettled_X3_said rfl rfl rfl (by decide +kernel) ⟨Nat.le_of_ble_eq_true rfl, Nat.le_of_ble_eq_true rfl⟩) Fr.nil hP hD hS hA rfl hl.1 rfl (Nat.le_of_ble_eq_true rfl) dX3_isSettled_152 ⟨Nat.zero_le _, Nat.zero_le _⟩ (fun H locs hP hD hS => ?_)
                refine lv_dup2_11 hx hb dX3_isSettled_155 rfl rfl ?_
                refine q_iald hx hb hE hP 1 rfl (j := (262 + 6 * i + 4)) (v := (S4a (262 + 6 * i + 4))) rfl (by omega) (by decide) (up_n (by omega)) dX3_isSettled_156 ?_
                refine lv_iconst (v := 1) hx hb dX3_isSettled_157 (by decide) ?_
                refine lv_iadd hx hb dX3_isSettled_158 ?_
                refine q_iast hx hb hE hP hD hS 1 rfl (j := (262 + 6 * i + 4)) (wd' := (ms E a (upd (upd S4a 306 ((S4a 306) + 1)) (262 + 6 * i + 4) ((S4a (262 + 6 * i + 4)) + 1)) im kp)) rfl (by omega) (by decide) rfl dX3_isSettled_159 (fun H locs hP hD hS => ?_)
                refine lv_aload_n hx hb dX3_isSettled_160 rfl (lv_at hl 0 rfl) ?_
                refine lv_iload_n hx hb dX3_isSettled_161 rfl (lv_at hl 3 rfl) ?_
                refine lv_iload_n hx hb dX3_isSettled_162 rfl (lv_at hl 1 rfl) ?_
                refine cv_V F hE (k_X3_clear l E a (upd (upd S4a 306 ((S4a 306) + 1)) (262 + 6 * i + 4) ((S4a (262 + 6 * i + 4)) + 1)) im kp i t (by omega) (by omega)) (cwV 2 hts gX3_isSettled_X3_clear rfl rfl rfl (by decide +kernel) ⟨Nat.le_of_ble_eq_true rfl, Nat.le_of_ble_eq_true rfl⟩) Fr.all 0 3 rfl rfl rfl hP hD hS hA rfl hl.1 rfl (Nat.le_of_ble_eq_true rfl) dX3_isSettled_163 ⟨Nat.zero_le _, Nat.zero_le _⟩ (fun H locs hP hD hS => ?_)
                have hP : va_P E.1 vwCl (ms E a (upd (upd (upd (upd (upd S4a 306 ((S4a 306) + 1)) (262 + 6 * i + 4) ((S4a (262 + 6 * i + 4)) + 1)) (82 + 12 * i + t) (-6)) (142 + 12 * i + t) 0) (202 + 12 * i + t) 0) im kp) H := hP
                have hD : va_D A (ms E a (upd (upd (upd (upd (upd S4a 306 ((S4a 306) + 1)) (262 + 6 * i + 4) ((S4a (262 + 6 * i + 4)) + 1)) (82 + 12 * i + t) (-6)) (142 + 12 * i + t) 0) (202 + 12 * i + t) 0) im kp) := hD
                refine lv_goto (tgt := 171) hx hb dX3_isSettled_166 (by decide) ?_
                refine lv_iinc (v := (nI (i + 1))) (lv' := [(3, .int (nI (i + 1))), (0, .ref (a 0)), (1, .int (nI t)), (2, .int S4b)]) hx hb dX3_isSettled_171 hl (k := 3) rfl (nI_1 i) (by decide) rfl (fun ls hl => ?_)
                refine lv_goto (tgt := 4) hx hb dX3_isSettled_174 (by decide) ?_
                have eS1 : (((upd (upd (upd (upd (upd S4a 306 ((S4a 306) + 1)) (262 + 6 * i + 4) ((S4a (262 + 6 * i + 4)) + 1)) (82 + 12 * i + t) (-6)) (142 + 12 * i + t) 0) (202 + 12 * i + t) 0), S4b) : (Nat → Int32) × Int32) = (q_X3_isSettled_4 g t (g, 1) (i + 1)) := by
                  show _ = p_X3_isSettled_4 g t (q_X3_isSettled_4 g t (g, 1) i) i
                  rw [← eS4]
                  unfold p_X3_isSettled_4; dsimp only; exact ((if_neg c_3).trans ((if_pos c_4).trans ((if_pos c_5).trans (if_pos c_6)))).symm
                exact ih (i + 1) (by omega) (by omega) (upd (upd (upd (upd (upd S4a 306 ((S4a 306) + 1)) (262 + 6 * i + 4) ((S4a (262 + 6 * i + 4)) + 1)) (82 + 12 * i + t) (-6)) (142 + 12 * i + t) 0) (202 + 12 * i + t) 0) S4b eS1 _ _ hP hD hS ls (lv_sub hl [1, 2, 3, 0] rfl)
          · refine lv_bipush (v := 67) hx hb dX3_isSettled_39 (by decide) ?_
            refine lv_iload_n hx hb dX3_isSettled_41 rfl (lv_at hl 3 rfl) ?_
            refine lv_iload_n hx hb dX3_isSettled_42 rfl (lv_at hl 1 rfl) ?_
            refine ci_S F hE (k_X3_volumeAt l E 67 i t (by omega)) (va_cwS 3 hts gX3_isSettled_X3_volumeAt rfl rfl rfl (by decide +kernel) ⟨Nat.le_of_ble_eq_true rfl, Nat.le_of_ble_eq_true rfl⟩) Fr.nil hP hD hS hA rfl hl.1 rfl (Nat.le_of_ble_eq_true rfl) dX3_isSettled_43 ⟨Nat.zero_le _, Nat.zero_le _⟩ (fun H locs hP hD hS => ?_)
            refine lv_istore (lv' := [(4, .int (nI (67 + 3 * i + t / 4))), (0, .ref (a 0)), (1, .int (nI t)), (2, .int S4b), (3, .int (nI i))]) hx hb dX3_isSettled_46 hl (by decide) rfl (fun ls hl => ?_)
            refine lv_aload_n hx hb dX3_isSettled_48 rfl (lv_at hl 1 rfl) ?_
            refine va_get (D := E.1) (ci := 3) (v := .ref (a 1)) (C := RX3) (T := TX3) (N := 3) hx hb hts in3 hown hE.1 hP 0 rfl rfl 0 (by decide) K7 (fun _ h9 => h9) rfl dX3_isSettled_49 ?_
            refine lv_sipush (v := 307) hx hb dX3_isSettled_52 (by decide) ?_
            refine lv_dup2_11 hx hb dX3_isSettled_55 rfl rfl ?_
            refine q_iald hx hb hE hP 1 rfl (j := 307) (v := (S4a 307)) rfl (by omega) (by decide) rfl dX3_isSettled_56 ?_
            refine lv_aload_n hx hb dX3_isSettled_57 rfl (lv_at hl 1 rfl) ?_
            refine va_get (D := E.1) (ci := 3) (v := .ref (a 1)) (C := RX3) (T := TX3) (N := 3) hx hb hts in3 hown hE.1 hP 0 rfl rfl 0 (by decide) K7 (fun _ h9 => h9) rfl dX3_isSettled_58 ?_
            refine lv_iload hx hb dX3_isSettled_61 (lv_at hl 0 rfl) ?_
            refine q_iald hx hb hE hP 1 rfl (j := (67 + 3 * i + t / 4)) (v := (S4a (67 + 3 * i + t / 4))) rfl (by omega) (by decide) rfl dX3_isSettled_63 ?_
            refine lv_iload_n hx hb dX3_isSettled_64 rfl (lv_at hl 2 rfl) ?_
            refine lv_ishr hx hb dX3_isSettled_65 ?_
            refine lv_iconst (v := 1) hx hb dX3_isSettled_66 (by decide) ?_
            refine lv_iand hx hb dX3_isSettled_67 ?_
            have J_76_7 : ∀ (w : Int32) (H : Heap) (locs : List Loc), va_P E.1 vwCl (ms E a S4a im kp) H → va_D A (ms E a S4a im kp) → va_S A s.heap H locs → w = (if (((S4a (67 + 3 * i + t / 4)) >>> ((nI t) &&& 31)) &&& 1) = 0 then 1 else 0 : Int32) → W p l e { frames := 2, cells := 0, slots := 0, locals := 44 } s m args below meth c H locs 0 0 Q (F0 m 76 ls [.int w, .int (S4a 307), .int 307, .ref (a 1)]) := by
              intro w H locs hP hD hS ew
              rw [ew]
              refine lv_iadd hx hb dX3_isSettled_76 ?_
              refine q_iast hx hb hE hP hD hS 1 rfl (j := 307) (wd' := (ms E a (upd S4a 307 ((S4a 307) + (if (((S4a (67 + 3 * i + t / 4)) >>> ((nI t) &&& 31)) &&& 1) = 0 then 1 else 0 : Int32))) im kp)) rfl (by omega) (by decide) rfl dX3_isSettled_77 (fun H locs hP hD hS => ?_)
              refine lv_aload_n hx hb dX3_isSettled_78 rfl (lv_at hl 1 rfl) ?_
              refine va_get (D := E.1) (ci := 3) (v := .ref (a 1)) (C := RX3) (T := TX3) (N := 3) hx hb hts in3 hown hE.1 hP 0 rfl rfl 0 (by decide) K7 (fun _ h9 => h9) rfl dX3_isSettled_79 ?_
              refine lv_iload hx hb dX3_isSettled_82 (lv_at hl 0 rfl) ?_
              refine lv_dup2_11 hx hb dX3_isSettled_84 rfl rfl ?_
              refine q_iald hx hb hE hP 1 rfl (j := (67 + 3 * i + t / 4)) (v := (S4a (67 + 3 * i + t / 4))) rfl (by omega) (by decide) (up_n (by omega)) dX3_isSettled_85 ?_
              refine lv_iconst (v := 1) hx hb dX3_isSettled_86 (by decide) ?_
              refine lv_iload_n hx hb dX3_isSettled_87 rfl (lv_at hl 2 rfl) ?_
              refine lv_ishl hx hb dX3_isSettled_88 ?_
              refine lv_ior hx hb dX3_isSettled_89 ?_
              refine q_iast hx hb hE hP hD hS 1 rfl (j := (67 + 3 * i + t / 4)) (wd' := (ms E a (upd (upd S4a 307 ((S4a 307) + (if (((S4a (67 + 3 * i + t / 4)) >>> ((nI t) &&& 31)) &&& 1) = 0 then 1 else 0 : Int32))) (67 + 3 * i + t / 4) ((S4a (67 + 3 * i + t / 4)) ||| (1 <<< ((nI t) &&& 31)))) im kp)) rfl (by omega) (by decide) rfl dX3_isSettled_90 (fun H locs hP hD hS => ?_)
              refine lv_aload_n hx hb dX3_isSettled_91 rfl (lv_at hl 1 rfl) ?_
              refine va_get (D := E.1) (ci := 3) (v := .ref (a 1)) (C := RX3) (T := TX3) (N := 3) hx hb hts in3 hown hE.1 hP 0 rfl rfl 0 (by decide) K7 (fun _ h9 => h9) rfl dX3_isSettled_92 ?_
              refine lv_sipush (v := 202) hx hb dX3_isSettled_95 (by decide) ?_
              refine lv_iload_n hx hb dX3_isSettled_98 rfl (lv_at hl 4 rfl) ?_
              refine lv_iload_n hx hb dX3_isSettled_99 rfl (lv_at hl 2 rfl) ?_
              refine ci_S F hE (k_X3_thingAt l E 202 i t) (va_cwS 3 hts gX3_isSettled_X3_thingAt rfl rfl rfl (by decide +kernel) ⟨Nat.le_of_ble_eq_true rfl, Nat.le_of_ble_eq_true rfl⟩) Fr.nil hP hD hS hA rfl hl.1 rfl (Nat.le_of_ble_eq_true rfl) dX3_isSettled_100 ⟨Nat.zero_le _, Nat.zero_le _⟩ (fun H locs hP hD hS => ?_)
              refine lv_iconst (v := 0) hx hb dX3_isSettled_103 (by decide) ?_
              refine q_iast hx hb hE hP hD hS 1 rfl (j := (202 + 12 * i + t)) (wd' := (ms E a (upd (upd (upd S4a 307 ((S4a 307) + (if (((S4a (67 + 3 * i + t / 4)) >>> ((nI t) &&& 31)) &&& 1) = 0 then 1 else 0 : Int32))) (67 + 3 * i + t / 4) ((S4a (67 + 3 * i + t / 4)) ||| (1 <<< ((nI t) &&& 31)))) (202 + 12 * i + t) 0) im kp)) rfl (by omega) (by decide) rfl dX3_isSettled_104 (fun H locs hP hD hS => ?_)
              refine lv_goto (tgt := 171) hx hb dX3_isSettled_105 (by decide) ?_
              refine lv_iinc (v := (nI (i + 1))) (lv' := [(3, .int (nI (i + 1))), (4, .int (nI (67 + 3 * i + t / 4))), (0, .ref (a 0)), (1, .int (nI t)), (2, .int S4b)]) hx hb dX3_isSettled_171 hl (k := 4) rfl (nI_1 i) (by decide) rfl (fun ls hl => ?_)
              refine lv_goto (tgt := 4) hx hb dX3_isSettled_174 (by decide) ?_
              have eS1 : (((upd (upd (upd S4a 307 ((S4a 307) + (if (((S4a (67 + 3 * i + t / 4)) >>> ((nI t) &&& 31)) &&& 1) = 0 then 1 else 0 : Int32))) (67 + 3 * i + t / 4) ((S4a (67 + 3 * i + t / 4)) ||| (1 <<< ((nI t) &&& 31)))) (202 + 12 * i + t) 0), S4b) : (Nat → Int32) × Int32) = (q_X3_isSettled_4 g t (g, 1) (i + 1)) := by
                show _ = p_X3_isSettled_4 g t (q_X3_isSettled_4 g t (g, 1) i) i
                rw [← eS4]
                unfold p_X3_isSettled_4; dsimp only; exact ((if_neg c_3).trans (if_neg c_4)).symm
              exact ih (i + 1) (by omega) (by omega) (upd (upd (upd S4a 307 ((S4a 307) + (if (((S4a (67 + 3 * i + t / 4)) >>> ((nI t) &&& 31)) &&& 1) = 0 then 1 else 0 : Int32))) (67 + 3 * i + t / 4) ((S4a (67 + 3 * i + t / 4)) ||| (1 <<< ((nI t) &&& 31)))) (202 + 12 * i + t) 0) S4b eS1 _ _ hP hD hS ls (lv_sub hl [2, 3, 4, 0] rfl)
            refine lv_if_ne (tgt := 75) hx hb dX3_isSettled_68 (by decide) (fun c_8 => ?_) (fun c_8 => ?_)
            · refine lv_iconst (v := 0) hx hb dX3_isSettled_75 (by decide) ?_
              exact J_76_7 _ _ _ hP hD hS (if_neg c_8).symm
            · refine lv_iconst (v := 1) hx hb dX3_isSettled_71 (by decide) ?_
              refine lv_goto (tgt := 76) hx hb dX3_isSettled_72 (by decide) ?_
              exact J_76_7 _ _ _ hP hD hS (if_pos c_8).symm
  exact lp4 (5 + 1) 0 (Nat.zero_le _) (by omega) g 1 rfl _ _ hP hD hS ls (lv_sub hl [2, 3, 1, 0] rfl)
def s_X3_addCause (g : Nat → Int32) (b : Int32) (k : Int32) : Nat → Int32 := (if b = 0 then g else (upd (upd g (292 + (ix (g 296))) k) 296 ((g 296) + 1)))
set_option maxHeartbeats 4000000 in
set_option maxRecDepth 100000 in
theorem k_X3_addCause (l : Launch) (E : EE) (a : Nat → Nat) (g im kp : Nat → Int32) (b : Int32) (k : Int32) (hm : ¬ b = 0 → ix (g 296) < 4 ∧ g 296 = nI (ix (g 296))) : Cv l E yX3_addCause wsX3_addCause { frames := 0, cells := 0, slots := 0, locals := 0 } [.ref (a 0), .int b, .int k] (ms E a g im kp) (ms E a (s_X3_addCause g b k) im kp) := by
  refine Cv.of (cc := cX3_addCause) (maxL := 3) (by decide) rfl (Nat.le_of_ble_eq_true rfl) ?_
  intro p e s m args below meth c A Q F hE hA hret hP hD ls hl
  obtain ⟨hx, hb, hml, hown, hts⟩ := id F
  have hS : va_S A s.heap s.heap [] := va_S.rf
  have hl : lv_has ls 3 [(0, .ref (a 0)), (1, .int b), (2, .int k)] := hl
  have in3 : ∀ w ∈ wsX30, w ∈ wsX3_addCause := fun w h => List.mem_cons_of_mem _ (List.mem_append_right _ h)
  have K7 := hts (.fieldLink RX3 7 "PromiseHoursModel" "state" "[I") (by decide +kernel)
  refine lv_iload_n hx hb dX3_addCause_0 rfl (lv_at hl 1 rfl) ?_
  refine lv_if_eq (tgt := 34) hx hb dX3_addCause_1 (by decide) (fun c_1 => ?_) (fun c_1 => ?_)
  · skip
    have eg : g = (s_X3_addCause g b k) := (by unfold s_X3_addCause; exact (if_pos c_1).symm)
    exact hret _ _ _ _ (by rw [← eg]; exact hP) (by rw [← eg]; exact hD) hS dX3_addCause_34
  · obtain ⟨hm1, hm2⟩ := hm c_1
    refine lv_aload_n hx hb dX3_addCause_4 rfl (lv_at hl 0 rfl) ?_
    refine va_get (D := E.1) (ci := 3) (v := .ref (a 1)) (C := RX3) (T := TX3) (N := 3) hx hb hts in3 hown hE.1 hP 0 rfl rfl 0 (by decide) K7 (fun _ h9 => h9) rfl dX3_addCause_5 ?_
    refine lv_sipush (v := 292) hx hb dX3_addCause_8 (by decide) ?_
    refine lv_aload_n hx hb dX3_addCause_11 rfl (lv_at hl 0 rfl) ?_
    refine va_get (D := E.1) (ci := 3) (v := .ref (a 1)) (C := RX3) (T := TX3) (N := 3) hx hb hts in3 hown hE.1 hP 0 rfl rfl 0 (by decide) K7 (fun _ h9 => h9) rfl dX3_addCause_12 ?_
    refine lv_sipush (v := 296) hx hb dX3_addCause_15 (by decide) ?_
    refine q_iald hx hb hE hP 1 rfl (j := 296) (v := (g 296)) rfl (by omega) (by decide) rfl dX3_addCause_18 ?_
    refine tpe (y := nI (ix (g 296))) hm2 ?_
    refine lv_iadd hx hb dX3_addCause_19 ?_
    refine tpe (y := nI (292 + (ix (g 296)))) (nI_add 292 (ix (g 296))) ?_
    refine lv_iload_n hx hb dX3_addCause_20 rfl (lv_at hl 2 rfl) ?_
    refine q_iast hx hb hE hP hD hS 1 rfl (j := (292 + (ix (g 296)))) (wd' := (ms E a (upd g (292 + (ix (g 296))) k) im kp)) rfl (by omega) (by decide) rfl dX3_addCause_21 (fun H locs hP hD hS => ?_)
    refine lv_aload_n hx hb dX3_addCause_22 rfl (lv_at hl 0 rfl) ?_
    refine va_get (D := E.1) (ci := 3) (v := .ref (a 1)) (C := RX3) (T := TX3) (N := 3) hx hb hts in3 hown hE.1 hP 0 rfl rfl 0 (by decide) K7 (fun _ h9 => h9) rfl dX3_addCause_23 ?_
    refine lv_sipush (v := 296) hx hb dX3_addCause_26 (by decide) ?_
    refine lv_dup2_11 hx hb dX3_addCause_29 rfl rfl ?_
    refine q_iald hx hb hE hP 1 rfl (j := 296) (v := (g 296)) rfl (by omega) (by decide) (up_n (by omega)) dX3_addCause_30 ?_
    refine lv_iconst (v := 1) hx hb dX3_addCause_31 (by decide) ?_
    refine lv_iadd hx hb dX3_addCause_32 ?_
    refine q_iast hx hb hE hP hD hS 1 rfl (j := 296) (wd' := (ms E a (upd (upd g (292 + (ix (g 296))) k) 296 ((g 296) + 1)) im kp)) rfl (by omega) (by decide) rfl dX3_addCause_33 (fun H locs hP hD hS => ?_)
    have eg : (upd (upd g (292 + (ix (g 296))) k) 296 ((g 296) + 1)) = (s_X3_addCause g b k) := (by unfold s_X3_addCause; exact (if_neg c_1).symm)
    exact hret _ _ _ _ (by rw [← eg]; exact hP) (by rw [← eg]; exact hD) hS dX3_addCause_34
