theorem kv_X3_isSettled (g : Nat → Int32) {t : Nat} (ht : t < 12) {j : Nat} (h : 202 ≤ j) (h2 : j < 262) : ∀ i, i ≤ 5 → (q_X3_isSettled_4 g t (g, 1) i).1 j = g j ∨ (q_X3_isSettled_4 g t (g, 1) i).1 j = 0
  | 0, _ => Or.inl rfl
  | i + 1, hi => by
    have ih := kv_X3_isSettled g ht h h2 i (by omega)
    show (p_X3_isSettled_4 g t (q_X3_isSettled_4 g t (g, 1) i) i).1 j = g j ∨ (p_X3_isSettled_4 g t (q_X3_isSettled_4 g t (g, 1) i) i).1 j = 0
    generalize q_X3_isSettled_4 g t (g, 1) i = S at ih ⊢
    by_cases e : j = 202 + 12 * i + t
    · subst e
      unfold p_X3_isSettled_4
      (repeat' split) <;> dsimp only <;> first | exact ih | exact Or.inr up_s
    · unfold p_X3_isSettled_4
      (repeat' split) <;> dsimp only <;> (repeat rw [up_n (by omega)]) <;> exact ih
theorem pb_st {g : Nat → Int32} {t : Nat} (h : PB g) (ht : t < 12) : PB (s_X3_isSettled g t) := by
  obtain ⟨h0, h1, h2⟩ := h
  have e0 : s_X3_isSettled g t 0 = g 0 := ks_X3_isSettled g (by omega) (by omega) (by omega)
  have e1 : ∀ j, 202 ≤ j → j < 262 → s_X3_isSettled g t j = g j ∨ s_X3_isSettled g t j = 0 := by
    intro j hj hj2
    have := kv_X3_isSettled g ht hj hj2 5 (Nat.le_refl 5)
    unfold s_X3_isSettled
    generalize q_X3_isSettled_4 g t (g, 1) 5 = S at this ⊢
    split
    · exact this
    · (repeat rw [up_n (by omega)]); exact this
  refine ⟨by rw [e0]; exact h0, by rw [e0]; exact h1, fun r hr t' ht' => ?_⟩
  rw [e0]
  rcases e1 (202 + 12 * r + t') (by omega) (by omega) with e | e
  · rw [e]; exact h2 r hr t' ht'
  · rw [e]; show (0 : Int32).toInt ≤ _; have : (0 : Int32).toInt = 0 := rfl; omega
theorem pb_lw {g : Nat → Int32} {t : Nat} (h : PB g) : PB (s_X3_layWaited g t) := by
  obtain ⟨h0, h1, h2⟩ := h
  have e0 : s_X3_layWaited g t 0 = g 0 := ks_X3_layWaited g (by omega)
  refine ⟨by rw [e0]; exact h0, by rw [e0]; exact h1, fun r hr t' ht' => ?_⟩
  rw [e0, ks_X3_layWaited g (by omega)]
  exact h2 r hr t' (by exact ht')

def t1_X3_write (g : Nat → Int32) (y : Int32) (n : Int32) : Nat → Int32 := (s_X3_isSettled (upd (upd g 304 ((g 304) + 1)) (17 + (ix y)) n) (ix y))
def t2_X3_write (g : Nat → Int32) (y : Int32) (n : Int32) : Nat → Int32 := (s_X3_layWaited (t1_X3_write g y n) (ix y))
def s_X3_write (g : Nat → Int32) (y : Int32) (n : Int32) : Nat → Int32 := (if (f_X3_in y 0 11) = 0 then g else (if (f_X3_in n 0 1) = 0 then g else (if (g (17 + (ix y))) < 0 then (if (f_X3_isSettled (upd (upd g 304 ((g 304) + 1)) (17 + (ix y)) n) (ix y)) = 0 then (upd (upd (t2_X3_write g y n) (29 + (ix (g 41))) (nI (ix y))) 41 (((t2_X3_write g y n) 41) + 1)) else (t2_X3_write g y n)) else g)))
def f_X3_write (g : Nat → Int32) (y : Int32) (n : Int32) : Int32 := (if (f_X3_in y 0 11) = 0 then (-1) else (if (f_X3_in n 0 1) = 0 then (-2) else (if (g (17 + (ix y))) < 0 then (if (f_X3_isSettled (upd (upd g 304 ((g 304) + 1)) (17 + (ix y)) n) (ix y)) = 0 then ((f_X3_dueOf (upd (upd (t2_X3_write g y n) (29 + (ix (g 41))) (nI (ix y))) 41 (((t2_X3_write g y n) 41) + 1)) (ix y)) - ((t2_X3_write g y n) 0)) else 0) else (-5))))
set_option maxHeartbeats 4000000 in
set_option maxRecDepth 100000 in
theorem k_X3_write (l : Launch) (E : EE) (a : Nat → Nat) (g im kp : Nat → Int32) (y : Int32) (n : Int32) (hm : ¬ f_X3_in y 0 11 = 0 → g (17 + ix y) < 0 → ix (g 41) < 12 ∧ g 41 = nI (ix (g 41))) (hB : PB g) : Ci l E yX3_write wsX3_write { frames := 3, cells := 0, slots := 0, locals := 69 } [.ref (a 0), .int y, .int n] (ms E a g im kp) (f_X3_write g y n) (ms E a (s_X3_write g y n) im kp) := by
  refine Ci.of (cc := cX3_write) (maxL := 4) (rt := .int) (by decide) rfl rfl (Nat.le_of_ble_eq_true rfl) ?_
  intro p e s m args below meth c A Q F hE hA hret hP hD ls hl
  obtain ⟨hx, hb, hml, hown, hts⟩ := id F
  have hS : va_S A s.heap s.heap [] := va_S.rf
  have hl : lv_has ls 4 [(0, .ref (a 0)), (1, .int y), (2, .int n)] := hl
  have in3 : ∀ w ∈ wsX30, w ∈ wsX3_write := fun w h => List.mem_cons_of_mem _ (List.mem_append_right _ h)
  have K7 := hts (.fieldLink RX3 7 "PromiseHoursModel" "state" "[I") (by decide +kernel)
  refine lv_iload_n hx hb dX3_write_0 rfl (lv_at hl 1 rfl) ?_
  refine ci_S F hE (k_X3_isThing l E y) (va_cwS 1 hts gX3_write_X3_isThing rfl rfl rfl (by decide +kernel) ⟨Nat.le_of_ble_eq_true rfl, Nat.le_of_ble_eq_true rfl⟩) Fr.nil hP hD hS hA rfl hl.1 rfl (Nat.le_of_ble_eq_true rfl) dX3_write_1 ⟨Nat.zero_le _, Nat.zero_le _⟩ (fun H locs hP hD hS => ?_)
  refine lv_if_ne (tgt := 9) hx hb dX3_write_4 (by decide) (fun c_1 => ?_) (fun c_1 => ?_)
  · obtain ⟨b_y, e_y⟩ := in_ix (n := 11) c_1 (by decide) (by decide)
    refine lv_iload_n hx hb dX3_write_9 rfl (lv_at hl 2 rfl) ?_
    refine lv_iconst (v := 0) hx hb dX3_write_10 (by decide) ?_
    refine lv_iconst (v := 1) hx hb dX3_write_11 (by decide) ?_
    refine ci_S F hE (k_X3_in l E n 0 1) (va_cwS 3 hts gX3_write_X3_in rfl rfl rfl (by decide +kernel) ⟨Nat.le_of_ble_eq_true rfl, Nat.le_of_ble_eq_true rfl⟩) Fr.nil hP hD hS hA rfl hl.1 rfl (Nat.le_of_ble_eq_true rfl) dX3_write_12 ⟨Nat.zero_le _, Nat.zero_le _⟩ (fun H locs hP hD hS => ?_)
    refine lv_if_ne (tgt := 21) hx hb dX3_write_15 (by decide) (fun c_2 => ?_) (fun c_2 => ?_)
    · refine lv_aload_n hx hb dX3_write_21 rfl (lv_at hl 0 rfl) ?_
      refine va_get (D := E.1) (ci := 3) (v := .ref (a 1)) (C := RX3) (T := TX3) (N := 3) hx hb hts in3 hown hE.1 hP 0 rfl rfl 0 (by decide) K7 (fun _ h9 => h9) rfl dX3_write_22 ?_
      refine lv_bipush (v := 17) hx hb dX3_write_25 (by decide) ?_
      refine lv_iload_n hx hb dX3_write_27 rfl (lv_at hl 1 rfl) ?_
      refine tpe e_y ?_
      refine lv_iadd hx hb dX3_write_28 ?_
      refine tpe (y := nI (17 + (ix y))) (nI_add 17 (ix y)) ?_
      refine q_iald hx hb hE hP 1 rfl (j := (17 + (ix y))) (v := (g (17 + (ix y)))) rfl (by omega) (by decide) rfl dX3_write_29 ?_
      refine lv_if_lt (tgt := 36) hx hb dX3_write_30 (by decide) (fun c_3 => ?_) (fun c_3 => ?_)
      · obtain ⟨hm1, hm2⟩ := hm c_1 c_3
        refine lv_aload_n hx hb dX3_write_36 rfl (lv_at hl 0 rfl) ?_
        refine va_get (D := E.1) (ci := 3) (v := .ref (a 1)) (C := RX3) (T := TX3) (N := 3) hx hb hts in3 hown hE.1 hP 0 rfl rfl 0 (by decide) K7 (fun _ h9 => h9) rfl dX3_write_37 ?_
        refine lv_sipush (v := 304) hx hb dX3_write_40 (by decide) ?_
        refine lv_dup2_11 hx hb dX3_write_43 rfl rfl ?_
        refine q_iald hx hb hE hP 1 rfl (j := 304) (v := (g 304)) rfl (by omega) (by decide) rfl dX3_write_44 ?_
        refine lv_iconst (v := 1) hx hb dX3_write_45 (by decide) ?_
        refine lv_iadd hx hb dX3_write_46 ?_
        refine q_iast hx hb hE hP hD hS 1 rfl (j := 304) (wd' := (ms E a (upd g 304 ((g 304) + 1)) im kp)) rfl (by omega) (by decide) rfl dX3_write_47 (fun H locs hP hD hS => ?_)
        refine lv_aload_n hx hb dX3_write_48 rfl (lv_at hl 0 rfl) ?_
        refine va_get (D := E.1) (ci := 3) (v := .ref (a 1)) (C := RX3) (T := TX3) (N := 3) hx hb hts in3 hown hE.1 hP 0 rfl rfl 0 (by decide) K7 (fun _ h9 => h9) rfl dX3_write_49 ?_
        refine lv_bipush (v := 17) hx hb dX3_write_52 (by decide) ?_
        refine lv_iload_n hx hb dX3_write_54 rfl (lv_at hl 1 rfl) ?_
        refine tpe e_y ?_
        refine lv_iadd hx hb dX3_write_55 ?_
        refine tpe (y := nI (17 + (ix y))) (nI_add 17 (ix y)) ?_
        refine lv_iload_n hx hb dX3_write_56 rfl (lv_at hl 2 rfl) ?_
        refine q_iast hx hb hE hP hD hS 1 rfl (j := (17 + (ix y))) (wd' := (ms E a (upd (upd g 304 ((g 304) + 1)) (17 + (ix y)) n) im kp)) rfl (by omega) (by decide) rfl dX3_write_57 (fun H locs hP hD hS => ?_)
        refine lv_aload_n hx hb dX3_write_58 rfl (lv_at hl 0 rfl) ?_
        refine lv_iload_n hx hb dX3_write_59 rfl (lv_at hl 1 rfl) ?_
        refine tpe e_y ?_
        refine ci_V F hE (k_X3_isSettled l E a (upd (upd g 304 ((g 304) + 1)) (17 + (ix y)) n) im kp (ix y) (by omega)) (cwV 1 hts gX3_write_X3_isSettled rfl rfl rfl (by decide +kernel) ⟨Nat.le_of_ble_eq_true rfl, Nat.le_of_ble_eq_true rfl⟩) Fr.all 0 3 rfl rfl rfl hP hD hS hA rfl hl.1 rfl (Nat.le_of_ble_eq_true rfl) dX3_write_60 ⟨Nat.zero_le _, Nat.zero_le _⟩ (fun H locs hP hD hS => ?_)
        have hP : va_P E.1 vwCl (ms E a (t1_X3_write g y n) im kp) H := hP
        have hD : va_D A (ms E a (t1_X3_write g y n) im kp) := hD
        refine lv_istore_n (lv' := [(3, .int (f_X3_isSettled (upd (upd g 304 ((g 304) + 1)) (17 + (ix y)) n) (ix y))), (0, .ref (a 0)), (1, .int y), (2, .int n)]) hx hb dX3_write_63 rfl hl (by decide) rfl (fun ls hl => ?_)
        refine lv_aload_n hx hb dX3_write_64 rfl (lv_at hl 1 rfl) ?_
        refine lv_iload_n hx hb dX3_write_65 rfl (lv_at hl 2 rfl) ?_
        refine tpe e_y ?_
        refine cv_V F hE (k_X3_layWaited l E a (t1_X3_write g y n) im kp (ix y) (by omega)) (cwV 1 hts gX3_write_X3_layWaited rfl rfl rfl (by decide +kernel) ⟨Nat.le_of_ble_eq_true rfl, Nat.le_of_ble_eq_true rfl⟩) Fr.all 0 3 rfl rfl rfl hP hD hS hA rfl hl.1 rfl (Nat.le_of_ble_eq_true rfl) dX3_write_66 ⟨Nat.zero_le _, Nat.zero_le _⟩ (fun H locs hP hD hS => ?_)
        have hP : va_P E.1 vwCl (ms E a (t2_X3_write g y n) im kp) H := hP
        have hD : va_D A (ms E a (t2_X3_write g y n) im kp) := hD
        refine lv_iload_n hx hb dX3_write_69 rfl (lv_at hl 0 rfl) ?_
        refine lv_if_eq (tgt := 75) hx hb dX3_write_70 (by decide) (fun c_4 => ?_) (fun c_4 => ?_)
        · refine lv_aload_n hx hb dX3_write_75 rfl (lv_at hl 1 rfl) ?_
          refine va_get (D := E.1) (ci := 3) (v := .ref (a 1)) (C := RX3) (T := TX3) (N := 3) hx hb hts in3 hown hE.1 hP 0 rfl rfl 0 (by decide) K7 (fun _ h9 => h9) rfl dX3_write_76 ?_
          refine lv_bipush (v := 29) hx hb dX3_write_79 (by decide) ?_
          refine lv_aload_n hx hb dX3_write_81 rfl (lv_at hl 1 rfl) ?_
          refine va_get (D := E.1) (ci := 3) (v := .ref (a 1)) (C := RX3) (T := TX3) (N := 3) hx hb hts in3 hown hE.1 hP 0 rfl rfl 0 (by decide) K7 (fun _ h9 => h9) rfl dX3_write_82 ?_
          refine lv_bipush (v := 41) hx hb dX3_write_85 (by decide) ?_
          refine q_iald hx hb hE hP 1 rfl (j := 41) (v := ((t2_X3_write g y n) 41)) rfl (by omega) (by decide) rfl dX3_write_87 ?_
          refine tpe (y := nI (ix (g 41))) ((ks_X3_layWaited _ (by omega)).trans ((ks_X3_isSettled _ (by omega) (by omega) (by omega)).trans ((up_n (by omega)).trans ((up_n (by omega)).trans hm2)))) ?_
          refine lv_iadd hx hb dX3_write_88 ?_
          refine tpe (y := nI (29 + (ix (g 41)))) (nI_add 29 (ix (g 41))) ?_
          refine lv_iload_n hx hb dX3_write_89 rfl (lv_at hl 2 rfl) ?_
          refine tpe e_y ?_
          refine q_iast hx hb hE hP hD hS 1 rfl (j := (29 + (ix (g 41)))) (wd' := (ms E a (upd (t2_X3_write g y n) (29 + (ix (g 41))) (nI (ix y))) im kp)) rfl (by omega) (by decide) rfl dX3_write_90 (fun H locs hP hD hS => ?_)
          refine lv_aload_n hx hb dX3_write_91 rfl (lv_at hl 1 rfl) ?_
          refine va_get (D := E.1) (ci := 3) (v := .ref (a 1)) (C := RX3) (T := TX3) (N := 3) hx hb hts in3 hown hE.1 hP 0 rfl rfl 0 (by decide) K7 (fun _ h9 => h9) rfl dX3_write_92 ?_
          refine lv_bipush (v := 41) hx hb dX3_write_95 (by decide) ?_
          refine lv_dup2_11 hx hb dX3_write_97 rfl rfl ?_
          refine q_iald hx hb hE hP 1 rfl (j := 41) (v := ((t2_X3_write g y n) 41)) rfl (by omega) (by decide) (up_n (by omega)) dX3_write_98 ?_
          refine lv_iconst (v := 1) hx hb dX3_write_99 (by decide) ?_
          refine lv_iadd hx hb dX3_write_100 ?_
          refine q_iast hx hb hE hP hD hS 1 rfl (j := 41) (wd' := (ms E a (upd (upd (t2_X3_write g y n) (29 + (ix (g 41))) (nI (ix y))) 41 (((t2_X3_write g y n) 41) + 1)) im kp)) rfl (by omega) (by decide) rfl dX3_write_101 (fun H locs hP hD hS => ?_)
          refine lv_aload_n hx hb dX3_write_102 rfl (lv_at hl 1 rfl) ?_
          refine lv_iload_n hx hb dX3_write_103 rfl (lv_at hl 2 rfl) ?_
          refine tpe e_y ?_
          refine ci_V F hE (k_X3_dueOf l E a (upd (upd (t2_X3_write g y n) (29 + (ix (g 41))) (nI (ix y))) 41 (((t2_X3_write g y n) 41) + 1)) im kp (ix y) (by omega) (due_hz (pb_upd (pb_upd (pb_lw (pb_st (pb_upd (pb_upd hB (by omega) (by omega)) (by omega) (by omega)) b_y)) (by omega) (by omega)) (by omega) (by omega)) b_y)) (cwV 1 hts gX3_write_X3_dueOf rfl rfl rfl (by decide +kernel) ⟨Nat.le_of_ble_eq_true rfl, Nat.le_of_ble_eq_true rfl⟩) Fr.all 0 3 rfl rfl rfl hP hD hS hA rfl hl.1 rfl (Nat.le_of_ble_eq_true rfl) dX3_write_104 ⟨Nat.zero_le _, Nat.zero_le _⟩ (fun H locs hP hD hS => ?_)
          refine lv_aload_n hx hb dX3_write_107 rfl (lv_at hl 1 rfl) ?_
          refine va_get (D := E.1) (ci := 3) (v := .ref (a 1)) (C := RX3) (T := TX3) (N := 3) hx hb hts in3 hown hE.1 hP 0 rfl rfl 0 (by decide) K7 (fun _ h9 => h9) rfl dX3_write_108 ?_
          refine lv_iconst (v := 0) hx hb dX3_write_111 (by decide) ?_
          refine q_iald hx hb hE hP 1 rfl (j := 0) (v := ((t2_X3_write g y n) 0)) rfl (by omega) (by decide) ((up_n (by omega)).trans (up_n (by omega))) dX3_write_112 ?_
          refine lv_isub hx hb dX3_write_113 ?_
          have eg : (upd (upd (t2_X3_write g y n) (29 + (ix (g 41))) (nI (ix y))) 41 (((t2_X3_write g y n) 41) + 1)) = (s_X3_write g y n) := (by unfold s_X3_write; exact ((if_neg c_1).trans ((if_neg c_2).trans ((if_pos c_3).trans (if_pos c_4)))).symm)
          exact hret _ _ _ _ _ (by rw [← eg]; exact hP) (by rw [← eg]; exact hD) hS (by unfold f_X3_write; exact ((if_neg c_1).trans ((if_neg c_2).trans ((if_pos c_3).trans (if_pos c_4)))).symm) dX3_write_114
        · refine lv_iconst (v := 0) hx hb dX3_write_73 (by decide) ?_
          have eg : (t2_X3_write g y n) = (s_X3_write g y n) := (by unfold s_X3_write; exact ((if_neg c_1).trans ((if_neg c_2).trans ((if_pos c_3).trans (if_neg c_4)))).symm)
          exact hret _ _ _ _ _ (by rw [← eg]; exact hP) (by rw [← eg]; exact hD) hS (by unfold f_X3_write; exact ((if_neg c_1).trans ((if_neg c_2).trans ((if_pos c_3).trans (if_neg c_4)))).symm) dX3_write_74
      · refine lv_bipush (v := -5) hx hb dX3_write_33 (by decide) ?_
        have eg : g = (s_X3_write g y n) := (by unfold s_X3_write; exact ((if_neg c_1).trans ((if_neg c_2).trans (if_neg c_3))).symm)
        exact hret _ _ _ _ _ (by rw [← eg]; exact hP) (by rw [← eg]; exact hD) hS (by unfold f_X3_write; exact ((if_neg c_1).trans ((if_neg c_2).trans (if_neg c_3))).symm) dX3_write_35
    · refine lv_bipush (v := -2) hx hb dX3_write_18 (by decide) ?_
      have eg : g = (s_X3_write g y n) := (by unfold s_X3_write; exact ((if_neg c_1).trans (if_pos c_2)).symm)
      exact hret _ _ _ _ _ (by rw [← eg]; exact hP) (by rw [← eg]; exact hD) hS (by unfold f_X3_write; exact ((if_neg c_1).trans (if_pos c_2)).symm) dX3_write_20
  · refine lv_iconst (v := -1) hx hb dX3_write_7 (by decide) ?_
    have eg : g = (s_X3_write g y n) := (by unfold s_X3_write; exact (if_pos c_1).symm)
    exact hret _ _ _ _ _ (by rw [← eg]; exact hP) (by rw [← eg]; exact hD) hS (by unfold f_X3_write; exact (if_pos c_1).symm) dX3_write_8
