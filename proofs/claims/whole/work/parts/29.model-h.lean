def p_X3_image_14 (g : Nat → Int32) (x : Int32) (im : Nat → Int32) (kp : Nat → Int32) (S14 : (Nat → Int32)) (i : Nat) : (Nat → Int32) := (upd S14 (309 * (ix x) + i) (g i))
def q_X3_image_14 (g : Nat → Int32) (x : Int32) (im : Nat → Int32) (kp : Nat → Int32) (S0 : (Nat → Int32)) : Nat → (Nat → Int32)
  | 0 => S0
  | i + 1 => p_X3_image_14 g x im kp (q_X3_image_14 g x im kp S0 i) i
def f_X3_image (g : Nat → Int32) (x : Int32) (im : Nat → Int32) (kp : Nat → Int32) : Int32 := (if (f_X3_in x 0 1) = 0 then (-2) else 1)
def i_X3_image (g : Nat → Int32) (x : Int32) (im : Nat → Int32) (kp : Nat → Int32) : Nat → Int32 := (if (f_X3_in x 0 1) = 0 then im else (q_X3_image_14 g x im kp im 309))
def j_X3_image (g : Nat → Int32) (x : Int32) (im : Nat → Int32) (kp : Nat → Int32) : Nat → Int32 := (if (f_X3_in x 0 1) = 0 then kp else (upd kp (ix x) 1))
set_option maxHeartbeats 4000000 in
set_option maxRecDepth 100000 in
theorem k_X3_image (l : Launch) (E : EE) (a : Nat → Nat) (g im kp : Nat → Int32) (x : Int32)  : Ci l E yX3_image wsX3_image { frames := 1, cells := 0, slots := 0, locals := 22 } [.ref (a 0), .int x] (ms E a g im kp) (f_X3_image g x im kp) (ms E a g (i_X3_image g x im kp) (j_X3_image g x im kp)) := by
  refine Ci.of (cc := cX3_image) (maxL := 3) (rt := .int) (by decide) rfl rfl (Nat.le_of_ble_eq_true rfl) ?_
  intro p e s m args below meth c A Q F hE hA hret hP hD ls hl
  obtain ⟨hx, hb, hml, hown, hts⟩ := id F
  have hS : va_S A s.heap s.heap [] := va_S.rf
  have hl : lv_has ls 3 [(0, .ref (a 0)), (1, .int x)] := hl
  have in3 : ∀ w ∈ wsX30, w ∈ wsX3_image := fun w h => List.mem_cons_of_mem _ (List.mem_append_right _ h)
  have K13 := hts (.fieldLink RX3 13 "PromiseHoursModel" "images" "[I") (by decide +kernel)
  have K16 := hts (.fieldLink RX3 16 "PromiseHoursModel" "isKept" "[Z") (by decide +kernel)
  have K7 := hts (.fieldLink RX3 7 "PromiseHoursModel" "state" "[I") (by decide +kernel)
  refine lv_iload_n hx hb dX3_image_0 rfl (lv_at hl 1 rfl) ?_
  refine lv_iconst (v := 0) hx hb dX3_image_1 (by decide) ?_
  refine lv_iconst (v := 1) hx hb dX3_image_2 (by decide) ?_
  refine ci_S F hE (k_X3_in l E x 0 1) (va_cwS 3 hts gX3_image_X3_in rfl rfl rfl (by decide +kernel) ⟨Nat.le_of_ble_eq_true rfl, Nat.le_of_ble_eq_true rfl⟩) Fr.nil hP hD hS hA rfl hl.1 rfl (Nat.le_of_ble_eq_true rfl) dX3_image_3 ⟨Nat.zero_le _, Nat.zero_le _⟩ (fun H locs hP hD hS => ?_)
  refine lv_if_ne (tgt := 12) hx hb dX3_image_6 (by decide) (fun c_1 => ?_) (fun c_1 => ?_)
  · obtain ⟨b_x, e_x⟩ := in_ix (n := 1) c_1 (by decide) (by decide)
    refine lv_iconst (v := 0) hx hb dX3_image_12 (by decide) ?_
    refine lv_istore_n (lv' := [(2, .int 0), (0, .ref (a 0)), (1, .int x)]) hx hb dX3_image_13 rfl hl (by decide) rfl (fun ls hl => ?_)
    have lp14 : ∀ (fu i : Nat), i ≤ 309 → 309 + 1 ≤ i + fu → ∀ (S14 : (Nat → Int32)), S14 = (q_X3_image_14 g x im kp im i) → ∀ (H : Heap) (locs : List Loc), va_P E.1 vwCl (ms E a g S14 kp) H → va_D A (ms E a g S14 kp) → va_S A s.heap H locs → ∀ ls : Array Slot, lv_has ls 3 [(0, .ref (a 0)), (1, .int x), (2, .int (nI i))] → W p l e { frames := 1, cells := 0, slots := 0, locals := 22 } s m args below meth c H locs 0 0 Q (F0 m 14 ls []) := by
      intro fu
      induction fu with
      | zero => intro i h1 h2; exact absurd h2 (by omega)
      | succ fu ih =>
        intro i hi hin S14 eS14 H locs hP hD hS ls hl
        refine lv_iload_n hx hb dX3_image_14 rfl (lv_at hl 2 rfl) ?_
        refine lv_sipush (v := 309) hx hb dX3_image_15 (by decide) ?_
        refine lv_icmp_ge (tgt := 45) hx hb dX3_image_18 (by decide) (fun c_2 => ?_) (fun c_2 => ?_)
        · have hiN : i = 309 := by have := (nI_leI (a := 309) (b := i) (by omega) (by omega)).mp c_2; omega
          rw [hiN] at eS14 hl
          refine lv_aload_n hx hb dX3_image_45 rfl (lv_at hl 0 rfl) ?_
          refine va_get (D := E.1) (ci := 3) (v := .ref (a 3)) (C := RX3) (T := TX3) (N := 3) hx hb hts in3 hown hE.1 hP 0 rfl rfl 2 (by decide) K16 (fun _ h9 => h9) rfl dX3_image_46 ?_
          refine lv_iload_n hx hb dX3_image_49 rfl (lv_at hl 1 rfl) ?_
          refine tpe e_x ?_
          refine lv_iconst (v := 1) hx hb dX3_image_50 (by decide) ?_
          refine q_zast hx hb hE hP hD hS 3 rfl (j := (ix x)) (wd' := (ms E a g S14 (upd kp (ix x) 1))) rfl (by omega) (by decide) (by decide) rfl dX3_image_51 (fun H locs hP hD hS => ?_)
          refine lv_iconst (v := 1) hx hb dX3_image_52 (by decide) ?_
          have ei : S14 = (i_X3_image g x im kp) := (by unfold i_X3_image; (try rw [← eS14]); exact (if_neg c_1).symm)
          have ej : (upd kp (ix x) 1) = (j_X3_image g x im kp) := (by unfold j_X3_image; (try rw [← eS14]); exact (if_neg c_1).symm)
          exact hret _ _ _ _ _ (by rw [← ei, ← ej]; exact hP) (by rw [← ei, ← ej]; exact hD) hS (by unfold f_X3_image; (try rw [← eS14]); exact (if_neg c_1).symm) dX3_image_53
        · have hlt : i < 309 := Nat.lt_of_not_le (fun h => c_2 (nI_le (a := 309) (b := i) (by omega) (by omega)))
          refine lv_aload_n hx hb dX3_image_21 rfl (lv_at hl 0 rfl) ?_
          refine va_get (D := E.1) (ci := 3) (v := .ref (a 2)) (C := RX3) (T := TX3) (N := 3) hx hb hts in3 hown hE.1 hP 0 rfl rfl 1 (by decide) K13 (fun _ h9 => h9) rfl dX3_image_22 ?_
          refine lv_sipush (v := 309) hx hb dX3_image_25 (by decide) ?_
          refine lv_iload_n hx hb dX3_image_28 rfl (lv_at hl 1 rfl) ?_
          refine tpe e_x ?_
          refine lv_imul hx hb dX3_image_29 ?_
          refine tpe (y := nI (309 * (ix x))) (pk_mul 309 (ix x)) ?_
          refine lv_iload_n hx hb dX3_image_30 rfl (lv_at hl 2 rfl) ?_
          refine lv_iadd hx hb dX3_image_31 ?_
          refine tpe (y := nI (309 * (ix x) + i)) (nI_add (309 * (ix x)) i) ?_
          refine lv_aload_n hx hb dX3_image_32 rfl (lv_at hl 0 rfl) ?_
          refine va_get (D := E.1) (ci := 3) (v := .ref (a 1)) (C := RX3) (T := TX3) (N := 3) hx hb hts in3 hown hE.1 hP 0 rfl rfl 0 (by decide) K7 (fun _ h9 => h9) rfl dX3_image_33 ?_
          refine lv_iload_n hx hb dX3_image_36 rfl (lv_at hl 2 rfl) ?_
          refine q_iald hx hb hE hP 1 rfl (j := i) (v := (g i)) rfl (by omega) (by decide) rfl dX3_image_37 ?_
          refine q_iast hx hb hE hP hD hS 2 rfl (j := (309 * (ix x) + i)) (wd' := (ms E a g (upd S14 (309 * (ix x) + i) (g i)) kp)) rfl (by omega) (by decide) rfl dX3_image_38 (fun H locs hP hD hS => ?_)
          refine lv_iinc (v := (nI (i + 1))) (lv' := [(2, .int (nI (i + 1))), (0, .ref (a 0)), (1, .int x)]) hx hb dX3_image_39 hl (k := 2) rfl (nI_1 i) (by decide) rfl (fun ls hl => ?_)
          refine lv_goto (tgt := 14) hx hb dX3_image_42 (by decide) ?_
          have eS1 : ((upd S14 (309 * (ix x) + i) (g i)) : (Nat → Int32)) = (q_X3_image_14 g x im kp im (i + 1)) := by
            show _ = p_X3_image_14 g x im kp (q_X3_image_14 g x im kp im i) i
            rw [← eS14]
            rfl
          exact ih (i + 1) (by omega) (by omega) (upd S14 (309 * (ix x) + i) (g i)) eS1 _ _ hP hD hS ls (lv_sub hl [1, 2, 0] rfl)
    exact lp14 (309 + 1) 0 (Nat.zero_le _) (by omega) im rfl _ _ hP hD hS ls (lv_sub hl [1, 2, 0] rfl)
  · refine lv_bipush (v := -2) hx hb dX3_image_9 (by decide) ?_
    have ei : im = (i_X3_image g x im kp) := (by unfold i_X3_image; exact (if_pos c_1).symm)
    have ej : kp = (j_X3_image g x im kp) := (by unfold j_X3_image; exact (if_pos c_1).symm)
    exact hret _ _ _ _ _ (by rw [← ei, ← ej]; exact hP) (by rw [← ei, ← ej]; exact hD) hS (by unfold f_X3_image; exact (if_pos c_1).symm) dX3_image_11
def p_X3_restore_26 (g : Nat → Int32) (x : Int32) (im : Nat → Int32) (kp : Nat → Int32) (S26 : (Nat → Int32)) (i : Nat) : (Nat → Int32) := (upd S26 i (im (309 * (ix x) + i)))
def q_X3_restore_26 (g : Nat → Int32) (x : Int32) (im : Nat → Int32) (kp : Nat → Int32) (S0 : (Nat → Int32)) : Nat → (Nat → Int32)
  | 0 => S0
  | i + 1 => p_X3_restore_26 g x im kp (q_X3_restore_26 g x im kp S0 i) i
def s_X3_restore (g : Nat → Int32) (x : Int32) (im : Nat → Int32) (kp : Nat → Int32) : Nat → Int32 := (if (f_X3_in x 0 1) = 0 then g else (if (kp (ix x)) = 0 then g else (q_X3_restore_26 g x im kp g 309)))
def f_X3_restore (g : Nat → Int32) (x : Int32) (im : Nat → Int32) (kp : Nat → Int32) : Int32 := (if (f_X3_in x 0 1) = 0 then (-2) else (if (kp (ix x)) = 0 then (-3) else 1))
set_option maxHeartbeats 4000000 in
set_option maxRecDepth 100000 in
theorem k_X3_restore (l : Launch) (E : EE) (a : Nat → Nat) (g im kp : Nat → Int32) (x : Int32)  : Ci l E yX3_restore wsX3_restore { frames := 1, cells := 0, slots := 0, locals := 22 } [.ref (a 0), .int x] (ms E a g im kp) (f_X3_restore g x im kp) (ms E a (s_X3_restore g x im kp) im kp) := by
  refine Ci.of (cc := cX3_restore) (maxL := 3) (rt := .int) (by decide) rfl rfl (Nat.le_of_ble_eq_true rfl) ?_
  intro p e s m args below meth c A Q F hE hA hret hP hD ls hl
  obtain ⟨hx, hb, hml, hown, hts⟩ := id F
  have hS : va_S A s.heap s.heap [] := va_S.rf
  have hl : lv_has ls 3 [(0, .ref (a 0)), (1, .int x)] := hl
  have in3 : ∀ w ∈ wsX30, w ∈ wsX3_restore := fun w h => List.mem_cons_of_mem _ (List.mem_append_right _ h)
  have K13 := hts (.fieldLink RX3 13 "PromiseHoursModel" "images" "[I") (by decide +kernel)
  have K16 := hts (.fieldLink RX3 16 "PromiseHoursModel" "isKept" "[Z") (by decide +kernel)
  have K7 := hts (.fieldLink RX3 7 "PromiseHoursModel" "state" "[I") (by decide +kernel)
  refine lv_iload_n hx hb dX3_restore_0 rfl (lv_at hl 1 rfl) ?_
  refine lv_iconst (v := 0) hx hb dX3_restore_1 (by decide) ?_
  refine lv_iconst (v := 1) hx hb dX3_restore_2 (by decide) ?_
  refine ci_S F hE (k_X3_in l E x 0 1) (va_cwS 3 hts gX3_restore_X3_in rfl rfl rfl (by decide +kernel) ⟨Nat.le_of_ble_eq_true rfl, Nat.le_of_ble_eq_true rfl⟩) Fr.nil hP hD hS hA rfl hl.1 rfl (Nat.le_of_ble_eq_true rfl) dX3_restore_3 ⟨Nat.zero_le _, Nat.zero_le _⟩ (fun H locs hP hD hS => ?_)
  refine lv_if_ne (tgt := 12) hx hb dX3_restore_6 (by decide) (fun c_1 => ?_) (fun c_1 => ?_)
  · obtain ⟨b_x, e_x⟩ := in_ix (n := 1) c_1 (by decide) (by decide)
    refine lv_aload_n hx hb dX3_restore_12 rfl (lv_at hl 0 rfl) ?_
    refine va_get (D := E.1) (ci := 3) (v := .ref (a 3)) (C := RX3) (T := TX3) (N := 3) hx hb hts in3 hown hE.1 hP 0 rfl rfl 2 (by decide) K16 (fun _ h9 => h9) rfl dX3_restore_13 ?_
    refine lv_iload_n hx hb dX3_restore_16 rfl (lv_at hl 1 rfl) ?_
    refine tpe e_x ?_
    refine q_zald hx hb hE hP 3 rfl (j := (ix x)) (v := (kp (ix x))) rfl (by omega) (by decide) rfl dX3_restore_17 ?_
    refine lv_if_ne (tgt := 24) hx hb dX3_restore_18 (by decide) (fun c_2 => ?_) (fun c_2 => ?_)
    · refine lv_iconst (v := 0) hx hb dX3_restore_24 (by decide) ?_
      refine lv_istore_n (lv' := [(2, .int 0), (0, .ref (a 0)), (1, .int x)]) hx hb dX3_restore_25 rfl hl (by decide) rfl (fun ls hl => ?_)
      have lp26 : ∀ (fu i : Nat), i ≤ 309 → 309 + 1 ≤ i + fu → ∀ (S26 : (Nat → Int32)), S26 = (q_X3_restore_26 g x im kp g i) → ∀ (H : Heap) (locs : List Loc), va_P E.1 vwCl (ms E a S26 im kp) H → va_D A (ms E a S26 im kp) → va_S A s.heap H locs → ∀ ls : Array Slot, lv_has ls 3 [(0, .ref (a 0)), (1, .int x), (2, .int (nI i))] → W p l e { frames := 1, cells := 0, slots := 0, locals := 22 } s m args below meth c H locs 0 0 Q (F0 m 26 ls []) := by
        intro fu
        induction fu with
        | zero => intro i h1 h2; exact absurd h2 (by omega)
        | succ fu ih =>
          intro i hi hin S26 eS26 H locs hP hD hS ls hl
          refine lv_iload_n hx hb dX3_restore_26 rfl (lv_at hl 2 rfl) ?_
          refine lv_sipush (v := 309) hx hb dX3_restore_27 (by decide) ?_
          refine lv_icmp_ge (tgt := 57) hx hb dX3_restore_30 (by decide) (fun c_3 => ?_) (fun c_3 => ?_)
          · have hiN : i = 309 := by have := (nI_leI (a := 309) (b := i) (by omega) (by omega)).mp c_3; omega
            rw [hiN] at eS26 hl
            refine lv_iconst (v := 1) hx hb dX3_restore_57 (by decide) ?_
            have eg : S26 = (s_X3_restore g x im kp) := (by unfold s_X3_restore; (try rw [← eS26]); exact ((if_neg c_1).trans (if_neg c_2)).symm)
            exact hret _ _ _ _ _ (by rw [← eg]; exact hP) (by rw [← eg]; exact hD) hS (by unfold f_X3_restore; (try rw [← eS26]); exact ((if_neg c_1).trans (if_neg c_2)).symm) dX3_restore_58
          · have hlt : i < 309 := Nat.lt_of_not_le (fun h => c_3 (nI_le (a := 309) (b := i) (by omega) (by omega)))
            refine lv_aload_n hx hb dX3_restore_33 rfl (lv_at hl 0 rfl) ?_
            refine va_get (D := E.1) (ci := 3) (v := .ref (a 1)) (C := RX3) (T := TX3) (N := 3) hx hb hts in3 hown hE.1 hP 0 rfl rfl 0 (by decide) K7 (fun _ h9 => h9) rfl dX3_restore_34 ?_
            refine lv_iload_n hx hb dX3_restore_37 rfl (lv_at hl 2 rfl) ?_
            refine lv_aload_n hx hb dX3_restore_38 rfl (lv_at hl 0 rfl) ?_
            refine va_get (D := E.1) (ci := 3) (v := .ref (a 2)) (C := RX3) (T := TX3) (N := 3) hx hb hts in3 hown hE.1 hP 0 rfl rfl 1 (by decide) K13 (fun _ h9 => h9) rfl dX3_restore_39 ?_
            refine lv_sipush (v := 309) hx hb dX3_restore_42 (by decide) ?_
            refine lv_iload_n hx hb dX3_restore_45 rfl (lv_at hl 1 rfl) ?_
            refine tpe e_x ?_
            refine lv_imul hx hb dX3_restore_46 ?_
            refine tpe (y := nI (309 * (ix x))) (pk_mul 309 (ix x)) ?_
            refine lv_iload_n hx hb dX3_restore_47 rfl (lv_at hl 2 rfl) ?_
            refine lv_iadd hx hb dX3_restore_48 ?_
            refine tpe (y := nI (309 * (ix x) + i)) (nI_add (309 * (ix x)) i) ?_
            refine q_iald hx hb hE hP 2 rfl (j := (309 * (ix x) + i)) (v := (im (309 * (ix x) + i))) rfl (by omega) (by decide) rfl dX3_restore_49 ?_
            refine q_iast hx hb hE hP hD hS 1 rfl (j := i) (wd' := (ms E a (upd S26 i (im (309 * (ix x) + i))) im kp)) rfl (by omega) (by decide) rfl dX3_restore_50 (fun H locs hP hD hS => ?_)
            refine lv_iinc (v := (nI (i + 1))) (lv' := [(2, .int (nI (i + 1))), (0, .ref (a 0)), (1, .int x)]) hx hb dX3_restore_51 hl (k := 2) rfl (nI_1 i) (by decide) rfl (fun ls hl => ?_)
            refine lv_goto (tgt := 26) hx hb dX3_restore_54 (by decide) ?_
            have eS1 : ((upd S26 i (im (309 * (ix x) + i))) : (Nat → Int32)) = (q_X3_restore_26 g x im kp g (i + 1)) := by
              show _ = p_X3_restore_26 g x im kp (q_X3_restore_26 g x im kp g i) i
              rw [← eS26]
              rfl
            exact ih (i + 1) (by omega) (by omega) (upd S26 i (im (309 * (ix x) + i))) eS1 _ _ hP hD hS ls (lv_sub hl [1, 2, 0] rfl)
      exact lp26 (309 + 1) 0 (Nat.zero_le _) (by omega) g rfl _ _ hP hD hS ls (lv_sub hl [1, 2, 0] rfl)
    · refine lv_bipush (v := -3) hx hb dX3_restore_21 (by decide) ?_
      have eg : g = (s_X3_restore g x im kp) := (by unfold s_X3_restore; exact ((if_neg c_1).trans (if_pos c_2)).symm)
      exact hret _ _ _ _ _ (by rw [← eg]; exact hP) (by rw [← eg]; exact hD) hS (by unfold f_X3_restore; exact ((if_neg c_1).trans (if_pos c_2)).symm) dX3_restore_23
  · refine lv_bipush (v := -2) hx hb dX3_restore_9 (by decide) ?_
    have eg : g = (s_X3_restore g x im kp) := (by unfold s_X3_restore; exact (if_pos c_1).symm)
    exact hret _ _ _ _ _ (by rw [← eg]; exact hP) (by rw [← eg]; exact hD) hS (by unfold f_X3_restore; exact (if_pos c_1).symm) dX3_restore_11
