def phc (E : EE) (a x : Nat → Nat) (b c : Nat) (kp : Int32) : va_W := [(x 0, .inr (2, [.ref (a 0), .ref (x 1), .int kp])), (x 1, .inl (E.2 2, 2, .inr (.inr (.inr (.inr (fun j => some (if j = 0 then b else c)))))))]
theorem ap_h {E : EE} {a : Nat → Nat} {g : Nat → Int32} {z : va_W} {k : Nat} {q : Nat × va_E} (h : z[k]? = some q) : (hs E a g ++ z)[38 + k]? = some q := by
  have := ap_r (x := hs E a g) h
  rw [hs_len] at this
  exact this
theorem rg_ix {x m : Int32} {n : Nat} (h0 : ¬ x < 0) (h : ¬ m ≤ x) (hm : m = nI n) (hn : n < 2 ^ 31) : ix x < n ∧ x = nI (ix x) := by
  obtain ⟨j, hj, e⟩ := nI_of h0
  subst e
  subst hm
  have e2 : ix (nI j) = j := nI_clamp hj
  rw [e2]
  refine ⟨?_, rfl⟩
  rcases Nat.lt_or_ge j n with q | q
  · exact q
  · exact absurd (nI_le q hj) h
theorem rd_ix {x : Int32} (h : ¬ f_X2_isReader x = 0) : ix x < 5 ∧ x = nI (ix x) := by
  unfold f_X2_isReader at h
  by_cases h1 : x < 0
  · rw [if_pos h1] at h; exact absurd rfl h
  · rw [if_neg h1] at h
    by_cases h2 : 5 ≤ x
    · rw [if_pos h2] at h; exact absurd rfl h
    · exact rg_ix (n := 5) h1 h2 rfl (by decide)
theorem th_ix {x : Int32} (h : ¬ f_X2_isThing x = 0) : ix x < 12 ∧ x = nI (ix x) := by
  unfold f_X2_isThing at h
  by_cases h1 : x < 0
  · rw [if_pos h1] at h; exact absurd rfl h
  · rw [if_neg h1] at h
    by_cases h2 : 12 ≤ x
    · rw [if_pos h2] at h; exact absurd rfl h
    · exact rg_ix (n := 12) h1 h2 rfl (by decide)
theorem p1_ix {x : Int32} (h1 : ¬ x < 1) (h2 : x ≤ 100) : ix x ≤ 100 ∧ x = nI (ix x) := by
  have h0 : ¬ x < 0 := fun q => h1 (Int32.lt_of_lt_of_le q (by decide))
  obtain ⟨j, hj, e⟩ := nI_of h0
  subst e
  have e2 : ix (nI j) = j := nI_clamp hj
  rw [e2]
  exact ⟨(nI_leI (a := j) (b := 100) hj (by decide)).mp h2, rfl⟩
theorem v3_ix {x : Int32} (h0 : ¬ x < 0) (h : x < 3) : ix x < 3 ∧ x = nI (ix x) := rg_ix (n := 3) h0 (fun q => Int32.lt_irrefl (Int32.lt_of_lt_of_le h q)) rfl (by decide)
def s_X2_skew (g : Nat → Int32) (x : Int32) (n : Int32) : Nat → Int32 := (if (f_X2_isReader x) = 0 then g else (if n < (-20) then g else (if n ≤ 20 then (upd g (47 + (ix x)) n) else g)))
def f_X2_skew (g : Nat → Int32) (x : Int32) (n : Int32) : Int32 := (if (f_X2_isReader x) = 0 then (-1) else (if n < (-20) then (-2) else (if n ≤ 20 then (q_X0_countSkewedBeyondDoubt_4 (upd g (47 + (ix x)) n) 0 5) else (-2))))
set_option maxHeartbeats 4000000 in
set_option maxRecDepth 100000 in
theorem k_X2_skew (l : Launch) (E : EE) (a o : Nat → Nat) (bA cA : Nat) (g : Nat → Int32) (kp : Int32) (rs : va_W) (x : Int32) (n : Int32)  : Ci l E yX2_skew wsX2_skew { frames := 2, cells := 0, slots := 0, locals := 43 } [.ref (o 0), .int x, .int n] (hs E a g ++ (phc E a o bA cA kp ++ rs)) (f_X2_skew g x n) (hs E a (s_X2_skew g x n) ++ (phc E a o bA cA kp ++ rs)) := by
  refine Ci.of (cc := cX2_skew) (maxL := 3) (rt := .int) (by decide) rfl rfl (Nat.le_of_ble_eq_true rfl) ?_
  intro p e s m args below meth c A Q F hE hA hret hP hD ls hl
  obtain ⟨hx, hb, hml, hown, hts⟩ := id F
  have hS : va_S A s.heap s.heap [] := va_S.rf
  have hl : lv_has ls 3 [(0, .ref (o 0)), (1, .int x), (2, .int n)] := hl
  have in0 : ∀ w ∈ wsX00, w ∈ wsX2_skew := fun w h => List.mem_cons_of_mem _ (List.mem_append_left _ (List.mem_append_right _ h))
  have in1 : ∀ w ∈ wsX10, w ∈ wsX2_skew := fun w h => List.mem_cons_of_mem _ (List.mem_append_right _ h)
  have in2 : ∀ w ∈ wsX20, w ∈ wsX2_skew := fun w h => List.mem_cons_of_mem _ (List.mem_append_left _ (List.mem_append_left _ (List.mem_append_right _ h)))
  have K10 := hts (.fieldLink RX2 10 "PromiseHours" "house" "LPromiseHours$House;") (by decide +kernel)
  refine lv_iload_n hx hb dX2_skew_0 rfl (lv_at hl 1 rfl) ?_
  refine ci_S F hE (k_X2_isReader l E x) (va_cwS 1 hts gX2_skew_X2_isReader rfl rfl rfl (by decide +kernel) ⟨Nat.le_of_ble_eq_true rfl, Nat.le_of_ble_eq_true rfl⟩) Fr.nil hP hD hS hA rfl hl.1 rfl (Nat.le_of_ble_eq_true rfl) dX2_skew_1 ⟨Nat.zero_le _, Nat.zero_le _⟩ (fun H locs hP hD hS => ?_)
  refine lv_if_ne (tgt := 9) hx hb dX2_skew_4 (by decide) (fun c_1 => ?_) (fun c_1 => ?_)
  · obtain ⟨b_x, e_x⟩ := rd_ix c_1
    refine lv_iload_n hx hb dX2_skew_9 rfl (lv_at hl 2 rfl) ?_
    refine lv_bipush (v := -20) hx hb dX2_skew_10 (by decide) ?_
    refine lv_icmp_lt (tgt := 21) hx hb dX2_skew_12 (by decide) (fun c_2 => ?_) (fun c_2 => ?_)
    · refine lv_bipush (v := -2) hx hb dX2_skew_21 (by decide) ?_
      have eg : g = (s_X2_skew g x n) := (by unfold s_X2_skew; exact ((if_neg c_1).trans (if_pos c_2)).symm)
      exact hret _ _ _ _ _ (by rw [← eg]; exact hP) (by rw [← eg]; exact hD) hS (by unfold f_X2_skew; exact ((if_neg c_1).trans (if_pos c_2)).symm) dX2_skew_23
    · refine lv_iload_n hx hb dX2_skew_15 rfl (lv_at hl 2 rfl) ?_
      refine lv_bipush (v := 20) hx hb dX2_skew_16 (by decide) ?_
      refine lv_icmp_le (tgt := 24) hx hb dX2_skew_18 (by decide) (fun c_3 => ?_) (fun c_3 => ?_)
      · refine lv_aload_n hx hb dX2_skew_24 rfl (lv_at hl 0 rfl) ?_
        refine va_get (D := E.1) (ci := 2) (v := .ref (a 0)) (C := RX2) (T := TX2) (N := 3) hx hb hts in2 hown hE.1 hP (38 + 0) (ap_h rfl) rfl 0 (by decide) K10 (fun _ h9 => h9) rfl dX2_skew_25 ?_
        refine va_getN (D := E.1) (ci := 0) (v := .ref (a 2)) (C := RX0) (T := TX0) (N := 17) hx hb hts in0 hown hE.1 hP 0 (ap_l (hs_lo 0 (by decide) rfl)) rfl 2 (by decide) (ev_use hE nk_X2_38 rfl) (fun _ h9 => h9) rfl dX2_skew_28 ?_
        refine lv_iload_n hx hb dX2_skew_31 rfl (lv_at hl 1 rfl) ?_
        refine tpe e_x ?_
        refine q_aald hx hb hE hP 2 1 (ap_l (hs_lo 2 (by decide) rfl)) rfl (j := (ix x)) rfl (by omega) (by decide) rfl dX2_skew_32 ?_
        refine lv_iload_n hx hb dX2_skew_33 rfl (lv_at hl 2 rfl) ?_
        refine va_putN (D := E.1) (ci := 1) (v := .int n) (ty := .int) (C := RX1) (T := TX1) (N := 13) hx hb hts in1 tyX1 tyX1_ok nmX1 hown hE.1 hP hD hS (8 + 6 * (ix x)) (ap_l (hs_hi0 (by omega))) rfl 1 (by decide) (ev_use hE nk_X2_42 rfl) (fun _ h9 => h9) rfl (by decide +kernel) rfl rfl (Nat.le_of_ble_eq_true rfl) dX2_skew_34 (fun H locs hP hD hS => ?_)
        rw [(set_h (by omega) (hs_r1 (r := (ix x)) (by omega)))] at hP hD
        have hP : va_P E.1 vwCl (hs E a (upd g (47 + (ix x)) n) ++ (phc E a o bA cA kp ++ rs)) H := hP
        have hD : va_D A (hs E a (upd g (47 + (ix x)) n) ++ (phc E a o bA cA kp ++ rs)) := hD
        refine lv_aload_n hx hb dX2_skew_37 rfl (lv_at hl 0 rfl) ?_
        refine va_get (D := E.1) (ci := 2) (v := .ref (a 0)) (C := RX2) (T := TX2) (N := 3) hx hb hts in2 hown hE.1 hP (38 + 0) (ap_h rfl) rfl 0 (by decide) K10 (fun _ h9 => h9) rfl dX2_skew_38 ?_
        refine ci_VN F hE (k_X0_countSkewedBeyondDoubt l E a (upd g (47 + (ix x)) n)) ⟨va_cnB 0 hts gX2_skew_X0_countSkewedBeyondDoubt_n47 rfl rfl rfl (ev_link hE nk_X2_47 rfl) (hts (.initialized RX0) (by decide +kernel)) (by decide +kernel) ⟨Nat.le_of_ble_eq_true rfl, Nat.le_of_ble_eq_true rfl⟩, hts (.instanceMethod yX0_countSkewedBeyondDoubt) (by decide +kernel), hts (.selects RX0 yX0_countSkewedBeyondDoubt yX0_countSkewedBeyondDoubt) (by decide +kernel)⟩ Fr.pre 0 0 (hs_lo 0 (by decide) rfl) rfl rfl hP hD hS hA rfl hl.1 rfl (Nat.le_of_ble_eq_true rfl) dX2_skew_41 ⟨Nat.zero_le _, Nat.zero_le _⟩ (fun H locs hP hD hS => ?_)
        have eg : (upd g (47 + (ix x)) n) = (s_X2_skew g x n) := (by unfold s_X2_skew; exact ((if_neg c_1).trans ((if_neg c_2).trans (if_pos c_3))).symm)
        exact hret _ _ _ _ _ (by rw [← eg]; exact hP) (by rw [← eg]; exact hD) hS (by unfold f_X2_skew; exact ((if_neg c_1).trans ((if_neg c_2).trans (if_pos c_3))).symm) dX2_skew_44
      · refine lv_bipush (v := -2) hx hb dX2_skew_21 (by decide) ?_
        have eg : g = (s_X2_skew g x n) := (by unfold s_X2_skew; exact ((if_neg c_1).trans ((if_neg c_2).trans (if_neg c_3))).symm)
        exact hret _ _ _ _ _ (by rw [← eg]; exact hP) (by rw [← eg]; exact hD) hS (by unfold f_X2_skew; exact ((if_neg c_1).trans ((if_neg c_2).trans (if_neg c_3))).symm) dX2_skew_23
  · refine lv_iconst (v := -1) hx hb dX2_skew_7 (by decide) ?_
    have eg : g = (s_X2_skew g x n) := (by unfold s_X2_skew; exact (if_pos c_1).symm)
    exact hret _ _ _ _ _ (by rw [← eg]; exact hP) (by rw [← eg]; exact hD) hS (by unfold f_X2_skew; exact (if_pos c_1).symm) dX2_skew_8
def t1_X2_there (g : Nat → Int32) (x : Int32) (n : Int32) : Nat → Int32 := (s_X0_settleAll (upd g (42 + (ix x)) (if n = 1 then 1 else 0 : Int32)))
def t2_X2_there (g : Nat → Int32) (x : Int32) (n : Int32) : Nat → Int32 := (s_X0_settleAll (upd g (42 + (ix x)) (if n = 1 then 1 else 0 : Int32)))
def s_X2_there (g : Nat → Int32) (x : Int32) (n : Int32) : Nat → Int32 := (if (f_X2_isReader x) = 0 then g else (if n = 0 then (if (if n = 1 then (if (g (42 + (ix x))) = 0 then 1 else 0) else 0 : Int32) = 0 then (upd g (42 + (ix x)) (if n = 1 then 1 else 0 : Int32)) else (t1_X2_there g x n)) else (if n = 1 then (if (if n = 1 then (if (g (42 + (ix x))) = 0 then 1 else 0) else 0 : Int32) = 0 then (upd g (42 + (ix x)) (if n = 1 then 1 else 0 : Int32)) else (t2_X2_there g x n)) else g)))
def f_X2_there (g : Nat → Int32) (x : Int32) (n : Int32) : Int32 := (if (f_X2_isReader x) = 0 then (-1) else (if n = 0 then (if (if n = 1 then (if (g (42 + (ix x))) = 0 then 1 else 0) else 0 : Int32) = 0 then 0 else ((nI (ix ((upd g (42 + (ix x)) (if n = 1 then 1 else 0 : Int32)) 41))) - (nI (q_X0_settleAll_9 (upd g (42 + (ix x)) (if n = 1 then 1 else 0 : Int32)) ((upd g (42 + (ix x)) (if n = 1 then 1 else 0 : Int32)), 0) (ix ((upd g (42 + (ix x)) (if n = 1 then 1 else 0 : Int32)) 41))).2))) else (if n = 1 then (if (if n = 1 then (if (g (42 + (ix x))) = 0 then 1 else 0) else 0 : Int32) = 0 then 0 else ((nI (ix ((upd g (42 + (ix x)) (if n = 1 then 1 else 0 : Int32)) 41))) - (nI (q_X0_settleAll_9 (upd g (42 + (ix x)) (if n = 1 then 1 else 0 : Int32)) ((upd g (42 + (ix x)) (if n = 1 then 1 else 0 : Int32)), 0) (ix ((upd g (42 + (ix x)) (if n = 1 then 1 else 0 : Int32)) 41))).2))) else (-2))))
set_option maxHeartbeats 4000000 in
set_option maxRecDepth 100000 in
theorem k_X2_there (l : Launch) (E : EE) (a o : Nat → Nat) (bA cA : Nat) (g : Nat → Int32) (kp : Int32) (rs : va_W) (x : Int32) (n : Int32) (hL : LI g) : Ci l E yX2_there wsX2_there { frames := 6, cells := 0, slots := 0, locals := 134 } [.ref (o 0), .int x, .int n] (hs E a g ++ (phc E a o bA cA kp ++ rs)) (f_X2_there g x n) (hs E a (s_X2_there g x n) ++ (phc E a o bA cA kp ++ rs)) := by
  refine Ci.of (cc := cX2_there) (maxL := 5) (rt := .int) (by decide) rfl rfl (Nat.le_of_ble_eq_true rfl) ?_
  intro p e s m args below meth c A Q F hE hA hret hP hD ls hl
  obtain ⟨hx, hb, hml, hown, hts⟩ := id F
  have hS : va_S A s.heap s.heap [] := va_S.rf
  have hl : lv_has ls 5 [(0, .ref (o 0)), (1, .int x), (2, .int n)] := hl
  have in0 : ∀ w ∈ wsX00, w ∈ wsX2_there := fun w h => List.mem_cons_of_mem _ (List.mem_append_left _ (List.mem_append_right _ h))
  have in1 : ∀ w ∈ wsX10, w ∈ wsX2_there := fun w h => List.mem_cons_of_mem _ (List.mem_append_right _ h)
  have in2 : ∀ w ∈ wsX20, w ∈ wsX2_there := fun w h => List.mem_cons_of_mem _ (List.mem_append_left _ (List.mem_append_left _ (List.mem_append_right _ h)))
  have K10 := hts (.fieldLink RX2 10 "PromiseHours" "house" "LPromiseHours$House;") (by decide +kernel)
  refine lv_iload_n hx hb dX2_there_0 rfl (lv_at hl 1 rfl) ?_
  refine ci_S F hE (k_X2_isReader l E x) (va_cwS 1 hts gX2_there_X2_isReader rfl rfl rfl (by decide +kernel) ⟨Nat.le_of_ble_eq_true rfl, Nat.le_of_ble_eq_true rfl⟩) Fr.nil hP hD hS hA rfl hl.1 rfl (Nat.le_of_ble_eq_true rfl) dX2_there_1 ⟨Nat.zero_le _, Nat.zero_le _⟩ (fun H locs hP hD hS => ?_)
  refine lv_if_ne (tgt := 9) hx hb dX2_there_4 (by decide) (fun c_1 => ?_) (fun c_1 => ?_)
  · obtain ⟨b_x, e_x⟩ := rd_ix c_1
    refine lv_iload_n hx hb dX2_there_9 rfl (lv_at hl 2 rfl) ?_
    refine lv_if_eq (tgt := 21) hx hb dX2_there_10 (by decide) (fun c_2 => ?_) (fun c_2 => ?_)
    · refine lv_aload_n hx hb dX2_there_21 rfl (lv_at hl 0 rfl) ?_
      refine va_get (D := E.1) (ci := 2) (v := .ref (a 0)) (C := RX2) (T := TX2) (N := 3) hx hb hts in2 hown hE.1 hP (38 + 0) (ap_h rfl) rfl 0 (by decide) K10 (fun _ h9 => h9) rfl dX2_there_22 ?_
      refine va_getN (D := E.1) (ci := 0) (v := .ref (a 2)) (C := RX0) (T := TX0) (N := 17) hx hb hts in0 hown hE.1 hP 0 (ap_l (hs_lo 0 (by decide) rfl)) rfl 2 (by decide) (ev_use hE nk_X2_38 rfl) (fun _ h9 => h9) rfl dX2_there_25 ?_
      refine lv_iload_n hx hb dX2_there_28 rfl (lv_at hl 1 rfl) ?_
      refine tpe e_x ?_
      refine q_aald hx hb hE hP 2 1 (ap_l (hs_lo 2 (by decide) rfl)) rfl (j := (ix x)) rfl (by omega) (by decide) rfl dX2_there_29 ?_
      refine lv_astore_n (lv' := [(3, .ref (a (8 + 6 * (ix x)))), (0, .ref (o 0)), (1, .int x), (2, .int n)]) hx hb dX2_there_30 rfl hl (by decide) rfl (fun ls hl => ?_)
      refine lv_iload_n hx hb dX2_there_31 rfl (lv_at hl 3 rfl) ?_
      refine lv_iconst (v := 1) hx hb dX2_there_32 (by decide) ?_
      have J_48_3 : ∀ (w : Int32) (H : Heap) (locs : List Loc), va_P E.1 vwCl (hs E a g ++ (phc E a o bA cA kp ++ rs)) H → va_D A (hs E a g ++ (phc E a o bA cA kp ++ rs)) → va_S A s.heap H locs → w = (if n = 1 then (if (g (42 + (ix x))) = 0 then 1 else 0) else 0 : Int32) → W p l e { frames := 6, cells := 0, slots := 0, locals := 134 } s m args below meth c H locs 0 0 Q (F0 m 48 ls [.int w]) := by
        intro w H locs hP hD hS ew
        rw [ew]
        refine lv_istore (lv' := [(4, .int (if n = 1 then (if (g (42 + (ix x))) = 0 then 1 else 0) else 0 : Int32)), (3, .ref (a (8 + 6 * (ix x)))), (0, .ref (o 0)), (1, .int x), (2, .int n)]) hx hb dX2_there_48 hl (by decide) rfl (fun ls hl => ?_)
        refine lv_aload_n hx hb dX2_there_50 rfl (lv_at hl 1 rfl) ?_
        refine lv_iload_n hx hb dX2_there_51 rfl (lv_at hl 4 rfl) ?_
        refine lv_iconst (v := 1) hx hb dX2_there_52 (by decide) ?_
        have J_61_6 : ∀ (w : Int32) (H : Heap) (locs : List Loc), va_P E.1 vwCl (hs E a g ++ (phc E a o bA cA kp ++ rs)) H → va_D A (hs E a g ++ (phc E a o bA cA kp ++ rs)) → va_S A s.heap H locs → w = (if n = 1 then 1 else 0 : Int32) → W p l e { frames := 6, cells := 0, slots := 0, locals := 134 } s m args below meth c H locs 0 0 Q (F0 m 61 ls [.int w, .ref (a (8 + 6 * (ix x)))]) := by
          intro w H locs hP hD hS ew
          rw [ew]
          refine va_putN (D := E.1) (ci := 1) (v := .int (if n = 1 then 1 else 0 : Int32)) (ty := .boolean) (C := RX1) (T := TX1) (N := 13) hx hb hts in1 tyX1 tyX1_ok nmX1 hown hE.1 hP hD hS (8 + 6 * (ix x)) (ap_l (hs_hi0 (by omega))) rfl 0 (by decide) (ev_use hE nk_X2_51 rfl) (fun _ h9 => h9) rfl (by decide +kernel) (by first | (split <;> rfl) | decide | rfl) (by first | (split <;> rfl) | decide | rfl) (Nat.le_of_ble_eq_true rfl) dX2_there_61 (fun H locs hP hD hS => ?_)
          rw [(set_h (by omega) (hs_r0 (r := (ix x)) (by omega)))] at hP hD
          have hP : va_P E.1 vwCl (hs E a (upd g (42 + (ix x)) (if n = 1 then 1 else 0 : Int32)) ++ (phc E a o bA cA kp ++ rs)) H := hP
          have hD : va_D A (hs E a (upd g (42 + (ix x)) (if n = 1 then 1 else 0 : Int32)) ++ (phc E a o bA cA kp ++ rs)) := hD
          refine lv_iload hx hb dX2_there_64 (lv_at hl 0 rfl) ?_
          refine lv_if_eq (tgt := 79) hx hb dX2_there_66 (by decide) (fun c_8 => ?_) (fun c_8 => ?_)
          · refine lv_iconst (v := 0) hx hb dX2_there_79 (by decide) ?_
            have eg : (upd g (42 + (ix x)) (if n = 1 then 1 else 0 : Int32)) = (s_X2_there g x n) := (by unfold s_X2_there; exact ((if_neg c_1).trans ((if_pos c_2).trans (if_pos c_8))).symm)
            exact hret _ _ _ _ _ (by rw [← eg]; exact hP) (by rw [← eg]; exact hD) hS (by unfold f_X2_there; exact ((if_neg c_1).trans ((if_pos c_2).trans (if_pos c_8))).symm) dX2_there_80
          · refine lv_aload_n hx hb dX2_there_69 rfl (lv_at hl 2 rfl) ?_
            refine va_get (D := E.1) (ci := 2) (v := .ref (a 0)) (C := RX2) (T := TX2) (N := 3) hx hb hts in2 hown hE.1 hP (38 + 0) (ap_h rfl) rfl 0 (by decide) K10 (fun _ h9 => h9) rfl dX2_there_70 ?_
            refine ci_VN F hE (k_X0_settleAll l E a (upd g (42 + (ix x)) (if n = 1 then 1 else 0 : Int32)) (li_upd hL (by omega))) ⟨va_cnB 0 hts gX2_there_X0_settleAll_n55 rfl rfl rfl (ev_link hE nk_X2_55 rfl) (hts (.initialized RX0) (by decide +kernel)) (by decide +kernel) ⟨Nat.le_of_ble_eq_true rfl, Nat.le_of_ble_eq_true rfl⟩, hts (.instanceMethod yX0_settleAll) (by decide +kernel), hts (.selects RX0 yX0_settleAll yX0_settleAll) (by decide +kernel)⟩ Fr.pre 0 0 (hs_lo 0 (by decide) rfl) rfl rfl hP hD hS hA rfl hl.1 rfl (Nat.le_of_ble_eq_true rfl) dX2_there_73 ⟨Nat.zero_le _, Nat.zero_le _⟩ (fun H locs hP hD hS => ?_)
            have hP : va_P E.1 vwCl (hs E a (t1_X2_there g x n) ++ (phc E a o bA cA kp ++ rs)) H := hP
            have hD : va_D A (hs E a (t1_X2_there g x n) ++ (phc E a o bA cA kp ++ rs)) := hD
            refine lv_goto (tgt := 80) hx hb dX2_there_76 (by decide) ?_
            have eg : (t1_X2_there g x n) = (s_X2_there g x n) := (by unfold s_X2_there; exact ((if_neg c_1).trans ((if_pos c_2).trans (if_neg c_8))).symm)
            exact hret _ _ _ _ _ (by rw [← eg]; exact hP) (by rw [← eg]; exact hD) hS (by unfold f_X2_there; exact ((if_neg c_1).trans ((if_pos c_2).trans (if_neg c_8))).symm) dX2_there_80
        refine lv_icmp_ne (tgt := 60) hx hb dX2_there_53 (by decide) (fun c_7 => ?_) (fun c_7 => ?_)
        · refine lv_iconst (v := 0) hx hb dX2_there_60 (by decide) ?_
          exact J_61_6 _ _ _ hP hD hS (if_neg c_7).symm
        · refine lv_iconst (v := 1) hx hb dX2_there_56 (by decide) ?_
          refine lv_goto (tgt := 61) hx hb dX2_there_57 (by decide) ?_
          exact J_61_6 _ _ _ hP hD hS (if_pos c_7).symm
      refine lv_icmp_ne (tgt := 47) hx hb dX2_there_33 (by decide) (fun c_4 => ?_) (fun c_4 => ?_)
      · refine lv_iconst (v := 0) hx hb dX2_there_47 (by decide) ?_
        exact J_48_3 _ _ _ hP hD hS (if_neg c_4).symm
      · refine lv_aload_n hx hb dX2_there_36 rfl (lv_at hl 0 rfl) ?_
        refine va_getN (D := E.1) (ci := 1) (v := .int (g (42 + (ix x)))) (C := RX1) (T := TX1) (N := 13) hx hb hts in1 hown hE.1 hP (8 + 6 * (ix x)) (ap_l (hs_hi0 (by omega))) rfl 0 (by decide) (ev_use hE nk_X2_51 rfl) (fun _ h9 => h9) rfl dX2_there_37 ?_
        refine lv_if_ne (tgt := 47) hx hb dX2_there_40 (by decide) (fun c_5 => ?_) (fun c_5 => ?_)
        · refine lv_iconst (v := 0) hx hb dX2_there_47 (by decide) ?_
          exact J_48_3 _ _ _ hP hD hS ((if_pos c_4).trans (if_neg c_5)).symm
        · refine lv_iconst (v := 1) hx hb dX2_there_43 (by decide) ?_
          refine lv_goto (tgt := 48) hx hb dX2_there_44 (by decide) ?_
          exact J_48_3 _ _ _ hP hD hS ((if_pos c_4).trans (if_pos c_5)).symm
    · refine lv_iload_n hx hb dX2_there_13 rfl (lv_at hl 2 rfl) ?_
      refine lv_iconst (v := 1) hx hb dX2_there_14 (by decide) ?_
      refine lv_icmp_eq (tgt := 21) hx hb dX2_there_15 (by decide) (fun c_9 => ?_) (fun c_9 => ?_)
      · refine lv_aload_n hx hb dX2_there_21 rfl (lv_at hl 0 rfl) ?_
        refine va_get (D := E.1) (ci := 2) (v := .ref (a 0)) (C := RX2) (T := TX2) (N := 3) hx hb hts in2 hown hE.1 hP (38 + 0) (ap_h rfl) rfl 0 (by decide) K10 (fun _ h9 => h9) rfl dX2_there_22 ?_
        refine va_getN (D := E.1) (ci := 0) (v := .ref (a 2)) (C := RX0) (T := TX0) (N := 17) hx hb hts in0 hown hE.1 hP 0 (ap_l (hs_lo 0 (by decide) rfl)) rfl 2 (by decide) (ev_use hE nk_X2_38 rfl) (fun _ h9 => h9) rfl dX2_there_25 ?_
        refine lv_iload_n hx hb dX2_there_28 rfl (lv_at hl 1 rfl) ?_
        refine tpe e_x ?_
        refine q_aald hx hb hE hP 2 1 (ap_l (hs_lo 2 (by decide) rfl)) rfl (j := (ix x)) rfl (by omega) (by decide) rfl dX2_there_29 ?_
        refine lv_astore_n (lv' := [(3, .ref (a (8 + 6 * (ix x)))), (0, .ref (o 0)), (1, .int x), (2, .int n)]) hx hb dX2_there_30 rfl hl (by decide) rfl (fun ls hl => ?_)
        refine lv_iload_n hx hb dX2_there_31 rfl (lv_at hl 3 rfl) ?_
        refine lv_iconst (v := 1) hx hb dX2_there_32 (by decide) ?_
        have J_48_10 : ∀ (w : Int32) (H : Heap) (locs : List Loc), va_P E.1 vwCl (hs E a g ++ (phc E a o bA cA kp ++ rs)) H → va_D A (hs E a g ++ (phc E a o bA cA kp ++ rs)) → va_S A s.heap H locs → w = (if n = 1 then (if (g (42 + (ix x))) = 0 then 1 else 0) else 0 : Int32) → W p l e { frames := 6, cells := 0, slots := 0, locals := 134 } s m args below meth c H locs 0 0 Q (F0 m 48 ls [.int w]) := by
          intro w H locs hP hD hS ew
          rw [ew]
          refine lv_istore (lv' := [(4, .int (if n = 1 then (if (g (42 + (ix x))) = 0 then 1 else 0) else 0 : Int32)), (3, .ref (a (8 + 6 * (ix x)))), (0, .ref (o 0)), (1, .int x), (2, .int n)]) hx hb dX2_there_48 hl (by decide) rfl (fun ls hl => ?_)
          refine lv_aload_n hx hb dX2_there_50 rfl (lv_at hl 1 rfl) ?_
          refine lv_iload_n hx hb dX2_there_51 rfl (lv_at hl 4 rfl) ?_
          refine lv_iconst (v := 1) hx hb dX2_there_52 (by decide) ?_
          have J_61_13 : ∀ (w : Int32) (H : Heap) (locs : List Loc), va_P E.1 vwCl (hs E a g ++ (phc E a o bA cA kp ++ rs)) H → va_D A (hs E a g ++ (phc E a o bA cA kp ++ rs)) → va_S A s.heap H locs → w = (if n = 1 then 1 else 0 : Int32) → W p l e { frames := 6, cells := 0, slots := 0, locals := 134 } s m args below meth c H locs 0 0 Q (F0 m 61 ls [.int w, .ref (a (8 + 6 * (ix x)))]) := by
            intro w H locs hP hD hS ew
            rw [ew]
            refine va_putN (D := E.1) (ci := 1) (v := .int (if n = 1 then 1 else 0 : Int32)) (ty := .boolean) (C := RX1) (T := TX1) (N := 13) hx hb hts in1 tyX1 tyX1_ok nmX1 hown hE.1 hP hD hS (8 + 6 * (ix x)) (ap_l (hs_hi0 (by omega))) rfl 0 (by decide) (ev_use hE nk_X2_51 rfl) (fun _ h9 => h9) rfl (by decide +kernel) (by first | (split <;> rfl) | decide | rfl) (by first | (split <;> rfl) | decide | rfl) (Nat.le_of_ble_eq_true rfl) dX2_there_61 (fun H locs hP hD hS => ?_)
            rw [(set_h (by omega) (hs_r0 (r := (ix x)) (by omega)))] at hP hD
            have hP : va_P E.1 vwCl (hs E a (upd g (42 + (ix x)) (if n = 1 then 1 else 0 : Int32)) ++ (phc E a o bA cA kp ++ rs)) H := hP
            have hD : va_D A (hs E a (upd g (42 + (ix x)) (if n = 1 then 1 else 0 : Int32)) ++ (phc E a o bA cA kp ++ rs)) := hD
            refine lv_iload hx hb dX2_there_64 (lv_at hl 0 rfl) ?_
            refine lv_if_eq (tgt := 79) hx hb dX2_there_66 (by decide) (fun c_15 => ?_) (fun c_15 => ?_)
            · refine lv_iconst (v := 0) hx hb dX2_there_79 (by decide) ?_
              have eg : (upd g (42 + (ix x)) (if n = 1 then 1 else 0 : Int32)) = (s_X2_there g x n) := (by unfold s_X2_there; exact ((if_neg c_1).trans ((if_neg c_2).trans ((if_pos c_9).trans (if_pos c_15)))).symm)
              exact hret _ _ _ _ _ (by rw [← eg]; exact hP) (by rw [← eg]; exact hD) hS (by unfold f_X2_there; exact ((if_neg c_1).trans ((if_neg c_2).trans ((if_pos c_9).trans (if_pos c_15)))).symm) dX2_there_80
            · refine lv_aload_n hx hb dX2_there_69 rfl (lv_at hl 2 rfl) ?_
              refine va_get (D := E.1) (ci := 2) (v := .ref (a 0)) (C := RX2) (T := TX2) (N := 3) hx hb hts in2 hown hE.1 hP (38 + 0) (ap_h rfl) rfl 0 (by decide) K10 (fun _ h9 => h9) rfl dX2_there_70 ?_
              refine ci_VN F hE (k_X0_settleAll l E a (upd g (42 + (ix x)) (if n = 1 then 1 else 0 : Int32)) (li_upd hL (by omega))) ⟨va_cnB 0 hts gX2_there_X0_settleAll_n55 rfl rfl rfl (ev_link hE nk_X2_55 rfl) (hts (.initialized RX0) (by decide +kernel)) (by decide +kernel) ⟨Nat.le_of_ble_eq_true rfl, Nat.le_of_ble_eq_true rfl⟩, hts (.instanceMethod yX0_settleAll) (by decide +kernel), hts (.selects RX0 yX0_settleAll yX0_settleAll) (by decide +kernel)⟩ Fr.pre 0 0 (hs_lo 0 (by decide) rfl) rfl rfl hP hD hS hA rfl hl.1 rfl (Nat.le_of_ble_eq_true rfl) dX2_there_73 ⟨Nat.zero_le _, Nat.zero_le _⟩ (fun H locs hP hD hS => ?_)
              have hP : va_P E.1 vwCl (hs E a (t2_X2_there g x n) ++ (phc E a o bA cA kp ++ rs)) H := hP
              have hD : va_D A (hs E a (t2_X2_there g x n) ++ (phc E a o bA cA kp ++ rs)) := hD
              refine lv_goto (tgt := 80) hx hb dX2_there_76 (by decide) ?_
              have eg : (t2_X2_there g x n) = (s_X2_there g x n) := (by unfold s_X2_there; exact ((if_neg c_1).trans ((if_neg c_2).trans ((if_pos c_9).trans (if_neg c_15)))).symm)
              exact hret _ _ _ _ _ (by rw [← eg]; exact hP) (by rw [← eg]; exact hD) hS (by unfold f_X2_there; exact ((if_neg c_1).trans ((if_neg c_2).trans ((if_pos c_9).trans (if_neg c_15)))).symm) dX2_there_80
          refine lv_icmp_ne (tgt := 60) hx hb dX2_there_53 (by decide) (fun c_14 => ?_) (fun c_14 => ?_)
          · refine lv_iconst (v := 0) hx hb dX2_there_60 (by decide) ?_
            exact J_61_13 _ _ _ hP hD hS (if_neg c_14).symm
          · refine lv_iconst (v := 1) hx hb dX2_there_56 (by decide) ?_
            refine lv_goto (tgt := 61) hx hb dX2_there_57 (by decide) ?_
            exact J_61_13 _ _ _ hP hD hS (if_pos c_14).symm
        refine lv_icmp_ne (tgt := 47) hx hb dX2_there_33 (by decide) (fun c_11 => ?_) (fun c_11 => ?_)
        · refine lv_iconst (v := 0) hx hb dX2_there_47 (by decide) ?_
          exact J_48_10 _ _ _ hP hD hS (if_neg c_11).symm
        · refine lv_aload_n hx hb dX2_there_36 rfl (lv_at hl 0 rfl) ?_
          refine va_getN (D := E.1) (ci := 1) (v := .int (g (42 + (ix x)))) (C := RX1) (T := TX1) (N := 13) hx hb hts in1 hown hE.1 hP (8 + 6 * (ix x)) (ap_l (hs_hi0 (by omega))) rfl 0 (by decide) (ev_use hE nk_X2_51 rfl) (fun _ h9 => h9) rfl dX2_there_37 ?_
          refine lv_if_ne (tgt := 47) hx hb dX2_there_40 (by decide) (fun c_12 => ?_) (fun c_12 => ?_)
          · refine lv_iconst (v := 0) hx hb dX2_there_47 (by decide) ?_
            exact J_48_10 _ _ _ hP hD hS ((if_pos c_11).trans (if_neg c_12)).symm
          · refine lv_iconst (v := 1) hx hb dX2_there_43 (by decide) ?_
            refine lv_goto (tgt := 48) hx hb dX2_there_44 (by decide) ?_
            exact J_48_10 _ _ _ hP hD hS ((if_pos c_11).trans (if_pos c_12)).symm
      · refine lv_bipush (v := -2) hx hb dX2_there_18 (by decide) ?_
        have eg : g = (s_X2_there g x n) := (by unfold s_X2_there; exact ((if_neg c_1).trans ((if_neg c_2).trans (if_neg c_9))).symm)
        exact hret _ _ _ _ _ (by rw [← eg]; exact hP) (by rw [← eg]; exact hD) hS (by unfold f_X2_there; exact ((if_neg c_1).trans ((if_neg c_2).trans (if_neg c_9))).symm) dX2_there_20
  · refine lv_iconst (v := -1) hx hb dX2_there_7 (by decide) ?_
    have eg : g = (s_X2_there g x n) := (by unfold s_X2_there; exact (if_pos c_1).symm)
    exact hret _ _ _ _ _ (by rw [← eg]; exact hP) (by rw [← eg]; exact hD) hS (by unfold f_X2_there; exact (if_pos c_1).symm) dX2_there_8
def t1_X2_read (g : Nat → Int32) (x : Int32) (y : Int32) : Nat → Int32 := (s_X0_readBy g (ix x) (ix y))
def s_X2_read (g : Nat → Int32) (x : Int32) (y : Int32) : Nat → Int32 := (if (f_X2_isReader x) = 0 then g else (if (f_X2_isThing y) = 0 then g else (t1_X2_read g x y)))
def f_X2_read (g : Nat → Int32) (x : Int32) (y : Int32) : Int32 := (if (f_X2_isReader x) = 0 then (-1) else (if (f_X2_isThing y) = 0 then (-1) else (f_X0_readBy g (ix x) (ix y))))
set_option maxHeartbeats 4000000 in
set_option maxRecDepth 100000 in
theorem k_X2_read (l : Launch) (E : EE) (a o : Nat → Nat) (bA cA : Nat) (g : Nat → Int32) (kp : Int32) (rs : va_W) (x : Int32) (y : Int32)  : Ci l E yX2_read wsX2_read { frames := 6, cells := 0, slots := 0, locals := 136 } [.ref (o 0), .int x, .int y] (hs E a g ++ (phc E a o bA cA kp ++ rs)) (f_X2_read g x y) (hs E a (s_X2_read g x y) ++ (phc E a o bA cA kp ++ rs)) := by
  refine Ci.of (cc := cX2_read) (maxL := 3) (rt := .int) (by decide) rfl rfl (Nat.le_of_ble_eq_true rfl) ?_
  intro p e s m args below meth c A Q F hE hA hret hP hD ls hl
  obtain ⟨hx, hb, hml, hown, hts⟩ := id F
  have hS : va_S A s.heap s.heap [] := va_S.rf
  have hl : lv_has ls 3 [(0, .ref (o 0)), (1, .int x), (2, .int y)] := hl
  have in0 : ∀ w ∈ wsX00, w ∈ wsX2_read := fun w h => List.mem_cons_of_mem _ (List.mem_append_left _ (List.mem_append_right _ h))
  have in2 : ∀ w ∈ wsX20, w ∈ wsX2_read := fun w h => List.mem_cons_of_mem _ (List.mem_append_left _ (List.mem_append_left _ (List.mem_append_right _ h)))
  have K10 := hts (.fieldLink RX2 10 "PromiseHours" "house" "LPromiseHours$House;") (by decide +kernel)
  refine lv_iload_n hx hb dX2_read_0 rfl (lv_at hl 1 rfl) ?_
  refine ci_S F hE (k_X2_isReader l E x) (va_cwS 1 hts gX2_read_X2_isReader rfl rfl rfl (by decide +kernel) ⟨Nat.le_of_ble_eq_true rfl, Nat.le_of_ble_eq_true rfl⟩) Fr.nil hP hD hS hA rfl hl.1 rfl (Nat.le_of_ble_eq_true rfl) dX2_read_1 ⟨Nat.zero_le _, Nat.zero_le _⟩ (fun H locs hP hD hS => ?_)
  refine lv_if_eq (tgt := 14) hx hb dX2_read_4 (by decide) (fun c_1 => ?_) (fun c_1 => ?_)
  · refine lv_iconst (v := -1) hx hb dX2_read_14 (by decide) ?_
    have eg : g = (s_X2_read g x y) := (by unfold s_X2_read; exact (if_pos c_1).symm)
    exact hret _ _ _ _ _ (by rw [← eg]; exact hP) (by rw [← eg]; exact hD) hS (by unfold f_X2_read; exact (if_pos c_1).symm) dX2_read_15
  · obtain ⟨b_x, e_x⟩ := rd_ix c_1
    refine lv_iload_n hx hb dX2_read_7 rfl (lv_at hl 2 rfl) ?_
    refine ci_S F hE (k_X2_isThing l E y) (va_cwS 1 hts gX2_read_X2_isThing rfl rfl rfl (by decide +kernel) ⟨Nat.le_of_ble_eq_true rfl, Nat.le_of_ble_eq_true rfl⟩) Fr.nil hP hD hS hA rfl hl.1 rfl (Nat.le_of_ble_eq_true rfl) dX2_read_8 ⟨Nat.zero_le _, Nat.zero_le _⟩ (fun H locs hP hD hS => ?_)
    refine lv_if_ne (tgt := 16) hx hb dX2_read_11 (by decide) (fun c_2 => ?_) (fun c_2 => ?_)
    · obtain ⟨b_y, e_y⟩ := th_ix c_2
      refine lv_aload_n hx hb dX2_read_16 rfl (lv_at hl 0 rfl) ?_
      refine va_get (D := E.1) (ci := 2) (v := .ref (a 0)) (C := RX2) (T := TX2) (N := 3) hx hb hts in2 hown hE.1 hP (38 + 0) (ap_h rfl) rfl 0 (by decide) K10 (fun _ h9 => h9) rfl dX2_read_17 ?_
      refine lv_aload_n hx hb dX2_read_20 rfl (lv_at hl 0 rfl) ?_
      refine va_get (D := E.1) (ci := 2) (v := .ref (a 0)) (C := RX2) (T := TX2) (N := 3) hx hb hts in2 hown hE.1 hP (38 + 0) (ap_h rfl) rfl 0 (by decide) K10 (fun _ h9 => h9) rfl dX2_read_21 ?_
      refine va_getN (D := E.1) (ci := 0) (v := .ref (a 2)) (C := RX0) (T := TX0) (N := 17) hx hb hts in0 hown hE.1 hP 0 (ap_l (hs_lo 0 (by decide) rfl)) rfl 2 (by decide) (ev_use hE nk_X2_38 rfl) (fun _ h9 => h9) rfl dX2_read_24 ?_
      refine lv_iload_n hx hb dX2_read_27 rfl (lv_at hl 1 rfl) ?_
      refine tpe e_x ?_
      refine q_aald hx hb hE hP 2 1 (ap_l (hs_lo 2 (by decide) rfl)) rfl (j := (ix x)) rfl (by omega) (by decide) rfl dX2_read_28 ?_
      refine lv_iload_n hx hb dX2_read_29 rfl (lv_at hl 2 rfl) ?_
      refine tpe e_y ?_
      refine ci_VN F hE (k_X0_readBy l E a g (ix x) (ix y) (by omega) (by omega)) ⟨va_cnB 2 hts gX2_read_X0_readBy_n61 rfl rfl rfl (ev_link hE nk_X2_61 rfl) (hts (.initialized RX0) (by decide +kernel)) (by decide +kernel) ⟨Nat.le_of_ble_eq_true rfl, Nat.le_of_ble_eq_true rfl⟩, hts (.instanceMethod yX0_readBy) (by decide +kernel), hts (.selects RX0 yX0_readBy yX0_readBy) (by decide +kernel)⟩ Fr.pre 0 0 (hs_lo 0 (by decide) rfl) rfl rfl hP hD hS hA rfl hl.1 rfl (Nat.le_of_ble_eq_true rfl) dX2_read_30 ⟨Nat.zero_le _, Nat.zero_le _⟩ (fun H locs hP hD hS => ?_)
      have hP : va_P E.1 vwCl (hs E a (t1_X2_read g x y) ++ (phc E a o bA cA kp ++ rs)) H := hP
      have hD : va_D A (hs E a (t1_X2_read g x y) ++ (phc E a o bA cA kp ++ rs)) := hD
      have eg : (t1_X2_read g x y) = (s_X2_read g x y) := (by unfold s_X2_read; exact ((if_neg c_1).trans (if_neg c_2)).symm)
      exact hret _ _ _ _ _ (by rw [← eg]; exact hP) (by rw [← eg]; exact hD) hS (by unfold f_X2_read; exact ((if_neg c_1).trans (if_neg c_2)).symm) dX2_read_33
    · refine lv_iconst (v := -1) hx hb dX2_read_14 (by decide) ?_
      have eg : g = (s_X2_read g x y) := (by unfold s_X2_read; exact ((if_neg c_1).trans (if_pos c_2)).symm)
      exact hret _ _ _ _ _ (by rw [← eg]; exact hP) (by rw [← eg]; exact hD) hS (by unfold f_X2_read; exact ((if_neg c_1).trans (if_pos c_2)).symm) dX2_read_15
def t1_X2_write (g : Nat → Int32) (y : Int32) (n : Int32) : Nat → Int32 := (s_X0_tellWrite g (ix y) n)
def t2_X2_write (g : Nat → Int32) (y : Int32) (n : Int32) : Nat → Int32 := (s_X0_tellWrite g (ix y) n)
def s_X2_write (g : Nat → Int32) (y : Int32) (n : Int32) : Nat → Int32 := (if (f_X2_isThing y) = 0 then g else (if n = 0 then (if (f_X0_isWaiting g (ix y)) = 0 then (t1_X2_write g y n) else g) else (if n = 1 then (if (f_X0_isWaiting g (ix y)) = 0 then (t2_X2_write g y n) else g) else g)))
def f_X2_write (g : Nat → Int32) (y : Int32) (n : Int32) : Int32 := (if (f_X2_isThing y) = 0 then (-1) else (if n = 0 then (if (f_X0_isWaiting g (ix y)) = 0 then (f_X0_tellWrite g (ix y) n) else (-5)) else (if n = 1 then (if (f_X0_isWaiting g (ix y)) = 0 then (f_X0_tellWrite g (ix y) n) else (-5)) else (-2))))
set_option maxHeartbeats 4000000 in
set_option maxRecDepth 100000 in
theorem k_X2_write (l : Launch) (E : EE) (a o : Nat → Nat) (bA cA : Nat) (g : Nat → Int32) (kp : Int32) (rs : va_W) (y : Int32) (n : Int32) (hm : g 41 = nI (ix (g 41))) : Ci l E yX2_write wsX2_write { frames := 6, cells := 0, slots := 0, locals := 133 } [.ref (o 0), .int y, .int n] (hs E a g ++ (phc E a o bA cA kp ++ rs)) (f_X2_write g y n) (hs E a (s_X2_write g y n) ++ (phc E a o bA cA kp ++ rs)) := by
  refine Ci.of (cc := cX2_write) (maxL := 3) (rt := .int) (by decide) rfl rfl (Nat.le_of_ble_eq_true rfl) ?_
  intro p e s m args below meth c A Q F hE hA hret hP hD ls hl
  obtain ⟨hx, hb, hml, hown, hts⟩ := id F
  have hS : va_S A s.heap s.heap [] := va_S.rf
  have hl : lv_has ls 3 [(0, .ref (o 0)), (1, .int y), (2, .int n)] := hl
  have in2 : ∀ w ∈ wsX20, w ∈ wsX2_write := fun w h => List.mem_cons_of_mem _ (List.mem_append_left _ (List.mem_append_left _ (List.mem_append_right _ h)))
  have K10 := hts (.fieldLink RX2 10 "PromiseHours" "house" "LPromiseHours$House;") (by decide +kernel)
  refine lv_iload_n hx hb dX2_write_0 rfl (lv_at hl 1 rfl) ?_
  refine ci_S F hE (k_X2_isThing l E y) (va_cwS 1 hts gX2_write_X2_isThing rfl rfl rfl (by decide +kernel) ⟨Nat.le_of_ble_eq_true rfl, Nat.le_of_ble_eq_true rfl⟩) Fr.nil hP hD hS hA rfl hl.1 rfl (Nat.le_of_ble_eq_true rfl) dX2_write_1 ⟨Nat.zero_le _, Nat.zero_le _⟩ (fun H locs hP hD hS => ?_)
  refine lv_if_ne (tgt := 9) hx hb dX2_write_4 (by decide) (fun c_1 => ?_) (fun c_1 => ?_)
  · obtain ⟨b_y, e_y⟩ := th_ix c_1
    refine lv_iload_n hx hb dX2_write_9 rfl (lv_at hl 2 rfl) ?_
    refine lv_if_eq (tgt := 21) hx hb dX2_write_10 (by decide) (fun c_2 => ?_) (fun c_2 => ?_)
    · refine lv_aload_n hx hb dX2_write_21 rfl (lv_at hl 0 rfl) ?_
      refine va_get (D := E.1) (ci := 2) (v := .ref (a 0)) (C := RX2) (T := TX2) (N := 3) hx hb hts in2 hown hE.1 hP (38 + 0) (ap_h rfl) rfl 0 (by decide) K10 (fun _ h9 => h9) rfl dX2_write_22 ?_
      refine lv_iload_n hx hb dX2_write_25 rfl (lv_at hl 1 rfl) ?_
      refine tpe e_y ?_
      refine ci_VN F hE (k_X0_isWaiting l E a g (ix y) (by omega)) ⟨va_cnB 1 hts gX2_write_X0_isWaiting_n65 rfl rfl rfl (ev_link hE nk_X2_65 rfl) (hts (.initialized RX0) (by decide +kernel)) (by decide +kernel) ⟨Nat.le_of_ble_eq_true rfl, Nat.le_of_ble_eq_true rfl⟩, hts (.instanceMethod yX0_isWaiting) (by decide +kernel), hts (.selects RX0 yX0_isWaiting yX0_isWaiting) (by decide +kernel)⟩ Fr.pre 0 0 (hs_lo 0 (by decide) rfl) rfl rfl hP hD hS hA rfl hl.1 rfl (Nat.le_of_ble_eq_true rfl) dX2_write_26 ⟨Nat.zero_le _, Nat.zero_le _⟩ (fun H locs hP hD hS => ?_)
      refine lv_if_eq (tgt := 35) hx hb dX2_write_29 (by decide) (fun c_3 => ?_) (fun c_3 => ?_)
      · refine lv_aload_n hx hb dX2_write_35 rfl (lv_at hl 0 rfl) ?_
        refine va_get (D := E.1) (ci := 2) (v := .ref (a 0)) (C := RX2) (T := TX2) (N := 3) hx hb hts in2 hown hE.1 hP (38 + 0) (ap_h rfl) rfl 0 (by decide) K10 (fun _ h9 => h9) rfl dX2_write_36 ?_
        refine lv_iload_n hx hb dX2_write_39 rfl (lv_at hl 1 rfl) ?_
        refine tpe e_y ?_
        refine lv_iload_n hx hb dX2_write_40 rfl (lv_at hl 2 rfl) ?_
        refine ci_VN F hE (k_X0_tellWrite l E a g (ix y) n (by omega) hm) ⟨va_cnB 2 hts gX2_write_X0_tellWrite_n68 rfl rfl rfl (ev_link hE nk_X2_68 rfl) (hts (.initialized RX0) (by decide +kernel)) (by decide +kernel) ⟨Nat.le_of_ble_eq_true rfl, Nat.le_of_ble_eq_true rfl⟩, hts (.instanceMethod yX0_tellWrite) (by decide +kernel), hts (.selects RX0 yX0_tellWrite yX0_tellWrite) (by decide +kernel)⟩ Fr.pre 0 0 (hs_lo 0 (by decide) rfl) rfl rfl hP hD hS hA rfl hl.1 rfl (Nat.le_of_ble_eq_true rfl) dX2_write_41 ⟨Nat.zero_le _, Nat.zero_le _⟩ (fun H locs hP hD hS => ?_)
        have hP : va_P E.1 vwCl (hs E a (t1_X2_write g y n) ++ (phc E a o bA cA kp ++ rs)) H := hP
        have hD : va_D A (hs E a (t1_X2_write g y n) ++ (phc E a o bA cA kp ++ rs)) := hD
        have eg : (t1_X2_write g y n) = (s_X2_write g y n) := (by unfold s_X2_write; exact ((if_neg c_1).trans ((if_pos c_2).trans (if_pos c_3))).symm)
        exact hret _ _ _ _ _ (by rw [← eg]; exact hP) (by rw [← eg]; exact hD) hS (by unfold f_X2_write; exact ((if_neg c_1).trans ((if_pos c_2).trans (if_pos c_3))).symm) dX2_write_44
      · refine lv_bipush (v := -5) hx hb dX2_write_32 (by decide) ?_
        have eg : g = (s_X2_write g y n) := (by unfold s_X2_write; exact ((if_neg c_1).trans ((if_pos c_2).trans (if_neg c_3))).symm)
        exact hret _ _ _ _ _ (by rw [← eg]; exact hP) (by rw [← eg]; exact hD) hS (by unfold f_X2_write; exact ((if_neg c_1).trans ((if_pos c_2).trans (if_neg c_3))).symm) dX2_write_34
    · refine lv_iload_n hx hb dX2_write_13 rfl (lv_at hl 2 rfl) ?_
      refine lv_iconst (v := 1) hx hb dX2_write_14 (by decide) ?_
      refine lv_icmp_eq (tgt := 21) hx hb dX2_write_15 (by decide) (fun c_4 => ?_) (fun c_4 => ?_)
      · refine lv_aload_n hx hb dX2_write_21 rfl (lv_at hl 0 rfl) ?_
        refine va_get (D := E.1) (ci := 2) (v := .ref (a 0)) (C := RX2) (T := TX2) (N := 3) hx hb hts in2 hown hE.1 hP (38 + 0) (ap_h rfl) rfl 0 (by decide) K10 (fun _ h9 => h9) rfl dX2_write_22 ?_
        refine lv_iload_n hx hb dX2_write_25 rfl (lv_at hl 1 rfl) ?_
        refine tpe e_y ?_
        refine ci_VN F hE (k_X0_isWaiting l E a g (ix y) (by omega)) ⟨va_cnB 1 hts gX2_write_X0_isWaiting_n65 rfl rfl rfl (ev_link hE nk_X2_65 rfl) (hts (.initialized RX0) (by decide +kernel)) (by decide +kernel) ⟨Nat.le_of_ble_eq_true rfl, Nat.le_of_ble_eq_true rfl⟩, hts (.instanceMethod yX0_isWaiting) (by decide +kernel), hts (.selects RX0 yX0_isWaiting yX0_isWaiting) (by decide +kernel)⟩ Fr.pre 0 0 (hs_lo 0 (by decide) rfl) rfl rfl hP hD hS hA rfl hl.1 rfl (Nat.le_of_ble_eq_true rfl) dX2_write_26 ⟨Nat.zero_le _, Nat.zero_le _⟩ (fun H locs hP hD hS => ?_)
        refine lv_if_eq (tgt := 35) hx hb dX2_write_29 (by decide) (fun c_5 => ?_) (fun c_5 => ?_)
        · refine lv_aload_n hx hb dX2_write_35 rfl (lv_at hl 0 rfl) ?_
          refine va_get (D := E.1) (ci := 2) (v := .ref (a 0)) (C := RX2) (T := TX2) (N := 3) hx hb hts in2 hown hE.1 hP (38 + 0) (ap_h rfl) rfl 0 (by decide) K10 (fun _ h9 => h9) rfl dX2_write_36 ?_
          refine lv_iload_n hx hb dX2_write_39 rfl (lv_at hl 1 rfl) ?_
          refine tpe e_y ?_
          refine lv_iload_n hx hb dX2_write_40 rfl (lv_at hl 2 rfl) ?_
          refine ci_VN F hE (k_X0_tellWrite l E a g (ix y) n (by omega) hm) ⟨va_cnB 2 hts gX2_write_X0_tellWrite_n68 rfl rfl rfl (ev_link hE nk_X2_68 rfl) (hts (.initialized RX0) (by decide +kernel)) (by decide +kernel) ⟨Nat.le_of_ble_eq_true rfl, Nat.le_of_ble_eq_true rfl⟩, hts (.instanceMethod yX0_tellWrite) (by decide +kernel), hts (.selects RX0 yX0_tellWrite yX0_tellWrite) (by decide +kernel)⟩ Fr.pre 0 0 (hs_lo 0 (by decide) rfl) rfl rfl hP hD hS hA rfl hl.1 rfl (Nat.le_of_ble_eq_true rfl) dX2_write_41 ⟨Nat.zero_le _, Nat.zero_le _⟩ (fun H locs hP hD hS => ?_)
          have hP : va_P E.1 vwCl (hs E a (t2_X2_write g y n) ++ (phc E a o bA cA kp ++ rs)) H := hP
          have hD : va_D A (hs E a (t2_X2_write g y n) ++ (phc E a o bA cA kp ++ rs)) := hD
          have eg : (t2_X2_write g y n) = (s_X2_write g y n) := (by unfold s_X2_write; exact ((if_neg c_1).trans ((if_neg c_2).trans ((if_pos c_4).trans (if_pos c_5)))).symm)
          exact hret _ _ _ _ _ (by rw [← eg]; exact hP) (by rw [← eg]; exact hD) hS (by unfold f_X2_write; exact ((if_neg c_1).trans ((if_neg c_2).trans ((if_pos c_4).trans (if_pos c_5)))).symm) dX2_write_44
        · refine lv_bipush (v := -5) hx hb dX2_write_32 (by decide) ?_
          have eg : g = (s_X2_write g y n) := (by unfold s_X2_write; exact ((if_neg c_1).trans ((if_neg c_2).trans ((if_pos c_4).trans (if_neg c_5)))).symm)
          exact hret _ _ _ _ _ (by rw [← eg]; exact hP) (by rw [← eg]; exact hD) hS (by unfold f_X2_write; exact ((if_neg c_1).trans ((if_neg c_2).trans ((if_pos c_4).trans (if_neg c_5)))).symm) dX2_write_34
      · refine lv_bipush (v := -2) hx hb dX2_write_18 (by decide) ?_
        have eg : g = (s_X2_write g y n) := (by unfold s_X2_write; exact ((if_neg c_1).trans ((if_neg c_2).trans (if_neg c_4))).symm)
        exact hret _ _ _ _ _ (by rw [← eg]; exact hP) (by rw [← eg]; exact hD) hS (by unfold f_X2_write; exact ((if_neg c_1).trans ((if_neg c_2).trans (if_neg c_4))).symm) dX2_write_20
  · refine lv_iconst (v := -1) hx hb dX2_write_7 (by decide) ?_
    have eg : g = (s_X2_write g y n) := (by unfold s_X2_write; exact (if_pos c_1).symm)
    exact hret _ _ _ _ _ (by rw [← eg]; exact hP) (by rw [← eg]; exact hD) hS (by unfold f_X2_write; exact (if_pos c_1).symm) dX2_write_8
def p_X2_pass_18 (g : Nat → Int32) (x : Int32) (S18 : (Nat → Int32) × Int32) (i : Nat) : (Nat → Int32) × Int32 := ((s_X0_settleAll (upd S18.1 0 ((S18.1 0) + 1))), (S18.2 + ((nI (ix ((upd S18.1 0 ((S18.1 0) + 1)) 41))) - (nI (q_X0_settleAll_9 (upd S18.1 0 ((S18.1 0) + 1)) ((upd S18.1 0 ((S18.1 0) + 1)), 0) (ix ((upd S18.1 0 ((S18.1 0) + 1)) 41))).2))))
def q_X2_pass_18 (g : Nat → Int32) (x : Int32) (S0 : (Nat → Int32) × Int32) : Nat → (Nat → Int32) × Int32
  | 0 => S0
  | i + 1 => p_X2_pass_18 g x (q_X2_pass_18 g x S0 i) i
def s_X2_pass (g : Nat → Int32) (x : Int32) : Nat → Int32 := (if x < 1 then g else (if x ≤ 100 then (q_X2_pass_18 g x (g, 0) (ix x)).1 else g))
def f_X2_pass (g : Nat → Int32) (x : Int32) : Int32 := (if x < 1 then (-2) else (if x ≤ 100 then (q_X2_pass_18 g x (g, 0) (ix x)).2 else (-2)))
theorem li_X2_pass (g : Nat → Int32) (x : Int32) (hL : LI g) : ∀ i, LI (q_X2_pass_18 g x (g, 0) i).1
  | 0 => hL
  | i + 1 => li_X0_settleAll (li_upd (li_X2_pass g x hL i) (by omega))
set_option maxHeartbeats 4000000 in
set_option maxRecDepth 100000 in
theorem k_X2_pass (l : Launch) (E : EE) (a o : Nat → Nat) (bA cA : Nat) (g : Nat → Int32) (kp : Int32) (rs : va_W) (x : Int32) (hL : LI g) : Ci l E yX2_pass wsX2_pass { frames := 6, cells := 0, slots := 0, locals := 134 } [.ref (o 0), .int x] (hs E a g ++ (phc E a o bA cA kp ++ rs)) (f_X2_pass g x) (hs E a (s_X2_pass g x) ++ (phc E a o bA cA kp ++ rs)) := by
  refine Ci.of (cc := cX2_pass) (maxL := 4) (rt := .int) (by decide) rfl rfl (Nat.le_of_ble_eq_true rfl) ?_
  intro p e s m args below meth c A Q F hE hA hret hP hD ls hl
  obtain ⟨hx, hb, hml, hown, hts⟩ := id F
  have hS : va_S A s.heap s.heap [] := va_S.rf
  have hl : lv_has ls 4 [(0, .ref (o 0)), (1, .int x)] := hl
  have in0 : ∀ w ∈ wsX00, w ∈ wsX2_pass := fun w h => List.mem_cons_of_mem _ (List.mem_append_left _ (List.mem_append_right _ h))
  have in2 : ∀ w ∈ wsX20, w ∈ wsX2_pass := fun w h => List.mem_cons_of_mem _ (List.mem_append_left _ (List.mem_append_left _ (List.mem_append_right _ h)))
  have K10 := hts (.fieldLink RX2 10 "PromiseHours" "house" "LPromiseHours$House;") (by decide +kernel)
  refine lv_iload_n hx hb dX2_pass_0 rfl (lv_at hl 1 rfl) ?_
  refine lv_iconst (v := 1) hx hb dX2_pass_1 (by decide) ?_
  refine lv_icmp_lt (tgt := 11) hx hb dX2_pass_2 (by decide) (fun c_1 => ?_) (fun c_1 => ?_)
  · refine lv_bipush (v := -2) hx hb dX2_pass_11 (by decide) ?_
    have eg : g = (s_X2_pass g x) := (by unfold s_X2_pass; exact (if_pos c_1).symm)
    exact hret _ _ _ _ _ (by rw [← eg]; exact hP) (by rw [← eg]; exact hD) hS (by unfold f_X2_pass; exact (if_pos c_1).symm) dX2_pass_13
  · refine lv_iload_n hx hb dX2_pass_5 rfl (lv_at hl 1 rfl) ?_
    refine lv_bipush (v := 100) hx hb dX2_pass_6 (by decide) ?_
    refine lv_icmp_le (tgt := 14) hx hb dX2_pass_8 (by decide) (fun c_2 => ?_) (fun c_2 => ?_)
    · obtain ⟨b_x, e_x⟩ := p1_ix c_1 c_2
      refine lv_iconst (v := 0) hx hb dX2_pass_14 (by decide) ?_
      refine lv_istore_n (lv' := [(2, .int 0), (0, .ref (o 0)), (1, .int x)]) hx hb dX2_pass_15 rfl hl (by decide) rfl (fun ls hl => ?_)
      refine lv_iconst (v := 0) hx hb dX2_pass_16 (by decide) ?_
      refine lv_istore_n (lv' := [(3, .int 0), (2, .int 0), (0, .ref (o 0)), (1, .int x)]) hx hb dX2_pass_17 rfl hl (by decide) rfl (fun ls hl => ?_)
      have lp18 : ∀ (fu i : Nat), i ≤ (ix x) → (ix x) + 1 ≤ i + fu → ∀ (S18a : (Nat → Int32)) (S18b : Int32), (S18a, S18b) = (q_X2_pass_18 g x (g, 0) i) → ∀ (H : Heap) (locs : List Loc), va_P E.1 vwCl (hs E a S18a ++ (phc E a o bA cA kp ++ rs)) H → va_D A (hs E a S18a ++ (phc E a o bA cA kp ++ rs)) → va_S A s.heap H locs → ∀ ls : Array Slot, lv_has ls 4 [(0, .ref (o 0)), (1, .int x), (2, .int S18b), (3, .int (nI i))] → W p l e { frames := 6, cells := 0, slots := 0, locals := 134 } s m args below meth c H locs 0 0 Q (F0 m 18 ls []) := by
        intro fu
        induction fu with
        | zero => intro i h1 h2; exact absurd h2 (by omega)
        | succ fu ih =>
          intro i hi hin S18a S18b eS18 H locs hP hD hS ls hl
          refine lv_iload_n hx hb dX2_pass_18 rfl (lv_at hl 3 rfl) ?_
          refine lv_iload_n hx hb dX2_pass_19 rfl (lv_at hl 1 rfl) ?_
          refine tpe e_x ?_
          refine lv_icmp_ge (tgt := 52) hx hb dX2_pass_20 (by decide) (fun c_3 => ?_) (fun c_3 => ?_)
          · have hiN : i = (ix x) := by have := (nI_leI (a := (ix x)) (b := i) (by omega) (by omega)).mp c_3; omega
            rw [hiN] at eS18 hl
            have eS18a : S18a = (q_X2_pass_18 g x (g, 0) (ix x)).1 := by rw [← eS18]
            have eS18b : S18b = (q_X2_pass_18 g x (g, 0) (ix x)).2 := by rw [← eS18]
            refine lv_iload_n hx hb dX2_pass_52 rfl (lv_at hl 2 rfl) ?_
            have eg : S18a = (s_X2_pass g x) := (by unfold s_X2_pass; (try rw [← eS18b]); (try rw [← eS18a]); exact ((if_neg c_1).trans (if_pos c_2)).symm)
            exact hret _ _ _ _ _ (by rw [← eg]; exact hP) (by rw [← eg]; exact hD) hS (by unfold f_X2_pass; (try rw [← eS18b]); (try rw [← eS18a]); exact ((if_neg c_1).trans (if_pos c_2)).symm) dX2_pass_53
          · have hlt : i < (ix x) := Nat.lt_of_not_le (fun h => c_3 (nI_le (a := (ix x)) (b := i) (by omega) (by omega)))
            have hLi := li_X2_pass g x hL i
            rw [← eS18] at hLi
            dsimp only at hLi
            refine lv_aload_n hx hb dX2_pass_23 rfl (lv_at hl 0 rfl) ?_
            refine va_get (D := E.1) (ci := 2) (v := .ref (a 0)) (C := RX2) (T := TX2) (N := 3) hx hb hts in2 hown hE.1 hP (38 + 0) (ap_h rfl) rfl 0 (by decide) K10 (fun _ h9 => h9) rfl dX2_pass_24 ?_
            refine lv_dup hx hb dX2_pass_27 rfl ?_
            refine va_getN (D := E.1) (ci := 0) (v := .int (S18a 0)) (C := RX0) (T := TX0) (N := 17) hx hb hts in0 hown hE.1 hP 0 (ap_l (hs_lo 0 (by decide) rfl)) rfl 0 (by decide) (ev_use hE nk_X2_72 rfl) (fun _ h9 => h9) rfl dX2_pass_28 ?_
            refine lv_iconst (v := 1) hx hb dX2_pass_31 (by decide) ?_
            refine lv_iadd hx hb dX2_pass_32 ?_
            refine va_putN (D := E.1) (ci := 0) (v := .int ((S18a 0) + 1)) (ty := .int) (C := RX0) (T := TX0) (N := 17) hx hb hts in0 tyX0 tyX0_ok nmX0 hown hE.1 hP hD hS 0 (ap_l (hs_lo 0 (by decide) rfl)) rfl 0 (by decide) (ev_use hE nk_X2_72 rfl) (fun _ h9 => h9) rfl (by decide +kernel) rfl rfl (Nat.le_of_ble_eq_true rfl) dX2_pass_33 (fun H locs hP hD hS => ?_)
            rw [(set_h (by omega) hs_f0)] at hP hD
            have hP : va_P E.1 vwCl (hs E a (upd S18a 0 ((S18a 0) + 1)) ++ (phc E a o bA cA kp ++ rs)) H := hP
            have hD : va_D A (hs E a (upd S18a 0 ((S18a 0) + 1)) ++ (phc E a o bA cA kp ++ rs)) := hD
            refine lv_iload_n hx hb dX2_pass_36 rfl (lv_at hl 2 rfl) ?_
            refine lv_aload_n hx hb dX2_pass_37 rfl (lv_at hl 0 rfl) ?_
            refine va_get (D := E.1) (ci := 2) (v := .ref (a 0)) (C := RX2) (T := TX2) (N := 3) hx hb hts in2 hown hE.1 hP (38 + 0) (ap_h rfl) rfl 0 (by decide) K10 (fun _ h9 => h9) rfl dX2_pass_38 ?_
            refine ci_VN F hE (k_X0_settleAll l E a (upd S18a 0 ((S18a 0) + 1)) (li_upd hLi (by omega))) ⟨va_cnB 0 hts gX2_pass_X0_settleAll_n55 rfl rfl rfl (ev_link hE nk_X2_55 rfl) (hts (.initialized RX0) (by decide +kernel)) (by decide +kernel) ⟨Nat.le_of_ble_eq_true rfl, Nat.le_of_ble_eq_true rfl⟩, hts (.instanceMethod yX0_settleAll) (by decide +kernel), hts (.selects RX0 yX0_settleAll yX0_settleAll) (by decide +kernel)⟩ Fr.pre 0 0 (hs_lo 0 (by decide) rfl) rfl rfl hP hD hS hA rfl hl.1 rfl (Nat.le_of_ble_eq_true rfl) dX2_pass_41 ⟨Nat.zero_le _, Nat.zero_le _⟩ (fun H locs hP hD hS => ?_)
            have hP : va_P E.1 vwCl (hs E a (s_X0_settleAll (upd S18a 0 ((S18a 0) + 1))) ++ (phc E a o bA cA kp ++ rs)) H := hP
            have hD : va_D A (hs E a (s_X0_settleAll (upd S18a 0 ((S18a 0) + 1))) ++ (phc E a o bA cA kp ++ rs)) := hD
            refine lv_iadd hx hb dX2_pass_44 ?_
            refine lv_istore_n (lv' := [(2, .int (S18b + ((nI (ix ((upd S18a 0 ((S18a 0) + 1)) 41))) - (nI (q_X0_settleAll_9 (upd S18a 0 ((S18a 0) + 1)) ((upd S18a 0 ((S18a 0) + 1)), 0) (ix ((upd S18a 0 ((S18a 0) + 1)) 41))).2)))), (0, .ref (o 0)), (1, .int x), (3, .int (nI i))]) hx hb dX2_pass_45 rfl hl (by decide) rfl (fun ls hl => ?_)
            refine lv_iinc (v := (nI (i + 1))) (lv' := [(3, .int (nI (i + 1))), (2, .int (S18b + ((nI (ix ((upd S18a 0 ((S18a 0) + 1)) 41))) - (nI (q_X0_settleAll_9 (upd S18a 0 ((S18a 0) + 1)) ((upd S18a 0 ((S18a 0) + 1)), 0) (ix ((upd S18a 0 ((S18a 0) + 1)) 41))).2)))), (0, .ref (o 0)), (1, .int x)]) hx hb dX2_pass_46 hl (k := 3) rfl (nI_1 i) (by decide) rfl (fun ls hl => ?_)
            refine lv_goto (tgt := 18) hx hb dX2_pass_49 (by decide) ?_
            have eS1 : (((s_X0_settleAll (upd S18a 0 ((S18a 0) + 1))), (S18b + ((nI (ix ((upd S18a 0 ((S18a 0) + 1)) 41))) - (nI (q_X0_settleAll_9 (upd S18a 0 ((S18a 0) + 1)) ((upd S18a 0 ((S18a 0) + 1)), 0) (ix ((upd S18a 0 ((S18a 0) + 1)) 41))).2)))) : (Nat → Int32) × Int32) = (q_X2_pass_18 g x (g, 0) (i + 1)) := by
              show _ = p_X2_pass_18 g x (q_X2_pass_18 g x (g, 0) i) i
              rw [← eS18]
              rfl
            exact ih (i + 1) (by omega) (by omega) (s_X0_settleAll (upd S18a 0 ((S18a 0) + 1))) (S18b + ((nI (ix ((upd S18a 0 ((S18a 0) + 1)) 41))) - (nI (q_X0_settleAll_9 (upd S18a 0 ((S18a 0) + 1)) ((upd S18a 0 ((S18a 0) + 1)), 0) (ix ((upd S18a 0 ((S18a 0) + 1)) 41))).2))) eS1 _ _ hP hD hS ls (lv_sub hl [2, 3, 1, 0] rfl)
      exact lp18 ((ix x) + 1) 0 (Nat.zero_le _) (by omega) g 0 rfl _ _ hP hD hS ls (lv_sub hl [2, 3, 1, 0] rfl)
    · refine lv_bipush (v := -2) hx hb dX2_pass_11 (by decide) ?_
      have eg : g = (s_X2_pass g x) := (by unfold s_X2_pass; exact ((if_neg c_1).trans (if_neg c_2)).symm)
      exact hret _ _ _ _ _ (by rw [← eg]; exact hP) (by rw [← eg]; exact hD) hS (by unfold f_X2_pass; exact ((if_neg c_1).trans (if_neg c_2)).symm) dX2_pass_13
