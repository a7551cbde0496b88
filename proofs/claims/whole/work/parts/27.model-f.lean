theorem cb_3 {g : Nat → Int32} {n : Nat} (b k : Int32) (h : CB g n) (hn : n < 100) : CB (s_X3_addCause g b k) (n + 1) := by
  obtain ⟨h1, h2⟩ := h
  unfold s_X3_addCause
  split
  · exact ⟨by omega, h2⟩
  · unfold CB
    rw [up_s]
    have e : g 296 + 1 = nI (ix (g 296) + 1) := by rw [← nI_1, ← h2]
    rw [e, ix_nI (by omega)]
    exact ⟨by omega, rfl⟩
theorem ca_of {g : Nat → Int32} {n : Nat} {b : Int32} (h : CB g n) (hn : n < 4) : ¬ b = 0 → ix (g 296) < 4 ∧ g 296 = nI (ix (g 296)) := fun _ => ⟨by have := h.1; omega, h.2⟩
def t1_X3_read (g : Nat → Int32) (x : Int32) (y : Int32) : Nat → Int32 := (s_X3_addCause (upd g 296 0) (if (g (42 + (ix x))) = 0 then 1 else 0 : Int32) 1)
def t2_X3_read (g : Nat → Int32) (x : Int32) (y : Int32) : Nat → Int32 := (s_X3_addCause (t1_X3_read g x y) (f_X3_isOver (t1_X3_read g x y) (ix x) (g (52 + 3 * (ix x) + (ix y) / 4))) 2)
def t3_X3_read (g : Nat → Int32) (x : Int32) (y : Int32) : Nat → Int32 := (s_X3_addCause (t2_X3_read g x y) (f_X3_isOver (t2_X3_read g x y) (ix x) ((t2_X3_read g x y) (142 + 12 * (ix x) + (ix y)))) 3)
def t4_X3_read (g : Nat → Int32) (x : Int32) (y : Int32) : Nat → Int32 := (s_X3_addCause (t3_X3_read g x y) (if 0 ≤ (g (82 + 12 * (ix x) + (ix y))) then 0 else 1 : Int32) 4)
def t5_X3_read (g : Nat → Int32) (x : Int32) (y : Int32) : Nat → Int32 := (s_X3_renew (upd (t4_X3_read g x y) (262 + 6 * (ix x) + 2) (((t4_X3_read g x y) (262 + 6 * (ix x) + 2)) + 1)) (ix x) (ix y))
def t6_X3_read (g : Nat → Int32) (x : Int32) (y : Int32) : Nat → Int32 := (s_X3_renew (upd (t4_X3_read g x y) (262 + 6 * (ix x) + 2) (((t4_X3_read g x y) (262 + 6 * (ix x) + 2)) + 1)) (ix x) (ix y))
def s_X3_read (g : Nat → Int32) (x : Int32) (y : Int32) : Nat → Int32 := (if (f_X3_in x 0 4) = 0 then g else (if (f_X3_in y 0 11) = 0 then g else (if (f_X3_canUse g (ix x) (ix y)) = 0 then (if ((t4_X3_read g x y) (42 + (ix x))) = 0 then (upd (t4_X3_read g x y) (262 + 6 * (ix x) + 3) (((t4_X3_read g x y) (262 + 6 * (ix x) + 3)) + 1)) else (if (f_X3_isOver (upd (t4_X3_read g x y) (262 + 6 * (ix x) + 2) (((t4_X3_read g x y) (262 + 6 * (ix x) + 2)) + 1)) (ix x) (g (52 + 3 * (ix x) + (ix y) / 4))) = 0 then (if ((t4_X3_read g x y) 0) < (g (52 + 3 * (ix x) + (ix y) / 4)) then (if ((t4_X3_read g x y) (17 + (ix y))) < 0 then (upd (upd (upd (upd (upd (t4_X3_read g x y) (262 + 6 * (ix x) + 2) (((t4_X3_read g x y) (262 + 6 * (ix x) + 2)) + 1)) (262 + 6 * (ix x) + 0) ((t4_X3_read g x y) (5 + (ix y)))) (82 + 12 * (ix x) + (ix y)) ((t4_X3_read g x y) (5 + (ix y)))) (142 + 12 * (ix x) + (ix y)) (((t4_X3_read g x y) 0) + ((t4_X3_read g x y) 1))) (202 + 12 * (ix x) + (ix y)) (((t4_X3_read g x y) 0) + ((t4_X3_read g x y) 1))) else (upd (upd (t4_X3_read g x y) (262 + 6 * (ix x) + 2) (((t4_X3_read g x y) (262 + 6 * (ix x) + 2)) + 1)) (262 + 6 * (ix x) + 0) ((t4_X3_read g x y) (5 + (ix y))))) else (if ((t6_X3_read g x y) (17 + (ix y))) < 0 then (upd (upd (upd (upd (t6_X3_read g x y) (262 + 6 * (ix x) + 0) ((t6_X3_read g x y) (5 + (ix y)))) (82 + 12 * (ix x) + (ix y)) ((t6_X3_read g x y) (5 + (ix y)))) (142 + 12 * (ix x) + (ix y)) (((t6_X3_read g x y) 0) + ((t6_X3_read g x y) 1))) (202 + 12 * (ix x) + (ix y)) (((t6_X3_read g x y) 0) + ((t6_X3_read g x y) 1))) else (upd (t6_X3_read g x y) (262 + 6 * (ix x) + 0) ((t6_X3_read g x y) (5 + (ix y)))))) else (if ((t5_X3_read g x y) (17 + (ix y))) < 0 then (upd (upd (upd (upd (t5_X3_read g x y) (262 + 6 * (ix x) + 0) ((t5_X3_read g x y) (5 + (ix y)))) (82 + 12 * (ix x) + (ix y)) ((t5_X3_read g x y) (5 + (ix y)))) (142 + 12 * (ix x) + (ix y)) (((t5_X3_read g x y) 0) + ((t5_X3_read g x y) 1))) (202 + 12 * (ix x) + (ix y)) (((t5_X3_read g x y) 0) + ((t5_X3_read g x y) 1))) else (upd (t5_X3_read g x y) (262 + 6 * (ix x) + 0) ((t5_X3_read g x y) (5 + (ix y))))))) else (upd (upd (upd g (262 + 6 * (ix x) + 0) (g (82 + 12 * (ix x) + (ix y)))) (262 + 6 * (ix x) + 1) ((g (262 + 6 * (ix x) + 1)) + 1)) 303 ((g 303) + (if (if (g (82 + 12 * (ix x) + (ix y))) = (g (5 + (ix y))) then 0 else 1 : Int32) = 0 then 0 else 1 : Int32))))))
def f_X3_read (g : Nat → Int32) (x : Int32) (y : Int32) : Int32 := (if (f_X3_in x 0 4) = 0 then (-1) else (if (f_X3_in y 0 11) = 0 then (-1) else (if (f_X3_canUse g (ix x) (ix y)) = 0 then (if ((t4_X3_read g x y) (42 + (ix x))) = 0 then 4 else (if (f_X3_isOver (upd (t4_X3_read g x y) (262 + 6 * (ix x) + 2) (((t4_X3_read g x y) (262 + 6 * (ix x) + 2)) + 1)) (ix x) (g (52 + 3 * (ix x) + (ix y) / 4))) = 0 then (if ((t4_X3_read g x y) 0) < (g (52 + 3 * (ix x) + (ix y) / 4)) then (if ((t4_X3_read g x y) (17 + (ix y))) < 0 then 2 else 3) else (if ((t6_X3_read g x y) (17 + (ix y))) < 0 then 2 else 3)) else (if ((t5_X3_read g x y) (17 + (ix y))) < 0 then 2 else 3))) else (if (if (g (82 + 12 * (ix x) + (ix y))) = (g (5 + (ix y))) then 0 else 1 : Int32) = 0 then 0 else 1 : Int32))))
set_option maxHeartbeats 4000000 in
set_option maxRecDepth 100000 in
theorem k_X3_read (l : Launch) (E : EE) (a : Nat → Nat) (g im kp : Nat → Int32) (x : Int32) (y : Int32)  : Ci l E yX3_read wsX3_read { frames := 3, cells := 0, slots := 0, locals := 70 } [.ref (a 0), .int x, .int y] (ms E a g im kp) (f_X3_read g x y) (ms E a (s_X3_read g x y) im kp) := by
  refine Ci.of (cc := cX3_read) (maxL := 6) (rt := .int) (by decide) rfl rfl (Nat.le_of_ble_eq_true rfl) ?_
  intro p e s m args below meth c A Q F hE hA hret hP hD ls hl
  obtain ⟨hx, hb, hml, hown, hts⟩ := id F
  have hS : va_S A s.heap s.heap [] := va_S.rf
  have hl : lv_has ls 6 [(0, .ref (a 0)), (1, .int x), (2, .int y)] := hl
  have in3 : ∀ w ∈ wsX30, w ∈ wsX3_read := fun w h => List.mem_cons_of_mem _ (List.mem_append_right _ h)
  have K7 := hts (.fieldLink RX3 7 "PromiseHoursModel" "state" "[I") (by decide +kernel)
  refine lv_iload_n hx hb dX3_read_0 rfl (lv_at hl 1 rfl) ?_
  refine ci_S F hE (k_X3_isReader l E x) (va_cwS 1 hts gX3_read_X3_isReader rfl rfl rfl (by decide +kernel) ⟨Nat.le_of_ble_eq_true rfl, Nat.le_of_ble_eq_true rfl⟩) Fr.nil hP hD hS hA rfl hl.1 rfl (Nat.le_of_ble_eq_true rfl) dX3_read_1 ⟨Nat.zero_le _, Nat.zero_le _⟩ (fun H locs hP hD hS => ?_)
  refine lv_if_eq (tgt := 14) hx hb dX3_read_4 (by decide) (fun c_1 => ?_) (fun c_1 => ?_)
  · refine lv_iconst (v := -1) hx hb dX3_read_14 (by decide) ?_
    have eg : g = (s_X3_read g x y) := (by unfold s_X3_read; exact (if_pos c_1).symm)
    exact hret _ _ _ _ _ (by rw [← eg]; exact hP) (by rw [← eg]; exact hD) hS (by unfold f_X3_read; exact (if_pos c_1).symm) dX3_read_15
  · obtain ⟨b_x, e_x⟩ := in_ix (n := 4) c_1 (by decide) (by decide)
    refine lv_iload_n hx hb dX3_read_7 rfl (lv_at hl 2 rfl) ?_
    refine ci_S F hE (k_X3_isThing l E y) (va_cwS 1 hts gX3_read_X3_isThing rfl rfl rfl (by decide +kernel) ⟨Nat.le_of_ble_eq_true rfl, Nat.le_of_ble_eq_true rfl⟩) Fr.nil hP hD hS hA rfl hl.1 rfl (Nat.le_of_ble_eq_true rfl) dX3_read_8 ⟨Nat.zero_le _, Nat.zero_le _⟩ (fun H locs hP hD hS => ?_)
    refine lv_if_ne (tgt := 16) hx hb dX3_read_11 (by decide) (fun c_2 => ?_) (fun c_2 => ?_)
    · obtain ⟨b_y, e_y⟩ := in_ix (n := 11) c_2 (by decide) (by decide)
      refine lv_aload_n hx hb dX3_read_16 rfl (lv_at hl 0 rfl) ?_
      refine va_get (D := E.1) (ci := 3) (v := .ref (a 1)) (C := RX3) (T := TX3) (N := 3) hx hb hts in3 hown hE.1 hP 0 rfl rfl 0 (by decide) K7 (fun _ h9 => h9) rfl dX3_read_17 ?_
      refine lv_bipush (v := 82) hx hb dX3_read_20 (by decide) ?_
      refine lv_iload_n hx hb dX3_read_22 rfl (lv_at hl 1 rfl) ?_
      refine tpe e_x ?_
      refine lv_iload_n hx hb dX3_read_23 rfl (lv_at hl 2 rfl) ?_
      refine tpe e_y ?_
      refine ci_S F hE (k_X3_thingAt l E 82 (ix x) (ix y)) (va_cwS 3 hts gX3_read_X3_thingAt rfl rfl rfl (by decide +kernel) ⟨Nat.le_of_ble_eq_true rfl, Nat.le_of_ble_eq_true rfl⟩) Fr.nil hP hD hS hA rfl hl.1 rfl (Nat.le_of_ble_eq_true rfl) dX3_read_24 ⟨Nat.zero_le _, Nat.zero_le _⟩ (fun H locs hP hD hS => ?_)
      refine q_iald hx hb hE hP 1 rfl (j := (82 + 12 * (ix x) + (ix y))) (v := (g (82 + 12 * (ix x) + (ix y)))) rfl (by omega) (by decide) rfl dX3_read_27 ?_
      refine lv_istore_n (lv' := [(3, .int (g (82 + 12 * (ix x) + (ix y)))), (0, .ref (a 0)), (1, .int x), (2, .int y)]) hx hb dX3_read_28 rfl hl (by decide) rfl (fun ls hl => ?_)
      refine lv_aload_n hx hb dX3_read_29 rfl (lv_at hl 1 rfl) ?_
      refine va_get (D := E.1) (ci := 3) (v := .ref (a 1)) (C := RX3) (T := TX3) (N := 3) hx hb hts in3 hown hE.1 hP 0 rfl rfl 0 (by decide) K7 (fun _ h9 => h9) rfl dX3_read_30 ?_
      refine lv_bipush (v := 52) hx hb dX3_read_33 (by decide) ?_
      refine lv_iload_n hx hb dX3_read_35 rfl (lv_at hl 2 rfl) ?_
      refine tpe e_x ?_
      refine lv_iload_n hx hb dX3_read_36 rfl (lv_at hl 3 rfl) ?_
      refine tpe e_y ?_
      refine ci_S F hE (k_X3_volumeAt l E 52 (ix x) (ix y) (by omega)) (va_cwS 3 hts gX3_read_X3_volumeAt rfl rfl rfl (by decide +kernel) ⟨Nat.le_of_ble_eq_true rfl, Nat.le_of_ble_eq_true rfl⟩) Fr.nil hP hD hS hA rfl hl.1 rfl (Nat.le_of_ble_eq_true rfl) dX3_read_37 ⟨Nat.zero_le _, Nat.zero_le _⟩ (fun H locs hP hD hS => ?_)
      refine q_iald hx hb hE hP 1 rfl (j := (52 + 3 * (ix x) + (ix y) / 4)) (v := (g (52 + 3 * (ix x) + (ix y) / 4))) rfl (by omega) (by decide) rfl dX3_read_40 ?_
      refine lv_istore (lv' := [(4, .int (g (52 + 3 * (ix x) + (ix y) / 4))), (3, .int (g (82 + 12 * (ix x) + (ix y)))), (0, .ref (a 0)), (1, .int x), (2, .int y)]) hx hb dX3_read_41 hl (by decide) rfl (fun ls hl => ?_)
      refine lv_aload_n hx hb dX3_read_43 rfl (lv_at hl 2 rfl) ?_
      refine lv_iload_n hx hb dX3_read_44 rfl (lv_at hl 3 rfl) ?_
      refine tpe e_x ?_
      refine lv_iload_n hx hb dX3_read_45 rfl (lv_at hl 4 rfl) ?_
      refine tpe e_y ?_
      refine ci_V F hE (k_X3_canUse l E a g im kp (ix x) (ix y) (by omega) (by omega)) (cwV 2 hts gX3_read_X3_canUse rfl rfl rfl (by decide +kernel) ⟨Nat.le_of_ble_eq_true rfl, Nat.le_of_ble_eq_true rfl⟩) Fr.all 0 3 rfl rfl rfl hP hD hS hA rfl hl.1 rfl (Nat.le_of_ble_eq_true rfl) dX3_read_46 ⟨Nat.zero_le _, Nat.zero_le _⟩ (fun H locs hP hD hS => ?_)
      refine lv_if_eq (tgt := 128) hx hb dX3_read_49 (by decide) (fun c_3 => ?_) (fun c_3 => ?_)
      · refine lv_aload_n hx hb dX3_read_128 rfl (lv_at hl 2 rfl) ?_
        refine va_get (D := E.1) (ci := 3) (v := .ref (a 1)) (C := RX3) (T := TX3) (N := 3) hx hb hts in3 hown hE.1 hP 0 rfl rfl 0 (by decide) K7 (fun _ h9 => h9) rfl dX3_read_129 ?_
        refine lv_sipush (v := 296) hx hb dX3_read_132 (by decide) ?_
        refine lv_iconst (v := 0) hx hb dX3_read_135 (by decide) ?_
        refine q_iast hx hb hE hP hD hS 1 rfl (j := 296) (wd' := (ms E a (upd g 296 0) im kp)) rfl (by omega) (by decide) rfl dX3_read_136 (fun H locs hP hD hS => ?_)
        refine lv_aload_n hx hb dX3_read_137 rfl (lv_at hl 2 rfl) ?_
        refine lv_aload_n hx hb dX3_read_138 rfl (lv_at hl 2 rfl) ?_
        refine va_get (D := E.1) (ci := 3) (v := .ref (a 1)) (C := RX3) (T := TX3) (N := 3) hx hb hts in3 hown hE.1 hP 0 rfl rfl 0 (by decide) K7 (fun _ h9 => h9) rfl dX3_read_139 ?_
        refine lv_bipush (v := 42) hx hb dX3_read_142 (by decide) ?_
        refine lv_iload_n hx hb dX3_read_144 rfl (lv_at hl 3 rfl) ?_
        refine tpe e_x ?_
        refine lv_iadd hx hb dX3_read_145 ?_
        refine tpe (y := nI (42 + (ix x))) (nI_add 42 (ix x)) ?_
        refine q_iald hx hb hE hP 1 rfl (j := (42 + (ix x))) (v := (g (42 + (ix x)))) rfl (by omega) (by decide) (up_n (by omega)) dX3_read_146 ?_
        have J_155_4 : ∀ (w : Int32) (H : Heap) (locs : List Loc), va_P E.1 vwCl (ms E a (upd g 296 0) im kp) H → va_D A (ms E a (upd g 296 0) im kp) → va_S A s.heap H locs → w = (if (g (42 + (ix x))) = 0 then 1 else 0 : Int32) → W p l e { frames := 3, cells := 0, slots := 0, locals := 70 } s m args below meth c H locs 0 0 Q (F0 m 155 ls [.int w, .ref (a 0)]) := by
          intro w H locs hP hD hS ew
          rw [ew]
          refine lv_iconst (v := 1) hx hb dX3_read_155 (by decide) ?_
          refine cv_V F hE (k_X3_addCause l E a (upd g 296 0) im kp (if (g (42 + (ix x))) = 0 then 1 else 0 : Int32) 1 (ca_of (cb_0 _) (by decide))) (cwV 2 hts gX3_read_X3_addCause rfl rfl rfl (by decide +kernel) ⟨Nat.le_of_ble_eq_true rfl, Nat.le_of_ble_eq_true rfl⟩) Fr.all 0 3 rfl rfl rfl hP hD hS hA rfl hl.1 rfl (Nat.le_of_ble_eq_true rfl) dX3_read_156 ⟨Nat.zero_le _, Nat.zero_le _⟩ (fun H locs hP hD hS => ?_)
          have hP : va_P E.1 vwCl (ms E a (t1_X3_read g x y) im kp) H := hP
          have hD : va_D A (ms E a (t1_X3_read g x y) im kp) := hD
          refine lv_aload_n hx hb dX3_read_159 rfl (lv_at hl 2 rfl) ?_
          refine lv_aload_n hx hb dX3_read_160 rfl (lv_at hl 2 rfl) ?_
          refine lv_iload_n hx hb dX3_read_161 rfl (lv_at hl 3 rfl) ?_
          refine tpe e_x ?_
          refine lv_iload hx hb dX3_read_162 (lv_at hl 0 rfl) ?_
          refine ci_V F hE (k_X3_isOver l E a (t1_X3_read g x y) im kp (ix x) (g (52 + 3 * (ix x) + (ix y) / 4)) (by omega)) (cwV 2 hts gX3_read_X3_isOver rfl rfl rfl (by decide +kernel) ⟨Nat.le_of_ble_eq_true rfl, Nat.le_of_ble_eq_true rfl⟩) Fr.all 0 3 rfl rfl rfl hP hD hS hA rfl hl.1 rfl (Nat.le_of_ble_eq_true rfl) dX3_read_164 ⟨Nat.zero_le _, Nat.zero_le _⟩ (fun H locs hP hD hS => ?_)
          refine lv_iconst (v := 2) hx hb dX3_read_167 (by decide) ?_
          refine cv_V F hE (k_X3_addCause l E a (t1_X3_read g x y) im kp (f_X3_isOver (t1_X3_read g x y) (ix x) (g (52 + 3 * (ix x) + (ix y) / 4))) 2 (ca_of (cb_3 _ _ (cb_0 _) (by decide)) (by decide))) (cwV 2 hts gX3_read_X3_addCause rfl rfl rfl (by decide +kernel) ⟨Nat.le_of_ble_eq_true rfl, Nat.le_of_ble_eq_true rfl⟩) Fr.all 0 3 rfl rfl rfl hP hD hS hA rfl hl.1 rfl (Nat.le_of_ble_eq_true rfl) dX3_read_168 ⟨Nat.zero_le _, Nat.zero_le _⟩ (fun H locs hP hD hS => ?_)
          have hP : va_P E.1 vwCl (ms E a (t2_X3_read g x y) im kp) H := hP
          have hD : va_D A (ms E a (t2_X3_read g x y) im kp) := hD
          refine lv_aload_n hx hb dX3_read_171 rfl (lv_at hl 2 rfl) ?_
          refine lv_aload_n hx hb dX3_read_172 rfl (lv_at hl 2 rfl) ?_
          refine lv_iload_n hx hb dX3_read_173 rfl (lv_at hl 3 rfl) ?_
          refine tpe e_x ?_
          refine lv_aload_n hx hb dX3_read_174 rfl (lv_at hl 2 rfl) ?_
          refine va_get (D := E.1) (ci := 3) (v := .ref (a 1)) (C := RX3) (T := TX3) (N := 3) hx hb hts in3 hown hE.1 hP 0 rfl rfl 0 (by decide) K7 (fun _ h9 => h9) rfl dX3_read_175 ?_
          refine lv_sipush (v := 142) hx hb dX3_read_178 (by decide) ?_
          refine lv_iload_n hx hb dX3_read_181 rfl (lv_at hl 3 rfl) ?_
          refine tpe e_x ?_
          refine lv_iload_n hx hb dX3_read_182 rfl (lv_at hl 4 rfl) ?_
          refine tpe e_y ?_
          refine ci_S F hE (k_X3_thingAt l E 142 (ix x) (ix y)) (va_cwS 3 hts gX3_read_X3_thingAt rfl rfl rfl (by decide +kernel) ⟨Nat.le_of_ble_eq_true rfl, Nat.le_of_ble_eq_true rfl⟩) Fr.nil hP hD hS hA rfl hl.1 rfl (Nat.le_of_ble_eq_true rfl) dX3_read_183 ⟨Nat.zero_le _, Nat.zero_le _⟩ (fun H locs hP hD hS => ?_)
          refine q_iald hx hb hE hP 1 rfl (j := (142 + 12 * (ix x) + (ix y))) (v := ((t2_X3_read g x y) (142 + 12 * (ix x) + (ix y)))) rfl (by omega) (by decide) rfl dX3_read_186 ?_
          refine ci_V F hE (k_X3_isOver l E a (t2_X3_read g x y) im kp (ix x) ((t2_X3_read g x y) (142 + 12 * (ix x) + (ix y))) (by omega)) (cwV 2 hts gX3_read_X3_isOver rfl rfl rfl (by decide +kernel) ⟨Nat.le_of_ble_eq_true rfl, Nat.le_of_ble_eq_true rfl⟩) Fr.all 0 3 rfl rfl rfl hP hD hS hA rfl hl.1 rfl (Nat.le_of_ble_eq_true rfl) dX3_read_187 ⟨Nat.zero_le _, Nat.zero_le _⟩ (fun H locs hP hD hS => ?_)
          refine lv_iconst (v := 3) hx hb dX3_read_190 (by decide) ?_
          refine cv_V F hE (k_X3_addCause l E a (t2_X3_read g x y) im kp (f_X3_isOver (t2_X3_read g x y) (ix x) ((t2_X3_read g x y) (142 + 12 * (ix x) + (ix y)))) 3 (ca_of (cb_3 _ _ (cb_3 _ _ (cb_0 _) (by decide)) (by decide)) (by decide))) (cwV 2 hts gX3_read_X3_addCause rfl rfl rfl (by decide +kernel) ⟨Nat.le_of_ble_eq_true rfl, Nat.le_of_ble_eq_true rfl⟩) Fr.all 0 3 rfl rfl rfl hP hD hS hA rfl hl.1 rfl (Nat.le_of_ble_eq_true rfl) dX3_read_191 ⟨Nat.zero_le _, Nat.zero_le _⟩ (fun H locs hP hD hS => ?_)
          have hP : va_P E.1 vwCl (ms E a (t3_X3_read g x y) im kp) H := hP
          have hD : va_D A (ms E a (t3_X3_read g x y) im kp) := hD
          refine lv_aload_n hx hb dX3_read_194 rfl (lv_at hl 2 rfl) ?_
          refine lv_iload_n hx hb dX3_read_195 rfl (lv_at hl 1 rfl) ?_
          have J_204_6 : ∀ (w : Int32) (H : Heap) (locs : List Loc), va_P E.1 vwCl (ms E a (t3_X3_read g x y) im kp) H → va_D A (ms E a (t3_X3_read g x y) im kp) → va_S A s.heap H locs → w = (if 0 ≤ (g (82 + 12 * (ix x) + (ix y))) then 0 else 1 : Int32) → W p l e { frames := 3, cells := 0, slots := 0, locals := 70 } s m args below meth c H locs 0 0 Q (F0 m 204 ls [.int w, .ref (a 0)]) := by
            intro w H locs hP hD hS ew
            rw [ew]
            refine lv_iconst (v := 4) hx hb dX3_read_204 (by decide) ?_
            refine cv_V F hE (k_X3_addCause l E a (t3_X3_read g x y) im kp (if 0 ≤ (g (82 + 12 * (ix x) + (ix y))) then 0 else 1 : Int32) 4 (ca_of (cb_3 _ _ (cb_3 _ _ (cb_3 _ _ (cb_0 _) (by decide)) (by decide)) (by decide)) (by decide))) (cwV 2 hts gX3_read_X3_addCause rfl rfl rfl (by decide +kernel) ⟨Nat.le_of_ble_eq_true rfl, Nat.le_of_ble_eq_true rfl⟩) Fr.all 0 3 rfl rfl rfl hP hD hS hA rfl hl.1 rfl (Nat.le_of_ble_eq_true rfl) dX3_read_205 ⟨Nat.zero_le _, Nat.zero_le _⟩ (fun H locs hP hD hS => ?_)
            have hP : va_P E.1 vwCl (ms E a (t4_X3_read g x y) im kp) H := hP
            have hD : va_D A (ms E a (t4_X3_read g x y) im kp) := hD
            refine lv_aload_n hx hb dX3_read_208 rfl (lv_at hl 2 rfl) ?_
            refine va_get (D := E.1) (ci := 3) (v := .ref (a 1)) (C := RX3) (T := TX3) (N := 3) hx hb hts in3 hown hE.1 hP 0 rfl rfl 0 (by decide) K7 (fun _ h9 => h9) rfl dX3_read_209 ?_
            refine lv_bipush (v := 42) hx hb dX3_read_212 (by decide) ?_
            refine lv_iload_n hx hb dX3_read_214 rfl (lv_at hl 3 rfl) ?_
            refine tpe e_x ?_
            refine lv_iadd hx hb dX3_read_215 ?_
            refine tpe (y := nI (42 + (ix x))) (nI_add 42 (ix x)) ?_
            refine q_iald hx hb hE hP 1 rfl (j := (42 + (ix x))) (v := ((t4_X3_read g x y) (42 + (ix x)))) rfl (by omega) (by decide) rfl dX3_read_216 ?_
            refine lv_if_ne (tgt := 236) hx hb dX3_read_217 (by decide) (fun c_8 => ?_) (fun c_8 => ?_)
            · refine lv_aload_n hx hb dX3_read_236 rfl (lv_at hl 2 rfl) ?_
              refine va_get (D := E.1) (ci := 3) (v := .ref (a 1)) (C := RX3) (T := TX3) (N := 3) hx hb hts in3 hown hE.1 hP 0 rfl rfl 0 (by decide) K7 (fun _ h9 => h9) rfl dX3_read_237 ?_
              refine lv_iload_n hx hb dX3_read_240 rfl (lv_at hl 3 rfl) ?_
              refine tpe e_x ?_
              refine lv_iconst (v := 2) hx hb dX3_read_241 (by decide) ?_
              refine ci_S F hE (k_X3_said l E (ix x) 2) (va_cwS 2 hts gX3_read_X3_said rfl rfl rfl (by decide +kernel) ⟨Nat.le_of_ble_eq_true rfl, Nat.le_of_ble_eq_true rfl⟩) Fr.nil hP hD hS hA rfl hl.1 rfl (Nat.le_of_ble_eq_true rfl) dX3_read_242 ⟨Nat.zero_le _, Nat.zero_le _⟩ (fun H locs hP hD hS => ?_)
              refine lv_dup2_11 hx hb dX3_read_245 rfl rfl ?_
              refine q_iald hx hb hE hP 1 rfl (j := (262 + 6 * (ix x) + 2)) (v := ((t4_X3_read g x y) (262 + 6 * (ix x) + 2))) rfl (by omega) (by decide) rfl dX3_read_246 ?_
              refine lv_iconst (v := 1) hx hb dX3_read_247 (by decide) ?_
              refine lv_iadd hx hb dX3_read_248 ?_
              refine q_iast hx hb hE hP hD hS 1 rfl (j := (262 + 6 * (ix x) + 2)) (wd' := (ms E a (upd (t4_X3_read g x y) (262 + 6 * (ix x) + 2) (((t4_X3_read g x y) (262 + 6 * (ix x) + 2)) + 1)) im kp)) rfl (by omega) (by decide) rfl dX3_read_249 (fun H locs hP hD hS => ?_)
              refine lv_aload_n hx hb dX3_read_250 rfl (lv_at hl 2 rfl) ?_
              refine lv_iload_n hx hb dX3_read_251 rfl (lv_at hl 3 rfl) ?_
              refine tpe e_x ?_
              refine lv_iload hx hb dX3_read_252 (lv_at hl 0 rfl) ?_
              refine ci_V F hE (k_X3_isOver l E a (upd (t4_X3_read g x y) (262 + 6 * (ix x) + 2) (((t4_X3_read g x y) (262 + 6 * (ix x) + 2)) + 1)) im kp (ix x) (g (52 + 3 * (ix x) + (ix y) / 4)) (by omega)) (cwV 2 hts gX3_read_X3_isOver rfl rfl rfl (by decide +kernel) ⟨Nat.le_of_ble_eq_true rfl, Nat.le_of_ble_eq_true rfl⟩) Fr.all 0 3 rfl rfl rfl hP hD hS hA rfl hl.1 rfl (Nat.le_of_ble_eq_true rfl) dX3_read_254 ⟨Nat.zero_le _, Nat.zero_le _⟩ (fun H locs hP hD hS => ?_)
              refine lv_if_ne (tgt := 271) hx hb dX3_read_257 (by decide) (fun c_9 => ?_) (fun c_9 => ?_)
              · refine lv_aload_n hx hb dX3_read_271 rfl (lv_at hl 2 rfl) ?_
                refine lv_iload_n hx hb dX3_read_272 rfl (lv_at hl 3 rfl) ?_
                refine tpe e_x ?_
                refine lv_iload_n hx hb dX3_read_273 rfl (lv_at hl 4 rfl) ?_
                refine tpe e_y ?_
                refine cv_V F hE (k_X3_renew l E a (upd (t4_X3_read g x y) (262 + 6 * (ix x) + 2) (((t4_X3_read g x y) (262 + 6 * (ix x) + 2)) + 1)) im kp (ix x) (ix y) (by omega) (by omega)) (cwV 2 hts gX3_read_X3_renew rfl rfl rfl (by decide +kernel) ⟨Nat.le_of_ble_eq_true rfl, Nat.le_of_ble_eq_true rfl⟩) Fr.all 0 3 rfl rfl rfl hP hD hS hA rfl hl.1 rfl (Nat.le_of_ble_eq_true rfl) dX3_read_274 ⟨Nat.zero_le _, Nat.zero_le _⟩ (fun H locs hP hD hS => ?_)
                have hP : va_P E.1 vwCl (ms E a (t5_X3_read g x y) im kp) H := hP
                have hD : va_D A (ms E a (t5_X3_read g x y) im kp) := hD
                refine lv_aload_n hx hb dX3_read_277 rfl (lv_at hl 2 rfl) ?_
                refine va_get (D := E.1) (ci := 3) (v := .ref (a 1)) (C := RX3) (T := TX3) (N := 3) hx hb hts in3 hown hE.1 hP 0 rfl rfl 0 (by decide) K7 (fun _ h9 => h9) rfl dX3_read_278 ?_
                refine lv_iload_n hx hb dX3_read_281 rfl (lv_at hl 3 rfl) ?_
                refine tpe e_x ?_
                refine lv_iconst (v := 0) hx hb dX3_read_282 (by decide) ?_
                refine ci_S F hE (k_X3_said l E (ix x) 0) (va_cwS 2 hts gX3_read_X3_said rfl rfl rfl (by decide +kernel) ⟨Nat.le_of_ble_eq_true rfl, Nat.le_of_ble_eq_true rfl⟩) Fr.nil hP hD hS hA rfl hl.1 rfl (Nat.le_of_ble_eq_true rfl) dX3_read_283 ⟨Nat.zero_le _, Nat.zero_le _⟩ (fun H locs hP hD hS => ?_)
                refine lv_aload_n hx hb dX3_read_286 rfl (lv_at hl 2 rfl) ?_
                refine va_get (D := E.1) (ci := 3) (v := .ref (a 1)) (C := RX3) (T := TX3) (N := 3) hx hb hts in3 hown hE.1 hP 0 rfl rfl 0 (by decide) K7 (fun _ h9 => h9) rfl dX3_read_287 ?_
                refine lv_iconst (v := 5) hx hb dX3_read_290 (by decide) ?_
                refine lv_iload_n hx hb dX3_read_291 rfl (lv_at hl 4 rfl) ?_
                refine tpe e_y ?_
                refine lv_iadd hx hb dX3_read_292 ?_
                refine tpe (y := nI (5 + (ix y))) (nI_add 5 (ix y)) ?_
                refine q_iald hx hb hE hP 1 rfl (j := (5 + (ix y))) (v := ((t5_X3_read g x y) (5 + (ix y)))) rfl (by omega) (by decide) rfl dX3_read_293 ?_
                refine q_iast hx hb hE hP hD hS 1 rfl (j := (262 + 6 * (ix x) + 0)) (wd' := (ms E a (upd (t5_X3_read g x y) (262 + 6 * (ix x) + 0) ((t5_X3_read g x y) (5 + (ix y)))) im kp)) rfl (by omega) (by decide) rfl dX3_read_294 (fun H locs hP hD hS => ?_)
                refine lv_aload_n hx hb dX3_read_295 rfl (lv_at hl 2 rfl) ?_
                refine va_get (D := E.1) (ci := 3) (v := .ref (a 1)) (C := RX3) (T := TX3) (N := 3) hx hb hts in3 hown hE.1 hP 0 rfl rfl 0 (by decide) K7 (fun _ h9 => h9) rfl dX3_read_296 ?_
                refine lv_bipush (v := 17) hx hb dX3_read_299 (by decide) ?_
                refine lv_iload_n hx hb dX3_read_301 rfl (lv_at hl 4 rfl) ?_
                refine tpe e_y ?_
                refine lv_iadd hx hb dX3_read_302 ?_
                refine tpe (y := nI (17 + (ix y))) (nI_add 17 (ix y)) ?_
                refine q_iald hx hb hE hP 1 rfl (j := (17 + (ix y))) (v := ((t5_X3_read g x y) (17 + (ix y)))) rfl (by omega) (by decide) (up_n (by omega)) dX3_read_303 ?_
                refine lv_if_lt (tgt := 309) hx hb dX3_read_304 (by decide) (fun c_10 => ?_) (fun c_10 => ?_)
                · refine lv_aload_n hx hb dX3_read_309 rfl (lv_at hl 2 rfl) ?_
                  refine va_get (D := E.1) (ci := 3) (v := .ref (a 1)) (C := RX3) (T := TX3) (N := 3) hx hb hts in3 hown hE.1 hP 0 rfl rfl 0 (by decide) K7 (fun _ h9 => h9) rfl dX3_read_310 ?_
                  refine lv_bipush (v := 82) hx hb dX3_read_313 (by decide) ?_
                  refine lv_iload_n hx hb dX3_read_315 rfl (lv_at hl 3 rfl) ?_
                  refine tpe e_x ?_
                  refine lv_iload_n hx hb dX3_read_316 rfl (lv_at hl 4 rfl) ?_
                  refine tpe e_y ?_
                  refine ci_S F hE (k_X3_thingAt l E 82 (ix x) (ix y)) (va_cwS 3 hts gX3_read_X3_thingAt rfl rfl rfl (by decide +kernel) ⟨Nat.le_of_ble_eq_true rfl, Nat.le_of_ble_eq_true rfl⟩) Fr.nil hP hD hS hA rfl hl.1 rfl (Nat.le_of_ble_eq_true rfl) dX3_read_317 ⟨Nat.zero_le _, Nat.zero_le _⟩ (fun H locs hP hD hS => ?_)
                  refine lv_aload_n hx hb dX3_read_320 rfl (lv_at hl 2 rfl) ?_
                  refine va_get (D := E.1) (ci := 3) (v := .ref (a 1)) (C := RX3) (T := TX3) (N := 3) hx hb hts in3 hown hE.1 hP 0 rfl rfl 0 (by decide) K7 (fun _ h9 => h9) rfl dX3_read_321 ?_
                  refine lv_iconst (v := 5) hx hb dX3_read_324 (by decide) ?_
                  refine lv_iload_n hx hb dX3_read_325 rfl (lv_at hl 4 rfl) ?_
                  refine tpe e_y ?_
                  refine lv_iadd hx hb dX3_read_326 ?_
                  refine tpe (y := nI (5 + (ix y))) (nI_add 5 (ix y)) ?_
                  refine q_iald hx hb hE hP 1 rfl (j := (5 + (ix y))) (v := ((t5_X3_read g x y) (5 + (ix y)))) rfl (by omega) (by decide) (up_n (by omega)) dX3_read_327 ?_
                  refine q_iast hx hb hE hP hD hS 1 rfl (j := (82 + 12 * (ix x) + (ix y))) (wd' := (ms E a (upd (upd (t5_X3_read g x y) (262 + 6 * (ix x) + 0) ((t5_X3_read g x y) (5 + (ix y)))) (82 + 12 * (ix x) + (ix y)) ((t5_X3_read g x y) (5 + (ix y)))) im kp)) rfl (by omega) (by decide) rfl dX3_read_328 (fun H locs hP hD hS => ?_)
                  refine lv_aload_n hx hb dX3_read_329 rfl (lv_at hl 2 rfl) ?_
                  refine va_get (D := E.1) (ci := 3) (v := .ref (a 1)) (C := RX3) (T := TX3) (N := 3) hx hb hts in3 hown hE.1 hP 0 rfl rfl 0 (by decide) K7 (fun _ h9 => h9) rfl dX3_read_330 ?_
                  refine lv_sipush (v := 142) hx hb dX3_read_333 (by decide) ?_
                  refine lv_iload_n hx hb dX3_read_336 rfl (lv_at hl 3 rfl) ?_
                  refine tpe e_x ?_
                  refine lv_iload_n hx hb dX3_read_337 rfl (lv_at hl 4 rfl) ?_
                  refine tpe e_y ?_
                  refine ci_S F hE (k_X3_thingAt l E 142 (ix x) (ix y)) (va_cwS 3 hts gX3_read_X3_thingAt rfl rfl rfl (by decide +kernel) ⟨Nat.le_of_ble_eq_true rfl, Nat.le_of_ble_eq_true rfl⟩) Fr.nil hP hD hS hA rfl hl.1 rfl (Nat.le_of_ble_eq_true rfl) dX3_read_338 ⟨Nat.zero_le _, Nat.zero_le _⟩ (fun H locs hP hD hS => ?_)
                  refine lv_aload_n hx hb dX3_read_341 rfl (lv_at hl 2 rfl) ?_
                  refine va_get (D := E.1) (ci := 3) (v := .ref (a 1)) (C := RX3) (T := TX3) (N := 3) hx hb hts in3 hown hE.1 hP 0 rfl rfl 0 (by decide) K7 (fun _ h9 => h9) rfl dX3_read_342 ?_
                  refine lv_iconst (v := 0) hx hb dX3_read_345 (by decide) ?_
                  refine q_iald hx hb hE hP 1 rfl (j := 0) (v := ((t5_X3_read g x y) 0)) rfl (by omega) (by decide) ((up_n (by omega)).trans (up_n (by omega))) dX3_read_346 ?_
                  refine lv_aload_n hx hb dX3_read_347 rfl (lv_at hl 2 rfl) ?_
                  refine va_get (D := E.1) (ci := 3) (v := .ref (a 1)) (C := RX3) (T := TX3) (N := 3) hx hb hts in3 hown hE.1 hP 0 rfl rfl 0 (by decide) K7 (fun _ h9 => h9) rfl dX3_read_348 ?_
                  refine lv_iconst (v := 1) hx hb dX3_read_351 (by decide) ?_
                  refine q_iald hx hb hE hP 1 rfl (j := 1) (v := ((t5_X3_read g x y) 1)) rfl (by omega) (by decide) ((up_n (by omega)).trans (up_n (by omega))) dX3_read_352 ?_
                  refine lv_iadd hx hb dX3_read_353 ?_
                  refine q_iast hx hb hE hP hD hS 1 rfl (j := (142 + 12 * (ix x) + (ix y))) (wd' := (ms E a (upd (upd (upd (t5_X3_read g x y) (262 + 6 * (ix x) + 0) ((t5_X3_read g x y) (5 + (ix y)))) (82 + 12 * (ix x) + (ix y)) ((t5_X3_read g x y) (5 + (ix y)))) (142 + 12 * (ix x) + (ix y)) (((t5_X3_read g x y) 0) + ((t5_X3_read g x y) 1))) im kp)) rfl (by omega) (by decide) rfl dX3_read_354 (fun H locs hP hD hS => ?_)
                  refine lv_aload_n hx hb dX3_read_355 rfl (lv_at hl 2 rfl) ?_
                  refine va_get (D := E.1) (ci := 3) (v := .ref (a 1)) (C := RX3) (T := TX3) (N := 3) hx hb hts in3 hown hE.1 hP 0 rfl rfl 0 (by decide) K7 (fun _ h9 => h9) rfl dX3_read_356 ?_
                  refine lv_sipush (v := 202) hx hb dX3_read_359 (by decide) ?_
                  refine lv_iload_n hx hb dX3_read_362 rfl (lv_at hl 3 rfl) ?_
                  refine tpe e_x ?_
                  refine lv_iload_n hx hb dX3_read_363 rfl (lv_at hl 4 rfl) ?_
                  refine tpe e_y ?_
                  refine ci_S F hE (k_X3_thingAt l E 202 (ix x) (ix y)) (va_cwS 3 hts gX3_read_X3_thingAt rfl rfl rfl (by decide +kernel) ⟨Nat.le_of_ble_eq_true rfl, Nat.le_of_ble_eq_true rfl⟩) Fr.nil hP hD hS hA rfl hl.1 rfl (Nat.le_of_ble_eq_true rfl) dX3_read_364 ⟨Nat.zero_le _, Nat.zero_le _⟩ (fun H locs hP hD hS => ?_)
                  refine lv_aload_n hx hb dX3_read_367 rfl (lv_at hl 2 rfl) ?_
                  refine va_get (D := E.1) (ci := 3) (v := .ref (a 1)) (C := RX3) (T := TX3) (N := 3) hx hb hts in3 hown hE.1 hP 0 rfl rfl 0 (by decide) K7 (fun _ h9 => h9) rfl dX3_read_368 ?_
                  refine lv_iconst (v := 0) hx hb dX3_read_371 (by decide) ?_
                  refine q_iald hx hb hE hP 1 rfl (j := 0) (v := ((t5_X3_read g x y) 0)) rfl (by omega) (by decide) ((up_n (by omega)).trans ((up_n (by omega)).trans (up_n (by omega)))) dX3_read_372 ?_
                  refine lv_aload_n hx hb dX3_read_373 rfl (lv_at hl 2 rfl) ?_
                  refine va_get (D := E.1) (ci := 3) (v := .ref (a 1)) (C := RX3) (T := TX3) (N := 3) hx hb hts in3 hown hE.1 hP 0 rfl rfl 0 (by decide) K7 (fun _ h9 => h9) rfl dX3_read_374 ?_
                  refine lv_iconst (v := 1) hx hb dX3_read_377 (by decide) ?_
                  refine q_iald hx hb hE hP 1 rfl (j := 1) (v := ((t5_X3_read g x y) 1)) rfl (by omega) (by decide) ((up_n (by omega)).trans ((up_n (by omega)).trans (up_n (by omega)))) dX3_read_378 ?_
                  refine lv_iadd hx hb dX3_read_379 ?_
                  refine q_iast hx hb hE hP hD hS 1 rfl (j := (202 + 12 * (ix x) + (ix y))) (wd' := (ms E a (upd (upd (upd (upd (t5_X3_read g x y) (262 + 6 * (ix x) + 0) ((t5_X3_read g x y) (5 + (ix y)))) (82 + 12 * (ix x) + (ix y)) ((t5_X3_read g x y) (5 + (ix y)))) (142 + 12 * (ix x) + (ix y)) (((t5_X3_read g x y) 0) + ((t5_X3_read g x y) 1))) (202 + 12 * (ix x) + (ix y)) (((t5_X3_read g x y) 0) + ((t5_X3_read g x y) 1))) im kp)) rfl (by omega) (by decide) rfl dX3_read_380 (fun H locs hP hD hS => ?_)
                  refine lv_iconst (v := 2) hx hb dX3_read_381 (by decide) ?_
                  have eg : (upd (upd (upd (upd (t5_X3_read g x y) (262 + 6 * (ix x) + 0) ((t5_X3_read g x y) (5 + (ix y)))) (82 + 12 * (ix x) + (ix y)) ((t5_X3_read g x y) (5 + (ix y)))) (142 + 12 * (ix x) + (ix y)) (((t5_X3_read g x y) 0) + ((t5_X3_read g x y) 1))) (202 + 12 * (ix x) + (ix y)) (((t5_X3_read g x y) 0) + ((t5_X3_read g x y) 1))) = (s_X3_read g x y) := (by unfold s_X3_read; exact ((if_neg c_1).trans ((if_neg c_2).trans ((if_pos c_3).trans ((if_neg c_8).trans ((if_neg c_9).trans (if_pos c_10)))))).symm)
                  exact hret _ _ _ _ _ (by rw [← eg]; exact hP) (by rw [← eg]; exact hD) hS (by unfold f_X3_read; exact ((if_neg c_1).trans ((if_neg c_2).trans ((if_pos c_3).trans ((if_neg c_8).trans ((if_neg c_9).trans (if_pos c_10)))))).symm) dX3_read_382
                · refine lv_iconst (v := 3) hx hb dX3_read_307 (by decide) ?_
                  have eg : (upd (t5_X3_read g x y) (262 + 6 * (ix x) + 0) ((t5_X3_read g x y) (5 + (ix y)))) = (s_X3_read g x y) := (by unfold s_X3_read; exact ((if_neg c_1).trans ((if_neg c_2).trans ((if_pos c_3).trans ((if_neg c_8).trans ((if_neg c_9).trans (if_neg c_10)))))).symm)
                  exact hret _ _ _ _ _ (by rw [← eg]; exact hP) (by rw [← eg]; exact hD) hS (by unfold f_X3_read; exact ((if_neg c_1).trans ((if_neg c_2).trans ((if_pos c_3).trans ((if_neg c_8).trans ((if_neg c_9).trans (if_neg c_10)))))).symm) dX3_read_308
              · refine lv_iload hx hb dX3_read_260 (lv_at hl 0 rfl) ?_
                refine lv_aload_n hx hb dX3_read_262 rfl (lv_at hl 2 rfl) ?_
                refine va_get (D := E.1) (ci := 3) (v := .ref (a 1)) (C := RX3) (T := TX3) (N := 3) hx hb hts in3 hown hE.1 hP 0 rfl rfl 0 (by decide) K7 (fun _ h9 => h9) rfl dX3_read_263 ?_
                refine lv_iconst (v := 0) hx hb dX3_read_266 (by decide) ?_
                refine q_iald hx hb hE hP 1 rfl (j := 0) (v := ((t4_X3_read g x y) 0)) rfl (by omega) (by decide) (up_n (by omega)) dX3_read_267 ?_
                refine lv_icmp_gt (tgt := 277) hx hb dX3_read_268 (by decide) (fun c_11 => ?_) (fun c_11 => ?_)
                · refine lv_aload_n hx hb dX3_read_277 rfl (lv_at hl 2 rfl) ?_
                  refine va_get (D := E.1) (ci := 3) (v := .ref (a 1)) (C := RX3) (T := TX3) (N := 3) hx hb hts in3 hown hE.1 hP 0 rfl rfl 0 (by decide) K7 (fun _ h9 => h9) rfl dX3_read_278 ?_
                  refine lv_iload_n hx hb dX3_read_281 rfl (lv_at hl 3 rfl) ?_
                  refine tpe e_x ?_
                  refine lv_iconst (v := 0) hx hb dX3_read_282 (by decide) ?_
                  refine ci_S F hE (k_X3_said l E (ix x) 0) (va_cwS 2 hts gX3_read_X3_said rfl rfl rfl (by decide +kernel) ⟨Nat.le_of_ble_eq_true rfl, Nat.le_of_ble_eq_true rfl⟩) Fr.nil hP hD hS hA rfl hl.1 rfl (Nat.le_of_ble_eq_true rfl) dX3_read_283 ⟨Nat.zero_le _, Nat.zero_le _⟩ (fun H locs hP hD hS => ?_)
                  refine lv_aload_n hx hb dX3_read_286 rfl (lv_at hl 2 rfl) ?_
                  refine va_get (D := E.1) (ci := 3) (v := .ref (a 1)) (C := RX3) (T := TX3) (N := 3) hx hb hts in3 hown hE.1 hP 0 rfl rfl 0 (by decide) K7 (fun _ h9 => h9) rfl dX3_read_287 ?_
                  refine lv_iconst (v := 5) hx hb dX3_read_290 (by decide) ?_
                  refine lv_iload_n hx hb dX3_read_291 rfl (lv_at hl 4 rfl) ?_
                  refine tpe e_y ?_
                  refine lv_iadd hx hb dX3_read_292 ?_
                  refine tpe (y := nI (5 + (ix y))) (nI_add 5 (ix y)) ?_
                  refine q_iald hx hb hE hP 1 rfl (j := (5 + (ix y))) (v := ((t4_X3_read g x y) (5 + (ix y)))) rfl (by omega) (by decide) (up_n (by omega)) dX3_read_293 ?_
                  refine q_iast hx hb hE hP hD hS 1 rfl (j := (262 + 6 * (ix x) + 0)) (wd' := (ms E a (upd (upd (t4_X3_read g x y) (262 + 6 * (ix x) + 2) (((t4_X3_read g x y) (262 + 6 * (ix x) + 2)) + 1)) (262 + 6 * (ix x) + 0) ((t4_X3_read g x y) (5 + (ix y)))) im kp)) rfl (by omega) (by decide) rfl dX3_read_294 (fun H locs hP hD hS => ?_)
                  refine lv_aload_n hx hb dX3_read_295 rfl (lv_at hl 2 rfl) ?_
                  refine va_get (D := E.1) (ci := 3) (v := .ref (a 1)) (C := RX3) (T := TX3) (N := 3) hx hb hts in3 hown hE.1 hP 0 rfl rfl 0 (by decide) K7 (fun _ h9 => h9) rfl dX3_read_296 ?_
                  refine lv_bipush (v := 17) hx hb dX3_read_299 (by decide) ?_
                  refine lv_iload_n hx hb dX3_read_301 rfl (lv_at hl 4 rfl) ?_
                  refine tpe e_y ?_
                  refine lv_iadd hx hb dX3_read_302 ?_
                  refine tpe (y := nI (17 + (ix y))) (nI_add 17 (ix y)) ?_
                  refine q_iald hx hb hE hP 1 rfl (j := (17 + (ix y))) (v := ((t4_X3_read g x y) (17 + (ix y)))) rfl (by omega) (by decide) ((up_n (by omega)).trans (up_n (by omega))) dX3_read_303 ?_
                  refine lv_if_lt (tgt := 309) hx hb dX3_read_304 (by decide) (fun c_12 => ?_) (fun c_12 => ?_)
                  · refine lv_aload_n hx hb dX3_read_309 rfl (lv_at hl 2 rfl) ?_
                    refine va_get (D := E.1) (ci := 3) (v := .ref (a 1)) (C := RX3) (T := TX3) (N := 3) hx hb hts in3 hown hE.1 hP 0 rfl rfl 0 (by decide) K7 (fun _ h9 => h9) rfl dX3_read_310 ?_
                    refine lv_bipush (v := 82) hx hb dX3_read_313 (by decide) ?_
                    refine lv_iload_n hx hb dX3_read_315 rfl (lv_at hl 3 rfl) ?_
                    refine tpe e_x ?_
                    refine lv_iload_n hx hb dX3_read_316 rfl (lv_at hl 4 rfl) ?_
                    refine tpe e_y ?_
                    refine ci_S F hE (k_X3_thingAt l E 82 (ix x) (ix y)) (va_cwS 3 hts gX3_read_X3_thingAt rfl rfl rfl (by decide +kernel) ⟨Nat.le_of_ble_eq_true rfl, Nat.le_of_ble_eq_true rfl⟩) Fr.nil hP hD hS hA rfl hl.1 rfl (Nat.le_of_ble_eq_true rfl) dX3_read_317 ⟨Nat.zero_le _, Nat.zero_le _⟩ (fun H locs hP hD hS => ?_)
                    refine lv_aload_n hx hb dX3_read_320 rfl (lv_at hl 2 rfl) ?_
                    refine va_get (D := E.1) (ci := 3) (v := .ref (a 1)) (C := RX3) (T := TX3) (N := 3) hx hb hts in3 hown hE.1 hP 0 rfl rfl 0 (by decide) K7 (fun _ h9 => h9) rfl dX3_read_321 ?_
                    refine lv_iconst (v := 5) hx hb dX3_read_324 (by decide) ?_
                    refine lv_iload_n hx hb dX3_read_325 rfl (lv_at hl 4 rfl) ?_
                    refine tpe e_y ?_
                    refine lv_iadd hx hb dX3_read_326 ?_
                    refine tpe (y := nI (5 + (ix y))) (nI_add 5 (ix y)) ?_
                    refine q_iald hx hb hE hP 1 rfl (j := (5 + (ix y))) (v := ((t4_X3_read g x y) (5 + (ix y)))) rfl (by omega) (by decide) ((up_n (by omega)).trans (up_n (by omega))) dX3_read_327 ?_
                    refine q_iast hx hb hE hP hD hS 1 rfl (j := (82 + 12 * (ix x) + (ix y))) (wd' := (ms E a (upd (upd (upd (t4_X3_read g x y) (262 + 6 * (ix x) + 2) (((t4_X3_read g x y) (262 + 6 * (ix x) + 2)) + 1)) (262 + 6 * (ix x) + 0) ((t4_X3_read g x y) (5 + (ix y)))) (82 + 12 * (ix x) + (ix y)) ((t4_X3_read g x y) (5 + (ix y)))) im kp)) rfl (by omega) (by decide) rfl dX3_read_328 (fun H locs hP hD hS => ?_)
                    refine lv_aload_n hx hb dX3_read_329 rfl (lv_at hl 2 rfl) ?_
                    refine va_get (D := E.1) (ci := 3) (v := .ref (a 1)) (C := RX3) (T := TX3) (N := 3) hx hb hts in3 hown hE.1 hP 0 rfl rfl 0 (by decide) K7 (fun _ h9 => h9) rfl dX3_read_330 ?_
                    refine lv_sipush (v := 142) hx hb dX3_read_333 (by decide) ?_
                    refine lv_iload_n hx hb dX3_read_336 rfl (lv_at hl 3 rfl) ?_
                    refine tpe e_x ?_
                    refine lv_iload_n hx hb dX3_read_337 rfl (lv_at hl 4 rfl) ?_
                    refine tpe e_y ?_
                    refine ci_S F hE (k_X3_thingAt l E 142 (ix x) (ix y)) (va_cwS 3 hts gX3_read_X3_thingAt rfl rfl rfl (by decide +kernel) ⟨Nat.le_of_ble_eq_true rfl, Nat.le_of_ble_eq_true rfl⟩) Fr.nil hP hD hS hA rfl hl.1 rfl (Nat.le_of_ble_eq_true rfl) dX3_read_338 ⟨Nat.zero_le _, Nat.zero_le _⟩ (fun H locs hP hD hS => ?_)
                    refine lv_aload_n hx hb dX3_read_341 rfl (lv_at hl 2 rfl) ?_
                    refine va_get (D := E.1) (ci := 3) (v := .ref (a 1)) (C := RX3) (T := TX3) (N := 3) hx hb hts in3 hown hE.1 hP 0 rfl rfl 0 (by decide) K7 (fun _ h9 => h9) rfl dX3_read_342 ?_
                    refine lv_iconst (v := 0) hx hb dX3_read_345 (by decide) ?_
                    refine q_iald hx hb hE hP 1 rfl (j := 0) (v := ((t4_X3_read g x y) 0)) rfl (by omega) (by decide) ((up_n (by omega)).trans ((up_n (by omega)).trans (up_n (by omega)))) dX3_read_346 ?_
                    refine lv_aload_n hx hb dX3_read_347 rfl (lv_at hl 2 rfl) ?_
                    refine va_get (D := E.1) (ci := 3) (v := .ref (a 1)) (C := RX3) (T := TX3) (N := 3) hx hb hts in3 hown hE.1 hP 0 rfl rfl 0 (by decide) K7 (fun _ h9 => h9) rfl dX3_read_348 ?_
                    refine lv_iconst (v := 1) hx hb dX3_read_351 (by decide) ?_
                    refine q_iald hx hb hE hP 1 rfl (j := 1) (v := ((t4_X3_read g x y) 1)) rfl (by omega) (by decide) ((up_n (by omega)).trans ((up_n (by omega)).trans (up_n (by omega)))) dX3_read_352 ?_
                    refine lv_iadd hx hb dX3_read_353 ?_
                    refine q_iast hx hb hE hP hD hS 1 rfl (j := (142 + 12 * (ix x) + (ix y))) (wd' := (ms E a (upd (upd (upd (upd (t4_X3_read g x y) (262 + 6 * (ix x) + 2) (((t4_X3_read g x y) (262 + 6 * (ix x) + 2)) + 1)) (262 + 6 * (ix x) + 0) ((t4_X3_read g x y) (5 + (ix y)))) (82 + 12 * (ix x) + (ix y)) ((t4_X3_read g x y) (5 + (ix y)))) (142 + 12 * (ix x) + (ix y)) (((t4_X3_read g x y) 0) + ((t4_X3_read g x y) 1))) im kp)) rfl (by omega) (by decide) rfl dX3_read_354 (fun H locs hP hD hS => ?_)
                    refine lv_aload_n hx hb dX3_read_355 rfl (lv_at hl 2 rfl) ?_
                    refine va_get (D := E.1) (ci := 3) (v := .ref (a 1)) (C := RX3) (T := TX3) (N := 3) hx hb hts in3 hown hE.1 hP 0 rfl rfl 0 (by decide) K7 (fun _ h9 => h9) rfl dX3_read_356 ?_
                    refine lv_sipush (v := 202) hx hb dX3_read_359 (by decide) ?_
                    refine lv_iload_n hx hb dX3_read_362 rfl (lv_at hl 3 rfl) ?_
                    refine tpe e_x ?_
                    refine lv_iload_n hx hb dX3_read_363 rfl (lv_at hl 4 rfl) ?_
                    refine tpe e_y ?_
                    refine ci_S F hE (k_X3_thingAt l E 202 (ix x) (ix y)) (va_cwS 3 hts gX3_read_X3_thingAt rfl rfl rfl (by decide +kernel) ⟨Nat.le_of_ble_eq_true rfl, Nat.le_of_ble_eq_true rfl⟩) Fr.nil hP hD hS hA rfl hl.1 rfl (Nat.le_of_ble_eq_true rfl) dX3_read_364 ⟨Nat.zero_le _, Nat.zero_le _⟩ (fun H locs hP hD hS => ?_)
                    refine lv_aload_n hx hb dX3_read_367 rfl (lv_at hl 2 rfl) ?_
                    refine va_get (D := E.1) (ci := 3) (v := .ref (a 1)) (C := RX3) (T := TX3) (N := 3) hx hb hts in3 hown hE.1 hP 0 rfl rfl 0 (by decide) K7 (fun _ h9 => h9) rfl dX3_read_368 ?_
                    refine lv_iconst (v := 0) hx hb dX3_read_371 (by decide) ?_
                    refine q_iald hx hb hE hP 1 rfl (j := 0) (v := ((t4_X3_read g x y) 0)) rfl (by omega) (by decide) ((up_n (by omega)).trans ((up_n (by omega)).trans ((up_n (by omega)).trans (up_n (by omega))))) dX3_read_372 ?_
                    refine lv_aload_n hx hb dX3_read_373 rfl (lv_at hl 2 rfl) ?_
                    refine va_get (D := E.1) (ci := 3) (v := .ref (a 1)) (C := RX3) (T := TX3) (N := 3) hx hb hts in3 hown hE.1 hP 0 rfl rfl 0 (by decide) K7 (fun _ h9 => h9) rfl dX3_read_374 ?_
                    refine lv_iconst (v := 1) hx hb dX3_read_377 (by decide) ?_
                    refine q_iald hx hb hE hP 1 rfl (j := 1) (v := ((t4_X3_read g x y) 1)) rfl (by omega) (by decide) ((up_n (by omega)).trans ((up_n (by omega)).trans ((up_n (by omega)).trans (up_n (by omega))))) dX3_read_378 ?_
                    refine lv_iadd hx hb dX3_read_379 ?_
                    refine q_iast hx hb hE hP hD hS 1 rfl (j := (202 + 12 * (ix x) + (ix y))) (wd' := (ms E a (upd (upd (upd (upd (upd (t4_X3_read g x y) (262 + 6 * (ix x) + 2) (((t4_X3_read g x y) (262 + 6 * (ix x) + 2)) + 1)) (262 + 6 * (ix x) + 0) ((t4_X3_read g x y) (5 + (ix y)))) (82 + 12 * (ix x) + (ix y)) ((t4_X3_read g x y) (5 + (ix y)))) (142 + 12 * (ix x) + (ix y)) (((t4_X3_read g x y) 0) + ((t4_X3_read g x y) 1))) (202 + 12 * (ix x) + (ix y)) (((t4_X3_read g x y) 0) + ((t4_X3_read g x y) 1))) im kp)) rfl (by omega) (by decide) rfl dX3_read_380 (fun H locs hP hD hS => ?_)
                    refine lv_iconst (v := 2) hx hb dX3_read_381 (by decide) ?_
                    have eg : (upd (upd (upd (upd (upd (t4_X3_read g x y) (262 + 6 * (ix x) + 2) (((t4_X3_read g x y) (262 + 6 * (ix x) + 2)) + 1)) (262 + 6 * (ix x) + 0) ((t4_X3_read g x y) (5 + (ix y)))) (82 + 12 * (ix x) + (ix y)) ((t4_X3_read g x y) (5 + (ix y)))) (142 + 12 * (ix x) + (ix y)) (((t4_X3_read g x y) 0) + ((t4_X3_read g x y) 1))) (202 + 12 * (ix x) + (ix y)) (((t4_X3_read g x y) 0) + ((t4_X3_read g x y) 1))) = (s_X3_read g x y) := (by unfold s_X3_read; exact ((if_neg c_1).trans ((if_neg c_2).trans ((if_pos c_3).trans ((if_neg c_8).trans ((if_pos c_9).trans ((if_pos c_11).trans (if_pos c_12))))))).symm)
                    exact hret _ _ _ _ _ (by rw [← eg]; exact hP) (by rw [← eg]; exact hD) hS (by unfold f_X3_read; exact ((if_neg c_1).trans ((if_neg c_2).trans ((if_pos c_3).trans ((if_neg c_8).trans ((if_pos c_9).trans ((if_pos c_11).trans (if_pos c_12))))))).symm) dX3_read_382
                  · refine lv_iconst (v := 3) hx hb dX3_read_307 (by decide) ?_
                    have eg : (upd (upd (t4_X3_read g x y) (262 + 6 * (ix x) + 2) (((t4_X3_read g x y) (262 + 6 * (ix x) + 2)) + 1)) (262 + 6 * (ix x) + 0) ((t4_X3_read g x y) (5 + (ix y)))) = (s_X3_read g x y) := (by unfold s_X3_read; exact ((if_neg c_1).trans ((if_neg c_2).trans ((if_pos c_3).trans ((if_neg c_8).trans ((if_pos c_9).trans ((if_pos c_11).trans (if_neg c_12))))))).symm)
                    exact hret _ _ _ _ _ (by rw [← eg]; exact hP) (by rw [← eg]; exact hD) hS (by unfold f_X3_read; exact ((if_neg c_1).trans ((if_neg c_2).trans ((if_pos c_3).trans ((if_neg c_8).trans ((if_pos c_9).trans ((if_pos c_11).trans (if_neg c_12))))))).symm) dX3_read_308
                · refine lv_aload_n hx hb dX3_read_271 rfl (lv_at hl 2 rfl) ?_
                  refine lv_iload_n hx hb dX3_read_272 rfl (lv_at hl 3 rfl) ?_
                  refine tpe e_x ?_
                  refine lv_iload_n hx hb dX3_read_273 rfl (lv_at hl 4 rfl) ?_
                  refine tpe e_y ?_
                  refine cv_V F hE (k_X3_renew l E a (upd (t4_X3_read g x y) (262 + 6 * (ix x) + 2) (((t4_X3_read g x y) (262 + 6 * (ix x) + 2)) + 1)) im kp (ix x) (ix y) (by omega) (by omega)) (cwV 2 hts gX3_read_X3_renew rfl rfl rfl (by decide +kernel) ⟨Nat.le_of_ble_eq_true rfl, Nat.le_of_ble_eq_true rfl⟩) Fr.all 0 3 rfl rfl rfl hP hD hS hA rfl hl.1 rfl (Nat.le_of_ble_eq_true rfl) dX3_read_274 ⟨Nat.zero_le _, Nat.zero_le _⟩ (fun H locs hP hD hS => ?_)
                  have hP : va_P E.1 vwCl (ms E a (t6_X3_read g x y) im kp) H := hP
                  have hD : va_D A (ms E a (t6_X3_read g x y) im kp) := hD
                  refine lv_aload_n hx hb dX3_read_277 rfl (lv_at hl 2 rfl) ?_
                  refine va_get (D := E.1) (ci := 3) (v := .ref (a 1)) (C := RX3) (T := TX3) (N := 3) hx hb hts in3 hown hE.1 hP 0 rfl rfl 0 (by decide) K7 (fun _ h9 => h9) rfl dX3_read_278 ?_
                  refine lv_iload_n hx hb dX3_read_281 rfl (lv_at hl 3 rfl) ?_
                  refine tpe e_x ?_
                  refine lv_iconst (v := 0) hx hb dX3_read_282 (by decide) ?_
                  refine ci_S F hE (k_X3_said l E (ix x) 0) (va_cwS 2 hts gX3_read_X3_said rfl rfl rfl (by decide +kernel) ⟨Nat.le_of_ble_eq_true rfl, Nat.le_of_ble_eq_true rfl⟩) Fr.nil hP hD hS hA rfl hl.1 rfl (Nat.le_of_ble_eq_true rfl) dX3_read_283 ⟨Nat.zero_le _, Nat.zero_le _⟩ (fun H locs hP hD hS => ?_)
                  refine lv_aload_n hx hb dX3_read_286 rfl (lv_at hl 2 rfl) ?_
                  refine va_get (D := E.1) (ci := 3) (v := .ref (a 1)) (C := RX3) (T := TX3) (N := 3) hx hb hts in3 hown hE.1 hP 0 rfl rfl 0 (by decide) K7 (fun _ h9 => h9) rfl dX3_read_287 ?_
                  refine lv_iconst (v := 5) hx hb dX3_read_290 (by decide) ?_
                  refine lv_iload_n hx hb dX3_read_291 rfl (lv_at hl 4 rfl) ?_
                  refine tpe e_y ?_
                  refine lv_iadd hx hb dX3_read_292 ?_
                  refine tpe (y := nI (5 + (ix y))) (nI_add 5 (ix y)) ?_
                  refine q_iald hx hb hE hP 1 rfl (j := (5 + (ix y))) (v := ((t6_X3_read g x y) (5 + (ix y)))) rfl (by omega) (by decide) rfl dX3_read_293 ?_
                  refine q_iast hx hb hE hP hD hS 1 rfl (j := (262 + 6 * (ix x) + 0)) (wd' := (ms E a (upd (t6_X3_read g x y) (262 + 6 * (ix x) + 0) ((t6_X3_read g x y) (5 + (ix y)))) im kp)) rfl (by omega) (by decide) rfl dX3_read_294 (fun H locs hP hD hS => ?_)
                  refine lv_aload_n hx hb dX3_read_295 rfl (lv_at hl 2 rfl) ?_
                  refine va_get (D := E.1) (ci := 3) (v := .ref (a 1)) (C := RX3) (T := TX3) (N := 3) hx hb hts in3 hown hE.1 hP 0 rfl rfl 0 (by decide) K7 (fun _ h9 => h9) rfl dX3_read_296 ?_
                  refine lv_bipush (v := 17) hx hb dX3_read_299 (by decide) ?_
                  refine lv_iload_n hx hb dX3_read_301 rfl (lv_at hl 4 rfl) ?_
                  refine tpe e_y ?_
                  refine lv_iadd hx hb dX3_read_302 ?_
                  refine tpe (y := nI (17 + (ix y))) (nI_add 17 (ix y)) ?_
                  refine q_iald hx hb hE hP 1 rfl (j := (17 + (ix y))) (v := ((t6_X3_read g x y) (17 + (ix y)))) rfl (by omega) (by decide) (up_n (by omega)) dX3_read_303 ?_
                  refine lv_if_lt (tgt := 309) hx hb dX3_read_304 (by decide) (fun c_13 => ?_) (fun c_13 => ?_)
                  · refine lv_aload_n hx hb dX3_read_309 rfl (lv_at hl 2 rfl) ?_
                    refine va_get (D := E.1) (ci := 3) (v := .ref (a 1)) (C := RX3) (T := TX3) (N := 3) hx hb hts in3 hown hE.1 hP 0 rfl rfl 0 (by decide) K7 (fun _ h9 => h9) rfl dX3_read_310 ?_
                    refine lv_bipush (v := 82) hx hb dX3_read_313 (by decide) ?_
                    refine lv_iload_n hx hb dX3_read_315 rfl (lv_at hl 3 rfl) ?_
                    refine tpe e_x ?_
                    refine lv_iload_n hx hb dX3_read_316 rfl (lv_at hl 4 rfl) ?_
                    refine tpe e_y ?_
                    refine ci_S F hE (k_X3_thingAt l E 82 (ix x) (ix y)) (va_cwS 3 hts gX3_read_X3_thingAt rfl rfl rfl (by decide +kernel) ⟨Nat.le_of_ble_eq_true rfl, Nat.le_of_ble_eq_true rfl⟩) Fr.nil hP hD hS hA rfl hl.1 rfl (Nat.le_of_ble_eq_true rfl) dX3_read_317 ⟨Nat.zero_le _, Nat.zero_le _⟩ (fun H locs hP hD hS => ?_)
                    refine lv_aload_n hx hb dX3_read_320 rfl (lv_at hl 2 rfl) ?_
                    refine va_get (D := E.1) (ci := 3) (v := .ref (a 1)) (C := RX3) (T := TX3) (N := 3) hx hb hts in3 hown hE.1 hP 0 rfl rfl 0 (by decide) K7 (fun _ h9 => h9) rfl dX3_read_321 ?_
                    refine lv_iconst (v := 5) hx hb dX3_read_324 (by decide) ?_
                    refine lv_iload_n hx hb dX3_read_325 rfl (lv_at hl 4 rfl) ?_
                    refine tpe e_y ?_
                    refine lv_iadd hx hb dX3_read_326 ?_
                    refine tpe (y := nI (5 + (ix y))) (nI_add 5 (ix y)) ?_
                    refine q_iald hx hb hE hP 1 rfl (j := (5 + (ix y))) (v := ((t6_X3_read g x y) (5 + (ix y)))) rfl (by omega) (by decide) (up_n (by omega)) dX3_read_327 ?_
                    refine q_iast hx hb hE hP hD hS 1 rfl (j := (82 + 12 * (ix x) + (ix y))) (wd' := (ms E a (upd (upd (t6_X3_read g x y) (262 + 6 * (ix x) + 0) ((t6_X3_read g x y) (5 + (ix y)))) (82 + 12 * (ix x) + (ix y)) ((t6_X3_read g x y) (5 + (ix y)))) im kp)) rfl (by omega) (by decide) rfl dX3_read_328 (fun H locs hP hD hS => ?_)
                    refine lv_aload_n hx hb dX3_read_329 rfl (lv_at hl 2 rfl) ?_
                    refine va_get (D := E.1) (ci := 3) (v := .ref (a 1)) (C := RX3) (T := TX3) (N := 3) hx hb hts in3 hown hE.1 hP 0 rfl rfl 0 (by decide) K7 (fun _ h9 => h9) rfl dX3_read_330 ?_
                    refine lv_sipush (v := 142) hx hb dX3_read_333 (by decide) ?_
                    refine lv_iload_n hx hb dX3_read_336 rfl (lv_at hl 3 rfl) ?_
                    refine tpe e_x ?_
                    refine lv_iload_n hx hb dX3_read_337 rfl (lv_at hl 4 rfl) ?_
                    refine tpe e_y ?_
                    refine ci_S F hE (k_X3_thingAt l E 142 (ix x) (ix y)) (va_cwS 3 hts gX3_read_X3_thingAt rfl rfl rfl (by decide +kernel) ⟨Nat.le_of_ble_eq_true rfl, Nat.le_of_ble_eq_true rfl⟩) Fr.nil hP hD hS hA rfl hl.1 rfl (Nat.le_of_ble_eq_true rfl) dX3_read_338 ⟨Nat.zero_le _, Nat.zero_le _⟩ (fun H locs hP hD hS => ?_)
                    refine lv_aload_n hx hb dX3_read_341 rfl (lv_at hl 2 rfl) ?_
                    refine va_get (D := E.1) (ci := 3) (v := .ref (a 1)) (C := RX3) (T := TX3) (N := 3) hx hb hts in3 hown hE.1 hP 0 rfl rfl 0 (by decide) K7 (fun _ h9 => h9) rfl dX3_read_342 ?_
                    refine lv_iconst (v := 0) hx hb dX3_read_345 (by decide) ?_
                    refine q_iald hx hb hE hP 1 rfl (j := 0) (v := ((t6_X3_read g x y) 0)) rfl (by omega) (by decide) ((up_n (by omega)).trans (up_n (by omega))) dX3_read_346 ?_
                    refine lv_aload_n hx hb dX3_read_347 rfl (lv_at hl 2 rfl) ?_
                    refine va_get (D := E.1) (ci := 3) (v := .ref (a 1)) (C := RX3) (T := TX3) (N := 3) hx hb hts in3 hown hE.1 hP 0 rfl rfl 0 (by decide) K7 (fun _ h9 => h9) rfl dX3_read_348 ?_
                    refine lv_iconst (v := 1) hx hb dX3_read_351 (by decide) ?_
                    refine q_iald hx hb hE hP 1 rfl (j := 1) (v := ((t6_X3_read g x y) 1)) rfl (by omega) (by decide) ((up_n (by omega)).trans (up_n (by omega))) dX3_read_352 ?_
                    refine lv_iadd hx hb dX3_read_353 ?_
                    refine q_iast hx hb hE hP hD hS 1 rfl (j := (142 + 12 * (ix x) + (ix y))) (wd' := (ms E a (upd (upd (upd (t6_X3_read g x y) (262 + 6 * (ix x) + 0) ((t6_X3_read g x y) (5 + (ix y)))) (82 + 12 * (ix x) + (ix y)) ((t6_X3_read g x y) (5 + (ix y)))) (142 + 12 * (ix x) + (ix y)) (((t6_X3_read g x y) 0) + ((t6_X3_read g x y) 1))) im kp)) rfl (by omega) (by decide) rfl dX3_read_354 (fun H locs hP hD hS => ?_)
                    refine lv_aload_n hx hb dX3_read_355 rfl (lv_at hl 2 rfl) ?_
                    refine va_get (D := E.1) (ci := 3) (v := .ref (a 1)) (C := RX3) (T := TX3) (N := 3) hx hb hts in3 hown hE.1 hP 0 rfl rfl 0 (by decide) K7 (fun _ h9 => h9) rfl dX3_read_356 ?_
                    refine lv_sipush (v := 202) hx hb dX3_read_359 (by decide) ?_
                    refine lv_iload_n hx hb dX3_read_362 rfl (lv_at hl 3 rfl) ?_
                    refine tpe e_x ?_
                    refine lv_iload_n hx hb dX3_read_363 rfl (lv_at hl 4 rfl) ?_
                    refine tpe e_y ?_
                    refine ci_S F hE (k_X3_thingAt l E 202 (ix x) (ix y)) (va_cwS 3 hts gX3_read_X3_thingAt rfl rfl rfl (by decide +kernel) ⟨Nat.le_of_ble_eq_true rfl, Nat.le_of_ble_eq_true rfl⟩) Fr.nil hP hD hS hA rfl hl.1 rfl (Nat.le_of_ble_eq_true rfl) dX3_read_364 ⟨Nat.zero_le _, Nat.zero_le _⟩ (fun H locs hP hD hS => ?_)
                    refine lv_aload_n hx hb dX3_read_367 rfl (lv_at hl 2 rfl) ?_
                    refine va_get (D := E.1) (ci := 3) (v := .ref (a 1)) (C := RX3) (T := TX3) (N := 3) hx hb hts in3 hown hE.1 hP 0 rfl rfl 0 (by decide) K7 (fun _ h9 => h9) rfl dX3_read_368 ?_
                    refine lv_iconst (v := 0) hx hb dX3_read_371 (by decide) ?_
                    refine q_iald hx hb hE hP 1 rfl (j := 0) (v := ((t6_X3_read g x y) 0)) rfl (by omega) (by decide) ((up_n (by omega)).trans ((up_n (by omega)).trans (up_n (by omega)))) dX3_read_372 ?_
                    refine lv_aload_n hx hb dX3_read_373 rfl (lv_at hl 2 rfl) ?_
                    refine va_get (D := E.1) (ci := 3) (v := .ref (a 1)) (C := RX3) (T := TX3) (N := 3) hx hb hts in3 hown hE.1 hP 0 rfl rfl 0 (by decide) K7 (fun _ h9 => h9) rfl dX3_read_374 ?_
                    refine lv_iconst (v := 1) hx hb dX3_read_377 (by decide) ?_
                    refine q_iald hx hb hE hP 1 rfl (j := 1) (v := ((t6_X3_read g x y) 1)) rfl (by omega) (by decide) ((up_n (by omega)).trans ((up_n (by omega)).trans (up_n (by omega)))) dX3_read_378 ?_
                    refine lv_iadd hx hb dX3_read_379 ?_
                    refine q_iast hx hb hE hP hD hS 1 rfl (j := (202 + 12 * (ix x) + (ix y))) (wd' := (ms E a (upd (upd (upd (upd (t6_X3_read g x y) (262 + 6 * (ix x) + 0) ((t6_X3_read g x y) (5 + (ix y)))) (82 + 12 * (ix x) + (ix y)) ((t6_X3_read g x y) (5 + (ix y)))) (142 + 12 * (ix x) + (ix y)) (((t6_X3_read g x y) 0) + ((t6_X3_read g x y) 1))) (202 + 12 * (ix x) + (ix y)) (((t6_X3_read g x y) 0) + ((t6_X3_read g x y) 1))) im kp)) rfl (by omega) (by decide) rfl dX3_read_380 (fun H locs hP hD hS => ?_)
                    refine lv_iconst (v := 2) hx hb dX3_read_381 (by decide) ?_
                    have eg : (upd (upd (upd (upd (t6_X3_read g x y) (262 + 6 * (ix x) + 0) ((t6_X3_read g x y) (5 + (ix y)))) (82 + 12 * (ix x) + (ix y)) ((t6_X3_read g x y) (5 + (ix y)))) (142 + 12 * (ix x) + (ix y)) (((t6_X3_read g x y) 0) + ((t6_X3_read g x y) 1))) (202 + 12 * (ix x) + (ix y)) (((t6_X3_read g x y) 0) + ((t6_X3_read g x y) 1))) = (s_X3_read g x y) := (by unfold s_X3_read; exact ((if_neg c_1).trans ((if_neg c_2).trans ((if_pos c_3).trans ((if_neg c_8).trans ((if_pos c_9).trans ((if_neg c_11).trans (if_pos c_13))))))).symm)
                    exact hret _ _ _ _ _ (by rw [← eg]; exact hP) (by rw [← eg]; exact hD) hS (by unfold f_X3_read; exact ((if_neg c_1).trans ((if_neg c_2).trans ((if_pos c_3).trans ((if_neg c_8).trans ((if_pos c_9).trans ((if_neg c_11).trans (if_pos c_13))))))).symm) dX3_read_382
                  · refine lv_iconst (v := 3) hx hb dX3_read_307 (by decide) ?_
                    have eg : (upd (t6_X3_read g x y) (262 + 6 * (ix x) + 0) ((t6_X3_read g x y) (5 + (ix y)))) = (s_X3_read g x y) := (by unfold s_X3_read; exact ((if_neg c_1).trans ((if_neg c_2).trans ((if_pos c_3).trans ((if_neg c_8).trans ((if_pos c_9).trans ((if_neg c_11).trans (if_neg c_13))))))).symm)
                    exact hret _ _ _ _ _ (by rw [← eg]; exact hP) (by rw [← eg]; exact hD) hS (by unfold f_X3_read; exact ((if_neg c_1).trans ((if_neg c_2).trans ((if_pos c_3).trans ((if_neg c_8).trans ((if_pos c_9).trans ((if_neg c_11).trans (if_neg c_13))))))).symm) dX3_read_308
            · refine lv_aload_n hx hb dX3_read_220 rfl (lv_at hl 2 rfl) ?_
              refine va_get (D := E.1) (ci := 3) (v := .ref (a 1)) (C := RX3) (T := TX3) (N := 3) hx hb hts in3 hown hE.1 hP 0 rfl rfl 0 (by decide) K7 (fun _ h9 => h9) rfl dX3_read_221 ?_
              refine lv_iload_n hx hb dX3_read_224 rfl (lv_at hl 3 rfl) ?_
              refine tpe e_x ?_
              refine lv_iconst (v := 3) hx hb dX3_read_225 (by decide) ?_
              refine ci_S F hE (k_X3_said l E (ix x) 3) (va_cwS 2 hts gX3_read_X3_said rfl rfl rfl (by decide +kernel) ⟨Nat.le_of_ble_eq_true rfl, Nat.le_of_ble_eq_true rfl⟩) Fr.nil hP hD hS hA rfl hl.1 rfl (Nat.le_of_ble_eq_true rfl) dX3_read_226 ⟨Nat.zero_le _, Nat.zero_le _⟩ (fun H locs hP hD hS => ?_)
              refine lv_dup2_11 hx hb dX3_read_229 rfl rfl ?_
              refine q_iald hx hb hE hP 1 rfl (j := (262 + 6 * (ix x) + 3)) (v := ((t4_X3_read g x y) (262 + 6 * (ix x) + 3))) rfl (by omega) (by decide) rfl dX3_read_230 ?_
              refine lv_iconst (v := 1) hx hb dX3_read_231 (by decide) ?_
              refine lv_iadd hx hb dX3_read_232 ?_
              refine q_iast hx hb hE hP hD hS 1 rfl (j := (262 + 6 * (ix x) + 3)) (wd' := (ms E a (upd (t4_X3_read g x y) (262 + 6 * (ix x) + 3) (((t4_X3_read g x y) (262 + 6 * (ix x) + 3)) + 1)) im kp)) rfl (by omega) (by decide) rfl dX3_read_233 (fun H locs hP hD hS => ?_)
              refine lv_iconst (v := 4) hx hb dX3_read_234 (by decide) ?_
              have eg : (upd (t4_X3_read g x y) (262 + 6 * (ix x) + 3) (((t4_X3_read g x y) (262 + 6 * (ix x) + 3)) + 1)) = (s_X3_read g x y) := (by unfold s_X3_read; exact ((if_neg c_1).trans ((if_neg c_2).trans ((if_pos c_3).trans (if_pos c_8)))).symm)
              exact hret _ _ _ _ _ (by rw [← eg]; exact hP) (by rw [← eg]; exact hD) hS (by unfold f_X3_read; exact ((if_neg c_1).trans ((if_neg c_2).trans ((if_pos c_3).trans (if_pos c_8)))).symm) dX3_read_235
          refine lv_if_ge (tgt := 203) hx hb dX3_read_196 (by decide) (fun c_7 => ?_) (fun c_7 => ?_)
          · refine lv_iconst (v := 0) hx hb dX3_read_203 (by decide) ?_
            exact J_204_6 _ _ _ hP hD hS (if_pos c_7).symm
          · refine lv_iconst (v := 1) hx hb dX3_read_199 (by decide) ?_
            refine lv_goto (tgt := 204) hx hb dX3_read_200 (by decide) ?_
            exact J_204_6 _ _ _ hP hD hS (if_neg c_7).symm
        refine lv_if_ne (tgt := 154) hx hb dX3_read_147 (by decide) (fun c_5 => ?_) (fun c_5 => ?_)
        · refine lv_iconst (v := 0) hx hb dX3_read_154 (by decide) ?_
          exact J_155_4 _ _ _ hP hD hS (if_neg c_5).symm
        · refine lv_iconst (v := 1) hx hb dX3_read_150 (by decide) ?_
          refine lv_goto (tgt := 155) hx hb dX3_read_151 (by decide) ?_
          exact J_155_4 _ _ _ hP hD hS (if_pos c_5).symm
      · refine lv_aload_n hx hb dX3_read_52 rfl (lv_at hl 2 rfl) ?_
        refine va_get (D := E.1) (ci := 3) (v := .ref (a 1)) (C := RX3) (T := TX3) (N := 3) hx hb hts in3 hown hE.1 hP 0 rfl rfl 0 (by decide) K7 (fun _ h9 => h9) rfl dX3_read_53 ?_
        refine lv_iload_n hx hb dX3_read_56 rfl (lv_at hl 3 rfl) ?_
        refine tpe e_x ?_
        refine lv_iconst (v := 0) hx hb dX3_read_57 (by decide) ?_
        refine ci_S F hE (k_X3_said l E (ix x) 0) (va_cwS 2 hts gX3_read_X3_said rfl rfl rfl (by decide +kernel) ⟨Nat.le_of_ble_eq_true rfl, Nat.le_of_ble_eq_true rfl⟩) Fr.nil hP hD hS hA rfl hl.1 rfl (Nat.le_of_ble_eq_true rfl) dX3_read_58 ⟨Nat.zero_le _, Nat.zero_le _⟩ (fun H locs hP hD hS => ?_)
        refine lv_iload_n hx hb dX3_read_61 rfl (lv_at hl 1 rfl) ?_
        refine q_iast hx hb hE hP hD hS 1 rfl (j := (262 + 6 * (ix x) + 0)) (wd' := (ms E a (upd g (262 + 6 * (ix x) + 0) (g (82 + 12 * (ix x) + (ix y)))) im kp)) rfl (by omega) (by decide) rfl dX3_read_62 (fun H locs hP hD hS => ?_)
        refine lv_aload_n hx hb dX3_read_63 rfl (lv_at hl 2 rfl) ?_
        refine va_get (D := E.1) (ci := 3) (v := .ref (a 1)) (C := RX3) (T := TX3) (N := 3) hx hb hts in3 hown hE.1 hP 0 rfl rfl 0 (by decide) K7 (fun _ h9 => h9) rfl dX3_read_64 ?_
        refine lv_iload_n hx hb dX3_read_67 rfl (lv_at hl 3 rfl) ?_
        refine tpe e_x ?_
        refine lv_iconst (v := 1) hx hb dX3_read_68 (by decide) ?_
        refine ci_S F hE (k_X3_said l E (ix x) 1) (va_cwS 2 hts gX3_read_X3_said rfl rfl rfl (by decide +kernel) ⟨Nat.le_of_ble_eq_true rfl, Nat.le_of_ble_eq_true rfl⟩) Fr.nil hP hD hS hA rfl hl.1 rfl (Nat.le_of_ble_eq_true rfl) dX3_read_69 ⟨Nat.zero_le _, Nat.zero_le _⟩ (fun H locs hP hD hS => ?_)
        refine lv_dup2_11 hx hb dX3_read_72 rfl rfl ?_
        refine q_iald hx hb hE hP 1 rfl (j := (262 + 6 * (ix x) + 1)) (v := (g (262 + 6 * (ix x) + 1))) rfl (by omega) (by decide) (up_n (by omega)) dX3_read_73 ?_
        refine lv_iconst (v := 1) hx hb dX3_read_74 (by decide) ?_
        refine lv_iadd hx hb dX3_read_75 ?_
        refine q_iast hx hb hE hP hD hS 1 rfl (j := (262 + 6 * (ix x) + 1)) (wd' := (ms E a (upd (upd g (262 + 6 * (ix x) + 0) (g (82 + 12 * (ix x) + (ix y)))) (262 + 6 * (ix x) + 1) ((g (262 + 6 * (ix x) + 1)) + 1)) im kp)) rfl (by omega) (by decide) rfl dX3_read_76 (fun H locs hP hD hS => ?_)
        refine lv_iload_n hx hb dX3_read_77 rfl (lv_at hl 1 rfl) ?_
        refine lv_aload_n hx hb dX3_read_78 rfl (lv_at hl 2 rfl) ?_
        refine va_get (D := E.1) (ci := 3) (v := .ref (a 1)) (C := RX3) (T := TX3) (N := 3) hx hb hts in3 hown hE.1 hP 0 rfl rfl 0 (by decide) K7 (fun _ h9 => h9) rfl dX3_read_79 ?_
        refine lv_iconst (v := 5) hx hb dX3_read_82 (by decide) ?_
        refine lv_iload_n hx hb dX3_read_83 rfl (lv_at hl 4 rfl) ?_
        refine tpe e_y ?_
        refine lv_iadd hx hb dX3_read_84 ?_
        refine tpe (y := nI (5 + (ix y))) (nI_add 5 (ix y)) ?_
        refine q_iald hx hb hE hP 1 rfl (j := (5 + (ix y))) (v := (g (5 + (ix y)))) rfl (by omega) (by decide) ((up_n (by omega)).trans (up_n (by omega))) dX3_read_85 ?_
        have J_94_14 : ∀ (w : Int32) (H : Heap) (locs : List Loc), va_P E.1 vwCl (ms E a (upd (upd g (262 + 6 * (ix x) + 0) (g (82 + 12 * (ix x) + (ix y)))) (262 + 6 * (ix x) + 1) ((g (262 + 6 * (ix x) + 1)) + 1)) im kp) H → va_D A (ms E a (upd (upd g (262 + 6 * (ix x) + 0) (g (82 + 12 * (ix x) + (ix y)))) (262 + 6 * (ix x) + 1) ((g (262 + 6 * (ix x) + 1)) + 1)) im kp) → va_S A s.heap H locs → w = (if (g (82 + 12 * (ix x) + (ix y))) = (g (5 + (ix y))) then 0 else 1 : Int32) → W p l e { frames := 3, cells := 0, slots := 0, locals := 70 } s m args below meth c H locs 0 0 Q (F0 m 94 ls [.int w]) := by
          intro w H locs hP hD hS ew
          rw [ew]
          refine lv_istore (lv' := [(5, .int (if (g (82 + 12 * (ix x) + (ix y))) = (g (5 + (ix y))) then 0 else 1 : Int32)), (4, .int (g (52 + 3 * (ix x) + (ix y) / 4))), (3, .int (g (82 + 12 * (ix x) + (ix y)))), (0, .ref (a 0)), (1, .int x), (2, .int y)]) hx hb dX3_read_94 hl (by decide) rfl (fun ls hl => ?_)
          refine lv_aload_n hx hb dX3_read_96 rfl (lv_at hl 3 rfl) ?_
          refine va_get (D := E.1) (ci := 3) (v := .ref (a 1)) (C := RX3) (T := TX3) (N := 3) hx hb hts in3 hown hE.1 hP 0 rfl rfl 0 (by decide) K7 (fun _ h9 => h9) rfl dX3_read_97 ?_
          refine lv_sipush (v := 303) hx hb dX3_read_100 (by decide) ?_
          refine lv_dup2_11 hx hb dX3_read_103 rfl rfl ?_
          refine q_iald hx hb hE hP 1 rfl (j := 303) (v := (g 303)) rfl (by omega) (by decide) ((up_n (by omega)).trans (up_n (by omega))) dX3_read_104 ?_
          refine lv_iload hx hb dX3_read_105 (lv_at hl 0 rfl) ?_
          have J_115_16 : ∀ (w : Int32) (H : Heap) (locs : List Loc), va_P E.1 vwCl (ms E a (upd (upd g (262 + 6 * (ix x) + 0) (g (82 + 12 * (ix x) + (ix y)))) (262 + 6 * (ix x) + 1) ((g (262 + 6 * (ix x) + 1)) + 1)) im kp) H → va_D A (ms E a (upd (upd g (262 + 6 * (ix x) + 0) (g (82 + 12 * (ix x) + (ix y)))) (262 + 6 * (ix x) + 1) ((g (262 + 6 * (ix x) + 1)) + 1)) im kp) → va_S A s.heap H locs → w = (if (if (g (82 + 12 * (ix x) + (ix y))) = (g (5 + (ix y))) then 0 else 1 : Int32) = 0 then 0 else 1 : Int32) → W p l e { frames := 3, cells := 0, slots := 0, locals := 70 } s m args below meth c H locs 0 0 Q (F0 m 115 ls [.int w, .int (g 303), .int 303, .ref (a 1)]) := by
            intro w H locs hP hD hS ew
            rw [ew]
            refine lv_iadd hx hb dX3_read_115 ?_
            refine q_iast hx hb hE hP hD hS 1 rfl (j := 303) (wd' := (ms E a (upd (upd (upd g (262 + 6 * (ix x) + 0) (g (82 + 12 * (ix x) + (ix y)))) (262 + 6 * (ix x) + 1) ((g (262 + 6 * (ix x) + 1)) + 1)) 303 ((g 303) + (if (if (g (82 + 12 * (ix x) + (ix y))) = (g (5 + (ix y))) then 0 else 1 : Int32) = 0 then 0 else 1 : Int32))) im kp)) rfl (by omega) (by decide) rfl dX3_read_116 (fun H locs hP hD hS => ?_)
            refine lv_iload hx hb dX3_read_117 (lv_at hl 0 rfl) ?_
            have J_127_18 : ∀ (w : Int32) (H : Heap) (locs : List Loc), va_P E.1 vwCl (ms E a (upd (upd (upd g (262 + 6 * (ix x) + 0) (g (82 + 12 * (ix x) + (ix y)))) (262 + 6 * (ix x) + 1) ((g (262 + 6 * (ix x) + 1)) + 1)) 303 ((g 303) + (if (if (g (82 + 12 * (ix x) + (ix y))) = (g (5 + (ix y))) then 0 else 1 : Int32) = 0 then 0 else 1 : Int32))) im kp) H → va_D A (ms E a (upd (upd (upd g (262 + 6 * (ix x) + 0) (g (82 + 12 * (ix x) + (ix y)))) (262 + 6 * (ix x) + 1) ((g (262 + 6 * (ix x) + 1)) + 1)) 303 ((g 303) + (if (if (g (82 + 12 * (ix x) + (ix y))) = (g (5 + (ix y))) then 0 else 1 : Int32) = 0 then 0 else 1 : Int32))) im kp) → va_S A s.heap H locs → w = (if (if (g (82 + 12 * (ix x) + (ix y))) = (g (5 + (ix y))) then 0 else 1 : Int32) = 0 then 0 else 1 : Int32) → W p l e { frames := 3, cells := 0, slots := 0, locals := 70 } s m args below meth c H locs 0 0 Q (F0 m 127 ls [.int w]) := by
              intro w H locs hP hD hS ew
              rw [ew]
              have eg : (upd (upd (upd g (262 + 6 * (ix x) + 0) (g (82 + 12 * (ix x) + (ix y)))) (262 + 6 * (ix x) + 1) ((g (262 + 6 * (ix x) + 1)) + 1)) 303 ((g 303) + (if (if (g (82 + 12 * (ix x) + (ix y))) = (g (5 + (ix y))) then 0 else 1 : Int32) = 0 then 0 else 1 : Int32))) = (s_X3_read g x y) := (by unfold s_X3_read; exact ((if_neg c_1).trans ((if_neg c_2).trans (if_neg c_3))).symm)
              exact hret _ _ _ _ _ (by rw [← eg]; exact hP) (by rw [← eg]; exact hD) hS (by unfold f_X3_read; exact ((if_neg c_1).trans ((if_neg c_2).trans (if_neg c_3))).symm) dX3_read_127
            refine lv_if_eq (tgt := 126) hx hb dX3_read_119 (by decide) (fun c_19 => ?_) (fun c_19 => ?_)
            · refine lv_iconst (v := 0) hx hb dX3_read_126 (by decide) ?_
              exact J_127_18 _ _ _ hP hD hS (if_pos c_19).symm
            · refine lv_iconst (v := 1) hx hb dX3_read_122 (by decide) ?_
              refine lv_goto (tgt := 127) hx hb dX3_read_123 (by decide) ?_
              exact J_127_18 _ _ _ hP hD hS (if_neg c_19).symm
          refine lv_if_eq (tgt := 114) hx hb dX3_read_107 (by decide) (fun c_17 => ?_) (fun c_17 => ?_)
          · refine lv_iconst (v := 0) hx hb dX3_read_114 (by decide) ?_
            exact J_115_16 _ _ _ hP hD hS (if_pos c_17).symm
          · refine lv_iconst (v := 1) hx hb dX3_read_110 (by decide) ?_
            refine lv_goto (tgt := 115) hx hb dX3_read_111 (by decide) ?_
            exact J_115_16 _ _ _ hP hD hS (if_neg c_17).symm
        refine lv_icmp_eq (tgt := 93) hx hb dX3_read_86 (by decide) (fun c_15 => ?_) (fun c_15 => ?_)
        · refine lv_iconst (v := 0) hx hb dX3_read_93 (by decide) ?_
          exact J_94_14 _ _ _ hP hD hS (if_pos c_15).symm
        · refine lv_iconst (v := 1) hx hb dX3_read_89 (by decide) ?_
          refine lv_goto (tgt := 94) hx hb dX3_read_90 (by decide) ?_
          exact J_94_14 _ _ _ hP hD hS (if_neg c_15).symm
    · refine lv_iconst (v := -1) hx hb dX3_read_14 (by decide) ?_
      have eg : g = (s_X3_read g x y) := (by unfold s_X3_read; exact ((if_neg c_1).trans (if_pos c_2)).symm)
      exact hret _ _ _ _ _ (by rw [← eg]; exact hP) (by rw [← eg]; exact hD) hS (by unfold f_X3_read; exact ((if_neg c_1).trans (if_pos c_2)).symm) dX3_read_15
