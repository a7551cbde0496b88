/-! Reader.<init> -/
def rd6 (E : EE) (u : Nat → Nat) : va_W := [(u 0, .inr (1, [.int 1, .int 0, .ref (u 1), .ref (u 2), .ref (u 3), .ref (u 4), .ref (u 5), .int (-6), .int 0, .int 0, .int 0, .int 0, .int 0])), (u 1, rI E 12 (flr zr (-6) 12)), (u 2, rI E 12 zr), (u 3, rI E 12 zr), (u 4, rI E 3 zr), (u 5, rI E 3 zr)]
abbrev rf0 : List Value := [.int 0, .int 0, .null, .null, .null, .null, .null, .int 0, .int 0, .int 0, .int 0, .int 0, .int 0]
def u6 (b q1 q2 q3 q4 q5 : Nat) : Nat → Nat
  | 0 => b
  | 1 => q1
  | 2 => q2
  | 3 => q3
  | 4 => q4
  | _ => q5
set_option maxHeartbeats 4000000 in
set_option maxRecDepth 100000 in
theorem k_X1_init (t0 t1 t2 : Nat) (l : Launch) (E : EE) (b : Nat) : Cc t0 t1 t2 l E yX1_init wsX1_init { frames := 1, cells := 5, slots := 42, locals := 23 } b [(b, .inr (1, rf0))] (fun u : Nat → Nat => u 0 = b) (rd6 E) 5 42 := by
  refine Cc.of (cc := cX1_init) (maxL := 1) (by decide) rfl rfl (Nat.le_refl 1) ?_
  intro p e s m args below meth c A Q F hE hT hnm hA hret hP hD ls hl
  obtain ⟨hx, hb, hml, hown, hts⟩ := id F
  have hS : va_S A s.heap s.heap [] := va_S.rf
  have in1 : ∀ w ∈ wsX10, w ∈ wsX1_init := fun w h => List.mem_cons_of_mem _ (List.mem_append_right _ h)
  have hai := hts (.arrayClass .int) (by decide +kernel)
  have K9 := hts (.fieldLink RX1 9 "PromiseHours$Reader" "isThere" "Z") (by decide +kernel)
  have K15 := hts (.fieldLink RX1 15 "PromiseHours$Reader" "skew" "I") (by decide +kernel)
  have K19 := hts (.fieldLink RX1 19 "PromiseHours$Reader" "copies" "[I") (by decide +kernel)
  have K23 := hts (.fieldLink RX1 23 "PromiseHours$Reader" "terms" "[I") (by decide +kernel)
  have K26 := hts (.fieldLink RX1 26 "PromiseHours$Reader" "promises" "[I") (by decide +kernel)
  have K29 := hts (.fieldLink RX1 29 "PromiseHours$Reader" "volumeTerms" "[I") (by decide +kernel)
  have K32 := hts (.fieldLink RX1 32 "PromiseHours$Reader" "lists" "[I") (by decide +kernel)
  have K35 := hts (.fieldLink RX1 35 "PromiseHours$Reader" "lastVersion" "I") (by decide +kernel)
  have K38 := hts (.fieldLink RX1 38 "PromiseHours$Reader" "timesUsed" "I") (by decide +kernel)
  have K41 := hts (.fieldLink RX1 41 "PromiseHours$Reader" "timesAsked" "I") (by decide +kernel)
  have K44 := hts (.fieldLink RX1 44 "PromiseHours$Reader" "timesNothing" "I") (by decide +kernel)
  have K47 := hts (.fieldLink RX1 47 "PromiseHours$Reader" "letters" "I") (by decide +kernel)
  have K50 := hts (.fieldLink RX1 50 "PromiseHours$Reader" "copiesLost" "I") (by decide +kernel)
  refine lv_aload_n hx hb dX1_init_0 rfl (lv_at hl 0 rfl) ?_
  refine W.objInit hx hb hown (hts (.methodLink RX1 3 objectInit) (by decide +kernel)) (hts (.instanceMethod objectInit) (by decide +kernel)) (hts (.code objectInit ⟨#[0xb1]⟩ 1 none) (by decide +kernel)) rfl (by rw [hml]; exact hl.1) rfl dX1_init_1 (Nat.le_of_ble_eq_true rfl) (Nat.le_of_ble_eq_true rfl) ?_
  refine W.eq (g2 := F0 m 4 ls []) rfl ?_
  refine lv_aload_n hx hb dX1_init_4 rfl (lv_at hl 0 rfl) ?_
  refine lv_iconst (v := 1) hx hb dX1_init_5 (by decide) ?_
  refine va_put (D := E.1) (ci := 1) (v := .int (1)) (ty := .boolean) (C := RX1) (T := TX1) (N := 13) hx hb hts in1 tyX1 tyX1_ok nmX1 hown hE.1 hP hD hS 0 rfl rfl 0 (by decide) K9 (fun _ h9 => h9) rfl (by decide +kernel) rfl rfl (Nat.le_of_ble_eq_true rfl) dX1_init_6 (fun H locs hP hD hS => ?_)
  have hP : va_P E.1 vwCl [(b, .inr (1, [.int (1), .int 0, .null, .null, .null, .null, .null, .int 0, .int 0, .int 0, .int 0, .int 0, .int 0]))] H := hP
  have hD : va_D A [(b, .inr (1, [.int (1), .int 0, .null, .null, .null, .null, .null, .int 0, .int 0, .int 0, .int 0, .int 0, .int 0]))] := hD
  refine lv_aload_n hx hb dX1_init_9 rfl (lv_at hl 0 rfl) ?_
  refine lv_iconst (v := 0) hx hb dX1_init_10 (by decide) ?_
  refine va_put (D := E.1) (ci := 1) (v := .int (0)) (ty := .int) (C := RX1) (T := TX1) (N := 13) hx hb hts in1 tyX1 tyX1_ok nmX1 hown hE.1 hP hD hS 0 rfl rfl 1 (by decide) K15 (fun _ h9 => h9) rfl (by decide +kernel) rfl rfl (Nat.le_of_ble_eq_true rfl) dX1_init_11 (fun H locs hP hD hS => ?_)
  have hP : va_P E.1 vwCl [(b, .inr (1, [.int (1), .int (0), .null, .null, .null, .null, .null, .int 0, .int 0, .int 0, .int 0, .int 0, .int 0]))] H := hP
  have hD : va_D A [(b, .inr (1, [.int (1), .int (0), .null, .null, .null, .null, .null, .int 0, .int 0, .int 0, .int 0, .int 0, .int 0]))] := hD
  refine lv_aload_n hx hb dX1_init_14 rfl (lv_at hl 0 rfl) ?_
  refine lv_bipush (v := 12) hx hb dX1_init_15 (by decide) ?_
  refine q_newi hx hb hE hai hP hD hS hA 12 rfl (by decide) (Nat.le_of_ble_eq_true rfl) (Nat.le_of_ble_eq_true rfl) dX1_init_17 (fun q1 H hP hD hS => ?_)
  have hP : va_P E.1 vwCl [(b, .inr (1, [.int (1), .int (0), .null, .null, .null, .null, .null, .int 0, .int 0, .int 0, .int 0, .int 0, .int 0])), (q1, rI E 12 zr)] H := hP
  have hD : va_D A [(b, .inr (1, [.int (1), .int (0), .null, .null, .null, .null, .null, .int 0, .int 0, .int 0, .int 0, .int 0, .int 0])), (q1, rI E 12 zr)] := hD
  refine va_putF (D := E.1) (ci := 1) (v := .ref q1) (ty := .array .int) (C := RX1) (T := TX1) (N := 13) hx hb hts in1 tyX1 tyX1_ok nmX1 hown hE.1 hP hD hS 0 rfl rfl 2 (by decide) K19 (fun _ h9 => h9) rfl hnm rfl (by decide +kernel) rfl rfl (Nat.le_of_ble_eq_true rfl) dX1_init_19 (fun H locs hP hD hS => ?_)
  have hP : va_P E.1 vwCl [(b, .inr (1, [.int (1), .int (0), .ref q1, .null, .null, .null, .null, .int 0, .int 0, .int 0, .int 0, .int 0, .int 0])), (q1, rI E 12 zr)] H := hP
  have hD : va_D A [(b, .inr (1, [.int (1), .int (0), .ref q1, .null, .null, .null, .null, .int 0, .int 0, .int 0, .int 0, .int 0, .int 0])), (q1, rI E 12 zr)] := hD
  refine lv_aload_n hx hb dX1_init_22 rfl (lv_at hl 0 rfl) ?_
  refine lv_bipush (v := 12) hx hb dX1_init_23 (by decide) ?_
  refine q_newi hx hb hE hai hP hD hS hA 12 rfl (by decide) (Nat.le_of_ble_eq_true rfl) (Nat.le_of_ble_eq_true rfl) dX1_init_25 (fun q2 H hP hD hS => ?_)
  have hP : va_P E.1 vwCl [(b, .inr (1, [.int (1), .int (0), .ref q1, .null, .null, .null, .null, .int 0, .int 0, .int 0, .int 0, .int 0, .int 0])), (q1, rI E 12 zr), (q2, rI E 12 zr)] H := hP
  have hD : va_D A [(b, .inr (1, [.int (1), .int (0), .ref q1, .null, .null, .null, .null, .int 0, .int 0, .int 0, .int 0, .int 0, .int 0])), (q1, rI E 12 zr), (q2, rI E 12 zr)] := hD
  refine va_putF (D := E.1) (ci := 1) (v := .ref q2) (ty := .array .int) (C := RX1) (T := TX1) (N := 13) hx hb hts in1 tyX1 tyX1_ok nmX1 hown hE.1 hP hD hS 0 rfl rfl 3 (by decide) K23 (fun _ h9 => h9) rfl hnm rfl (by decide +kernel) rfl rfl (Nat.le_of_ble_eq_true rfl) dX1_init_27 (fun H locs hP hD hS => ?_)
  have hP : va_P E.1 vwCl [(b, .inr (1, [.int (1), .int (0), .ref q1, .ref q2, .null, .null, .null, .int 0, .int 0, .int 0, .int 0, .int 0, .int 0])), (q1, rI E 12 zr), (q2, rI E 12 zr)] H := hP
  have hD : va_D A [(b, .inr (1, [.int (1), .int (0), .ref q1, .ref q2, .null, .null, .null, .int 0, .int 0, .int 0, .int 0, .int 0, .int 0])), (q1, rI E 12 zr), (q2, rI E 12 zr)] := hD
  refine lv_aload_n hx hb dX1_init_30 rfl (lv_at hl 0 rfl) ?_
  refine lv_bipush (v := 12) hx hb dX1_init_31 (by decide) ?_
  refine q_newi hx hb hE hai hP hD hS hA 12 rfl (by decide) (Nat.le_of_ble_eq_true rfl) (Nat.le_of_ble_eq_true rfl) dX1_init_33 (fun q3 H hP hD hS => ?_)
  have hP : va_P E.1 vwCl [(b, .inr (1, [.int (1), .int (0), .ref q1, .ref q2, .null, .null, .null, .int 0, .int 0, .int 0, .int 0, .int 0, .int 0])), (q1, rI E 12 zr), (q2, rI E 12 zr), (q3, rI E 12 zr)] H := hP
  have hD : va_D A [(b, .inr (1, [.int (1), .int (0), .ref q1, .ref q2, .null, .null, .null, .int 0, .int 0, .int 0, .int 0, .int 0, .int 0])), (q1, rI E 12 zr), (q2, rI E 12 zr), (q3, rI E 12 zr)] := hD
  refine va_putF (D := E.1) (ci := 1) (v := .ref q3) (ty := .array .int) (C := RX1) (T := TX1) (N := 13) hx hb hts in1 tyX1 tyX1_ok nmX1 hown hE.1 hP hD hS 0 rfl rfl 4 (by decide) K26 (fun _ h9 => h9) rfl hnm rfl (by decide +kernel) rfl rfl (Nat.le_of_ble_eq_true rfl) dX1_init_35 (fun H locs hP hD hS => ?_)
  have hP : va_P E.1 vwCl [(b, .inr (1, [.int (1), .int (0), .ref q1, .ref q2, .ref q3, .null, .null, .int 0, .int 0, .int 0, .int 0, .int 0, .int 0])), (q1, rI E 12 zr), (q2, rI E 12 zr), (q3, rI E 12 zr)] H := hP
  have hD : va_D A [(b, .inr (1, [.int (1), .int (0), .ref q1, .ref q2, .ref q3, .null, .null, .int 0, .int 0, .int 0, .int 0, .int 0, .int 0])), (q1, rI E 12 zr), (q2, rI E 12 zr), (q3, rI E 12 zr)] := hD
  refine lv_aload_n hx hb dX1_init_38 rfl (lv_at hl 0 rfl) ?_
  refine lv_iconst (v := 3) hx hb dX1_init_39 (by decide) ?_
  refine q_newi hx hb hE hai hP hD hS hA 3 rfl (by decide) (Nat.le_of_ble_eq_true rfl) (Nat.le_of_ble_eq_true rfl) dX1_init_40 (fun q4 H hP hD hS => ?_)
  have hP : va_P E.1 vwCl [(b, .inr (1, [.int (1), .int (0), .ref q1, .ref q2, .ref q3, .null, .null, .int 0, .int 0, .int 0, .int 0, .int 0, .int 0])), (q1, rI E 12 zr), (q2, rI E 12 zr), (q3, rI E 12 zr), (q4, rI E 3 zr)] H := hP
  have hD : va_D A [(b, .inr (1, [.int (1), .int (0), .ref q1, .ref q2, .ref q3, .null, .null, .int 0, .int 0, .int 0, .int 0, .int 0, .int 0])), (q1, rI E 12 zr), (q2, rI E 12 zr), (q3, rI E 12 zr), (q4, rI E 3 zr)] := hD
  refine va_putF (D := E.1) (ci := 1) (v := .ref q4) (ty := .array .int) (C := RX1) (T := TX1) (N := 13) hx hb hts in1 tyX1 tyX1_ok nmX1 hown hE.1 hP hD hS 0 rfl rfl 5 (by decide) K29 (fun _ h9 => h9) rfl hnm rfl (by decide +kernel) rfl rfl (Nat.le_of_ble_eq_true rfl) dX1_init_42 (fun H locs hP hD hS => ?_)
  have hP : va_P E.1 vwCl [(b, .inr (1, [.int (1), .int (0), .ref q1, .ref q2, .ref q3, .ref q4, .null, .int 0, .int 0, .int 0, .int 0, .int 0, .int 0])), (q1, rI E 12 zr), (q2, rI E 12 zr), (q3, rI E 12 zr), (q4, rI E 3 zr)] H := hP
  have hD : va_D A [(b, .inr (1, [.int (1), .int (0), .ref q1, .ref q2, .ref q3, .ref q4, .null, .int 0, .int 0, .int 0, .int 0, .int 0, .int 0])), (q1, rI E 12 zr), (q2, rI E 12 zr), (q3, rI E 12 zr), (q4, rI E 3 zr)] := hD
  refine lv_aload_n hx hb dX1_init_45 rfl (lv_at hl 0 rfl) ?_
  refine lv_iconst (v := 3) hx hb dX1_init_46 (by decide) ?_
  refine q_newi hx hb hE hai hP hD hS hA 3 rfl (by decide) (Nat.le_of_ble_eq_true rfl) (Nat.le_of_ble_eq_true rfl) dX1_init_47 (fun q5 H hP hD hS => ?_)
  have hP : va_P E.1 vwCl [(b, .inr (1, [.int (1), .int (0), .ref q1, .ref q2, .ref q3, .ref q4, .null, .int 0, .int 0, .int 0, .int 0, .int 0, .int 0])), (q1, rI E 12 zr), (q2, rI E 12 zr), (q3, rI E 12 zr), (q4, rI E 3 zr), (q5, rI E 3 zr)] H := hP
  have hD : va_D A [(b, .inr (1, [.int (1), .int (0), .ref q1, .ref q2, .ref q3, .ref q4, .null, .int 0, .int 0, .int 0, .int 0, .int 0, .int 0])), (q1, rI E 12 zr), (q2, rI E 12 zr), (q3, rI E 12 zr), (q4, rI E 3 zr), (q5, rI E 3 zr)] := hD
  refine va_putF (D := E.1) (ci := 1) (v := .ref q5) (ty := .array .int) (C := RX1) (T := TX1) (N := 13) hx hb hts in1 tyX1 tyX1_ok nmX1 hown hE.1 hP hD hS 0 rfl rfl 6 (by decide) K32 (fun _ h9 => h9) rfl hnm rfl (by decide +kernel) rfl rfl (Nat.le_of_ble_eq_true rfl) dX1_init_49 (fun H locs hP hD hS => ?_)
  have hP : va_P E.1 vwCl [(b, .inr (1, [.int (1), .int (0), .ref q1, .ref q2, .ref q3, .ref q4, .ref q5, .int 0, .int 0, .int 0, .int 0, .int 0, .int 0])), (q1, rI E 12 zr), (q2, rI E 12 zr), (q3, rI E 12 zr), (q4, rI E 3 zr), (q5, rI E 3 zr)] H := hP
  have hD : va_D A [(b, .inr (1, [.int (1), .int (0), .ref q1, .ref q2, .ref q3, .ref q4, .ref q5, .int 0, .int 0, .int 0, .int 0, .int 0, .int 0])), (q1, rI E 12 zr), (q2, rI E 12 zr), (q3, rI E 12 zr), (q4, rI E 3 zr), (q5, rI E 3 zr)] := hD
  refine lv_aload_n hx hb dX1_init_52 rfl (lv_at hl 0 rfl) ?_
  refine lv_bipush (v := -6) hx hb dX1_init_53 (by decide) ?_
  refine va_put (D := E.1) (ci := 1) (v := .int (-6)) (ty := .int) (C := RX1) (T := TX1) (N := 13) hx hb hts in1 tyX1 tyX1_ok nmX1 hown hE.1 hP hD hS 0 rfl rfl 7 (by decide) K35 (fun _ h9 => h9) rfl (by decide +kernel) rfl rfl (Nat.le_of_ble_eq_true rfl) dX1_init_55 (fun H locs hP hD hS => ?_)
  have hP : va_P E.1 vwCl [(b, .inr (1, [.int (1), .int (0), .ref q1, .ref q2, .ref q3, .ref q4, .ref q5, .int (-6), .int 0, .int 0, .int 0, .int 0, .int 0])), (q1, rI E 12 zr), (q2, rI E 12 zr), (q3, rI E 12 zr), (q4, rI E 3 zr), (q5, rI E 3 zr)] H := hP
  have hD : va_D A [(b, .inr (1, [.int (1), .int (0), .ref q1, .ref q2, .ref q3, .ref q4, .ref q5, .int (-6), .int 0, .int 0, .int 0, .int 0, .int 0])), (q1, rI E 12 zr), (q2, rI E 12 zr), (q3, rI E 12 zr), (q4, rI E 3 zr), (q5, rI E 3 zr)] := hD
  refine lv_aload_n hx hb dX1_init_58 rfl (lv_at hl 0 rfl) ?_
  refine lv_iconst (v := 0) hx hb dX1_init_59 (by decide) ?_
  refine va_put (D := E.1) (ci := 1) (v := .int (0)) (ty := .int) (C := RX1) (T := TX1) (N := 13) hx hb hts in1 tyX1 tyX1_ok nmX1 hown hE.1 hP hD hS 0 rfl rfl 8 (by decide) K38 (fun _ h9 => h9) rfl (by decide +kernel) rfl rfl (Nat.le_of_ble_eq_true rfl) dX1_init_60 (fun H locs hP hD hS => ?_)
  have hP : va_P E.1 vwCl [(b, .inr (1, [.int (1), .int (0), .ref q1, .ref q2, .ref q3, .ref q4, .ref q5, .int (-6), .int (0), .int 0, .int 0, .int 0, .int 0])), (q1, rI E 12 zr), (q2, rI E 12 zr), (q3, rI E 12 zr), (q4, rI E 3 zr), (q5, rI E 3 zr)] H := hP
  have hD : va_D A [(b, .inr (1, [.int (1), .int (0), .ref q1, .ref q2, .ref q3, .ref q4, .ref q5, .int (-6), .int (0), .int 0, .int 0, .int 0, .int 0])), (q1, rI E 12 zr), (q2, rI E 12 zr), (q3, rI E 12 zr), (q4, rI E 3 zr), (q5, rI E 3 zr)] := hD
  refine lv_aload_n hx hb dX1_init_63 rfl (lv_at hl 0 rfl) ?_
  refine lv_iconst (v := 0) hx hb dX1_init_64 (by decide) ?_
  refine va_put (D := E.1) (ci := 1) (v := .int (0)) (ty := .int) (C := RX1) (T := TX1) (N := 13) hx hb hts in1 tyX1 tyX1_ok nmX1 hown hE.1 hP hD hS 0 rfl rfl 9 (by decide) K41 (fun _ h9 => h9) rfl (by decide +kernel) rfl rfl (Nat.le_of_ble_eq_true rfl) dX1_init_65 (fun H locs hP hD hS => ?_)
  have hP : va_P E.1 vwCl [(b, .inr (1, [.int (1), .int (0), .ref q1, .ref q2, .ref q3, .ref q4, .ref q5, .int (-6), .int (0), .int (0), .int 0, .int 0, .int 0])), (q1, rI E 12 zr), (q2, rI E 12 zr), (q3, rI E 12 zr), (q4, rI E 3 zr), (q5, rI E 3 zr)] H := hP
  have hD : va_D A [(b, .inr (1, [.int (1), .int (0), .ref q1, .ref q2, .ref q3, .ref q4, .ref q5, .int (-6), .int (0), .int (0), .int 0, .int 0, .int 0])), (q1, rI E 12 zr), (q2, rI E 12 zr), (q3, rI E 12 zr), (q4, rI E 3 zr), (q5, rI E 3 zr)] := hD
  refine lv_aload_n hx hb dX1_init_68 rfl (lv_at hl 0 rfl) ?_
  refine lv_iconst (v := 0) hx hb dX1_init_69 (by decide) ?_
  refine va_put (D := E.1) (ci := 1) (v := .int (0)) (ty := .int) (C := RX1) (T := TX1) (N := 13) hx hb hts in1 tyX1 tyX1_ok nmX1 hown hE.1 hP hD hS 0 rfl rfl 10 (by decide) K44 (fun _ h9 => h9) rfl (by decide +kernel) rfl rfl (Nat.le_of_ble_eq_true rfl) dX1_init_70 (fun H locs hP hD hS => ?_)
  have hP : va_P E.1 vwCl [(b, .inr (1, [.int (1), .int (0), .ref q1, .ref q2, .ref q3, .ref q4, .ref q5, .int (-6), .int (0), .int (0), .int (0), .int 0, .int 0])), (q1, rI E 12 zr), (q2, rI E 12 zr), (q3, rI E 12 zr), (q4, rI E 3 zr), (q5, rI E 3 zr)] H := hP
  have hD : va_D A [(b, .inr (1, [.int (1), .int (0), .ref q1, .ref q2, .ref q3, .ref q4, .ref q5, .int (-6), .int (0), .int (0), .int (0), .int 0, .int 0])), (q1, rI E 12 zr), (q2, rI E 12 zr), (q3, rI E 12 zr), (q4, rI E 3 zr), (q5, rI E 3 zr)] := hD
  refine lv_aload_n hx hb dX1_init_73 rfl (lv_at hl 0 rfl) ?_
  refine lv_iconst (v := 0) hx hb dX1_init_74 (by decide) ?_
  refine va_put (D := E.1) (ci := 1) (v := .int (0)) (ty := .int) (C := RX1) (T := TX1) (N := 13) hx hb hts in1 tyX1 tyX1_ok nmX1 hown hE.1 hP hD hS 0 rfl rfl 11 (by decide) K47 (fun _ h9 => h9) rfl (by decide +kernel) rfl rfl (Nat.le_of_ble_eq_true rfl) dX1_init_75 (fun H locs hP hD hS => ?_)
  have hP : va_P E.1 vwCl [(b, .inr (1, [.int (1), .int (0), .ref q1, .ref q2, .ref q3, .ref q4, .ref q5, .int (-6), .int (0), .int (0), .int (0), .int (0), .int 0])), (q1, rI E 12 zr), (q2, rI E 12 zr), (q3, rI E 12 zr), (q4, rI E 3 zr), (q5, rI E 3 zr)] H := hP
  have hD : va_D A [(b, .inr (1, [.int (1), .int (0), .ref q1, .ref q2, .ref q3, .ref q4, .ref q5, .int (-6), .int (0), .int (0), .int (0), .int (0), .int 0])), (q1, rI E 12 zr), (q2, rI E 12 zr), (q3, rI E 12 zr), (q4, rI E 3 zr), (q5, rI E 3 zr)] := hD
  refine lv_aload_n hx hb dX1_init_78 rfl (lv_at hl 0 rfl) ?_
  refine lv_iconst (v := 0) hx hb dX1_init_79 (by decide) ?_
  refine va_put (D := E.1) (ci := 1) (v := .int (0)) (ty := .int) (C := RX1) (T := TX1) (N := 13) hx hb hts in1 tyX1 tyX1_ok nmX1 hown hE.1 hP hD hS 0 rfl rfl 12 (by decide) K50 (fun _ h9 => h9) rfl (by decide +kernel) rfl rfl (Nat.le_of_ble_eq_true rfl) dX1_init_80 (fun H locs hP hD hS => ?_)
  have hP : va_P E.1 vwCl [(b, .inr (1, [.int (1), .int (0), .ref q1, .ref q2, .ref q3, .ref q4, .ref q5, .int (-6), .int (0), .int (0), .int (0), .int (0), .int (0)])), (q1, rI E 12 zr), (q2, rI E 12 zr), (q3, rI E 12 zr), (q4, rI E 3 zr), (q5, rI E 3 zr)] H := hP
  have hD : va_D A [(b, .inr (1, [.int (1), .int (0), .ref q1, .ref q2, .ref q3, .ref q4, .ref q5, .int (-6), .int (0), .int (0), .int (0), .int (0), .int (0)])), (q1, rI E 12 zr), (q2, rI E 12 zr), (q3, rI E 12 zr), (q4, rI E 3 zr), (q5, rI E 3 zr)] := hD
  refine lv_aload_n hx hb dX1_init_83 rfl (lv_at hl 0 rfl) ?_
  refine va_get (D := E.1) (ci := 1) (v := .ref q1) (C := RX1) (T := TX1) (N := 13) hx hb hts in1 hown hE.1 hP 0 rfl rfl 2 (by decide) K19 (fun _ h9 => h9) rfl dX1_init_84 ?_
  refine lv_bipush (v := -6) hx hb dX1_init_87 (by decide) ?_
  refine cv_Sp F hE (k_fill l E q1 12 zr (-6) (by decide)) (va_cwS 2 hts gX1_init_J7_fill_53178 rfl rfl rfl (by decide +kernel) ⟨Nat.le_of_ble_eq_true rfl, Nat.le_of_ble_eq_true rfl⟩) (Fp.one (i := 1) rfl) hP hD hS hA rfl hl.1 rfl (Nat.le_of_ble_eq_true rfl) dX1_init_89 ⟨Nat.le_of_ble_eq_true rfl, Nat.le_of_ble_eq_true rfl⟩ (fun H locs hP hD hS => ?_)
  have hP : va_P E.1 vwCl [(b, .inr (1, [.int (1), .int (0), .ref q1, .ref q2, .ref q3, .ref q4, .ref q5, .int (-6), .int (0), .int (0), .int (0), .int (0), .int (0)])), (q1, rI E 12 (flr zr (-6) 12)), (q2, rI E 12 zr), (q3, rI E 12 zr), (q4, rI E 3 zr), (q5, rI E 3 zr)] H := hP
  have hD : va_D A [(b, .inr (1, [.int (1), .int (0), .ref q1, .ref q2, .ref q3, .ref q4, .ref q5, .int (-6), .int (0), .int (0), .int (0), .int (0), .int (0)])), (q1, rI E 12 (flr zr (-6) 12)), (q2, rI E 12 zr), (q3, rI E 12 zr), (q4, rI E 3 zr), (q5, rI E 3 zr)] := hD
  exact hret (u6 b q1 q2 q3 q4 q5) _ _ _ _ rfl hP hD hS dX1_init_92
