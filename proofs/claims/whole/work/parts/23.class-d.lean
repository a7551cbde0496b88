def p_X0_dropByList_35 (g : Nat → Int32) (r : Nat) (v : Nat) (S35 : (Nat → Int32)) (i : Nat) : (Nat → Int32) := (if (if ((g 0) - (g (52 + 3 * r + v))) ≤ (g 4) then 0 else 1 : Int32) = 0 then (if (f_X2_isInSet (S35 (67 + 3 * r + v)) (nI (v * 4 + i))) = 0 then S35 else (upd (upd (upd (upd S35 (262 + 6 * r + 5) ((S35 (262 + 6 * r + 5)) + (f_X2_bit (f_X1_hasCopy S35 r (v * 4 + i))))) (82 + 12 * r + (v * 4 + i)) (-6)) (142 + 12 * r + (v * 4 + i)) 0) (202 + 12 * r + (v * 4 + i)) 0)) else (upd (upd (upd (upd S35 (262 + 6 * r + 5) ((S35 (262 + 6 * r + 5)) + (f_X2_bit (f_X1_hasCopy S35 r (v * 4 + i))))) (82 + 12 * r + (v * 4 + i)) (-6)) (142 + 12 * r + (v * 4 + i)) 0) (202 + 12 * r + (v * 4 + i)) 0))
def q_X0_dropByList_35 (g : Nat → Int32) (r : Nat) (v : Nat) (S0 : (Nat → Int32)) : Nat → (Nat → Int32)
  | 0 => S0
  | i + 1 => p_X0_dropByList_35 g r v (q_X0_dropByList_35 g r v S0 i) i
def s_X0_dropByList (g : Nat → Int32) (r : Nat) (v : Nat) : Nat → Int32 := (upd (q_X0_dropByList_35 g r v g 4) (67 + 3 * r + v) 0)
set_option maxHeartbeats 4000000 in
set_option maxRecDepth 100000 in
theorem k_X0_dropByList (l : Launch) (E : EE) (a : Nat → Nat) (g : Nat → Int32) (r : Nat) (v : Nat) (hr : r < 5) (hv : v < 3) : Cv l E yX0_dropByList wsX0_dropByList { frames := 2, cells := 0, slots := 0, locals := 44 } [.ref (a 0), .ref (a (8 + 6 * r)), .int (nI v)] (hs E a g) (hs E a (s_X0_dropByList g r v)) := by
  refine Cv.of (cc := cX0_dropByList) (maxL := 6) (by decide) rfl (Nat.le_of_ble_eq_true rfl) ?_
  intro p e s m args below meth c A Q F hE hA hret hP hD ls hl
  obtain ⟨hx, hb, hml, hown, hts⟩ := id F
  have hS : va_S A s.heap s.heap [] := va_S.rf
  have hl : lv_has ls 6 [(0, .ref (a 0)), (1, .ref (a (8 + 6 * r))), (2, .int (nI v))] := hl
  have in0 : ∀ w ∈ wsX00, w ∈ wsX0_dropByList := fun w h => List.mem_cons_of_mem _ (List.mem_append_left _ (List.mem_append_right _ h))
  have in1 : ∀ w ∈ wsX10, w ∈ wsX0_dropByList := fun w h => List.mem_cons_of_mem _ (List.mem_append_right _ h)
  have K15 := hts (.fieldLink RX0 15 "PromiseHours$House" "rules" "[I") (by decide +kernel)
  have K9 := hts (.fieldLink RX0 9 "PromiseHours$House" "tick" "I") (by decide +kernel)
  refine lv_aload_n hx hb dX0_dropByList_0 rfl (lv_at hl 0 rfl) ?_
  refine va_get (D := E.1) (ci := 0) (v := .int (g 0)) (C := RX0) (T := TX0) (N := 17) hx hb hts in0 hown hE.1 hP 0 (hs_lo 0 (by decide) rfl) rfl 0 (by decide) K9 (fun _ h9 => h9) rfl dX0_dropByList_1 ?_
  refine lv_aload_n hx hb dX0_dropByList_4 rfl (lv_at hl 1 rfl) ?_
  refine va_getN (D := E.1) (ci := 1) (v := .ref (a (8 + 6 * r + 4))) (C := RX1) (T := TX1) (N := 13) hx hb hts in1 hown hE.1 hP (8 + 6 * r) (hs_hi0 (by omega)) rfl 5 (by decide) (ev_use hE nk_X0_167 rfl) (fun _ h9 => h9) rfl dX0_dropByList_5 ?_
  refine lv_iload_n hx hb dX0_dropByList_8 rfl (lv_at hl 2 rfl) ?_
  refine q_iald hx hb hE hP (8 + 6 * r + 4) (hs_hi 4 (by omega) (by decide) rfl) (j := v) (v := (g (52 + 3 * r + v))) rfl (by omega) (by decide) ((seg_at (by omega)).trans rfl) dX0_dropByList_9 ?_
  refine lv_isub hx hb dX0_dropByList_10 ?_
  refine lv_aload_n hx hb dX0_dropByList_11 rfl (lv_at hl 0 rfl) ?_
  refine va_get (D := E.1) (ci := 0) (v := .ref (a 1)) (C := RX0) (T := TX0) (N := 17) hx hb hts in0 hown hE.1 hP 0 (hs_lo 0 (by decide) rfl) rfl 1 (by decide) K15 (fun _ h9 => h9) rfl dX0_dropByList_12 ?_
  refine lv_iconst (v := 3) hx hb dX0_dropByList_15 (by decide) ?_
  refine q_iald hx hb hE hP 1 (hs_lo 1 (by decide) rfl) (j := 3) (v := (g 4)) rfl (by omega) (by decide) ((seg_at (by omega)).trans rfl) dX0_dropByList_16 ?_
  have J_25_1 : ∀ (w : Int32) (H : Heap) (locs : List Loc), va_P E.1 vwCl (hs E a g) H → va_D A (hs E a g) → va_S A s.heap H locs → w = (if ((g 0) - (g (52 + 3 * r + v))) ≤ (g 4) then 0 else 1 : Int32) → W p l e { frames := 2, cells := 0, slots := 0, locals := 44 } s m args below meth c H locs 0 0 Q (F0 m 25 ls [.int w]) := by
    intro w H locs hP hD hS ew
    rw [ew]
    refine lv_istore_n (lv' := [(3, .int (if ((g 0) - (g (52 + 3 * r + v))) ≤ (g 4) then 0 else 1 : Int32)), (0, .ref (a 0)), (1, .ref (a (8 + 6 * r))), (2, .int (nI v))]) hx hb dX0_dropByList_25 rfl hl (by decide) rfl (fun ls hl => ?_)
    refine lv_iload_n hx hb dX0_dropByList_26 rfl (lv_at hl 3 rfl) ?_
    refine lv_iconst (v := 4) hx hb dX0_dropByList_27 (by decide) ?_
    refine lv_imul hx hb dX0_dropByList_28 ?_
    refine tpe (y := nI (v * 4)) (pk_mul v 4) ?_
    refine lv_istore (lv' := [(4, .int (nI (v * 4))), (3, .int (if ((g 0) - (g (52 + 3 * r + v))) ≤ (g 4) then 0 else 1 : Int32)), (0, .ref (a 0)), (1, .ref (a (8 + 6 * r))), (2, .int (nI v))]) hx hb dX0_dropByList_29 hl (by decide) rfl (fun ls hl => ?_)
    refine lv_iload hx hb dX0_dropByList_31 (lv_at hl 0 rfl) ?_
    refine lv_istore (lv' := [(5, .int (nI (v * 4))), (4, .int (nI (v * 4))), (3, .int (if ((g 0) - (g (52 + 3 * r + v))) ≤ (g 4) then 0 else 1 : Int32)), (0, .ref (a 0)), (1, .ref (a (8 + 6 * r))), (2, .int (nI v))]) hx hb dX0_dropByList_33 hl (by decide) rfl (fun ls hl => ?_)
    have lp35 : ∀ (fu i : Nat), i ≤ 4 → 4 + 1 ≤ i + fu → ∀ (S35 : (Nat → Int32)), S35 = (q_X0_dropByList_35 g r v g i) → ∀ (H : Heap) (locs : List Loc), va_P E.1 vwCl (hs E a S35) H → va_D A (hs E a S35) → va_S A s.heap H locs → ∀ ls : Array Slot, lv_has ls 6 [(0, .ref (a 0)), (1, .ref (a (8 + 6 * r))), (2, .int (nI v)), (3, .int (if ((g 0) - (g (52 + 3 * r + v))) ≤ (g 4) then 0 else 1 : Int32)), (4, .int (nI (v * 4))), (5, .int (nI (v * 4 + i)))] → W p l e { frames := 2, cells := 0, slots := 0, locals := 44 } s m args below meth c H locs 0 0 Q (F0 m 35 ls []) := by
      intro fu
      induction fu with
      | zero => intro i h1 h2; exact absurd h2 (by omega)
      | succ fu ih =>
        intro i hi hin S35 eS35 H locs hP hD hS ls hl
        refine lv_iload hx hb dX0_dropByList_35 (lv_at hl 5 rfl) ?_
        refine lv_iload hx hb dX0_dropByList_37 (lv_at hl 4 rfl) ?_
        refine lv_iconst (v := 4) hx hb dX0_dropByList_39 (by decide) ?_
        refine lv_iadd hx hb dX0_dropByList_40 ?_
        refine tpe (y := nI (v * 4 + 4)) (nI_add (v * 4) 4) ?_
        refine lv_icmp_ge (tgt := 92) hx hb dX0_dropByList_41 (by decide) (fun c_3 => ?_) (fun c_3 => ?_)
        · have hiN : i = 4 := by have := (nI_leI (a := (v * 4 + 4)) (b := (v * 4 + i)) (by omega) (by omega)).mp c_3; omega
          rw [hiN] at eS35 hl
          refine lv_aload_n hx hb dX0_dropByList_92 rfl (lv_at hl 1 rfl) ?_
          refine va_getN (D := E.1) (ci := 1) (v := .ref (a (8 + 6 * r + 5))) (C := RX1) (T := TX1) (N := 13) hx hb hts in1 hown hE.1 hP (8 + 6 * r) (hs_hi0 (by omega)) rfl 6 (by decide) (ev_use hE nk_X0_161 rfl) (fun _ h9 => h9) rfl dX0_dropByList_93 ?_
          refine lv_iload_n hx hb dX0_dropByList_96 rfl (lv_at hl 2 rfl) ?_
          refine lv_iconst (v := 0) hx hb dX0_dropByList_97 (by decide) ?_
          refine q_iast hx hb hE hP hD hS (8 + 6 * r + 5) (hs_hi 5 (by omega) (by decide) rfl) (j := v) (wd' := (hs E a (upd S35 (67 + 3 * r + v) 0))) rfl (by omega) (by decide) (hs_u5 (by omega) (by omega)) dX0_dropByList_98 (fun H locs hP hD hS => ?_)
          have eg : (upd S35 (67 + 3 * r + v) 0) = (s_X0_dropByList g r v) := (by unfold s_X0_dropByList; rw [← eS35])
          exact hret _ _ _ _ (by rw [← eg]; exact hP) (by rw [← eg]; exact hD) hS dX0_dropByList_99
        · have hlt : i < 4 := Nat.lt_of_not_le (fun h => c_3 (nI_le (a := (v * 4 + 4)) (b := (v * 4 + i)) (by omega) (by omega)))
          refine lv_iload_n hx hb dX0_dropByList_44 rfl (lv_at hl 3 rfl) ?_
          refine lv_if_ne (tgt := 62) hx hb dX0_dropByList_45 (by decide) (fun c_4 => ?_) (fun c_4 => ?_)
          · refine lv_aload_n hx hb dX0_dropByList_62 rfl (lv_at hl 1 rfl) ?_
            refine lv_dup hx hb dX0_dropByList_63 rfl ?_
            refine va_getN (D := E.1) (ci := 1) (v := .int (S35 (262 + 6 * r + 5))) (C := RX1) (T := TX1) (N := 13) hx hb hts in1 hown hE.1 hP (8 + 6 * r) (hs_hi0 (by omega)) rfl 12 (by decide) (ev_use hE nk_X0_174 rfl) (fun _ h9 => h9) rfl dX0_dropByList_64 ?_
            refine lv_aload_n hx hb dX0_dropByList_67 rfl (lv_at hl 1 rfl) ?_
            refine lv_iload hx hb dX0_dropByList_68 (lv_at hl 5 rfl) ?_
            refine ci_VN F hE (k_X1_hasCopy l E a S35 r (v * 4 + i) (by omega) (by omega)) ⟨va_cnB 1 hts gX0_dropByList_X1_hasCopy_n84 rfl rfl rfl (ev_link hE nk_X0_84 rfl) (hts (.initialized RX1) (by decide +kernel)) (by decide +kernel) ⟨Nat.le_of_ble_eq_true rfl, Nat.le_of_ble_eq_true rfl⟩, hts (.instanceMethod yX1_hasCopy) (by decide +kernel), hts (.selects RX1 yX1_hasCopy yX1_hasCopy) (by decide +kernel)⟩ Fr.all (8 + 6 * r) 1 (hs_hi0 (by omega)) rfl rfl hP hD hS hA rfl hl.1 rfl (Nat.le_of_ble_eq_true rfl) dX0_dropByList_70 ⟨Nat.zero_le _, Nat.zero_le _⟩ (fun H locs hP hD hS => ?_)
            refine ci_SN F hE (k_X2_bit l E (f_X1_hasCopy S35 r (v * 4 + i))) ⟨va_cnB 1 hts gX0_dropByList_X2_bit_n107 rfl rfl rfl (ev_link hE nk_X0_107 rfl) (hts (.initialized RX2) (by decide +kernel)) (by decide +kernel) ⟨Nat.le_of_ble_eq_true rfl, Nat.le_of_ble_eq_true rfl⟩, hts (.static yX2_bit) (by decide +kernel), trivial⟩ Fr.nil hP hD hS hA rfl hl.1 rfl (Nat.le_of_ble_eq_true rfl) dX0_dropByList_73 ⟨Nat.zero_le _, Nat.zero_le _⟩ (fun H locs hP hD hS => ?_)
            refine lv_iadd hx hb dX0_dropByList_76 ?_
            refine va_putN (D := E.1) (ci := 1) (v := .int ((S35 (262 + 6 * r + 5)) + (f_X2_bit (f_X1_hasCopy S35 r (v * 4 + i))))) (ty := .int) (C := RX1) (T := TX1) (N := 13) hx hb hts in1 tyX1 tyX1_ok nmX1 hown hE.1 hP hD hS (8 + 6 * r) (hs_hi0 (by omega)) rfl 12 (by decide) (ev_use hE nk_X0_174 rfl) (fun _ h9 => h9) rfl (by decide +kernel) rfl rfl (Nat.le_of_ble_eq_true rfl) dX0_dropByList_77 (fun H locs hP hD hS => ?_)
            rw [(hs_r12 (r := r) (by omega))] at hP hD
            have hP : va_P E.1 vwCl (hs E a (upd S35 (262 + 6 * r + 5) ((S35 (262 + 6 * r + 5)) + (f_X2_bit (f_X1_hasCopy S35 r (v * 4 + i)))))) H := hP
            have hD : va_D A (hs E a (upd S35 (262 + 6 * r + 5) ((S35 (262 + 6 * r + 5)) + (f_X2_bit (f_X1_hasCopy S35 r (v * 4 + i)))))) := hD
            refine lv_aload_n hx hb dX0_dropByList_80 rfl (lv_at hl 1 rfl) ?_
            refine lv_iload hx hb dX0_dropByList_81 (lv_at hl 5 rfl) ?_
            refine cv_VN F hE (k_X1_dropCopy l E a (upd S35 (262 + 6 * r + 5) ((S35 (262 + 6 * r + 5)) + (f_X2_bit (f_X1_hasCopy S35 r (v * 4 + i))))) r (v * 4 + i) (by omega) (by omega)) ⟨va_cnB 1 hts gX0_dropByList_X1_dropCopy_n177 rfl rfl rfl (ev_link hE nk_X0_177 rfl) (hts (.initialized RX1) (by decide +kernel)) (by decide +kernel) ⟨Nat.le_of_ble_eq_true rfl, Nat.le_of_ble_eq_true rfl⟩, hts (.instanceMethod yX1_dropCopy) (by decide +kernel), hts (.selects RX1 yX1_dropCopy yX1_dropCopy) (by decide +kernel)⟩ Fr.all (8 + 6 * r) 1 (hs_hi0 (by omega)) rfl rfl hP hD hS hA rfl hl.1 rfl (Nat.le_of_ble_eq_true rfl) dX0_dropByList_83 ⟨Nat.zero_le _, Nat.zero_le _⟩ (fun H locs hP hD hS => ?_)
            have hP : va_P E.1 vwCl (hs E a (upd (upd (upd (upd S35 (262 + 6 * r + 5) ((S35 (262 + 6 * r + 5)) + (f_X2_bit (f_X1_hasCopy S35 r (v * 4 + i))))) (82 + 12 * r + (v * 4 + i)) (-6)) (142 + 12 * r + (v * 4 + i)) 0) (202 + 12 * r + (v * 4 + i)) 0)) H := hP
            have hD : va_D A (hs E a (upd (upd (upd (upd S35 (262 + 6 * r + 5) ((S35 (262 + 6 * r + 5)) + (f_X2_bit (f_X1_hasCopy S35 r (v * 4 + i))))) (82 + 12 * r + (v * 4 + i)) (-6)) (142 + 12 * r + (v * 4 + i)) 0) (202 + 12 * r + (v * 4 + i)) 0)) := hD
            refine lv_iinc (v := (nI (v * 4 + i + 1))) (lv' := [(5, .int (nI (v * 4 + i + 1))), (0, .ref (a 0)), (1, .ref (a (8 + 6 * r))), (2, .int (nI v)), (3, .int (if ((g 0) - (g (52 + 3 * r + v))) ≤ (g 4) then 0 else 1 : Int32)), (4, .int (nI (v * 4)))]) hx hb dX0_dropByList_86 hl (k := 5) rfl (nI_1 (v * 4 + i)) (by decide) rfl (fun ls hl => ?_)
            refine lv_goto (tgt := 35) hx hb dX0_dropByList_89 (by decide) ?_
            have eS1 : ((upd (upd (upd (upd S35 (262 + 6 * r + 5) ((S35 (262 + 6 * r + 5)) + (f_X2_bit (f_X1_hasCopy S35 r (v * 4 + i))))) (82 + 12 * r + (v * 4 + i)) (-6)) (142 + 12 * r + (v * 4 + i)) 0) (202 + 12 * r + (v * 4 + i)) 0) : (Nat → Int32)) = (q_X0_dropByList_35 g r v g (i + 1)) := by
              show _ = p_X0_dropByList_35 g r v (q_X0_dropByList_35 g r v g i) i
              rw [← eS35]
              unfold p_X0_dropByList_35; exact (if_neg c_4).symm
            exact ih (i + 1) (by omega) (by omega) (upd (upd (upd (upd S35 (262 + 6 * r + 5) ((S35 (262 + 6 * r + 5)) + (f_X2_bit (f_X1_hasCopy S35 r (v * 4 + i))))) (82 + 12 * r + (v * 4 + i)) (-6)) (142 + 12 * r + (v * 4 + i)) 0) (202 + 12 * r + (v * 4 + i)) 0) eS1 _ _ hP hD hS ls (lv_sub hl [1, 2, 3, 4, 5, 0] rfl)
          · refine lv_aload_n hx hb dX0_dropByList_48 rfl (lv_at hl 1 rfl) ?_
            refine va_getN (D := E.1) (ci := 1) (v := .ref (a (8 + 6 * r + 5))) (C := RX1) (T := TX1) (N := 13) hx hb hts in1 hown hE.1 hP (8 + 6 * r) (hs_hi0 (by omega)) rfl 6 (by decide) (ev_use hE nk_X0_161 rfl) (fun _ h9 => h9) rfl dX0_dropByList_49 ?_
            refine lv_iload_n hx hb dX0_dropByList_52 rfl (lv_at hl 2 rfl) ?_
            refine q_iald hx hb hE hP (8 + 6 * r + 5) (hs_hi 5 (by omega) (by decide) rfl) (j := v) (v := (S35 (67 + 3 * r + v))) rfl (by omega) (by decide) ((seg_at (by omega)).trans rfl) dX0_dropByList_53 ?_
            refine lv_iload hx hb dX0_dropByList_54 (lv_at hl 5 rfl) ?_
            refine ci_SN F hE (k_X2_isInSet l E (S35 (67 + 3 * r + v)) (nI (v * 4 + i))) ⟨va_cnB 2 hts gX0_dropByList_X2_isInSet_n170 rfl rfl rfl (ev_link hE nk_X0_170 rfl) (hts (.initialized RX2) (by decide +kernel)) (by decide +kernel) ⟨Nat.le_of_ble_eq_true rfl, Nat.le_of_ble_eq_true rfl⟩, hts (.static yX2_isInSet) (by decide +kernel), trivial⟩ Fr.nil hP hD hS hA rfl hl.1 rfl (Nat.le_of_ble_eq_true rfl) dX0_dropByList_56 ⟨Nat.zero_le _, Nat.zero_le _⟩ (fun H locs hP hD hS => ?_)
            refine lv_if_eq (tgt := 86) hx hb dX0_dropByList_59 (by decide) (fun c_5 => ?_) (fun c_5 => ?_)
            · refine lv_iinc (v := (nI (v * 4 + i + 1))) (lv' := [(5, .int (nI (v * 4 + i + 1))), (0, .ref (a 0)), (1, .ref (a (8 + 6 * r))), (2, .int (nI v)), (3, .int (if ((g 0) - (g (52 + 3 * r + v))) ≤ (g 4) then 0 else 1 : Int32)), (4, .int (nI (v * 4)))]) hx hb dX0_dropByList_86 hl (k := 5) rfl (nI_1 (v * 4 + i)) (by decide) rfl (fun ls hl => ?_)
              refine lv_goto (tgt := 35) hx hb dX0_dropByList_89 (by decide) ?_
              have eS1 : (S35 : (Nat → Int32)) = (q_X0_dropByList_35 g r v g (i + 1)) := by
                show _ = p_X0_dropByList_35 g r v (q_X0_dropByList_35 g r v g i) i
                rw [← eS35]
                unfold p_X0_dropByList_35; exact ((if_pos c_4).trans (if_pos c_5)).symm
              exact ih (i + 1) (by omega) (by omega) S35 eS1 _ _ hP hD hS ls (lv_sub hl [1, 2, 3, 4, 5, 0] rfl)
            · refine lv_aload_n hx hb dX0_dropByList_62 rfl (lv_at hl 1 rfl) ?_
              refine lv_dup hx hb dX0_dropByList_63 rfl ?_
              refine va_getN (D := E.1) (ci := 1) (v := .int (S35 (262 + 6 * r + 5))) (C := RX1) (T := TX1) (N := 13) hx hb hts in1 hown hE.1 hP (8 + 6 * r) (hs_hi0 (by omega)) rfl 12 (by decide) (ev_use hE nk_X0_174 rfl) (fun _ h9 => h9) rfl dX0_dropByList_64 ?_
              refine lv_aload_n hx hb dX0_dropByList_67 rfl (lv_at hl 1 rfl) ?_
              refine lv_iload hx hb dX0_dropByList_68 (lv_at hl 5 rfl) ?_
              refine ci_VN F hE (k_X1_hasCopy l E a S35 r (v * 4 + i) (by omega) (by omega)) ⟨va_cnB 1 hts gX0_dropByList_X1_hasCopy_n84 rfl rfl rfl (ev_link hE nk_X0_84 rfl) (hts (.initialized RX1) (by decide +kernel)) (by decide +kernel) ⟨Nat.le_of_ble_eq_true rfl, Nat.le_of_ble_eq_true rfl⟩, hts (.instanceMethod yX1_hasCopy) (by decide +kernel), hts (.selects RX1 yX1_hasCopy yX1_hasCopy) (by decide +kernel)⟩ Fr.all (8 + 6 * r) 1 (hs_hi0 (by omega)) rfl rfl hP hD hS hA rfl hl.1 rfl (Nat.le_of_ble_eq_true rfl) dX0_dropByList_70 ⟨Nat.zero_le _, Nat.zero_le _⟩ (fun H locs hP hD hS => ?_)
              refine ci_SN F hE (k_X2_bit l E (f_X1_hasCopy S35 r (v * 4 + i))) ⟨va_cnB 1 hts gX0_dropByList_X2_bit_n107 rfl rfl rfl (ev_link hE nk_X0_107 rfl) (hts (.initialized RX2) (by decide +kernel)) (by decide +kernel) ⟨Nat.le_of_ble_eq_true rfl, Nat.le_of_ble_eq_true rfl⟩, hts (.static yX2_bit) (by decide +kernel), trivial⟩ Fr.nil hP hD hS hA rfl hl.1 rfl (Nat.le_of_ble_eq_true rfl) dX0_dropByList_73 ⟨Nat.zero_le _, Nat.zero_le _⟩ (fun H locs hP hD hS => ?_)
              refine lv_iadd hx hb dX0_dropByList_76 ?_
              refine va_putN (D := E.1) (ci := 1) (v := .int ((S35 (262 + 6 * r + 5)) + (f_X2_bit (f_X1_hasCopy S35 r (v * 4 + i))))) (ty := .int) (C := RX1) (T := TX1) (N := 13) hx hb hts in1 tyX1 tyX1_ok nmX1 hown hE.1 hP hD hS (8 + 6 * r) (hs_hi0 (by omega)) rfl 12 (by decide) (ev_use hE nk_X0_174 rfl) (fun _ h9 => h9) rfl (by decide +kernel) rfl rfl (Nat.le_of_ble_eq_true rfl) dX0_dropByList_77 (fun H locs hP hD hS => ?_)
              rw [(hs_r12 (r := r) (by omega))] at hP hD
              have hP : va_P E.1 vwCl (hs E a (upd S35 (262 + 6 * r + 5) ((S35 (262 + 6 * r + 5)) + (f_X2_bit (f_X1_hasCopy S35 r (v * 4 + i)))))) H := hP
              have hD : va_D A (hs E a (upd S35 (262 + 6 * r + 5) ((S35 (262 + 6 * r + 5)) + (f_X2_bit (f_X1_hasCopy S35 r (v * 4 + i)))))) := hD
              refine lv_aload_n hx hb dX0_dropByList_80 rfl (lv_at hl 1 rfl) ?_
              refine lv_iload hx hb dX0_dropByList_81 (lv_at hl 5 rfl) ?_
              refine cv_VN F hE (k_X1_dropCopy l E a (upd S35 (262 + 6 * r + 5) ((S35 (262 + 6 * r + 5)) + (f_X2_bit (f_X1_hasCopy S35 r (v * 4 + i))))) r (v * 4 + i) (by omega) (by omega)) ⟨va_cnB 1 hts gX0_dropByList_X1_dropCopy_n177 rfl rfl rfl (ev_link hE nk_X0_177 rfl) (hts (.initialized RX1) (by decide +kernel)) (by decide +kernel) ⟨Nat.le_of_ble_eq_true rfl, Nat.le_of_ble_eq_true rfl⟩, hts (.instanceMethod yX1_dropCopy) (by decide +kernel), hts (.selects RX1 yX1_dropCopy yX1_dropCopy) (by decide +kernel)⟩ Fr.all (8 + 6 * r) 1 (hs_hi0 (by omega)) rfl rfl hP hD hS hA rfl hl.1 rfl (Nat.le_of_ble_eq_true rfl) dX0_dropByList_83 ⟨Nat.zero_le _, Nat.zero_le _⟩ (fun H locs hP hD hS => ?_)
              have hP : va_P E.1 vwCl (hs E a (upd (upd (upd (upd S35 (262 + 6 * r + 5) ((S35 (262 + 6 * r + 5)) + (f_X2_bit (f_X1_hasCopy S35 r (v * 4 + i))))) (82 + 12 * r + (v * 4 + i)) (-6)) (142 + 12 * r + (v * 4 + i)) 0) (202 + 12 * r + (v * 4 + i)) 0)) H := hP
              have hD : va_D A (hs E a (upd (upd (upd (upd S35 (262 + 6 * r + 5) ((S35 (262 + 6 * r + 5)) + (f_X2_bit (f_X1_hasCopy S35 r (v * 4 + i))))) (82 + 12 * r + (v * 4 + i)) (-6)) (142 + 12 * r + (v * 4 + i)) 0) (202 + 12 * r + (v * 4 + i)) 0)) := hD
              refine lv_iinc (v := (nI (v * 4 + i + 1))) (lv' := [(5, .int (nI (v * 4 + i + 1))), (0, .ref (a 0)), (1, .ref (a (8 + 6 * r))), (2, .int (nI v)), (3, .int (if ((g 0) - (g (52 + 3 * r + v))) ≤ (g 4) then 0 else 1 : Int32)), (4, .int (nI (v * 4)))]) hx hb dX0_dropByList_86 hl (k := 5) rfl (nI_1 (v * 4 + i)) (by decide) rfl (fun ls hl => ?_)
              refine lv_goto (tgt := 35) hx hb dX0_dropByList_89 (by decide) ?_
              have eS1 : ((upd (upd (upd (upd S35 (262 + 6 * r + 5) ((S35 (262 + 6 * r + 5)) + (f_X2_bit (f_X1_hasCopy S35 r (v * 4 + i))))) (82 + 12 * r + (v * 4 + i)) (-6)) (142 + 12 * r + (v * 4 + i)) 0) (202 + 12 * r + (v * 4 + i)) 0) : (Nat → Int32)) = (q_X0_dropByList_35 g r v g (i + 1)) := by
                show _ = p_X0_dropByList_35 g r v (q_X0_dropByList_35 g r v g i) i
                rw [← eS35]
                unfold p_X0_dropByList_35; exact ((if_pos c_4).trans (if_neg c_5)).symm
              exact ih (i + 1) (by omega) (by omega) (upd (upd (upd (upd S35 (262 + 6 * r + 5) ((S35 (262 + 6 * r + 5)) + (f_X2_bit (f_X1_hasCopy S35 r (v * 4 + i))))) (82 + 12 * r + (v * 4 + i)) (-6)) (142 + 12 * r + (v * 4 + i)) 0) (202 + 12 * r + (v * 4 + i)) 0) eS1 _ _ hP hD hS ls (lv_sub hl [1, 2, 3, 4, 5, 0] rfl)
    exact lp35 (4 + 1) 0 (Nat.zero_le _) (by omega) g rfl _ _ hP hD hS ls (lv_sub hl [3, 4, 5, 2, 1, 0] rfl)
  refine lv_icmp_le (tgt := 24) hx hb dX0_dropByList_17 (by decide) (fun c_2 => ?_) (fun c_2 => ?_)
  · refine lv_iconst (v := 0) hx hb dX0_dropByList_24 (by decide) ?_
    exact J_25_1 _ _ _ hP hD hS (if_pos c_2).symm
  · refine lv_iconst (v := 1) hx hb dX0_dropByList_20 (by decide) ?_
    refine lv_goto (tgt := 25) hx hb dX0_dropByList_21 (by decide) ?_
    exact J_25_1 _ _ _ hP hD hS (if_neg c_2).symm
def t1_X0_renew (g : Nat → Int32) (r : Nat) (v : Nat) : Nat → Int32 := (s_X0_dropByList g r v)
def s_X0_renew (g : Nat → Int32) (r : Nat) (v : Nat) : Nat → Int32 := (if (g (67 + 3 * r + v)) = 0 then (upd (upd g (52 + 3 * r + v) ((g 0) + (g 2))) 308 ((g 308) + 1)) else (upd (upd (t1_X0_renew g r v) (52 + 3 * r + v) (((t1_X0_renew g r v) 0) + ((t1_X0_renew g r v) 2))) 308 (((t1_X0_renew g r v) 308) + 1)))
set_option maxHeartbeats 4000000 in
set_option maxRecDepth 100000 in
theorem k_X0_renew (l : Launch) (E : EE) (a : Nat → Nat) (g : Nat → Int32) (r : Nat) (v : Nat) (hr : r < 5) (hv : v < 3) : Cv l E yX0_renew wsX0_renew { frames := 3, cells := 0, slots := 0, locals := 69 } [.ref (a 0), .ref (a (8 + 6 * r)), .int (nI v)] (hs E a g) (hs E a (s_X0_renew g r v)) := by
  refine Cv.of (cc := cX0_renew) (maxL := 3) (by decide) rfl (Nat.le_of_ble_eq_true rfl) ?_
  intro p e s m args below meth c A Q F hE hA hret hP hD ls hl
  obtain ⟨hx, hb, hml, hown, hts⟩ := id F
  have hS : va_S A s.heap s.heap [] := va_S.rf
  have hl : lv_has ls 3 [(0, .ref (a 0)), (1, .ref (a (8 + 6 * r))), (2, .int (nI v))] := hl
  have in0 : ∀ w ∈ wsX00, w ∈ wsX0_renew := fun w h => List.mem_cons_of_mem _ (List.mem_append_right _ h)
  have in1 : ∀ w ∈ wsX10, w ∈ wsX0_renew := fun w h => List.mem_cons_of_mem _ (List.mem_append_left _ (List.mem_append_right _ h))
  have K15 := hts (.fieldLink RX0 15 "PromiseHours$House" "rules" "[I") (by decide +kernel)
  have K65 := hts (.fieldLink RX0 65 "PromiseHours$House" "timesRenewed" "I") (by decide +kernel)
  have K9 := hts (.fieldLink RX0 9 "PromiseHours$House" "tick" "I") (by decide +kernel)
  refine lv_aload_n hx hb dX0_renew_0 rfl (lv_at hl 1 rfl) ?_
  refine va_getN (D := E.1) (ci := 1) (v := .ref (a (8 + 6 * r + 5))) (C := RX1) (T := TX1) (N := 13) hx hb hts in1 hown hE.1 hP (8 + 6 * r) (hs_hi0 (by omega)) rfl 6 (by decide) (ev_use hE nk_X0_161 rfl) (fun _ h9 => h9) rfl dX0_renew_1 ?_
  refine lv_iload_n hx hb dX0_renew_4 rfl (lv_at hl 2 rfl) ?_
  refine q_iald hx hb hE hP (8 + 6 * r + 5) (hs_hi 5 (by omega) (by decide) rfl) (j := v) (v := (g (67 + 3 * r + v))) rfl (by omega) (by decide) ((seg_at (by omega)).trans rfl) dX0_renew_5 ?_
  refine lv_if_eq (tgt := 15) hx hb dX0_renew_6 (by decide) (fun c_1 => ?_) (fun c_1 => ?_)
  · refine lv_aload_n hx hb dX0_renew_15 rfl (lv_at hl 1 rfl) ?_
    refine va_getN (D := E.1) (ci := 1) (v := .ref (a (8 + 6 * r + 4))) (C := RX1) (T := TX1) (N := 13) hx hb hts in1 hown hE.1 hP (8 + 6 * r) (hs_hi0 (by omega)) rfl 5 (by decide) (ev_use hE nk_X0_167 rfl) (fun _ h9 => h9) rfl dX0_renew_16 ?_
    refine lv_iload_n hx hb dX0_renew_19 rfl (lv_at hl 2 rfl) ?_
    refine lv_aload_n hx hb dX0_renew_20 rfl (lv_at hl 0 rfl) ?_
    refine va_get (D := E.1) (ci := 0) (v := .int (g 0)) (C := RX0) (T := TX0) (N := 17) hx hb hts in0 hown hE.1 hP 0 (hs_lo 0 (by decide) rfl) rfl 0 (by decide) K9 (fun _ h9 => h9) rfl dX0_renew_21 ?_
    refine lv_aload_n hx hb dX0_renew_24 rfl (lv_at hl 0 rfl) ?_
    refine va_get (D := E.1) (ci := 0) (v := .ref (a 1)) (C := RX0) (T := TX0) (N := 17) hx hb hts in0 hown hE.1 hP 0 (hs_lo 0 (by decide) rfl) rfl 1 (by decide) K15 (fun _ h9 => h9) rfl dX0_renew_25 ?_
    refine lv_iconst (v := 1) hx hb dX0_renew_28 (by decide) ?_
    refine q_iald hx hb hE hP 1 (hs_lo 1 (by decide) rfl) (j := 1) (v := (g 2)) rfl (by omega) (by decide) ((seg_at (by omega)).trans rfl) dX0_renew_29 ?_
    refine lv_iadd hx hb dX0_renew_30 ?_
    refine q_iast hx hb hE hP hD hS (8 + 6 * r + 4) (hs_hi 4 (by omega) (by decide) rfl) (j := v) (wd' := (hs E a (upd g (52 + 3 * r + v) ((g 0) + (g 2))))) rfl (by omega) (by decide) (hs_u4 (by omega) (by omega)) dX0_renew_31 (fun H locs hP hD hS => ?_)
    refine lv_aload_n hx hb dX0_renew_32 rfl (lv_at hl 0 rfl) ?_
    refine lv_dup hx hb dX0_renew_33 rfl ?_
    refine va_get (D := E.1) (ci := 0) (v := .int ((upd g (52 + 3 * r + v) ((g 0) + (g 2))) 308)) (C := RX0) (T := TX0) (N := 17) hx hb hts in0 hown hE.1 hP 0 (hs_lo 0 (by decide) rfl) rfl 16 (by decide) K65 (fun _ h9 => h9) rfl dX0_renew_34 ?_
    refine tpe (up_n (by omega)) ?_
    refine lv_iconst (v := 1) hx hb dX0_renew_37 (by decide) ?_
    refine lv_iadd hx hb dX0_renew_38 ?_
    refine va_put (D := E.1) (ci := 0) (v := .int ((g 308) + 1)) (ty := .int) (C := RX0) (T := TX0) (N := 17) hx hb hts in0 tyX0 tyX0_ok nmX0 hown hE.1 hP hD hS 0 (hs_lo 0 (by decide) rfl) rfl 16 (by decide) K65 (fun _ h9 => h9) rfl (by decide +kernel) rfl rfl (Nat.le_of_ble_eq_true rfl) dX0_renew_39 (fun H locs hP hD hS => ?_)
    rw [hs_f16] at hP hD
    have hP : va_P E.1 vwCl (hs E a (upd (upd g (52 + 3 * r + v) ((g 0) + (g 2))) 308 ((g 308) + 1))) H := hP
    have hD : va_D A (hs E a (upd (upd g (52 + 3 * r + v) ((g 0) + (g 2))) 308 ((g 308) + 1))) := hD
    have eg : (upd (upd g (52 + 3 * r + v) ((g 0) + (g 2))) 308 ((g 308) + 1)) = (s_X0_renew g r v) := (by unfold s_X0_renew; exact (if_pos c_1).symm)
    exact hret _ _ _ _ (by rw [← eg]; exact hP) (by rw [← eg]; exact hD) hS dX0_renew_42
  · refine lv_aload_n hx hb dX0_renew_9 rfl (lv_at hl 0 rfl) ?_
    refine lv_aload_n hx hb dX0_renew_10 rfl (lv_at hl 1 rfl) ?_
    refine lv_iload_n hx hb dX0_renew_11 rfl (lv_at hl 2 rfl) ?_
    refine cv_V F hE (k_X0_dropByList l E a g r v (by omega) (by omega)) (cwV 2 hts gX0_renew_X0_dropByList rfl rfl rfl (by decide +kernel) ⟨Nat.le_of_ble_eq_true rfl, Nat.le_of_ble_eq_true rfl⟩) Fr.all 0 0 (hs_lo 0 (by decide) rfl) rfl rfl hP hD hS hA rfl hl.1 rfl (Nat.le_of_ble_eq_true rfl) dX0_renew_12 ⟨Nat.zero_le _, Nat.zero_le _⟩ (fun H locs hP hD hS => ?_)
    have hP : va_P E.1 vwCl (hs E a (t1_X0_renew g r v)) H := hP
    have hD : va_D A (hs E a (t1_X0_renew g r v)) := hD
    refine lv_aload_n hx hb dX0_renew_15 rfl (lv_at hl 1 rfl) ?_
    refine va_getN (D := E.1) (ci := 1) (v := .ref (a (8 + 6 * r + 4))) (C := RX1) (T := TX1) (N := 13) hx hb hts in1 hown hE.1 hP (8 + 6 * r) (hs_hi0 (by omega)) rfl 5 (by decide) (ev_use hE nk_X0_167 rfl) (fun _ h9 => h9) rfl dX0_renew_16 ?_
    refine lv_iload_n hx hb dX0_renew_19 rfl (lv_at hl 2 rfl) ?_
    refine lv_aload_n hx hb dX0_renew_20 rfl (lv_at hl 0 rfl) ?_
    refine va_get (D := E.1) (ci := 0) (v := .int ((t1_X0_renew g r v) 0)) (C := RX0) (T := TX0) (N := 17) hx hb hts in0 hown hE.1 hP 0 (hs_lo 0 (by decide) rfl) rfl 0 (by decide) K9 (fun _ h9 => h9) rfl dX0_renew_21 ?_
    refine lv_aload_n hx hb dX0_renew_24 rfl (lv_at hl 0 rfl) ?_
    refine va_get (D := E.1) (ci := 0) (v := .ref (a 1)) (C := RX0) (T := TX0) (N := 17) hx hb hts in0 hown hE.1 hP 0 (hs_lo 0 (by decide) rfl) rfl 1 (by decide) K15 (fun _ h9 => h9) rfl dX0_renew_25 ?_
    refine lv_iconst (v := 1) hx hb dX0_renew_28 (by decide) ?_
    refine q_iald hx hb hE hP 1 (hs_lo 1 (by decide) rfl) (j := 1) (v := ((t1_X0_renew g r v) 2)) rfl (by omega) (by decide) ((seg_at (by omega)).trans rfl) dX0_renew_29 ?_
    refine lv_iadd hx hb dX0_renew_30 ?_
    refine q_iast hx hb hE hP hD hS (8 + 6 * r + 4) (hs_hi 4 (by omega) (by decide) rfl) (j := v) (wd' := (hs E a (upd (t1_X0_renew g r v) (52 + 3 * r + v) (((t1_X0_renew g r v) 0) + ((t1_X0_renew g r v) 2))))) rfl (by omega) (by decide) (hs_u4 (by omega) (by omega)) dX0_renew_31 (fun H locs hP hD hS => ?_)
    refine lv_aload_n hx hb dX0_renew_32 rfl (lv_at hl 0 rfl) ?_
    refine lv_dup hx hb dX0_renew_33 rfl ?_
    refine va_get (D := E.1) (ci := 0) (v := .int ((upd (t1_X0_renew g r v) (52 + 3 * r + v) (((t1_X0_renew g r v) 0) + ((t1_X0_renew g r v) 2))) 308)) (C := RX0) (T := TX0) (N := 17) hx hb hts in0 hown hE.1 hP 0 (hs_lo 0 (by decide) rfl) rfl 16 (by decide) K65 (fun _ h9 => h9) rfl dX0_renew_34 ?_
    refine tpe (up_n (by omega)) ?_
    refine lv_iconst (v := 1) hx hb dX0_renew_37 (by decide) ?_
    refine lv_iadd hx hb dX0_renew_38 ?_
    refine va_put (D := E.1) (ci := 0) (v := .int (((t1_X0_renew g r v) 308) + 1)) (ty := .int) (C := RX0) (T := TX0) (N := 17) hx hb hts in0 tyX0 tyX0_ok nmX0 hown hE.1 hP hD hS 0 (hs_lo 0 (by decide) rfl) rfl 16 (by decide) K65 (fun _ h9 => h9) rfl (by decide +kernel) rfl rfl (Nat.le_of_ble_eq_true rfl) dX0_renew_39 (fun H locs hP hD hS => ?_)
    rw [hs_f16] at hP hD
    have hP : va_P E.1 vwCl (hs E a (upd (upd (t1_X0_renew g r v) (52 + 3 * r + v) (((t1_X0_renew g r v) 0) + ((t1_X0_renew g r v) 2))) 308 (((t1_X0_renew g r v) 308) + 1))) H := hP
    have hD : va_D A (hs E a (upd (upd (t1_X0_renew g r v) (52 + 3 * r + v) (((t1_X0_renew g r v) 0) + ((t1_X0_renew g r v) 2))) 308 (((t1_X0_renew g r v) 308) + 1))) := hD
    have eg : (upd (upd (t1_X0_renew g r v) (52 + 3 * r + v) (((t1_X0_renew g r v) 0) + ((t1_X0_renew g r v) 2))) 308 (((t1_X0_renew g r v) 308) + 1)) = (s_X0_renew g r v) := (by unfold s_X0_renew; exact (if_neg c_1).symm)
    exact hret _ _ _ _ (by rw [← eg]; exact hP) (by rw [← eg]; exact hD) hS dX0_renew_42
def t1_X0_askHouse (g : Nat → Int32) (r : Nat) (t : Nat) : Nat → Int32 := (s_X0_renew (upd g (262 + 6 * r + 2) ((g (262 + 6 * r + 2)) + 1)) r (t / 4))
def t2_X0_askHouse (g : Nat → Int32) (r : Nat) (t : Nat) : Nat → Int32 := (s_X0_renew (upd g (262 + 6 * r + 2) ((g (262 + 6 * r + 2)) + 1)) r (t / 4))
def s_X0_askHouse (g : Nat → Int32) (r : Nat) (t : Nat) : Nat → Int32 := (if (f_X0_isOver (upd g (262 + 6 * r + 2) ((g (262 + 6 * r + 2)) + 1)) r ((upd g (262 + 6 * r + 2) ((g (262 + 6 * r + 2)) + 1)) (52 + 3 * r + t / 4))) = 0 then (if (g 0) < ((upd g (262 + 6 * r + 2) ((g (262 + 6 * r + 2)) + 1)) (52 + 3 * r + t / 4)) then (if (f_X0_isWaiting (upd (upd g (262 + 6 * r + 2) ((g (262 + 6 * r + 2)) + 1)) (262 + 6 * r + 0) (g (5 + t))) t) = 0 then (upd (upd (upd (upd (upd g (262 + 6 * r + 2) ((g (262 + 6 * r + 2)) + 1)) (262 + 6 * r + 0) (g (5 + t))) (82 + 12 * r + t) (g (5 + t))) (142 + 12 * r + t) ((g 0) + (g 1))) (202 + 12 * r + t) ((g 0) + (g 1))) else (upd (upd g (262 + 6 * r + 2) ((g (262 + 6 * r + 2)) + 1)) (262 + 6 * r + 0) (g (5 + t)))) else (if (f_X0_isWaiting (upd (t2_X0_askHouse g r t) (262 + 6 * r + 0) ((t2_X0_askHouse g r t) (5 + t))) t) = 0 then (upd (upd (upd (upd (t2_X0_askHouse g r t) (262 + 6 * r + 0) ((t2_X0_askHouse g r t) (5 + t))) (82 + 12 * r + t) ((t2_X0_askHouse g r t) (5 + t))) (142 + 12 * r + t) (((t2_X0_askHouse g r t) 0) + ((t2_X0_askHouse g r t) 1))) (202 + 12 * r + t) (((t2_X0_askHouse g r t) 0) + ((t2_X0_askHouse g r t) 1))) else (upd (t2_X0_askHouse g r t) (262 + 6 * r + 0) ((t2_X0_askHouse g r t) (5 + t))))) else (if (f_X0_isWaiting (upd (t1_X0_askHouse g r t) (262 + 6 * r + 0) ((t1_X0_askHouse g r t) (5 + t))) t) = 0 then (upd (upd (upd (upd (t1_X0_askHouse g r t) (262 + 6 * r + 0) ((t1_X0_askHouse g r t) (5 + t))) (82 + 12 * r + t) ((t1_X0_askHouse g r t) (5 + t))) (142 + 12 * r + t) (((t1_X0_askHouse g r t) 0) + ((t1_X0_askHouse g r t) 1))) (202 + 12 * r + t) (((t1_X0_askHouse g r t) 0) + ((t1_X0_askHouse g r t) 1))) else (upd (t1_X0_askHouse g r t) (262 + 6 * r + 0) ((t1_X0_askHouse g r t) (5 + t)))))
def f_X0_askHouse (g : Nat → Int32) (r : Nat) (t : Nat) : Int32 := (if (f_X0_isOver (upd g (262 + 6 * r + 2) ((g (262 + 6 * r + 2)) + 1)) r ((upd g (262 + 6 * r + 2) ((g (262 + 6 * r + 2)) + 1)) (52 + 3 * r + t / 4))) = 0 then (if (g 0) < ((upd g (262 + 6 * r + 2) ((g (262 + 6 * r + 2)) + 1)) (52 + 3 * r + t / 4)) then (if (f_X0_isWaiting (upd (upd g (262 + 6 * r + 2) ((g (262 + 6 * r + 2)) + 1)) (262 + 6 * r + 0) (g (5 + t))) t) = 0 then 2 else 3) else (if (f_X0_isWaiting (upd (t2_X0_askHouse g r t) (262 + 6 * r + 0) ((t2_X0_askHouse g r t) (5 + t))) t) = 0 then 2 else 3)) else (if (f_X0_isWaiting (upd (t1_X0_askHouse g r t) (262 + 6 * r + 0) ((t1_X0_askHouse g r t) (5 + t))) t) = 0 then 2 else 3))
set_option maxHeartbeats 4000000 in
set_option maxRecDepth 100000 in
theorem k_X0_askHouse (l : Launch) (E : EE) (a : Nat → Nat) (g : Nat → Int32) (r : Nat) (t : Nat) (hr : r < 5) (ht : t < 12) : Ci l E yX0_askHouse wsX0_askHouse { frames := 4, cells := 0, slots := 0, locals := 91 } [.ref (a 0), .ref (a (8 + 6 * r)), .int (nI t)] (hs E a g) (f_X0_askHouse g r t) (hs E a (s_X0_askHouse g r t)) := by
  refine Ci.of (cc := cX0_askHouse) (maxL := 4) (rt := .int) (by decide) rfl rfl (Nat.le_of_ble_eq_true rfl) ?_
  intro p e s m args below meth c A Q F hE hA hret hP hD ls hl
  obtain ⟨hx, hb, hml, hown, hts⟩ := id F
  have hS : va_S A s.heap s.heap [] := va_S.rf
  have hl : lv_has ls 4 [(0, .ref (a 0)), (1, .ref (a (8 + 6 * r))), (2, .int (nI t))] := hl
  have in0 : ∀ w ∈ wsX00, w ∈ wsX0_askHouse := fun w h => List.mem_cons_of_mem _ (List.mem_append_right _ h)
  have in1 : ∀ w ∈ wsX10, w ∈ wsX0_askHouse := fun w h => List.mem_cons_of_mem _ (List.mem_append_left _ (List.mem_append_right _ h))
  have K15 := hts (.fieldLink RX0 15 "PromiseHours$House" "rules" "[I") (by decide +kernel)
  have K26 := hts (.fieldLink RX0 26 "PromiseHours$House" "versions" "[I") (by decide +kernel)
  have K9 := hts (.fieldLink RX0 9 "PromiseHours$House" "tick" "I") (by decide +kernel)
  refine lv_aload_n hx hb dX0_askHouse_0 rfl (lv_at hl 1 rfl) ?_
  refine lv_dup hx hb dX0_askHouse_1 rfl ?_
  refine va_getN (D := E.1) (ci := 1) (v := .int (g (262 + 6 * r + 2))) (C := RX1) (T := TX1) (N := 13) hx hb hts in1 hown hE.1 hP (8 + 6 * r) (hs_hi0 (by omega)) rfl 9 (by decide) (ev_use hE nk_X0_145 rfl) (fun _ h9 => h9) rfl dX0_askHouse_2 ?_
  refine lv_iconst (v := 1) hx hb dX0_askHouse_5 (by decide) ?_
  refine lv_iadd hx hb dX0_askHouse_6 ?_
  refine va_putN (D := E.1) (ci := 1) (v := .int ((g (262 + 6 * r + 2)) + 1)) (ty := .int) (C := RX1) (T := TX1) (N := 13) hx hb hts in1 tyX1 tyX1_ok nmX1 hown hE.1 hP hD hS (8 + 6 * r) (hs_hi0 (by omega)) rfl 9 (by decide) (ev_use hE nk_X0_145 rfl) (fun _ h9 => h9) rfl (by decide +kernel) rfl rfl (Nat.le_of_ble_eq_true rfl) dX0_askHouse_7 (fun H locs hP hD hS => ?_)
  rw [(hs_r9 (r := r) (by omega))] at hP hD
  have hP : va_P E.1 vwCl (hs E a (upd g (262 + 6 * r + 2) ((g (262 + 6 * r + 2)) + 1))) H := hP
  have hD : va_D A (hs E a (upd g (262 + 6 * r + 2) ((g (262 + 6 * r + 2)) + 1))) := hD
  refine lv_aload_n hx hb dX0_askHouse_10 rfl (lv_at hl 1 rfl) ?_
  refine lv_iload_n hx hb dX0_askHouse_11 rfl (lv_at hl 2 rfl) ?_
  refine ci_VN F hE (k_X1_volumeTermFor l E a (upd g (262 + 6 * r + 2) ((g (262 + 6 * r + 2)) + 1)) r t (by omega) (by omega)) ⟨va_cnB 1 hts gX0_askHouse_X1_volumeTermFor_n95 rfl rfl rfl (ev_link hE nk_X0_95 rfl) (hts (.initialized RX1) (by decide +kernel)) (by decide +kernel) ⟨Nat.le_of_ble_eq_true rfl, Nat.le_of_ble_eq_true rfl⟩, hts (.instanceMethod yX1_volumeTermFor) (by decide +kernel), hts (.selects RX1 yX1_volumeTermFor yX1_volumeTermFor) (by decide +kernel)⟩ Fr.all (8 + 6 * r) 1 (hs_hi0 (by omega)) rfl rfl hP hD hS hA rfl hl.1 rfl (Nat.le_of_ble_eq_true rfl) dX0_askHouse_12 ⟨Nat.zero_le _, Nat.zero_le _⟩ (fun H locs hP hD hS => ?_)
  refine lv_istore_n (lv' := [(3, .int ((upd g (262 + 6 * r + 2) ((g (262 + 6 * r + 2)) + 1)) (52 + 3 * r + t / 4))), (0, .ref (a 0)), (1, .ref (a (8 + 6 * r))), (2, .int (nI t))]) hx hb dX0_askHouse_15 rfl hl (by decide) rfl (fun ls hl => ?_)
  refine lv_aload_n hx hb dX0_askHouse_16 rfl (lv_at hl 1 rfl) ?_
  refine lv_aload_n hx hb dX0_askHouse_17 rfl (lv_at hl 2 rfl) ?_
  refine lv_iload_n hx hb dX0_askHouse_18 rfl (lv_at hl 0 rfl) ?_
  refine ci_V F hE (k_X0_isOver l E a (upd g (262 + 6 * r + 2) ((g (262 + 6 * r + 2)) + 1)) r ((upd g (262 + 6 * r + 2) ((g (262 + 6 * r + 2)) + 1)) (52 + 3 * r + t / 4)) (by omega)) (cwV 2 hts gX0_askHouse_X0_isOver rfl rfl rfl (by decide +kernel) ⟨Nat.le_of_ble_eq_true rfl, Nat.le_of_ble_eq_true rfl⟩) Fr.all 0 0 (hs_lo 0 (by decide) rfl) rfl rfl hP hD hS hA rfl hl.1 rfl (Nat.le_of_ble_eq_true rfl) dX0_askHouse_19 ⟨Nat.zero_le _, Nat.zero_le _⟩ (fun H locs hP hD hS => ?_)
  refine lv_if_ne (tgt := 33) hx hb dX0_askHouse_22 (by decide) (fun c_1 => ?_) (fun c_1 => ?_)
  · refine lv_aload_n hx hb dX0_askHouse_33 rfl (lv_at hl 1 rfl) ?_
    refine lv_aload_n hx hb dX0_askHouse_34 rfl (lv_at hl 2 rfl) ?_
    refine lv_iload_n hx hb dX0_askHouse_35 rfl (lv_at hl 3 rfl) ?_
    refine ci_SN F hE (k_X2_volumeOf l E t (by omega)) ⟨va_cnB 1 hts gX0_askHouse_X2_volumeOf_n148 rfl rfl rfl (ev_link hE nk_X0_148 rfl) (hts (.initialized RX2) (by decide +kernel)) (by decide +kernel) ⟨Nat.le_of_ble_eq_true rfl, Nat.le_of_ble_eq_true rfl⟩, hts (.static yX2_volumeOf) (by decide +kernel), trivial⟩ Fr.nil hP hD hS hA rfl hl.1 rfl (Nat.le_of_ble_eq_true rfl) dX0_askHouse_36 ⟨Nat.zero_le _, Nat.zero_le _⟩ (fun H locs hP hD hS => ?_)
    refine cv_V F hE (k_X0_renew l E a (upd g (262 + 6 * r + 2) ((g (262 + 6 * r + 2)) + 1)) r (t / 4) (by omega) (by omega)) (cwV 2 hts gX0_askHouse_X0_renew rfl rfl rfl (by decide +kernel) ⟨Nat.le_of_ble_eq_true rfl, Nat.le_of_ble_eq_true rfl⟩) Fr.all 0 0 (hs_lo 0 (by decide) rfl) rfl rfl hP hD hS hA rfl hl.1 rfl (Nat.le_of_ble_eq_true rfl) dX0_askHouse_39 ⟨Nat.zero_le _, Nat.zero_le _⟩ (fun H locs hP hD hS => ?_)
    have hP : va_P E.1 vwCl (hs E a (t1_X0_askHouse g r t)) H := hP
    have hD : va_D A (hs E a (t1_X0_askHouse g r t)) := hD
    refine lv_aload_n hx hb dX0_askHouse_42 rfl (lv_at hl 2 rfl) ?_
    refine lv_aload_n hx hb dX0_askHouse_43 rfl (lv_at hl 1 rfl) ?_
    refine va_get (D := E.1) (ci := 0) (v := .ref (a 3)) (C := RX0) (T := TX0) (N := 17) hx hb hts in0 hown hE.1 hP 0 (hs_lo 0 (by decide) rfl) rfl 3 (by decide) K26 (fun _ h9 => h9) rfl dX0_askHouse_44 ?_
    refine lv_iload_n hx hb dX0_askHouse_47 rfl (lv_at hl 3 rfl) ?_
    refine q_iald hx hb hE hP 3 (hs_lo 3 (by decide) rfl) (j := t) (v := ((t1_X0_askHouse g r t) (5 + t))) rfl (by omega) (by decide) ((seg_at (by omega)).trans rfl) dX0_askHouse_48 ?_
    refine va_putN (D := E.1) (ci := 1) (v := .int ((t1_X0_askHouse g r t) (5 + t))) (ty := .int) (C := RX1) (T := TX1) (N := 13) hx hb hts in1 tyX1 tyX1_ok nmX1 hown hE.1 hP hD hS (8 + 6 * r) (hs_hi0 (by omega)) rfl 7 (by decide) (ev_use hE nk_X0_138 rfl) (fun _ h9 => h9) rfl (by decide +kernel) rfl rfl (Nat.le_of_ble_eq_true rfl) dX0_askHouse_49 (fun H locs hP hD hS => ?_)
    rw [(hs_r7 (r := r) (by omega))] at hP hD
    have hP : va_P E.1 vwCl (hs E a (upd (t1_X0_askHouse g r t) (262 + 6 * r + 0) ((t1_X0_askHouse g r t) (5 + t)))) H := hP
    have hD : va_D A (hs E a (upd (t1_X0_askHouse g r t) (262 + 6 * r + 0) ((t1_X0_askHouse g r t) (5 + t)))) := hD
    refine lv_aload_n hx hb dX0_askHouse_52 rfl (lv_at hl 1 rfl) ?_
    refine lv_iload_n hx hb dX0_askHouse_53 rfl (lv_at hl 3 rfl) ?_
    refine ci_V F hE (k_X0_isWaiting l E a (upd (t1_X0_askHouse g r t) (262 + 6 * r + 0) ((t1_X0_askHouse g r t) (5 + t))) t (by omega)) (cwV 1 hts gX0_askHouse_X0_isWaiting rfl rfl rfl (by decide +kernel) ⟨Nat.le_of_ble_eq_true rfl, Nat.le_of_ble_eq_true rfl⟩) Fr.all 0 0 (hs_lo 0 (by decide) rfl) rfl rfl hP hD hS hA rfl hl.1 rfl (Nat.le_of_ble_eq_true rfl) dX0_askHouse_54 ⟨Nat.zero_le _, Nat.zero_le _⟩ (fun H locs hP hD hS => ?_)
    refine lv_if_eq (tgt := 62) hx hb dX0_askHouse_57 (by decide) (fun c_2 => ?_) (fun c_2 => ?_)
    · refine lv_aload_n hx hb dX0_askHouse_62 rfl (lv_at hl 2 rfl) ?_
      refine lv_iload_n hx hb dX0_askHouse_63 rfl (lv_at hl 3 rfl) ?_
      refine lv_aload_n hx hb dX0_askHouse_64 rfl (lv_at hl 1 rfl) ?_
      refine va_get (D := E.1) (ci := 0) (v := .ref (a 3)) (C := RX0) (T := TX0) (N := 17) hx hb hts in0 hown hE.1 hP 0 (hs_lo 0 (by decide) rfl) rfl 3 (by decide) K26 (fun _ h9 => h9) rfl dX0_askHouse_65 ?_
      refine lv_iload_n hx hb dX0_askHouse_68 rfl (lv_at hl 3 rfl) ?_
      refine q_iald hx hb hE hP 3 (hs_lo 3 (by decide) rfl) (j := t) (v := ((t1_X0_askHouse g r t) (5 + t))) rfl (by omega) (by decide) ((seg_at (by omega)).trans (up_n (by omega))) dX0_askHouse_69 ?_
      refine lv_aload_n hx hb dX0_askHouse_70 rfl (lv_at hl 1 rfl) ?_
      refine va_get (D := E.1) (ci := 0) (v := .int ((upd (t1_X0_askHouse g r t) (262 + 6 * r + 0) ((t1_X0_askHouse g r t) (5 + t))) 0)) (C := RX0) (T := TX0) (N := 17) hx hb hts in0 hown hE.1 hP 0 (hs_lo 0 (by decide) rfl) rfl 0 (by decide) K9 (fun _ h9 => h9) rfl dX0_askHouse_71 ?_
      refine tpe (up_n (by omega)) ?_
      refine lv_aload_n hx hb dX0_askHouse_74 rfl (lv_at hl 1 rfl) ?_
      refine va_get (D := E.1) (ci := 0) (v := .ref (a 1)) (C := RX0) (T := TX0) (N := 17) hx hb hts in0 hown hE.1 hP 0 (hs_lo 0 (by decide) rfl) rfl 1 (by decide) K15 (fun _ h9 => h9) rfl dX0_askHouse_75 ?_
      refine lv_iconst (v := 0) hx hb dX0_askHouse_78 (by decide) ?_
      refine q_iald hx hb hE hP 1 (hs_lo 1 (by decide) rfl) (j := 0) (v := ((t1_X0_askHouse g r t) 1)) rfl (by omega) (by decide) ((seg_at (by omega)).trans (up_n (by omega))) dX0_askHouse_79 ?_
      refine lv_iadd hx hb dX0_askHouse_80 ?_
      refine cv_VN F hE (k_X1_takeCopy l E a (upd (t1_X0_askHouse g r t) (262 + 6 * r + 0) ((t1_X0_askHouse g r t) (5 + t))) r t ((t1_X0_askHouse g r t) (5 + t)) (((t1_X0_askHouse g r t) 0) + ((t1_X0_askHouse g r t) 1)) (by omega) (by omega)) ⟨va_cnB 3 hts gX0_askHouse_X1_takeCopy_n157 rfl rfl rfl (ev_link hE nk_X0_157 rfl) (hts (.initialized RX1) (by decide +kernel)) (by decide +kernel) ⟨Nat.le_of_ble_eq_true rfl, Nat.le_of_ble_eq_true rfl⟩, hts (.instanceMethod yX1_takeCopy) (by decide +kernel), hts (.selects RX1 yX1_takeCopy yX1_takeCopy) (by decide +kernel)⟩ Fr.all (8 + 6 * r) 1 (hs_hi0 (by omega)) rfl rfl hP hD hS hA rfl hl.1 rfl (Nat.le_of_ble_eq_true rfl) dX0_askHouse_81 ⟨Nat.zero_le _, Nat.zero_le _⟩ (fun H locs hP hD hS => ?_)
      have hP : va_P E.1 vwCl (hs E a (upd (upd (upd (upd (t1_X0_askHouse g r t) (262 + 6 * r + 0) ((t1_X0_askHouse g r t) (5 + t))) (82 + 12 * r + t) ((t1_X0_askHouse g r t) (5 + t))) (142 + 12 * r + t) (((t1_X0_askHouse g r t) 0) + ((t1_X0_askHouse g r t) 1))) (202 + 12 * r + t) (((t1_X0_askHouse g r t) 0) + ((t1_X0_askHouse g r t) 1)))) H := hP
      have hD : va_D A (hs E a (upd (upd (upd (upd (t1_X0_askHouse g r t) (262 + 6 * r + 0) ((t1_X0_askHouse g r t) (5 + t))) (82 + 12 * r + t) ((t1_X0_askHouse g r t) (5 + t))) (142 + 12 * r + t) (((t1_X0_askHouse g r t) 0) + ((t1_X0_askHouse g r t) 1))) (202 + 12 * r + t) (((t1_X0_askHouse g r t) 0) + ((t1_X0_askHouse g r t) 1)))) := hD
      refine lv_iconst (v := 2) hx hb dX0_askHouse_84 (by decide) ?_
      have eg : (upd (upd (upd (upd (t1_X0_askHouse g r t) (262 + 6 * r + 0) ((t1_X0_askHouse g r t) (5 + t))) (82 + 12 * r + t) ((t1_X0_askHouse g r t) (5 + t))) (142 + 12 * r + t) (((t1_X0_askHouse g r t) 0) + ((t1_X0_askHouse g r t) 1))) (202 + 12 * r + t) (((t1_X0_askHouse g r t) 0) + ((t1_X0_askHouse g r t) 1))) = (s_X0_askHouse g r t) := (by unfold s_X0_askHouse; exact ((if_neg c_1).trans (if_pos c_2)).symm)
      exact hret _ _ _ _ _ (by rw [← eg]; exact hP) (by rw [← eg]; exact hD) hS (by unfold f_X0_askHouse; exact ((if_neg c_1).trans (if_pos c_2)).symm) dX0_askHouse_85
    · refine lv_iconst (v := 3) hx hb dX0_askHouse_60 (by decide) ?_
      have eg : (upd (t1_X0_askHouse g r t) (262 + 6 * r + 0) ((t1_X0_askHouse g r t) (5 + t))) = (s_X0_askHouse g r t) := (by unfold s_X0_askHouse; exact ((if_neg c_1).trans (if_neg c_2)).symm)
      exact hret _ _ _ _ _ (by rw [← eg]; exact hP) (by rw [← eg]; exact hD) hS (by unfold f_X0_askHouse; exact ((if_neg c_1).trans (if_neg c_2)).symm) dX0_askHouse_61
  · refine lv_iload_n hx hb dX0_askHouse_25 rfl (lv_at hl 0 rfl) ?_
    refine lv_aload_n hx hb dX0_askHouse_26 rfl (lv_at hl 1 rfl) ?_
    refine va_get (D := E.1) (ci := 0) (v := .int ((upd g (262 + 6 * r + 2) ((g (262 + 6 * r + 2)) + 1)) 0)) (C := RX0) (T := TX0) (N := 17) hx hb hts in0 hown hE.1 hP 0 (hs_lo 0 (by decide) rfl) rfl 0 (by decide) K9 (fun _ h9 => h9) rfl dX0_askHouse_27 ?_
    refine tpe (up_n (by omega)) ?_
    refine lv_icmp_gt (tgt := 42) hx hb dX0_askHouse_30 (by decide) (fun c_3 => ?_) (fun c_3 => ?_)
    · refine lv_aload_n hx hb dX0_askHouse_42 rfl (lv_at hl 2 rfl) ?_
      refine lv_aload_n hx hb dX0_askHouse_43 rfl (lv_at hl 1 rfl) ?_
      refine va_get (D := E.1) (ci := 0) (v := .ref (a 3)) (C := RX0) (T := TX0) (N := 17) hx hb hts in0 hown hE.1 hP 0 (hs_lo 0 (by decide) rfl) rfl 3 (by decide) K26 (fun _ h9 => h9) rfl dX0_askHouse_44 ?_
      refine lv_iload_n hx hb dX0_askHouse_47 rfl (lv_at hl 3 rfl) ?_
      refine q_iald hx hb hE hP 3 (hs_lo 3 (by decide) rfl) (j := t) (v := (g (5 + t))) rfl (by omega) (by decide) ((seg_at (by omega)).trans (up_n (by omega))) dX0_askHouse_48 ?_
      refine va_putN (D := E.1) (ci := 1) (v := .int (g (5 + t))) (ty := .int) (C := RX1) (T := TX1) (N := 13) hx hb hts in1 tyX1 tyX1_ok nmX1 hown hE.1 hP hD hS (8 + 6 * r) (hs_hi0 (by omega)) rfl 7 (by decide) (ev_use hE nk_X0_138 rfl) (fun _ h9 => h9) rfl (by decide +kernel) rfl rfl (Nat.le_of_ble_eq_true rfl) dX0_askHouse_49 (fun H locs hP hD hS => ?_)
      rw [(hs_r7 (r := r) (by omega))] at hP hD
      have hP : va_P E.1 vwCl (hs E a (upd (upd g (262 + 6 * r + 2) ((g (262 + 6 * r + 2)) + 1)) (262 + 6 * r + 0) (g (5 + t)))) H := hP
      have hD : va_D A (hs E a (upd (upd g (262 + 6 * r + 2) ((g (262 + 6 * r + 2)) + 1)) (262 + 6 * r + 0) (g (5 + t)))) := hD
      refine lv_aload_n hx hb dX0_askHouse_52 rfl (lv_at hl 1 rfl) ?_
      refine lv_iload_n hx hb dX0_askHouse_53 rfl (lv_at hl 3 rfl) ?_
      refine ci_V F hE (k_X0_isWaiting l E a (upd (upd g (262 + 6 * r + 2) ((g (262 + 6 * r + 2)) + 1)) (262 + 6 * r + 0) (g (5 + t))) t (by omega)) (cwV 1 hts gX0_askHouse_X0_isWaiting rfl rfl rfl (by decide +kernel) ⟨Nat.le_of_ble_eq_true rfl, Nat.le_of_ble_eq_true rfl⟩) Fr.all 0 0 (hs_lo 0 (by decide) rfl) rfl rfl hP hD hS hA rfl hl.1 rfl (Nat.le_of_ble_eq_true rfl) dX0_askHouse_54 ⟨Nat.zero_le _, Nat.zero_le _⟩ (fun H locs hP hD hS => ?_)
      refine lv_if_eq (tgt := 62) hx hb dX0_askHouse_57 (by decide) (fun c_4 => ?_) (fun c_4 => ?_)
      · refine lv_aload_n hx hb dX0_askHouse_62 rfl (lv_at hl 2 rfl) ?_
        refine lv_iload_n hx hb dX0_askHouse_63 rfl (lv_at hl 3 rfl) ?_
        refine lv_aload_n hx hb dX0_askHouse_64 rfl (lv_at hl 1 rfl) ?_
        refine va_get (D := E.1) (ci := 0) (v := .ref (a 3)) (C := RX0) (T := TX0) (N := 17) hx hb hts in0 hown hE.1 hP 0 (hs_lo 0 (by decide) rfl) rfl 3 (by decide) K26 (fun _ h9 => h9) rfl dX0_askHouse_65 ?_
        refine lv_iload_n hx hb dX0_askHouse_68 rfl (lv_at hl 3 rfl) ?_
        refine q_iald hx hb hE hP 3 (hs_lo 3 (by decide) rfl) (j := t) (v := (g (5 + t))) rfl (by omega) (by decide) ((seg_at (by omega)).trans ((up_n (by omega)).trans (up_n (by omega)))) dX0_askHouse_69 ?_
        refine lv_aload_n hx hb dX0_askHouse_70 rfl (lv_at hl 1 rfl) ?_
        refine va_get (D := E.1) (ci := 0) (v := .int ((upd (upd g (262 + 6 * r + 2) ((g (262 + 6 * r + 2)) + 1)) (262 + 6 * r + 0) (g (5 + t))) 0)) (C := RX0) (T := TX0) (N := 17) hx hb hts in0 hown hE.1 hP 0 (hs_lo 0 (by decide) rfl) rfl 0 (by decide) K9 (fun _ h9 => h9) rfl dX0_askHouse_71 ?_
        refine tpe ((up_n (by omega)).trans (up_n (by omega))) ?_
        refine lv_aload_n hx hb dX0_askHouse_74 rfl (lv_at hl 1 rfl) ?_
        refine va_get (D := E.1) (ci := 0) (v := .ref (a 1)) (C := RX0) (T := TX0) (N := 17) hx hb hts in0 hown hE.1 hP 0 (hs_lo 0 (by decide) rfl) rfl 1 (by decide) K15 (fun _ h9 => h9) rfl dX0_askHouse_75 ?_
        refine lv_iconst (v := 0) hx hb dX0_askHouse_78 (by decide) ?_
        refine q_iald hx hb hE hP 1 (hs_lo 1 (by decide) rfl) (j := 0) (v := (g 1)) rfl (by omega) (by decide) ((seg_at (by omega)).trans ((up_n (by omega)).trans (up_n (by omega)))) dX0_askHouse_79 ?_
        refine lv_iadd hx hb dX0_askHouse_80 ?_
        refine cv_VN F hE (k_X1_takeCopy l E a (upd (upd g (262 + 6 * r + 2) ((g (262 + 6 * r + 2)) + 1)) (262 + 6 * r + 0) (g (5 + t))) r t (g (5 + t)) ((g 0) + (g 1)) (by omega) (by omega)) ⟨va_cnB 3 hts gX0_askHouse_X1_takeCopy_n157 rfl rfl rfl (ev_link hE nk_X0_157 rfl) (hts (.initialized RX1) (by decide +kernel)) (by decide +kernel) ⟨Nat.le_of_ble_eq_true rfl, Nat.le_of_ble_eq_true rfl⟩, hts (.instanceMethod yX1_takeCopy) (by decide +kernel), hts (.selects RX1 yX1_takeCopy yX1_takeCopy) (by decide +kernel)⟩ Fr.all (8 + 6 * r) 1 (hs_hi0 (by omega)) rfl rfl hP hD hS hA rfl hl.1 rfl (Nat.le_of_ble_eq_true rfl) dX0_askHouse_81 ⟨Nat.zero_le _, Nat.zero_le _⟩ (fun H locs hP hD hS => ?_)
        have hP : va_P E.1 vwCl (hs E a (upd (upd (upd (upd (upd g (262 + 6 * r + 2) ((g (262 + 6 * r + 2)) + 1)) (262 + 6 * r + 0) (g (5 + t))) (82 + 12 * r + t) (g (5 + t))) (142 + 12 * r + t) ((g 0) + (g 1))) (202 + 12 * r + t) ((g 0) + (g 1)))) H := hP
        have hD : va_D A (hs E a (upd (upd (upd (upd (upd g (262 + 6 * r + 2) ((g (262 + 6 * r + 2)) + 1)) (262 + 6 * r + 0) (g (5 + t))) (82 + 12 * r + t) (g (5 + t))) (142 + 12 * r + t) ((g 0) + (g 1))) (202 + 12 * r + t) ((g 0) + (g 1)))) := hD
        refine lv_iconst (v := 2) hx hb dX0_askHouse_84 (by decide) ?_
        have eg : (upd (upd (upd (upd (upd g (262 + 6 * r + 2) ((g (262 + 6 * r + 2)) + 1)) (262 + 6 * r + 0) (g (5 + t))) (82 + 12 * r + t) (g (5 + t))) (142 + 12 * r + t) ((g 0) + (g 1))) (202 + 12 * r + t) ((g 0) + (g 1))) = (s_X0_askHouse g r t) := (by unfold s_X0_askHouse; exact ((if_pos c_1).trans ((if_pos c_3).trans (if_pos c_4))).symm)
        exact hret _ _ _ _ _ (by rw [← eg]; exact hP) (by rw [← eg]; exact hD) hS (by unfold f_X0_askHouse; exact ((if_pos c_1).trans ((if_pos c_3).trans (if_pos c_4))).symm) dX0_askHouse_85
      · refine lv_iconst (v := 3) hx hb dX0_askHouse_60 (by decide) ?_
        have eg : (upd (upd g (262 + 6 * r + 2) ((g (262 + 6 * r + 2)) + 1)) (262 + 6 * r + 0) (g (5 + t))) = (s_X0_askHouse g r t) := (by unfold s_X0_askHouse; exact ((if_pos c_1).trans ((if_pos c_3).trans (if_neg c_4))).symm)
        exact hret _ _ _ _ _ (by rw [← eg]; exact hP) (by rw [← eg]; exact hD) hS (by unfold f_X0_askHouse; exact ((if_pos c_1).trans ((if_pos c_3).trans (if_neg c_4))).symm) dX0_askHouse_61
    · refine lv_aload_n hx hb dX0_askHouse_33 rfl (lv_at hl 1 rfl) ?_
      refine lv_aload_n hx hb dX0_askHouse_34 rfl (lv_at hl 2 rfl) ?_
      refine lv_iload_n hx hb dX0_askHouse_35 rfl (lv_at hl 3 rfl) ?_
      refine ci_SN F hE (k_X2_volumeOf l E t (by omega)) ⟨va_cnB 1 hts gX0_askHouse_X2_volumeOf_n148 rfl rfl rfl (ev_link hE nk_X0_148 rfl) (hts (.initialized RX2) (by decide +kernel)) (by decide +kernel) ⟨Nat.le_of_ble_eq_true rfl, Nat.le_of_ble_eq_true rfl⟩, hts (.static yX2_volumeOf) (by decide +kernel), trivial⟩ Fr.nil hP hD hS hA rfl hl.1 rfl (Nat.le_of_ble_eq_true rfl) dX0_askHouse_36 ⟨Nat.zero_le _, Nat.zero_le _⟩ (fun H locs hP hD hS => ?_)
      refine cv_V F hE (k_X0_renew l E a (upd g (262 + 6 * r + 2) ((g (262 + 6 * r + 2)) + 1)) r (t / 4) (by omega) (by omega)) (cwV 2 hts gX0_askHouse_X0_renew rfl rfl rfl (by decide +kernel) ⟨Nat.le_of_ble_eq_true rfl, Nat.le_of_ble_eq_true rfl⟩) Fr.all 0 0 (hs_lo 0 (by decide) rfl) rfl rfl hP hD hS hA rfl hl.1 rfl (Nat.le_of_ble_eq_true rfl) dX0_askHouse_39 ⟨Nat.zero_le _, Nat.zero_le _⟩ (fun H locs hP hD hS => ?_)
      have hP : va_P E.1 vwCl (hs E a (t2_X0_askHouse g r t)) H := hP
      have hD : va_D A (hs E a (t2_X0_askHouse g r t)) := hD
      refine lv_aload_n hx hb dX0_askHouse_42 rfl (lv_at hl 2 rfl) ?_
      refine lv_aload_n hx hb dX0_askHouse_43 rfl (lv_at hl 1 rfl) ?_
      refine va_get (D := E.1) (ci := 0) (v := .ref (a 3)) (C := RX0) (T := TX0) (N := 17) hx hb hts in0 hown hE.1 hP 0 (hs_lo 0 (by decide) rfl) rfl 3 (by decide) K26 (fun _ h9 => h9) rfl dX0_askHouse_44 ?_
      refine lv_iload_n hx hb dX0_askHouse_47 rfl (lv_at hl 3 rfl) ?_
      refine q_iald hx hb hE hP 3 (hs_lo 3 (by decide) rfl) (j := t) (v := ((t2_X0_askHouse g r t) (5 + t))) rfl (by omega) (by decide) ((seg_at (by omega)).trans rfl) dX0_askHouse_48 ?_
      refine va_putN (D := E.1) (ci := 1) (v := .int ((t2_X0_askHouse g r t) (5 + t))) (ty := .int) (C := RX1) (T := TX1) (N := 13) hx hb hts in1 tyX1 tyX1_ok nmX1 hown hE.1 hP hD hS (8 + 6 * r) (hs_hi0 (by omega)) rfl 7 (by decide) (ev_use hE nk_X0_138 rfl) (fun _ h9 => h9) rfl (by decide +kernel) rfl rfl (Nat.le_of_ble_eq_true rfl) dX0_askHouse_49 (fun H locs hP hD hS => ?_)
      rw [(hs_r7 (r := r) (by omega))] at hP hD
      have hP : va_P E.1 vwCl (hs E a (upd (t2_X0_askHouse g r t) (262 + 6 * r + 0) ((t2_X0_askHouse g r t) (5 + t)))) H := hP
      have hD : va_D A (hs E a (upd (t2_X0_askHouse g r t) (262 + 6 * r + 0) ((t2_X0_askHouse g r t) (5 + t)))) := hD
      refine lv_aload_n hx hb dX0_askHouse_52 rfl (lv_at hl 1 rfl) ?_
      refine lv_iload_n hx hb dX0_askHouse_53 rfl (lv_at hl 3 rfl) ?_
      refine ci_V F hE (k_X0_isWaiting l E a (upd (t2_X0_askHouse g r t) (262 + 6 * r + 0) ((t2_X0_askHouse g r t) (5 + t))) t (by omega)) (cwV 1 hts gX0_askHouse_X0_isWaiting rfl rfl rfl (by decide +kernel) ⟨Nat.le_of_ble_eq_true rfl, Nat.le_of_ble_eq_true rfl⟩) Fr.all 0 0 (hs_lo 0 (by decide) rfl) rfl rfl hP hD hS hA rfl hl.1 rfl (Nat.le_of_ble_eq_true rfl) dX0_askHouse_54 ⟨Nat.zero_le _, Nat.zero_le _⟩ (fun H locs hP hD hS => ?_)
      refine lv_if_eq (tgt := 62) hx hb dX0_askHouse_57 (by decide) (fun c_5 => ?_) (fun c_5 => ?_)
      · refine lv_aload_n hx hb dX0_askHouse_62 rfl (lv_at hl 2 rfl) ?_
        refine lv_iload_n hx hb dX0_askHouse_63 rfl (lv_at hl 3 rfl) ?_
        refine lv_aload_n hx hb dX0_askHouse_64 rfl (lv_at hl 1 rfl) ?_
        refine va_get (D := E.1) (ci := 0) (v := .ref (a 3)) (C := RX0) (T := TX0) (N := 17) hx hb hts in0 hown hE.1 hP 0 (hs_lo 0 (by decide) rfl) rfl 3 (by decide) K26 (fun _ h9 => h9) rfl dX0_askHouse_65 ?_
        refine lv_iload_n hx hb dX0_askHouse_68 rfl (lv_at hl 3 rfl) ?_
        refine q_iald hx hb hE hP 3 (hs_lo 3 (by decide) rfl) (j := t) (v := ((t2_X0_askHouse g r t) (5 + t))) rfl (by omega) (by decide) ((seg_at (by omega)).trans (up_n (by omega))) dX0_askHouse_69 ?_
        refine lv_aload_n hx hb dX0_askHouse_70 rfl (lv_at hl 1 rfl) ?_
        refine va_get (D := E.1) (ci := 0) (v := .int ((upd (t2_X0_askHouse g r t) (262 + 6 * r + 0) ((t2_X0_askHouse g r t) (5 + t))) 0)) (C := RX0) (T := TX0) (N := 17) hx hb hts in0 hown hE.1 hP 0 (hs_lo 0 (by decide) rfl) rfl 0 (by decide) K9 (fun _ h9 => h9) rfl dX0_askHouse_71 ?_
        refine tpe (up_n (by omega)) ?_
        refine lv_aload_n hx hb dX0_askHouse_74 rfl (lv_at hl 1 rfl) ?_
        refine va_get (D := E.1) (ci := 0) (v := .ref (a 1)) (C := RX0) (T := TX0) (N := 17) hx hb hts in0 hown hE.1 hP 0 (hs_lo 0 (by decide) rfl) rfl 1 (by decide) K15 (fun _ h9 => h9) rfl dX0_askHouse_75 ?_
        refine lv_iconst (v := 0) hx hb dX0_askHouse_78 (by decide) ?_
        refine q_iald hx hb hE hP 1 (hs_lo 1 (by decide) rfl) (j := 0) (v := ((t2_X0_askHouse g r t) 1)) rfl (by omega) (by decide) ((seg_at (by omega)).trans (up_n (by omega))) dX0_askHouse_79 ?_
        refine lv_iadd hx hb dX0_askHouse_80 ?_
        refine cv_VN F hE (k_X1_takeCopy l E a (upd (t2_X0_askHouse g r t) (262 + 6 * r + 0) ((t2_X0_askHouse g r t) (5 + t))) r t ((t2_X0_askHouse g r t) (5 + t)) (((t2_X0_askHouse g r t) 0) + ((t2_X0_askHouse g r t) 1)) (by omega) (by omega)) ⟨va_cnB 3 hts gX0_askHouse_X1_takeCopy_n157 rfl rfl rfl (ev_link hE nk_X0_157 rfl) (hts (.initialized RX1) (by decide +kernel)) (by decide +kernel) ⟨Nat.le_of_ble_eq_true rfl, Nat.le_of_ble_eq_true rfl⟩, hts (.instanceMethod yX1_takeCopy) (by decide +kernel), hts (.selects RX1 yX1_takeCopy yX1_takeCopy) (by decide +kernel)⟩ Fr.all (8 + 6 * r) 1 (hs_hi0 (by omega)) rfl rfl hP hD hS hA rfl hl.1 rfl (Nat.le_of_ble_eq_true rfl) dX0_askHouse_81 ⟨Nat.zero_le _, Nat.zero_le _⟩ (fun H locs hP hD hS => ?_)
        have hP : va_P E.1 vwCl (hs E a (upd (upd (upd (upd (t2_X0_askHouse g r t) (262 + 6 * r + 0) ((t2_X0_askHouse g r t) (5 + t))) (82 + 12 * r + t) ((t2_X0_askHouse g r t) (5 + t))) (142 + 12 * r + t) (((t2_X0_askHouse g r t) 0) + ((t2_X0_askHouse g r t) 1))) (202 + 12 * r + t) (((t2_X0_askHouse g r t) 0) + ((t2_X0_askHouse g r t) 1)))) H := hP
        have hD : va_D A (hs E a (upd (upd (upd (upd (t2_X0_askHouse g r t) (262 + 6 * r + 0) ((t2_X0_askHouse g r t) (5 + t))) (82 + 12 * r + t) ((t2_X0_askHouse g r t) (5 + t))) (142 + 12 * r + t) (((t2_X0_askHouse g r t) 0) + ((t2_X0_askHouse g r t) 1))) (202 + 12 * r + t) (((t2_X0_askHouse g r t) 0) + ((t2_X0_askHouse g r t) 1)))) := hD
        refine lv_iconst (v := 2) hx hb dX0_askHouse_84 (by decide) ?_
        have eg : (upd (upd (upd (upd (t2_X0_askHouse g r t) (262 + 6 * r + 0) ((t2_X0_askHouse g r t) (5 + t))) (82 + 12 * r + t) ((t2_X0_askHouse g r t) (5 + t))) (142 + 12 * r + t) (((t2_X0_askHouse g r t) 0) + ((t2_X0_askHouse g r t) 1))) (202 + 12 * r + t) (((t2_X0_askHouse g r t) 0) + ((t2_X0_askHouse g r t) 1))) = (s_X0_askHouse g r t) := (by unfold s_X0_askHouse; exact ((if_pos c_1).trans ((if_neg c_3).trans (if_pos c_5))).symm)
        exact hret _ _ _ _ _ (by rw [← eg]; exact hP) (by rw [← eg]; exact hD) hS (by unfold f_X0_askHouse; exact ((if_pos c_1).trans ((if_neg c_3).trans (if_pos c_5))).symm) dX0_askHouse_85
      · refine lv_iconst (v := 3) hx hb dX0_askHouse_60 (by decide) ?_
        have eg : (upd (t2_X0_askHouse g r t) (262 + 6 * r + 0) ((t2_X0_askHouse g r t) (5 + t))) = (s_X0_askHouse g r t) := (by unfold s_X0_askHouse; exact ((if_pos c_1).trans ((if_neg c_3).trans (if_neg c_5))).symm)
        exact hret _ _ _ _ _ (by rw [← eg]; exact hP) (by rw [← eg]; exact hD) hS (by unfold f_X0_askHouse; exact ((if_pos c_1).trans ((if_neg c_3).trans (if_neg c_5))).symm) dX0_askHouse_61
def t1_X0_readBy (g : Nat → Int32) (r : Nat) (t : Nat) : Nat → Int32 := (s_X0_noteCauses g r t)
def t2_X0_readBy (g : Nat → Int32) (r : Nat) (t : Nat) : Nat → Int32 := (s_X0_askHouse (t1_X0_readBy g r t) r t)
def t3_X0_readBy (g : Nat → Int32) (r : Nat) (t : Nat) : Nat → Int32 := (s_X0_useCopy g r t)
def s_X0_readBy (g : Nat → Int32) (r : Nat) (t : Nat) : Nat → Int32 := (if (f_X0_canUse g r t) = 0 then (if ((t1_X0_readBy g r t) (42 + r)) = 0 then (upd (t1_X0_readBy g r t) (262 + 6 * r + 3) (((t1_X0_readBy g r t) (262 + 6 * r + 3)) + 1)) else (t2_X0_readBy g r t)) else (t3_X0_readBy g r t))
def f_X0_readBy (g : Nat → Int32) (r : Nat) (t : Nat) : Int32 := (if (f_X0_canUse g r t) = 0 then (if ((t1_X0_readBy g r t) (42 + r)) = 0 then 4 else (f_X0_askHouse (t1_X0_readBy g r t) r t)) else (f_X0_useCopy g r t))
set_option maxHeartbeats 4000000 in
set_option maxRecDepth 100000 in
theorem k_X0_readBy (l : Launch) (E : EE) (a : Nat → Nat) (g : Nat → Int32) (r : Nat) (t : Nat) (hr : r < 5) (ht : t < 12) : Ci l E yX0_readBy wsX0_readBy { frames := 5, cells := 0, slots := 0, locals := 114 } [.ref (a 0), .ref (a (8 + 6 * r)), .int (nI t)] (hs E a g) (f_X0_readBy g r t) (hs E a (s_X0_readBy g r t)) := by
  refine Ci.of (cc := cX0_readBy) (maxL := 3) (rt := .int) (by decide) rfl rfl (Nat.le_of_ble_eq_true rfl) ?_
  intro p e s m args below meth c A Q F hE hA hret hP hD ls hl
  obtain ⟨hx, hb, hml, hown, hts⟩ := id F
  have hS : va_S A s.heap s.heap [] := va_S.rf
  have hl : lv_has ls 3 [(0, .ref (a 0)), (1, .ref (a (8 + 6 * r))), (2, .int (nI t))] := hl
  have in1 : ∀ w ∈ wsX10, w ∈ wsX0_readBy := fun w h => List.mem_cons_of_mem _ (List.mem_append_left _ (List.mem_append_right _ h))
  refine lv_aload_n hx hb dX0_readBy_0 rfl (lv_at hl 0 rfl) ?_
  refine lv_aload_n hx hb dX0_readBy_1 rfl (lv_at hl 1 rfl) ?_
  refine lv_iload_n hx hb dX0_readBy_2 rfl (lv_at hl 2 rfl) ?_
  refine ci_V F hE (k_X0_canUse l E a g r t (by omega) (by omega)) (cwV 2 hts gX0_readBy_X0_canUse rfl rfl rfl (by decide +kernel) ⟨Nat.le_of_ble_eq_true rfl, Nat.le_of_ble_eq_true rfl⟩) Fr.all 0 0 (hs_lo 0 (by decide) rfl) rfl rfl hP hD hS hA rfl hl.1 rfl (Nat.le_of_ble_eq_true rfl) dX0_readBy_3 ⟨Nat.zero_le _, Nat.zero_le _⟩ (fun H locs hP hD hS => ?_)
  refine lv_if_eq (tgt := 16) hx hb dX0_readBy_6 (by decide) (fun c_1 => ?_) (fun c_1 => ?_)
  · refine lv_aload_n hx hb dX0_readBy_16 rfl (lv_at hl 0 rfl) ?_
    refine lv_aload_n hx hb dX0_readBy_17 rfl (lv_at hl 1 rfl) ?_
    refine lv_iload_n hx hb dX0_readBy_18 rfl (lv_at hl 2 rfl) ?_
    refine cv_V F hE (k_X0_noteCauses l E a g r t (by omega) (by omega)) (cwV 2 hts gX0_readBy_X0_noteCauses rfl rfl rfl (by decide +kernel) ⟨Nat.le_of_ble_eq_true rfl, Nat.le_of_ble_eq_true rfl⟩) Fr.all 0 0 (hs_lo 0 (by decide) rfl) rfl rfl hP hD hS hA rfl hl.1 rfl (Nat.le_of_ble_eq_true rfl) dX0_readBy_19 ⟨Nat.zero_le _, Nat.zero_le _⟩ (fun H locs hP hD hS => ?_)
    have hP : va_P E.1 vwCl (hs E a (t1_X0_readBy g r t)) H := hP
    have hD : va_D A (hs E a (t1_X0_readBy g r t)) := hD
    refine lv_aload_n hx hb dX0_readBy_22 rfl (lv_at hl 1 rfl) ?_
    refine va_getN (D := E.1) (ci := 1) (v := .int ((t1_X0_readBy g r t) (42 + r))) (C := RX1) (T := TX1) (N := 13) hx hb hts in1 hown hE.1 hP (8 + 6 * r) (hs_hi0 (by omega)) rfl 0 (by decide) (ev_use hE nk_X0_122 rfl) (fun _ h9 => h9) rfl dX0_readBy_23 ?_
    refine lv_if_ne (tgt := 41) hx hb dX0_readBy_26 (by decide) (fun c_2 => ?_) (fun c_2 => ?_)
    · refine lv_aload_n hx hb dX0_readBy_41 rfl (lv_at hl 0 rfl) ?_
      refine lv_aload_n hx hb dX0_readBy_42 rfl (lv_at hl 1 rfl) ?_
      refine lv_iload_n hx hb dX0_readBy_43 rfl (lv_at hl 2 rfl) ?_
      refine ci_V F hE (k_X0_askHouse l E a (t1_X0_readBy g r t) r t (by omega) (by omega)) (cwV 2 hts gX0_readBy_X0_askHouse rfl rfl rfl (by decide +kernel) ⟨Nat.le_of_ble_eq_true rfl, Nat.le_of_ble_eq_true rfl⟩) Fr.all 0 0 (hs_lo 0 (by decide) rfl) rfl rfl hP hD hS hA rfl hl.1 rfl (Nat.le_of_ble_eq_true rfl) dX0_readBy_44 ⟨Nat.zero_le _, Nat.zero_le _⟩ (fun H locs hP hD hS => ?_)
      have hP : va_P E.1 vwCl (hs E a (t2_X0_readBy g r t)) H := hP
      have hD : va_D A (hs E a (t2_X0_readBy g r t)) := hD
      have eg : (t2_X0_readBy g r t) = (s_X0_readBy g r t) := (by unfold s_X0_readBy; exact ((if_pos c_1).trans (if_neg c_2)).symm)
      exact hret _ _ _ _ _ (by rw [← eg]; exact hP) (by rw [← eg]; exact hD) hS (by unfold f_X0_readBy; exact ((if_pos c_1).trans (if_neg c_2)).symm) dX0_readBy_47
    · refine lv_aload_n hx hb dX0_readBy_29 rfl (lv_at hl 1 rfl) ?_
      refine lv_dup hx hb dX0_readBy_30 rfl ?_
      refine va_getN (D := E.1) (ci := 1) (v := .int ((t1_X0_readBy g r t) (262 + 6 * r + 3))) (C := RX1) (T := TX1) (N := 13) hx hb hts in1 hown hE.1 hP (8 + 6 * r) (hs_hi0 (by omega)) rfl 10 (by decide) (ev_use hE nk_X0_126 rfl) (fun _ h9 => h9) rfl dX0_readBy_31 ?_
      refine lv_iconst (v := 1) hx hb dX0_readBy_34 (by decide) ?_
      refine lv_iadd hx hb dX0_readBy_35 ?_
      refine va_putN (D := E.1) (ci := 1) (v := .int (((t1_X0_readBy g r t) (262 + 6 * r + 3)) + 1)) (ty := .int) (C := RX1) (T := TX1) (N := 13) hx hb hts in1 tyX1 tyX1_ok nmX1 hown hE.1 hP hD hS (8 + 6 * r) (hs_hi0 (by omega)) rfl 10 (by decide) (ev_use hE nk_X0_126 rfl) (fun _ h9 => h9) rfl (by decide +kernel) rfl rfl (Nat.le_of_ble_eq_true rfl) dX0_readBy_36 (fun H locs hP hD hS => ?_)
      rw [(hs_r10 (r := r) (by omega))] at hP hD
      have hP : va_P E.1 vwCl (hs E a (upd (t1_X0_readBy g r t) (262 + 6 * r + 3) (((t1_X0_readBy g r t) (262 + 6 * r + 3)) + 1))) H := hP
      have hD : va_D A (hs E a (upd (t1_X0_readBy g r t) (262 + 6 * r + 3) (((t1_X0_readBy g r t) (262 + 6 * r + 3)) + 1))) := hD
      refine lv_iconst (v := 4) hx hb dX0_readBy_39 (by decide) ?_
      have eg : (upd (t1_X0_readBy g r t) (262 + 6 * r + 3) (((t1_X0_readBy g r t) (262 + 6 * r + 3)) + 1)) = (s_X0_readBy g r t) := (by unfold s_X0_readBy; exact ((if_pos c_1).trans (if_pos c_2)).symm)
      exact hret _ _ _ _ _ (by rw [← eg]; exact hP) (by rw [← eg]; exact hD) hS (by unfold f_X0_readBy; exact ((if_pos c_1).trans (if_pos c_2)).symm) dX0_readBy_40
  · refine lv_aload_n hx hb dX0_readBy_9 rfl (lv_at hl 0 rfl) ?_
    refine lv_aload_n hx hb dX0_readBy_10 rfl (lv_at hl 1 rfl) ?_
    refine lv_iload_n hx hb dX0_readBy_11 rfl (lv_at hl 2 rfl) ?_
    refine ci_V F hE (k_X0_useCopy l E a g r t (by omega) (by omega)) (cwV 2 hts gX0_readBy_X0_useCopy rfl rfl rfl (by decide +kernel) ⟨Nat.le_of_ble_eq_true rfl, Nat.le_of_ble_eq_true rfl⟩) Fr.all 0 0 (hs_lo 0 (by decide) rfl) rfl rfl hP hD hS hA rfl hl.1 rfl (Nat.le_of_ble_eq_true rfl) dX0_readBy_12 ⟨Nat.zero_le _, Nat.zero_le _⟩ (fun H locs hP hD hS => ?_)
    have hP : va_P E.1 vwCl (hs E a (t3_X0_readBy g r t)) H := hP
    have hD : va_D A (hs E a (t3_X0_readBy g r t)) := hD
    have eg : (t3_X0_readBy g r t) = (s_X0_readBy g r t) := (by unfold s_X0_readBy; exact (if_neg c_1).symm)
    exact hret _ _ _ _ _ (by rw [← eg]; exact hP) (by rw [← eg]; exact hD) hS (by unfold f_X0_readBy; exact (if_neg c_1).symm) dX0_readBy_15
