def p_X3_dueOf_21 (g : Nat → Int32) (t : Nat) (z : Int32) (S21 : Int32) (i : Nat) : Int32 := (if S21 = 0 then (if (g (202 + 12 * i + t)) ≤ z then 0 else (if (g (52 + 3 * i + t / 4)) ≤ z then 0 else (if (if (g (17 + t)) = 1 then (if (g (42 + i)) = 1 then 1 else 0) else 0 : Int32) = 0 then 1 else 0))) else 1 : Int32)
def q_X3_dueOf_21 (g : Nat → Int32) (t : Nat) (z : Int32) (S0 : Int32) : Nat → Int32
  | 0 => S0
  | i + 1 => p_X3_dueOf_21 g t z (q_X3_dueOf_21 g t z S0 i) i
def u_X3_dueOf (g : Nat → Int32) (t : Nat) : Nat → Int32 → Int32
  | 0, z => z
  | fu + 1, z => if q_X3_dueOf_21 g t (z + 1) 0 5 = 0 then z + 1 else u_X3_dueOf g t fu (z + 1)
def f_X3_dueOf (g : Nat → Int32) (t : Nat) : Int32 := u_X3_dueOf g t 400 (g 0)
set_option maxHeartbeats 4000000 in
set_option maxRecDepth 100000 in
theorem k_X3_dueOf (l : Launch) (E : EE) (a : Nat → Nat) (g im kp : Nat → Int32) (t : Nat) (ht : t < 12) (hz : q_X3_dueOf_21 g t (g 0 + nI 400) 0 5 = 0) : Ci l E yX3_dueOf wsX3_dueOf { frames := 1, cells := 0, slots := 0, locals := 22 } [.ref (a 0), .int (nI t)] (ms E a g im kp) (f_X3_dueOf g t) (ms E a g im kp) := by
  refine Ci.of (cc := cX3_dueOf) (maxL := 6) (rt := .int) (by decide) rfl rfl (Nat.le_of_ble_eq_true rfl) ?_
  intro p e s m args below meth c A Q F hE hA hret hP hD ls hl
  obtain ⟨hx, hb, hml, hown, hts⟩ := id F
  have hS : va_S A s.heap s.heap [] := va_S.rf
  have hl : lv_has ls 6 [(0, .ref (a 0)), (1, .int (nI t))] := hl
  have in3 : ∀ w ∈ wsX30, w ∈ wsX3_dueOf := fun w h => List.mem_cons_of_mem _ (List.mem_append_right _ h)
  have K7 := hts (.fieldLink RX3 7 "PromiseHoursModel" "state" "[I") (by decide +kernel)
  refine lv_aload_n hx hb dX3_dueOf_0 rfl (lv_at hl 0 rfl) ?_
  refine va_get (D := E.1) (ci := 3) (v := .ref (a 1)) (C := RX3) (T := TX3) (N := 3) hx hb hts in3 hown hE.1 hP 0 rfl rfl 0 (by decide) K7 (fun _ h9 => h9) rfl dX3_dueOf_1 ?_
  refine lv_iconst (v := 0) hx hb dX3_dueOf_4 (by decide) ?_
  refine q_iald hx hb hE hP 1 rfl (j := 0) (v := (g 0)) rfl (by omega) (by decide) rfl dX3_dueOf_5 ?_
  refine lv_istore_n (lv' := [(2, .int (g 0)), (0, .ref (a 0)), (1, .int (nI t))]) hx hb dX3_dueOf_6 rfl hl (by decide) rfl (fun ls hl => ?_)
  refine lv_iconst (v := 1) hx hb dX3_dueOf_7 (by decide) ?_
  refine lv_istore_n (lv' := [(3, .int 1), (2, .int (g 0)), (0, .ref (a 0)), (1, .int (nI t))]) hx hb dX3_dueOf_8 rfl hl (by decide) rfl (fun ls hl => ?_)
  have lp9 : ∀ (fo : Nat) (z : Int32), q_X3_dueOf_21 g t (z + nI (fo + 1)) 0 5 = 0 → u_X3_dueOf g t (fo + 1) z = f_X3_dueOf g t → ∀ v : Int32, ¬ v = 0 → ∀ (H : Heap) (locs : List Loc), va_P E.1 vwCl (ms E a g im kp) H → va_D A (ms E a g im kp) → va_S A s.heap H locs → ∀ ls : Array Slot, lv_has ls 6 [(0, .ref (a 0)), (1, .int (nI t)), (2, .int z), (3, .int v)] → W p l e { frames := 1, cells := 0, slots := 0, locals := 22 } s m args below meth c H locs 0 0 Q (F0 m 9 ls []) := by
    intro fo
    induction fo with
    | zero =>
      intro z hz hu v hv H locs hP hD hS ls hl
      refine lv_iload_n hx hb dX3_dueOf_9 rfl (lv_at hl 3 rfl) ?_
      refine lv_if_eq (tgt := 120) hx hb dX3_dueOf_10 (by decide) (fun c0 => absurd c0 hv) (fun c0 => ?_)
      refine lv_iinc (v := (z + 1)) (lv' := [(2, .int (z + 1)), (0, .ref (a 0)), (1, .int (nI t)), (3, .int v)]) hx hb dX3_dueOf_13 hl (k := 2) rfl rfl (by decide) rfl (fun ls hl => ?_)
      refine lv_iconst (v := 0) hx hb dX3_dueOf_16 (by decide) ?_
      refine lv_istore_n (lv' := [(3, .int 0), (2, .int (z + 1)), (0, .ref (a 0)), (1, .int (nI t))]) hx hb dX3_dueOf_17 rfl hl (by decide) rfl (fun ls hl => ?_)
      refine lv_iconst (v := 0) hx hb dX3_dueOf_18 (by decide) ?_
      refine lv_istore (lv' := [(4, .int 0), (3, .int 0), (2, .int (z + 1)), (0, .ref (a 0)), (1, .int (nI t))]) hx hb dX3_dueOf_19 hl (by decide) rfl (fun ls hl => ?_)
      have lp21 : ∀ (fu i : Nat), i ≤ 5 → 5 + 1 ≤ i + fu → ∀ (S21 : Int32), S21 = (q_X3_dueOf_21 g t (z + 1) 0 i) → ∀ (H : Heap) (locs : List Loc), va_P E.1 vwCl (ms E a g im kp) H → va_D A (ms E a g im kp) → va_S A s.heap H locs → ∀ ls : Array Slot, lv_has ls 6 [(0, .ref (a 0)), (1, .int (nI t)), (2, .int (z + 1)), (3, .int S21), (4, .int (nI i))] → W p l e { frames := 1, cells := 0, slots := 0, locals := 22 } s m args below meth c H locs 0 0 Q (F0 m 21 ls []) := by
        intro fu
        induction fu with
        | zero => intro i h1 h2; exact absurd h2 (by omega)
        | succ fu ih =>
          intro i hi hin S21 eS21 H locs hP hD hS ls hl
          refine lv_iload hx hb dX3_dueOf_21 (lv_at hl 4 rfl) ?_
          refine lv_iconst (v := 5) hx hb dX3_dueOf_23 (by decide) ?_
          refine lv_icmp_ge (tgt := 117) hx hb dX3_dueOf_24 (by decide) (fun c_1 => ?_) (fun c_1 => ?_)
          · have hiN : i = 5 := by have := (nI_leI (a := 5) (b := i) (by omega) (by omega)).mp c_1; omega
            rw [hiN] at eS21 hl
            refine lv_goto (tgt := 9) hx hb dX3_dueOf_117 (by decide) ?_
            by_cases hw : S21 = 0
            · refine lv_iload_n hx hb dX3_dueOf_9 rfl (lv_at hl 3 rfl) ?_
              refine lv_if_eq (tgt := 120) hx hb dX3_dueOf_10 (by decide) (fun c1 => ?_) (fun c1 => absurd hw c1)
              refine lv_iload_n hx hb dX3_dueOf_120 rfl (lv_at hl 2 rfl) ?_
              refine hret _ _ _ _ _ hP hD hS ?_ dX3_dueOf_121
              rw [← hu]
              show z + 1 = (if q_X3_dueOf_21 g t (z + 1) 0 5 = 0 then z + 1 else u_X3_dueOf g t 0 (z + 1))
              rw [← eS21, if_pos hw]
            · exact absurd (by rw [eS21]; exact hz) hw
          · have hlt : i < 5 := Nat.lt_of_not_le (fun h => c_1 (nI_le (a := 5) (b := i) (by omega) (by omega)))
            refine lv_aload_n hx hb dX3_dueOf_27 rfl (lv_at hl 0 rfl) ?_
            refine va_get (D := E.1) (ci := 3) (v := .ref (a 1)) (C := RX3) (T := TX3) (N := 3) hx hb hts in3 hown hE.1 hP 0 rfl rfl 0 (by decide) K7 (fun _ h9 => h9) rfl dX3_dueOf_28 ?_
            refine lv_bipush (v := 17) hx hb dX3_dueOf_31 (by decide) ?_
            refine lv_iload_n hx hb dX3_dueOf_33 rfl (lv_at hl 1 rfl) ?_
            refine lv_iadd hx hb dX3_dueOf_34 ?_
            refine tpe (y := nI (17 + t)) (nI_add 17 t) ?_
            refine q_iald hx hb hE hP 1 rfl (j := (17 + t)) (v := (g (17 + t))) rfl (by omega) (by decide) rfl dX3_dueOf_35 ?_
            refine lv_iconst (v := 1) hx hb dX3_dueOf_36 (by decide) ?_
            have J_59_2 : ∀ (w : Int32) (H : Heap) (locs : List Loc), va_P E.1 vwCl (ms E a g im kp) H → va_D A (ms E a g im kp) → va_S A s.heap H locs → w = (if (g (17 + t)) = 1 then (if (g (42 + i)) = 1 then 1 else 0) else 0 : Int32) → W p l e { frames := 1, cells := 0, slots := 0, locals := 22 } s m args below meth c H locs 0 0 Q (F0 m 59 ls [.int w]) := by
              intro w H locs hP hD hS ew
              rw [ew]
              refine lv_istore (lv' := [(5, .int (if (g (17 + t)) = 1 then (if (g (42 + i)) = 1 then 1 else 0) else 0 : Int32)), (0, .ref (a 0)), (1, .int (nI t)), (2, .int (z + 1)), (3, .int S21), (4, .int (nI i))]) hx hb dX3_dueOf_59 hl (by decide) rfl (fun ls hl => ?_)
              refine lv_iload_n hx hb dX3_dueOf_61 rfl (lv_at hl 4 rfl) ?_
              have J_110_5 : ∀ (w : Int32) (H : Heap) (locs : List Loc), va_P E.1 vwCl (ms E a g im kp) H → va_D A (ms E a g im kp) → va_S A s.heap H locs → w = (if S21 = 0 then (if (g (202 + 12 * i + t)) ≤ (z + 1) then 0 else (if (g (52 + 3 * i + t / 4)) ≤ (z + 1) then 0 else (if (if (g (17 + t)) = 1 then (if (g (42 + i)) = 1 then 1 else 0) else 0 : Int32) = 0 then 1 else 0))) else 1 : Int32) → W p l e { frames := 1, cells := 0, slots := 0, locals := 22 } s m args below meth c H locs 0 0 Q (F0 m 110 ls [.int w]) := by
                intro w H locs hP hD hS ew
                rw [ew]
                refine lv_istore_n (lv' := [(3, .int (if S21 = 0 then (if (g (202 + 12 * i + t)) ≤ (z + 1) then 0 else (if (g (52 + 3 * i + t / 4)) ≤ (z + 1) then 0 else (if (if (g (17 + t)) = 1 then (if (g (42 + i)) = 1 then 1 else 0) else 0 : Int32) = 0 then 1 else 0))) else 1 : Int32)), (5, .int (if (g (17 + t)) = 1 then (if (g (42 + i)) = 1 then 1 else 0) else 0 : Int32)), (0, .ref (a 0)), (1, .int (nI t)), (2, .int (z + 1)), (4, .int (nI i))]) hx hb dX3_dueOf_110 rfl hl (by decide) rfl (fun ls hl => ?_)
                refine lv_iinc (v := (nI (i + 1))) (lv' := [(4, .int (nI (i + 1))), (3, .int (if S21 = 0 then (if (g (202 + 12 * i + t)) ≤ (z + 1) then 0 else (if (g (52 + 3 * i + t / 4)) ≤ (z + 1) then 0 else (if (if (g (17 + t)) = 1 then (if (g (42 + i)) = 1 then 1 else 0) else 0 : Int32) = 0 then 1 else 0))) else 1 : Int32)), (5, .int (if (g (17 + t)) = 1 then (if (g (42 + i)) = 1 then 1 else 0) else 0 : Int32)), (0, .ref (a 0)), (1, .int (nI t)), (2, .int (z + 1))]) hx hb dX3_dueOf_111 hl (k := 5) rfl (nI_1 i) (by decide) rfl (fun ls hl => ?_)
                refine lv_goto (tgt := 21) hx hb dX3_dueOf_114 (by decide) ?_
                have eS1 : ((if S21 = 0 then (if (g (202 + 12 * i + t)) ≤ (z + 1) then 0 else (if (g (52 + 3 * i + t / 4)) ≤ (z + 1) then 0 else (if (if (g (17 + t)) = 1 then (if (g (42 + i)) = 1 then 1 else 0) else 0 : Int32) = 0 then 1 else 0))) else 1 : Int32) : Int32) = (q_X3_dueOf_21 g t (z + 1) 0 (i + 1)) := by
                  show _ = p_X3_dueOf_21 g t (z + 1) (q_X3_dueOf_21 g t (z + 1) 0 i) i
                  rw [← eS21]
                  rfl
                exact ih (i + 1) (by omega) (by omega) (if S21 = 0 then (if (g (202 + 12 * i + t)) ≤ (z + 1) then 0 else (if (g (52 + 3 * i + t / 4)) ≤ (z + 1) then 0 else (if (if (g (17 + t)) = 1 then (if (g (42 + i)) = 1 then 1 else 0) else 0 : Int32) = 0 then 1 else 0))) else 1 : Int32) eS1 _ _ hP hD hS ls (lv_sub hl [3, 4, 5, 1, 0] rfl)
              refine lv_if_ne (tgt := 105) hx hb dX3_dueOf_62 (by decide) (fun c_6 => ?_) (fun c_6 => ?_)
              · refine lv_iconst (v := 1) hx hb dX3_dueOf_105 (by decide) ?_
                refine lv_goto (tgt := 110) hx hb dX3_dueOf_106 (by decide) ?_
                exact J_110_5 _ _ _ hP hD hS (if_neg c_6).symm
              · refine lv_aload_n hx hb dX3_dueOf_65 rfl (lv_at hl 1 rfl) ?_
                refine va_get (D := E.1) (ci := 3) (v := .ref (a 1)) (C := RX3) (T := TX3) (N := 3) hx hb hts in3 hown hE.1 hP 0 rfl rfl 0 (by decide) K7 (fun _ h9 => h9) rfl dX3_dueOf_66 ?_
                refine lv_sipush (v := 202) hx hb dX3_dueOf_69 (by decide) ?_
                refine lv_iload hx hb dX3_dueOf_72 (lv_at hl 5 rfl) ?_
                refine lv_iload_n hx hb dX3_dueOf_74 rfl (lv_at hl 2 rfl) ?_
                refine ci_S F hE (k_X3_thingAt l E 202 i t) (va_cwS 3 hts gX3_dueOf_X3_thingAt rfl rfl rfl (by decide +kernel) ⟨Nat.le_of_ble_eq_true rfl, Nat.le_of_ble_eq_true rfl⟩) Fr.nil hP hD hS hA rfl hl.1 rfl (Nat.le_of_ble_eq_true rfl) dX3_dueOf_75 ⟨Nat.zero_le _, Nat.zero_le _⟩ (fun H locs hP hD hS => ?_)
                refine q_iald hx hb hE hP 1 rfl (j := (202 + 12 * i + t)) (v := (g (202 + 12 * i + t))) rfl (by omega) (by decide) rfl dX3_dueOf_78 ?_
                refine lv_iload_n hx hb dX3_dueOf_79 rfl (lv_at hl 3 rfl) ?_
                refine lv_icmp_le (tgt := 109) hx hb dX3_dueOf_80 (by decide) (fun c_7 => ?_) (fun c_7 => ?_)
                · refine lv_iconst (v := 0) hx hb dX3_dueOf_109 (by decide) ?_
                  exact J_110_5 _ _ _ hP hD hS ((if_pos c_6).trans (if_pos c_7)).symm
                · refine lv_aload_n hx hb dX3_dueOf_83 rfl (lv_at hl 1 rfl) ?_
                  refine va_get (D := E.1) (ci := 3) (v := .ref (a 1)) (C := RX3) (T := TX3) (N := 3) hx hb hts in3 hown hE.1 hP 0 rfl rfl 0 (by decide) K7 (fun _ h9 => h9) rfl dX3_dueOf_84 ?_
                  refine lv_bipush (v := 52) hx hb dX3_dueOf_87 (by decide) ?_
                  refine lv_iload hx hb dX3_dueOf_89 (lv_at hl 5 rfl) ?_
                  refine lv_iload_n hx hb dX3_dueOf_91 rfl (lv_at hl 2 rfl) ?_
                  refine ci_S F hE (k_X3_volumeAt l E 52 i t (by omega)) (va_cwS 3 hts gX3_dueOf_X3_volumeAt rfl rfl rfl (by decide +kernel) ⟨Nat.le_of_ble_eq_true rfl, Nat.le_of_ble_eq_true rfl⟩) Fr.nil hP hD hS hA rfl hl.1 rfl (Nat.le_of_ble_eq_true rfl) dX3_dueOf_92 ⟨Nat.zero_le _, Nat.zero_le _⟩ (fun H locs hP hD hS => ?_)
                  refine q_iald hx hb hE hP 1 rfl (j := (52 + 3 * i + t / 4)) (v := (g (52 + 3 * i + t / 4))) rfl (by omega) (by decide) rfl dX3_dueOf_95 ?_
                  refine lv_iload_n hx hb dX3_dueOf_96 rfl (lv_at hl 3 rfl) ?_
                  refine lv_icmp_le (tgt := 109) hx hb dX3_dueOf_97 (by decide) (fun c_8 => ?_) (fun c_8 => ?_)
                  · refine lv_iconst (v := 0) hx hb dX3_dueOf_109 (by decide) ?_
                    exact J_110_5 _ _ _ hP hD hS ((if_pos c_6).trans ((if_neg c_7).trans (if_pos c_8))).symm
                  · refine lv_iload hx hb dX3_dueOf_100 (lv_at hl 0 rfl) ?_
                    refine lv_if_ne (tgt := 109) hx hb dX3_dueOf_102 (by decide) (fun c_9 => ?_) (fun c_9 => ?_)
                    · refine lv_iconst (v := 0) hx hb dX3_dueOf_109 (by decide) ?_
                      exact J_110_5 _ _ _ hP hD hS ((if_pos c_6).trans ((if_neg c_7).trans ((if_neg c_8).trans (if_neg c_9)))).symm
                    · refine lv_iconst (v := 1) hx hb dX3_dueOf_105 (by decide) ?_
                      refine lv_goto (tgt := 110) hx hb dX3_dueOf_106 (by decide) ?_
                      exact J_110_5 _ _ _ hP hD hS ((if_pos c_6).trans ((if_neg c_7).trans ((if_neg c_8).trans (if_pos c_9)))).symm
            refine lv_icmp_ne (tgt := 58) hx hb dX3_dueOf_37 (by decide) (fun c_3 => ?_) (fun c_3 => ?_)
            · refine lv_iconst (v := 0) hx hb dX3_dueOf_58 (by decide) ?_
              exact J_59_2 _ _ _ hP hD hS (if_neg c_3).symm
            · refine lv_aload_n hx hb dX3_dueOf_40 rfl (lv_at hl 0 rfl) ?_
              refine va_get (D := E.1) (ci := 3) (v := .ref (a 1)) (C := RX3) (T := TX3) (N := 3) hx hb hts in3 hown hE.1 hP 0 rfl rfl 0 (by decide) K7 (fun _ h9 => h9) rfl dX3_dueOf_41 ?_
              refine lv_bipush (v := 42) hx hb dX3_dueOf_44 (by decide) ?_
              refine lv_iload hx hb dX3_dueOf_46 (lv_at hl 4 rfl) ?_
              refine lv_iadd hx hb dX3_dueOf_48 ?_
              refine tpe (y := nI (42 + i)) (nI_add 42 i) ?_
              refine q_iald hx hb hE hP 1 rfl (j := (42 + i)) (v := (g (42 + i))) rfl (by omega) (by decide) rfl dX3_dueOf_49 ?_
              refine lv_iconst (v := 1) hx hb dX3_dueOf_50 (by decide) ?_
              refine lv_icmp_ne (tgt := 58) hx hb dX3_dueOf_51 (by decide) (fun c_4 => ?_) (fun c_4 => ?_)
              · refine lv_iconst (v := 0) hx hb dX3_dueOf_58 (by decide) ?_
                exact J_59_2 _ _ _ hP hD hS ((if_pos c_3).trans (if_neg c_4)).symm
              · refine lv_iconst (v := 1) hx hb dX3_dueOf_54 (by decide) ?_
                refine lv_goto (tgt := 59) hx hb dX3_dueOf_55 (by decide) ?_
                exact J_59_2 _ _ _ hP hD hS ((if_pos c_3).trans (if_pos c_4)).symm
      exact lp21 (5 + 1) 0 (Nat.zero_le _) (by omega) 0 rfl _ _ hP hD hS ls (lv_sub hl [3, 4, 2, 1, 0] rfl)
    | succ fo iho =>
      intro z hz hu v hv H locs hP hD hS ls hl
      refine lv_iload_n hx hb dX3_dueOf_9 rfl (lv_at hl 3 rfl) ?_
      refine lv_if_eq (tgt := 120) hx hb dX3_dueOf_10 (by decide) (fun c0 => absurd c0 hv) (fun c0 => ?_)
      refine lv_iinc (v := (z + 1)) (lv' := [(2, .int (z + 1)), (0, .ref (a 0)), (1, .int (nI t)), (3, .int v)]) hx hb dX3_dueOf_13 hl (k := 2) rfl rfl (by decide) rfl (fun ls hl => ?_)
      refine lv_iconst (v := 0) hx hb dX3_dueOf_16 (by decide) ?_
      refine lv_istore_n (lv' := [(3, .int 0), (2, .int (z + 1)), (0, .ref (a 0)), (1, .int (nI t))]) hx hb dX3_dueOf_17 rfl hl (by decide) rfl (fun ls hl => ?_)
      refine lv_iconst (v := 0) hx hb dX3_dueOf_18 (by decide) ?_
      refine lv_istore (lv' := [(4, .int 0), (3, .int 0), (2, .int (z + 1)), (0, .ref (a 0)), (1, .int (nI t))]) hx hb dX3_dueOf_19 hl (by decide) rfl (fun ls hl => ?_)
      have lp21 : ∀ (fu i : Nat), i ≤ 5 → 5 + 1 ≤ i + fu → ∀ (S21 : Int32), S21 = (q_X3_dueOf_21 g t (z + 1) 0 i) → ∀ (H : Heap) (locs : List Loc), va_P E.1 vwCl (ms E a g im kp) H → va_D A (ms E a g im kp) → va_S A s.heap H locs → ∀ ls : Array Slot, lv_has ls 6 [(0, .ref (a 0)), (1, .int (nI t)), (2, .int (z + 1)), (3, .int S21), (4, .int (nI i))] → W p l e { frames := 1, cells := 0, slots := 0, locals := 22 } s m args below meth c H locs 0 0 Q (F0 m 21 ls []) := by
        intro fu
        induction fu with
        | zero => intro i h1 h2; exact absurd h2 (by omega)
        | succ fu ih =>
          intro i hi hin S21 eS21 H locs hP hD hS ls hl
          refine lv_iload hx hb dX3_dueOf_21 (lv_at hl 4 rfl) ?_
          refine lv_iconst (v := 5) hx hb dX3_dueOf_23 (by decide) ?_
          refine lv_icmp_ge (tgt := 117) hx hb dX3_dueOf_24 (by decide) (fun c_10 => ?_) (fun c_10 => ?_)
          · have hiN : i = 5 := by have := (nI_leI (a := 5) (b := i) (by omega) (by omega)).mp c_10; omega
            rw [hiN] at eS21 hl
            refine lv_goto (tgt := 9) hx hb dX3_dueOf_117 (by decide) ?_
            by_cases hw : S21 = 0
            · refine lv_iload_n hx hb dX3_dueOf_9 rfl (lv_at hl 3 rfl) ?_
              refine lv_if_eq (tgt := 120) hx hb dX3_dueOf_10 (by decide) (fun c1 => ?_) (fun c1 => absurd hw c1)
              refine lv_iload_n hx hb dX3_dueOf_120 rfl (lv_at hl 2 rfl) ?_
              refine hret _ _ _ _ _ hP hD hS ?_ dX3_dueOf_121
              rw [← hu]
              show z + 1 = (if q_X3_dueOf_21 g t (z + 1) 0 5 = 0 then z + 1 else u_X3_dueOf g t (fo + 1) (z + 1))
              rw [← eS21, if_pos hw]
            · refine iho (z + 1) ?_ ?_ S21 hw _ _ hP hD hS ls (lv_sub hl [0, 1, 2, 3] rfl)
              · rw [show z + 1 + nI (fo + 1) = z + nI (fo + 1 + 1) from by rw [nI_succ (fo + 1), Int32.add_assoc, Int32.add_comm 1]]
                exact hz
              · rw [← hu]
                show _ = (if q_X3_dueOf_21 g t (z + 1) 0 5 = 0 then z + 1 else u_X3_dueOf g t (fo + 1) (z + 1))
                rw [← eS21, if_neg hw]
          · have hlt : i < 5 := Nat.lt_of_not_le (fun h => c_10 (nI_le (a := 5) (b := i) (by omega) (by omega)))
            refine lv_aload_n hx hb dX3_dueOf_27 rfl (lv_at hl 0 rfl) ?_
            refine va_get (D := E.1) (ci := 3) (v := .ref (a 1)) (C := RX3) (T := TX3) (N := 3) hx hb hts in3 hown hE.1 hP 0 rfl rfl 0 (by decide) K7 (fun _ h9 => h9) rfl dX3_dueOf_28 ?_
            refine lv_bipush (v := 17) hx hb dX3_dueOf_31 (by decide) ?_
            refine lv_iload_n hx hb dX3_dueOf_33 rfl (lv_at hl 1 rfl) ?_
            refine lv_iadd hx hb dX3_dueOf_34 ?_
            refine tpe (y := nI (17 + t)) (nI_add 17 t) ?_
            refine q_iald hx hb hE hP 1 rfl (j := (17 + t)) (v := (g (17 + t))) rfl (by omega) (by decide) rfl dX3_dueOf_35 ?_
            refine lv_iconst (v := 1) hx hb dX3_dueOf_36 (by decide) ?_
            have J_59_11 : ∀ (w : Int32) (H : Heap) (locs : List Loc), va_P E.1 vwCl (ms E a g im kp) H → va_D A (ms E a g im kp) → va_S A s.heap H locs → w = (if (g (17 + t)) = 1 then (if (g (42 + i)) = 1 then 1 else 0) else 0 : Int32) → W p l e { frames := 1, cells := 0, slots := 0, locals := 22 } s m args below meth c H locs 0 0 Q (F0 m 59 ls [.int w]) := by
              intro w H locs hP hD hS ew
              rw [ew]
              refine lv_istore (lv' := [(5, .int (if (g (17 + t)) = 1 then (if (g (42 + i)) = 1 then 1 else 0) else 0 : Int32)), (0, .ref (a 0)), (1, .int (nI t)), (2, .int (z + 1)), (3, .int S21), (4, .int (nI i))]) hx hb dX3_dueOf_59 hl (by decide) rfl (fun ls hl => ?_)
              refine lv_iload_n hx hb dX3_dueOf_61 rfl (lv_at hl 4 rfl) ?_
              have J_110_14 : ∀ (w : Int32) (H : Heap) (locs : List Loc), va_P E.1 vwCl (ms E a g im kp) H → va_D A (ms E a g im kp) → va_S A s.heap H locs → w = (if S21 = 0 then (if (g (202 + 12 * i + t)) ≤ (z + 1) then 0 else (if (g (52 + 3 * i + t / 4)) ≤ (z + 1) then 0 else (if (if (g (17 + t)) = 1 then (if (g (42 + i)) = 1 then 1 else 0) else 0 : Int32) = 0 then 1 else 0))) else 1 : Int32) → W p l e { frames := 1, cells := 0, slots := 0, locals := 22 } s m args below meth c H locs 0 0 Q (F0 m 110 ls [.int w]) := by
                intro w H locs hP hD hS ew
                rw [ew]
                refine lv_istore_n (lv' := [(3, .int (if S21 = 0 then (if (g (202 + 12 * i + t)) ≤ (z + 1) then 0 else (if (g (52 + 3 * i + t / 4)) ≤ (z + 1) then 0 else (if (if (g (17 + t)) = 1 then (if (g (42 + i)) = 1 then 1 else 0) else 0 : Int32) = 0 then 1 else 0))) else 1 : Int32)), (5, .int (if (g (17 + t)) = 1 then (if (g (42 + i)) = 1 then 1 else 0) else 0 : Int32)), (0, .ref (a 0)), (1, .int (nI t)), (2, .int (z + 1)), (4, .int (nI i))]) hx hb dX3_dueOf_110 rfl hl (by decide) rfl (fun ls hl => ?_)
                refine lv_iinc (v := (nI (i + 1))) (lv' := [(4, .int (nI (i + 1))), (3, .int (if S21 = 0 then (if (g (202 + 12 * i + t)) ≤ (z + 1) then 0 else (if (g (52 + 3 * i + t / 4)) ≤ (z + 1) then 0 else (if (if (g (17 + t)) = 1 then (if (g (42 + i)) = 1 then 1 else 0) else 0 : Int32) = 0 then 1 else 0))) else 1 : Int32)), (5, .int (if (g (17 + t)) = 1 then (if (g (42 + i)) = 1 then 1 else 0) else 0 : Int32)), (0, .ref (a 0)), (1, .int (nI t)), (2, .int (z + 1))]) hx hb dX3_dueOf_111 hl (k := 5) rfl (nI_1 i) (by decide) rfl (fun ls hl => ?_)
                refine lv_goto (tgt := 21) hx hb dX3_dueOf_114 (by decide) ?_
                have eS1 : ((if S21 = 0 then (if (g (202 + 12 * i + t)) ≤ (z + 1) then 0 else (if (g (52 + 3 * i + t / 4)) ≤ (z + 1) then 0 else (if (if (g (17 + t)) = 1 then (if (g (42 + i)) = 1 then 1 else 0) else 0 : Int32) = 0 then 1 else 0))) else 1 : Int32) : Int32) = (q_X3_dueOf_21 g t (z + 1) 0 (i + 1)) := by
                  show _ = p_X3_dueOf_21 g t (z + 1) (q_X3_dueOf_21 g t (z + 1) 0 i) i
                  rw [← eS21]
                  rfl
                exact ih (i + 1) (by omega) (by omega) (if S21 = 0 then (if (g (202 + 12 * i + t)) ≤ (z + 1) then 0 else (if (g (52 + 3 * i + t / 4)) ≤ (z + 1) then 0 else (if (if (g (17 + t)) = 1 then (if (g (42 + i)) = 1 then 1 else 0) else 0 : Int32) = 0 then 1 else 0))) else 1 : Int32) eS1 _ _ hP hD hS ls (lv_sub hl [3, 4, 5, 1, 0] rfl)
              refine lv_if_ne (tgt := 105) hx hb dX3_dueOf_62 (by decide) (fun c_15 => ?_) (fun c_15 => ?_)
              · refine lv_iconst (v := 1) hx hb dX3_dueOf_105 (by decide) ?_
                refine lv_goto (tgt := 110) hx hb dX3_dueOf_106 (by decide) ?_
                exact J_110_14 _ _ _ hP hD hS (if_neg c_15).symm
              · refine lv_aload_n hx hb dX3_dueOf_65 rfl (lv_at hl 1 rfl) ?_
                refine va_get (D := E.1) (ci := 3) (v := .ref (a 1)) (C := RX3) (T := TX3) (N := 3) hx hb hts in3 hown hE.1 hP 0 rfl rfl 0 (by decide) K7 (fun _ h9 => h9) rfl dX3_dueOf_66 ?_
                refine lv_sipush (v := 202) hx hb dX3_dueOf_69 (by decide) ?_
                refine lv_iload hx hb dX3_dueOf_72 (lv_at hl 5 rfl) ?_
                refine lv_iload_n hx hb dX3_dueOf_74 rfl (lv_at hl 2 rfl) ?_
                refine ci_S F hE (k_X3_thingAt l E 202 i t) (va_cwS 3 hts gX3_dueOf_X3_thingAt rfl rfl rfl (by decide +kernel) ⟨Nat.le_of_ble_eq_true rfl, Nat.le_of_ble_eq_true rfl⟩) Fr.nil hP hD hS hA rfl hl.1 rfl (Nat.le_of_ble_eq_true rfl) dX3_dueOf_75 ⟨Nat.zero_le _, Nat.zero_le _⟩ (fun H locs hP hD hS => ?_)
                refine q_iald hx hb hE hP 1 rfl (j := (202 + 12 * i + t)) (v := (g (202 + 12 * i + t))) rfl (by omega) (by decide) rfl dX3_dueOf_78 ?_
                refine lv_iload_n hx hb dX3_dueOf_79 rfl (lv_at hl 3 rfl) ?_
                refine lv_icmp_le (tgt := 109) hx hb dX3_dueOf_80 (by decide) (fun c_16 => ?_) (fun c_16 => ?_)
                · refine lv_iconst (v := 0) hx hb dX3_dueOf_109 (by decide) ?_
                  exact J_110_14 _ _ _ hP hD hS ((if_pos c_15).trans (if_pos c_16)).symm
                · refine lv_aload_n hx hb dX3_dueOf_83 rfl (lv_at hl 1 rfl) ?_
                  refine va_get (D := E.1) (ci := 3) (v := .ref (a 1)) (C := RX3) (T := TX3) (N := 3) hx hb hts in3 hown hE.1 hP 0 rfl rfl 0 (by decide) K7 (fun _ h9 => h9) rfl dX3_dueOf_84 ?_
                  refine lv_bipush (v := 52) hx hb dX3_dueOf_87 (by decide) ?_
                  refine lv_iload hx hb dX3_dueOf_89 (lv_at hl 5 rfl) ?_
                  refine lv_iload_n hx hb dX3_dueOf_91 rfl (lv_at hl 2 rfl) ?_
                  refine ci_S F hE (k_X3_volumeAt l E 52 i t (by omega)) (va_cwS 3 hts gX3_dueOf_X3_volumeAt rfl rfl rfl (by decide +kernel) ⟨Nat.le_of_ble_eq_true rfl, Nat.le_of_ble_eq_true rfl⟩) Fr.nil hP hD hS hA rfl hl.1 rfl (Nat.le_of_ble_eq_true rfl) dX3_dueOf_92 ⟨Nat.zero_le _, Nat.zero_le _⟩ (fun H locs hP hD hS => ?_)
                  refine q_iald hx hb hE hP 1 rfl (j := (52 + 3 * i + t / 4)) (v := (g (52 + 3 * i + t / 4))) rfl (by omega) (by decide) rfl dX3_dueOf_95 ?_
                  refine lv_iload_n hx hb dX3_dueOf_96 rfl (lv_at hl 3 rfl) ?_
                  refine lv_icmp_le (tgt := 109) hx hb dX3_dueOf_97 (by decide) (fun c_17 => ?_) (fun c_17 => ?_)
                  · refine lv_iconst (v := 0) hx hb dX3_dueOf_109 (by decide) ?_
                    exact J_110_14 _ _ _ hP hD hS ((if_pos c_15).trans ((if_neg c_16).trans (if_pos c_17))).symm
                  · refine lv_iload hx hb dX3_dueOf_100 (lv_at hl 0 rfl) ?_
                    refine lv_if_ne (tgt := 109) hx hb dX3_dueOf_102 (by decide) (fun c_18 => ?_) (fun c_18 => ?_)
                    · refine lv_iconst (v := 0) hx hb dX3_dueOf_109 (by decide) ?_
                      exact J_110_14 _ _ _ hP hD hS ((if_pos c_15).trans ((if_neg c_16).trans ((if_neg c_17).trans (if_neg c_18)))).symm
                    · refine lv_iconst (v := 1) hx hb dX3_dueOf_105 (by decide) ?_
                      refine lv_goto (tgt := 110) hx hb dX3_dueOf_106 (by decide) ?_
                      exact J_110_14 _ _ _ hP hD hS ((if_pos c_15).trans ((if_neg c_16).trans ((if_neg c_17).trans (if_pos c_18)))).symm
            refine lv_icmp_ne (tgt := 58) hx hb dX3_dueOf_37 (by decide) (fun c_12 => ?_) (fun c_12 => ?_)
            · refine lv_iconst (v := 0) hx hb dX3_dueOf_58 (by decide) ?_
              exact J_59_11 _ _ _ hP hD hS (if_neg c_12).symm
            · refine lv_aload_n hx hb dX3_dueOf_40 rfl (lv_at hl 0 rfl) ?_
              refine va_get (D := E.1) (ci := 3) (v := .ref (a 1)) (C := RX3) (T := TX3) (N := 3) hx hb hts in3 hown hE.1 hP 0 rfl rfl 0 (by decide) K7 (fun _ h9 => h9) rfl dX3_dueOf_41 ?_
              refine lv_bipush (v := 42) hx hb dX3_dueOf_44 (by decide) ?_
              refine lv_iload hx hb dX3_dueOf_46 (lv_at hl 4 rfl) ?_
              refine lv_iadd hx hb dX3_dueOf_48 ?_
              refine tpe (y := nI (42 + i)) (nI_add 42 i) ?_
              refine q_iald hx hb hE hP 1 rfl (j := (42 + i)) (v := (g (42 + i))) rfl (by omega) (by decide) rfl dX3_dueOf_49 ?_
              refine lv_iconst (v := 1) hx hb dX3_dueOf_50 (by decide) ?_
              refine lv_icmp_ne (tgt := 58) hx hb dX3_dueOf_51 (by decide) (fun c_13 => ?_) (fun c_13 => ?_)
              · refine lv_iconst (v := 0) hx hb dX3_dueOf_58 (by decide) ?_
                exact J_59_11 _ _ _ hP hD hS ((if_pos c_12).trans (if_neg c_13)).symm
              · refine lv_iconst (v := 1) hx hb dX3_dueOf_54 (by decide) ?_
                refine lv_goto (tgt := 59) hx hb dX3_dueOf_55 (by decide) ?_
                exact J_59_11 _ _ _ hP hD hS ((if_pos c_12).trans (if_pos c_13)).symm
      exact lp21 (5 + 1) 0 (Nat.zero_le _) (by omega) 0 rfl _ _ hP hD hS ls (lv_sub hl [3, 4, 2, 1, 0] rfl)
  exact lp9 399 _ hz rfl 1 (by decide) _ _ hP hD hS ls (lv_sub hl [2, 3, 1, 0] rfl)
theorem pr_k (k : Nat) : nI (297 + (k + 1)) - 1 = nI (297 + k) := nI_pred (297 + k)
theorem pm_k (k : Nat) : nI (297 + (k + 1)) + Int32.ofInt (-1) = nI (297 + k) := pk_m1 (297 + k)
def w_X3_layWaited_38 (t i : Nat) : Nat → (Nat → Int32) → (Nat → Int32) × Nat
  | 0, G => (G, 0)
  | k + 1, G => if f_X3_lesser G i t ≤ f_X3_lesser G (ix (G (297 + k))) t then (G, k + 1) else w_X3_layWaited_38 t i k (upd G (297 + (k + 1)) (G (297 + k)))
theorem w_le_X3 (t i : Nat) : ∀ k G, (w_X3_layWaited_38 t i k G).2 ≤ k
  | 0, _ => Nat.le_refl 0
  | k + 1, G => by
    unfold w_X3_layWaited_38
    split
    · exact Nat.le_refl _
    · exact Nat.le_succ_of_le (w_le_X3 t i k _)
theorem ix_nI {n : Nat} (h : n < 2 ^ 31) : ix (nI n) = n := nI_clamp h
/-- what lies outside the places 297 .. 297 + k stays -/
theorem w_out_X3 (t i : Nat) {j : Nat} : ∀ k G, j < 297 ∨ 297 + k < j → (w_X3_layWaited_38 t i k G).1 j = G j
  | 0, _, _ => rfl
  | k + 1, G, h => by
    unfold w_X3_layWaited_38
    split
    · rfl
    · rw [w_out_X3 t i k _ (by omega), up_n (by omega)]
/-- every place but that which is left open holds a reader -/
theorem w_in_X3 (t i : Nat) : ∀ k G, (∀ j, j < k → ix (G (297 + j)) < 5 ∧ G (297 + j) = nI (ix (G (297 + j)))) → ∀ j, j ≤ k → j ≠ (w_X3_layWaited_38 t i k G).2 → ix ((w_X3_layWaited_38 t i k G).1 (297 + j)) < 5 ∧ (w_X3_layWaited_38 t i k G).1 (297 + j) = nI (ix ((w_X3_layWaited_38 t i k G).1 (297 + j)))
  | 0, G, _, j, hj, hn => absurd (show j = 0 by omega) hn
  | k + 1, G, h, j, hj, hn => by
    unfold w_X3_layWaited_38 at hn ⊢
    split at hn <;> rename_i hc
    · rw [if_pos hc]
      have hn : j ≠ k + 1 := hn
      exact h j (by omega)
    · rw [if_neg hc]
      rcases Nat.lt_or_ge k j with q | q
      · have e : j = k + 1 := by omega
        subst e
        rw [w_out_X3 t i k _ (by omega), up_s]
        exact h k (Nat.lt_succ_self k)
      · exact w_in_X3 t i k _ (fun z hz => by rw [up_n (by omega)]; exact h z (by omega)) j q hn
def p_X3_layWaited_11 (g : Nat → Int32) (t : Nat) (S11 : (Nat → Int32)) (i : Nat) : (Nat → Int32) := (if (f_X3_isHolder S11 i t) = 0 then S11 else (upd (upd (w_X3_layWaited_38 t i (ix (S11 302)) S11).1 (297 + (w_X3_layWaited_38 t i (ix (S11 302)) S11).2) (nI i)) 302 (((w_X3_layWaited_38 t i (ix (S11 302)) S11).1 302) + 1)))
def q_X3_layWaited_11 (g : Nat → Int32) (t : Nat) (S0 : (Nat → Int32)) : Nat → (Nat → Int32)
  | 0 => S0
  | i + 1 => p_X3_layWaited_11 g t (q_X3_layWaited_11 g t S0 i) i
def s_X3_layWaited (g : Nat → Int32) (t : Nat) : Nat → Int32 := (q_X3_layWaited_11 g t (upd g 302 0) 5)
def WI (S : Nat → Int32) (i : Nat) : Prop := ix (S 302) ≤ i ∧ S 302 = nI (ix (S 302)) ∧ ∀ j, j < ix (S 302) → ix (S (297 + j)) < 5 ∧ S (297 + j) = nI (ix (S (297 + j)))
theorem wi_0 (g : Nat → Int32) : WI (upd g 302 0) 0 := by
  unfold WI
  rw [up_s]
  exact ⟨Nat.le_refl 0, rfl, fun j hj => absurd hj (Nat.not_lt_zero j)⟩
theorem wi_s (g S : Nat → Int32) (t i : Nat) (hi : i < 5) (h : WI S i) : WI (p_X3_layWaited_11 g t S i) (i + 1) := by
  obtain ⟨h1, h2, h3⟩ := h
  unfold p_X3_layWaited_11
  split
  · exact ⟨by omega, h2, h3⟩
  · have ho := w_out_X3 t i (j := 302) (ix (S 302)) S (by omega)
    have hk := w_le_X3 t i (ix (S 302)) S
    have hn := w_in_X3 t i (ix (S 302)) S h3
    generalize w_X3_layWaited_38 t i (ix (S 302)) S = X at ho hk hn ⊢
    generalize ix (S 302) = c at h1 h2 hk hn ⊢
    have e : upd (upd X.1 (297 + X.2) (nI i)) 302 (X.1 302 + 1) 302 = nI (c + 1) := by rw [up_s, ho, h2]; exact nI_1 c
    unfold WI
    rw [e, ix_nI (by omega)]
    refine ⟨by omega, rfl, fun j hj => ?_⟩
    rw [up_n (by omega)]
    by_cases hj2 : j = X.2
    · subst hj2; rw [up_s, ix_nI (by omega)]; exact ⟨by omega, rfl⟩
    · rw [up_n (by omega)]; exact hn j (by omega) hj2
theorem wi_X3_layWaited (g : Nat → Int32) (t : Nat) : ∀ i, i ≤ 5 → WI (q_X3_layWaited_11 g t (upd g 302 0) i) i
  | 0, _ => wi_0 g
  | i + 1, hi => wi_s g _ t i (by omega) (wi_X3_layWaited g t i (by omega))
set_option maxHeartbeats 4000000 in
set_option maxRecDepth 100000 in
theorem k_X3_layWaited (l : Launch) (E : EE) (a : Nat → Nat) (g im kp : Nat → Int32) (t : Nat) (ht : t < 12) : Cv l E yX3_layWaited wsX3_layWaited { frames := 2, cells := 0, slots := 0, locals := 46 } [.ref (a 0), .int (nI t)] (ms E a g im kp) (ms E a (s_X3_layWaited g t) im kp) := by
  refine Cv.of (cc := cX3_layWaited) (maxL := 4) (by decide) rfl (Nat.le_of_ble_eq_true rfl) ?_
  intro p e s m args below meth c A Q F hE hA hret hP hD ls hl
  obtain ⟨hx, hb, hml, hown, hts⟩ := id F
  have hS : va_S A s.heap s.heap [] := va_S.rf
  have hl : lv_has ls 4 [(0, .ref (a 0)), (1, .int (nI t))] := hl
  have in3 : ∀ w ∈ wsX30, w ∈ wsX3_layWaited := fun w h => List.mem_cons_of_mem _ (List.mem_append_right _ h)
  have K7 := hts (.fieldLink RX3 7 "PromiseHoursModel" "state" "[I") (by decide +kernel)
  refine lv_aload_n hx hb dX3_layWaited_0 rfl (lv_at hl 0 rfl) ?_
  refine va_get (D := E.1) (ci := 3) (v := .ref (a 1)) (C := RX3) (T := TX3) (N := 3) hx hb hts in3 hown hE.1 hP 0 rfl rfl 0 (by decide) K7 (fun _ h9 => h9) rfl dX3_layWaited_1 ?_
  refine lv_sipush (v := 302) hx hb dX3_layWaited_4 (by decide) ?_
  refine lv_iconst (v := 0) hx hb dX3_layWaited_7 (by decide) ?_
  refine q_iast hx hb hE hP hD hS 1 rfl (j := 302) (wd' := (ms E a (upd g 302 0) im kp)) rfl (by omega) (by decide) rfl dX3_layWaited_8 (fun H locs hP hD hS => ?_)
  refine lv_iconst (v := 0) hx hb dX3_layWaited_9 (by decide) ?_
  refine lv_istore_n (lv' := [(2, .int 0), (0, .ref (a 0)), (1, .int (nI t))]) hx hb dX3_layWaited_10 rfl hl (by decide) rfl (fun ls hl => ?_)
  have lp11 : ∀ (fu i : Nat), i ≤ 5 → 5 + 1 ≤ i + fu → ∀ (S11 : (Nat → Int32)), S11 = (q_X3_layWaited_11 g t (upd g 302 0) i) → ∀ (H : Heap) (locs : List Loc), va_P E.1 vwCl (ms E a S11 im kp) H → va_D A (ms E a S11 im kp) → va_S A s.heap H locs → ∀ ls : Array Slot, lv_has ls 4 [(0, .ref (a 0)), (1, .int (nI t)), (2, .int (nI i))] → W p l e { frames := 2, cells := 0, slots := 0, locals := 46 } s m args below meth c H locs 0 0 Q (F0 m 11 ls []) := by
    intro fu
    induction fu with
    | zero => intro i h1 h2; exact absurd h2 (by omega)
    | succ fu ih =>
      intro i hi hin S11 eS11 H locs hP hD hS ls hl
      refine lv_iload_n hx hb dX3_layWaited_11 rfl (lv_at hl 2 rfl) ?_
      refine lv_iconst (v := 5) hx hb dX3_layWaited_12 (by decide) ?_
      refine lv_icmp_ge (tgt := 112) hx hb dX3_layWaited_13 (by decide) (fun c_1 => ?_) (fun c_1 => ?_)
      · have hiN : i = 5 := by have := (nI_leI (a := 5) (b := i) (by omega) (by omega)).mp c_1; omega
        rw [hiN] at eS11 hl
        have eg : S11 = (s_X3_layWaited g t) := (by unfold s_X3_layWaited; rw [← eS11])
        exact hret _ _ _ _ (by rw [← eg]; exact hP) (by rw [← eg]; exact hD) hS dX3_layWaited_112
      · have hlt : i < 5 := Nat.lt_of_not_le (fun h => c_1 (nI_le (a := 5) (b := i) (by omega) (by omega)))
        have hW := wi_X3_layWaited g t i hi
        rw [← eS11] at hW
        obtain ⟨hW1, hW2, hW3⟩ := hW
        refine lv_aload_n hx hb dX3_layWaited_16 rfl (lv_at hl 0 rfl) ?_
        refine lv_iload_n hx hb dX3_layWaited_17 rfl (lv_at hl 2 rfl) ?_
        refine lv_iload_n hx hb dX3_layWaited_18 rfl (lv_at hl 1 rfl) ?_
        refine ci_V F hE (k_X3_isHolder l E a S11 im kp i t (by omega) (by omega)) (cwV 2 hts gX3_layWaited_X3_isHolder rfl rfl rfl (by decide +kernel) ⟨Nat.le_of_ble_eq_true rfl, Nat.le_of_ble_eq_true rfl⟩) Fr.all 0 3 rfl rfl rfl hP hD hS hA rfl hl.1 rfl (Nat.le_of_ble_eq_true rfl) dX3_layWaited_19 ⟨Nat.zero_le _, Nat.zero_le _⟩ (fun H locs hP hD hS => ?_)
        refine lv_if_eq (tgt := 106) hx hb dX3_layWaited_22 (by decide) (fun c_2 => ?_) (fun c_2 => ?_)
        · refine lv_iinc (v := (nI (i + 1))) (lv' := [(2, .int (nI (i + 1))), (0, .ref (a 0)), (1, .int (nI t))]) hx hb dX3_layWaited_106 hl (k := 2) rfl (nI_1 i) (by decide) rfl (fun ls hl => ?_)
          refine lv_goto (tgt := 11) hx hb dX3_layWaited_109 (by decide) ?_
          have eS1 : (S11 : (Nat → Int32)) = (q_X3_layWaited_11 g t (upd g 302 0) (i + 1)) := by
            show _ = p_X3_layWaited_11 g t (q_X3_layWaited_11 g t (upd g 302 0) i) i
            rw [← eS11]
            unfold p_X3_layWaited_11; exact (if_pos c_2).symm
          exact ih (i + 1) (by omega) (by omega) S11 eS1 _ _ hP hD hS ls (lv_sub hl [1, 2, 0] rfl)
        · refine lv_sipush (v := 297) hx hb dX3_layWaited_25 (by decide) ?_
          refine lv_aload_n hx hb dX3_layWaited_28 rfl (lv_at hl 0 rfl) ?_
          refine va_get (D := E.1) (ci := 3) (v := .ref (a 1)) (C := RX3) (T := TX3) (N := 3) hx hb hts in3 hown hE.1 hP 0 rfl rfl 0 (by decide) K7 (fun _ h9 => h9) rfl dX3_layWaited_29 ?_
          refine lv_sipush (v := 302) hx hb dX3_layWaited_32 (by decide) ?_
          refine q_iald hx hb hE hP 1 rfl (j := 302) (v := (S11 302)) rfl (by omega) (by decide) rfl dX3_layWaited_35 ?_
          refine tpe (y := nI (ix (S11 302))) hW2 ?_
          refine lv_iadd hx hb dX3_layWaited_36 ?_
          refine tpe (y := nI (297 + (ix (S11 302)))) (nI_add 297 (ix (S11 302))) ?_
          refine lv_istore_n (lv' := [(3, .int (nI (297 + (ix (S11 302))))), (0, .ref (a 0)), (1, .int (nI t)), (2, .int (nI i))]) hx hb dX3_layWaited_37 rfl hl (by decide) rfl (fun ls hl => ?_)
          have K87 : ∀ X : (Nat → Int32) × Nat, X = (w_X3_layWaited_38 t i (ix (S11 302)) S11) → X.2 ≤ 4 → ∀ (H : Heap) (locs : List Loc), va_P E.1 vwCl (ms E a X.1 im kp) H → va_D A (ms E a X.1 im kp) → va_S A s.heap H locs → ∀ ls : Array Slot, lv_has ls 4 [(0, .ref (a 0)), (1, .int (nI t)), (2, .int (nI i)), (3, .int (nI (297 + X.2)))] → W p l e { frames := 2, cells := 0, slots := 0, locals := 46 } s m args below meth c H locs 0 0 Q (F0 m 87 ls []) := by
            intro X eX hX4 H locs hP hD hS ls hl
            refine lv_aload_n hx hb dX3_layWaited_87 rfl (lv_at hl 0 rfl) ?_
            refine va_get (D := E.1) (ci := 3) (v := .ref (a 1)) (C := RX3) (T := TX3) (N := 3) hx hb hts in3 hown hE.1 hP 0 rfl rfl 0 (by decide) K7 (fun _ h9 => h9) rfl dX3_layWaited_88 ?_
            refine lv_iload_n hx hb dX3_layWaited_91 rfl (lv_at hl 3 rfl) ?_
            refine lv_iload_n hx hb dX3_layWaited_92 rfl (lv_at hl 2 rfl) ?_
            refine q_iast hx hb hE hP hD hS 1 rfl (j := (297 + X.2)) (wd' := (ms E a (upd X.1 (297 + X.2) (nI i)) im kp)) rfl (by omega) (by decide) rfl dX3_layWaited_93 (fun H locs hP hD hS => ?_)
            refine lv_aload_n hx hb dX3_layWaited_94 rfl (lv_at hl 0 rfl) ?_
            refine va_get (D := E.1) (ci := 3) (v := .ref (a 1)) (C := RX3) (T := TX3) (N := 3) hx hb hts in3 hown hE.1 hP 0 rfl rfl 0 (by decide) K7 (fun _ h9 => h9) rfl dX3_layWaited_95 ?_
            refine lv_sipush (v := 302) hx hb dX3_layWaited_98 (by decide) ?_
            refine lv_dup2_11 hx hb dX3_layWaited_101 rfl rfl ?_
            refine q_iald hx hb hE hP 1 rfl (j := 302) (v := (X.1 302)) rfl (by omega) (by decide) (up_n (by omega)) dX3_layWaited_102 ?_
            refine lv_iconst (v := 1) hx hb dX3_layWaited_103 (by decide) ?_
            refine lv_iadd hx hb dX3_layWaited_104 ?_
            refine q_iast hx hb hE hP hD hS 1 rfl (j := 302) (wd' := (ms E a (upd (upd X.1 (297 + X.2) (nI i)) 302 ((X.1 302) + 1)) im kp)) rfl (by omega) (by decide) rfl dX3_layWaited_105 (fun H locs hP hD hS => ?_)
            refine lv_iinc (v := (nI (i + 1))) (lv' := [(2, .int (nI (i + 1))), (0, .ref (a 0)), (1, .int (nI t)), (3, .int (nI (297 + X.2)))]) hx hb dX3_layWaited_106 hl (k := 2) rfl (nI_1 i) (by decide) rfl (fun ls hl => ?_)
            refine lv_goto (tgt := 11) hx hb dX3_layWaited_109 (by decide) ?_
            have eS1 : ((upd (upd X.1 (297 + X.2) (nI i)) 302 ((X.1 302) + 1)) : (Nat → Int32)) = (q_X3_layWaited_11 g t (upd g 302 0) (i + 1)) := by
              show _ = p_X3_layWaited_11 g t (q_X3_layWaited_11 g t (upd g 302 0) i) i
              rw [← eS11]
              unfold p_X3_layWaited_11; (try rw [← eX]); exact (if_neg c_2).symm
            exact ih (i + 1) (by omega) (by omega) (upd (upd X.1 (297 + X.2) (nI i)) 302 ((X.1 302) + 1)) eS1 _ _ hP hD hS ls (lv_sub hl [1, 2, 0] rfl)
          have lp38 : ∀ (k : Nat) (G : Nat → Int32), k ≤ 4 → (∀ j, j < k → ix (G (297 + j)) < 5 ∧ G (297 + j) = nI (ix (G (297 + j)))) → w_X3_layWaited_38 t i k G = (w_X3_layWaited_38 t i (ix (S11 302)) S11) → ∀ (H : Heap) (locs : List Loc), va_P E.1 vwCl (ms E a G im kp) H → va_D A (ms E a G im kp) → va_S A s.heap H locs → ∀ ls : Array Slot, lv_has ls 4 [(0, .ref (a 0)), (1, .int (nI t)), (2, .int (nI i)), (3, .int (nI (297 + k)))] → W p l e { frames := 2, cells := 0, slots := 0, locals := 46 } s m args below meth c H locs 0 0 Q (F0 m 38 ls []) := by
            intro k
            induction k with
            | zero =>
              intro G hk hG hw H locs hP hD hS ls hl
              refine lv_iload_n hx hb dX3_layWaited_38 rfl (lv_at hl 3 rfl) ?_
              refine lv_sipush (v := 297) hx hb dX3_layWaited_39 (by decide) ?_
              refine lv_icmp_le (tgt := 87) hx hb dX3_layWaited_42 (by decide) (fun c0 => ?_) (fun c0 => ?_)
              · exact K87 (G, 0) hw (Nat.zero_le 4) _ _ hP hD hS ls hl
              · exact absurd (show nI 297 ≤ 297 by decide) c0
            | succ k ih =>
              intro G hk hG hw H locs hP hD hS ls hl
              refine lv_iload_n hx hb dX3_layWaited_38 rfl (lv_at hl 3 rfl) ?_
              refine lv_sipush (v := 297) hx hb dX3_layWaited_39 (by decide) ?_
              refine lv_icmp_le (tgt := 87) hx hb dX3_layWaited_42 (by decide) (fun c0 => ?_) (fun c0 => ?_)
              · exact absurd c0 (nI_ge (a := 297) (b := 297 + (k + 1)) (by omega) (by omega))
              obtain ⟨b_j, e_j⟩ := hG k (Nat.lt_succ_self k)
              refine lv_aload_n hx hb dX3_layWaited_45 rfl (lv_at hl 0 rfl) ?_
              refine lv_aload_n hx hb dX3_layWaited_46 rfl (lv_at hl 0 rfl) ?_
              refine va_get (D := E.1) (ci := 3) (v := .ref (a 1)) (C := RX3) (T := TX3) (N := 3) hx hb hts in3 hown hE.1 hP 0 rfl rfl 0 (by decide) K7 (fun _ h9 => h9) rfl dX3_layWaited_47 ?_
              refine lv_iload_n hx hb dX3_layWaited_50 rfl (lv_at hl 3 rfl) ?_
              refine lv_iconst (v := 1) hx hb dX3_layWaited_51 (by decide) ?_
              refine lv_isub hx hb dX3_layWaited_52 ?_
              refine tpe (y := nI (297 + k)) (pr_k k) ?_
              refine q_iald hx hb hE hP 1 rfl (j := (297 + k)) (v := (G (297 + k))) rfl (by omega) (by decide) rfl dX3_layWaited_53 ?_
              refine tpe (y := nI (ix (G (297 + k)))) e_j ?_
              refine lv_iload_n hx hb dX3_layWaited_54 rfl (lv_at hl 1 rfl) ?_
              refine ci_V F hE (k_X3_lesser l E a G im kp (ix (G (297 + k))) t (by omega) (by omega)) (cwV 2 hts gX3_layWaited_X3_lesser rfl rfl rfl (by decide +kernel) ⟨Nat.le_of_ble_eq_true rfl, Nat.le_of_ble_eq_true rfl⟩) Fr.all 0 3 rfl rfl rfl hP hD hS hA rfl hl.1 rfl (Nat.le_of_ble_eq_true rfl) dX3_layWaited_55 ⟨Nat.zero_le _, Nat.zero_le _⟩ (fun H locs hP hD hS => ?_)
              refine lv_aload_n hx hb dX3_layWaited_58 rfl (lv_at hl 0 rfl) ?_
              refine lv_iload_n hx hb dX3_layWaited_59 rfl (lv_at hl 2 rfl) ?_
              refine lv_iload_n hx hb dX3_layWaited_60 rfl (lv_at hl 1 rfl) ?_
              refine ci_V F hE (k_X3_lesser l E a G im kp i t (by omega) (by omega)) (cwV 2 hts gX3_layWaited_X3_lesser rfl rfl rfl (by decide +kernel) ⟨Nat.le_of_ble_eq_true rfl, Nat.le_of_ble_eq_true rfl⟩) Fr.all 0 3 rfl rfl rfl hP hD hS hA rfl hl.1 rfl (Nat.le_of_ble_eq_true rfl) dX3_layWaited_61 ⟨Nat.zero_le _, Nat.zero_le _⟩ (fun H locs hP hD hS => ?_)
              refine lv_icmp_ge (tgt := 87) hx hb dX3_layWaited_64 (by decide) (fun c_3 => ?_) (fun c_3 => ?_)
              · exact K87 (G, k + 1) (by rw [← hw]; unfold w_X3_layWaited_38; rw [if_pos c_3]) hk _ _ hP hD hS ls (lv_sub hl [0, 1, 2, 3] rfl)
              · refine lv_aload_n hx hb dX3_layWaited_67 rfl (lv_at hl 0 rfl) ?_
                refine va_get (D := E.1) (ci := 3) (v := .ref (a 1)) (C := RX3) (T := TX3) (N := 3) hx hb hts in3 hown hE.1 hP 0 rfl rfl 0 (by decide) K7 (fun _ h9 => h9) rfl dX3_layWaited_68 ?_
                refine lv_iload_n hx hb dX3_layWaited_71 rfl (lv_at hl 3 rfl) ?_
                refine lv_aload_n hx hb dX3_layWaited_72 rfl (lv_at hl 0 rfl) ?_
                refine va_get (D := E.1) (ci := 3) (v := .ref (a 1)) (C := RX3) (T := TX3) (N := 3) hx hb hts in3 hown hE.1 hP 0 rfl rfl 0 (by decide) K7 (fun _ h9 => h9) rfl dX3_layWaited_73 ?_
                refine lv_iload_n hx hb dX3_layWaited_76 rfl (lv_at hl 3 rfl) ?_
                refine lv_iconst (v := 1) hx hb dX3_layWaited_77 (by decide) ?_
                refine lv_isub hx hb dX3_layWaited_78 ?_
                refine tpe (y := nI (297 + k)) (pr_k k) ?_
                refine q_iald hx hb hE hP 1 rfl (j := (297 + k)) (v := (G (297 + k))) rfl (by omega) (by decide) rfl dX3_layWaited_79 ?_
                refine q_iast hx hb hE hP hD hS 1 rfl (j := (297 + (k + 1))) (wd' := (ms E a (upd G (297 + (k + 1)) (G (297 + k))) im kp)) rfl (by omega) (by decide) rfl dX3_layWaited_80 (fun H locs hP hD hS => ?_)
                refine lv_iinc (v := (nI (297 + k))) (lv' := [(3, .int (nI (297 + k))), (0, .ref (a 0)), (1, .int (nI t)), (2, .int (nI i))]) hx hb dX3_layWaited_81 hl (k := 3) rfl (pm_k k) (by decide) rfl (fun ls hl => ?_)
                refine lv_goto (tgt := 38) hx hb dX3_layWaited_84 (by decide) ?_
                refine ih (upd G (297 + (k + 1)) (G (297 + k))) (by omega) (fun j hj => ?_) ?_ _ _ hP hD hS ls (lv_sub hl [1, 2, 3, 0] rfl)
                · rw [up_n (by omega)]; exact hG j (by omega)
                · rw [← hw]
                  show _ = (if f_X3_lesser G i t ≤ f_X3_lesser G (ix (G (297 + k))) t then (G, k + 1) else w_X3_layWaited_38 t i k (upd G (297 + (k + 1)) (G (297 + k))))
                  rw [if_neg c_3]
          exact lp38 (ix (S11 302)) S11 (by omega) hW3 rfl _ _ hP hD hS ls (lv_sub hl [1, 2, 3, 0] rfl)
  exact lp11 (5 + 1) 0 (Nat.zero_le _) (by omega) (upd g 302 0) rfl _ _ hP hD hS ls (lv_sub hl [1, 2, 0] rfl)
