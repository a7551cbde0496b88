/-! PromiseHoursModel.<init> -/
theorem nI_mul (a b : Nat) : nI a * nI b = nI (a * b) := (Int32.ofNat_mul a b).symm
def m4 (b q1 q2 q3 : Nat) : Nat → Nat
  | 0 => b
  | 1 => q1
  | 2 => q2
  | _ => q3
def mq1 (c : Nat → Bool) : Nat → Nat → Bool
  | 0 => c
  | t + 1 => or1 (mq1 c t) (17 + t)
def mq3 (c : Nat → Bool) (r : Nat) : Nat → Nat → Bool
  | 0 => c
  | t + 1 => or1 (mq3 c r t) (82 + 12 * r + t)
def mq2 (c : Nat → Bool) : Nat → Nat → Bool
  | 0 => c
  | r + 1 => mq3 (or1 (or1 (mq2 c r) (42 + r)) (262 + 6 * r + 0)) r 12
def mc1 : Nat → Bool := or1 (fun _ => false) 1
def mc2 : Nat → Bool := or1 mc1 2
def mc3 : Nat → Bool := or1 mc2 3
def mc4 : Nat → Bool := or1 mc3 4
def mcF : Nat → Bool := mq2 (mq1 mc4 12) 5
set_option maxRecDepth 100000 in
theorem mcF_lo : ∀ j, j < 309 → mcF j = true ∨ g0 j = 0 := by decide +kernel
theorem g0_hi {j : Nat} (h : 309 ≤ j) : g0 j = 0 := by
  unfold g0
  rw [if_neg (by omega), if_neg (by omega), if_neg (by omega), if_neg (by omega), if_neg (by omega), if_neg (by omega), if_neg (by omega), if_neg (by omega)]
theorem mcF_eq : mix mcF zr g0 = g0 := by
  funext j
  rw [mix_at]
  by_cases c : mcF j = true
  · rw [if_pos c]
  · rw [if_neg c]
    rcases Nat.lt_or_ge j 309 with h | h
    · exact ((mcF_lo j h).resolve_left c).symm
    · exact (g0_hi h).symm
theorem g0_17 : ∀ t, t < 12 → g0 (17 + t) = -6 := by decide +kernel
set_option maxHeartbeats 4000000 in
set_option maxRecDepth 100000 in
theorem k_X3_init (t0 t1 t2 : Nat) (l : Launch) (E : EE) (b : Nat) : Cc t0 t1 t2 l E yX3_init wsX3_init { frames := 1, cells := 3, slots := 929, locals := 21 } b [(b, .inr (3, [.null, .null, .null]))] (fun u : Nat → Nat => u 0 = b) (fun u => ms E u g0 zr zr) 3 929 := by
  refine Cc.of (cc := cX3_init) (maxL := 3) (by decide) rfl rfl (by decide) ?_
  intro p e s m args below meth c A Q F hE hT hnm hA hret hP hD ls hl
  obtain ⟨hx, hb, hml, hown, hts⟩ := id F
  have hS : va_S A s.heap s.heap [] := va_S.rf
  have in3 : ∀ w ∈ wsX30, w ∈ wsX3_init := fun w h => List.mem_cons_of_mem _ (List.mem_append_right _ h)
  have hai := hts (.arrayClass .int) (by decide +kernel)
  have haz := hts (.arrayClass .boolean) (by decide +kernel)
  have K7 := hts (.fieldLink RX3 7 "PromiseHoursModel" "state" "[I") (by decide +kernel)
  have K13 := hts (.fieldLink RX3 13 "PromiseHoursModel" "images" "[I") (by decide +kernel)
  have K16 := hts (.fieldLink RX3 16 "PromiseHoursModel" "isKept" "[Z") (by decide +kernel)
  refine lv_aload_n hx hb dX3_init_0 rfl (lv_at hl 0 rfl) ?_
  refine W.objInit hx hb hown (hts (.methodLink RX3 1 objectInit) (by decide +kernel)) (hts (.instanceMethod objectInit) (by decide +kernel)) (hts (.code objectInit ⟨#[0xb1]⟩ 1 none) (by decide +kernel)) rfl (by rw [hml]; exact hl.1) rfl dX3_init_1 (Nat.le_of_ble_eq_true rfl) (Nat.le_of_ble_eq_true rfl) ?_
  refine W.eq (g2 := F0 m 4 ls []) rfl ?_
  refine lv_aload_n hx hb dX3_init_4 rfl (lv_at hl 0 rfl) ?_
  refine lv_sipush (v := 309) hx hb dX3_init_5 (by decide) ?_
  refine q_newi hx hb hE hai hP hD hS hA 309 rfl (by decide) (Nat.le_of_ble_eq_true rfl) (Nat.le_of_ble_eq_true rfl) dX3_init_8 (fun q1 H hP hD hS => ?_)
  have hP : va_P E.1 vwCl ([(b, .inr (3, [.null, .null, .null])), (q1, rI E 309 zr)]) H := hP
  have hD : va_D A ([(b, .inr (3, [.null, .null, .null])), (q1, rI E 309 zr)]) := hD
  refine va_putF (D := E.1) (ci := 3) (v := .ref q1) (ty := .array .int) (C := RX3) (T := TX3) (N := 3) hx hb hts in3 tyX3 tyX3_ok nmX3 hown hE.1 hP hD hS 0 rfl rfl 0 (by decide) K7 (fun _ h9 => h9) rfl hnm rfl (by decide +kernel) rfl rfl (Nat.le_of_ble_eq_true rfl) dX3_init_10 (fun H locs hP hD hS => ?_)
  have hP : va_P E.1 vwCl ([(b, .inr (3, [.ref q1, .null, .null])), (q1, rI E 309 zr)]) H := hP
  have hD : va_D A ([(b, .inr (3, [.ref q1, .null, .null])), (q1, rI E 309 zr)]) := hD
  refine lv_aload_n hx hb dX3_init_13 rfl (lv_at hl 0 rfl) ?_
  refine lv_sipush (v := 618) hx hb dX3_init_14 (by decide) ?_
  refine q_newi hx hb hE hai hP hD hS hA 618 rfl (by decide) (Nat.le_of_ble_eq_true rfl) (Nat.le_of_ble_eq_true rfl) dX3_init_17 (fun q2 H hP hD hS => ?_)
  have hP : va_P E.1 vwCl ([(b, .inr (3, [.ref q1, .null, .null])), (q1, rI E 309 zr), (q2, rI E 618 zr)]) H := hP
  have hD : va_D A ([(b, .inr (3, [.ref q1, .null, .null])), (q1, rI E 309 zr), (q2, rI E 618 zr)]) := hD
  refine va_putF (D := E.1) (ci := 3) (v := .ref q2) (ty := .array .int) (C := RX3) (T := TX3) (N := 3) hx hb hts in3 tyX3 tyX3_ok nmX3 hown hE.1 hP hD hS 0 rfl rfl 1 (by decide) K13 (fun _ h9 => h9) rfl hnm rfl (by decide +kernel) rfl rfl (Nat.le_of_ble_eq_true rfl) dX3_init_19 (fun H locs hP hD hS => ?_)
  have hP : va_P E.1 vwCl ([(b, .inr (3, [.ref q1, .ref q2, .null])), (q1, rI E 309 zr), (q2, rI E 618 zr)]) H := hP
  have hD : va_D A ([(b, .inr (3, [.ref q1, .ref q2, .null])), (q1, rI E 309 zr), (q2, rI E 618 zr)]) := hD
  refine lv_aload_n hx hb dX3_init_22 rfl (lv_at hl 0 rfl) ?_
  refine lv_iconst (v := 2) hx hb dX3_init_23 (by decide) ?_
  refine q_newz hx hb hE haz hP hD hS hA 2 rfl (by decide) (Nat.le_of_ble_eq_true rfl) (Nat.le_of_ble_eq_true rfl) dX3_init_24 (fun q3 H hP hD hS => ?_)
  have hP : va_P E.1 vwCl ([(b, .inr (3, [.ref q1, .ref q2, .null])), (q1, rI E 309 zr), (q2, rI E 618 zr), (q3, .inl (E.2 3, 2, .inl zr))]) H := hP
  have hD : va_D A ([(b, .inr (3, [.ref q1, .ref q2, .null])), (q1, rI E 309 zr), (q2, rI E 618 zr), (q3, .inl (E.2 3, 2, .inl zr))]) := hD
  refine va_putF (D := E.1) (ci := 3) (v := .ref q3) (ty := .array .boolean) (C := RX3) (T := TX3) (N := 3) hx hb hts in3 tyX3 tyX3_ok nmX3 hown hE.1 hP hD hS 0 rfl rfl 2 (by decide) K16 (fun _ h9 => h9) rfl hnm rfl (by decide +kernel) rfl rfl (Nat.le_of_ble_eq_true rfl) dX3_init_26 (fun H locs hP hD hS => ?_)
  have hP : va_P E.1 vwCl ([(b, .inr (3, [.ref q1, .ref q2, .ref q3])), (q1, rI E 309 zr), (q2, rI E 618 zr), (q3, .inl (E.2 3, 2, .inl zr))]) H := hP
  have hD : va_D A ([(b, .inr (3, [.ref q1, .ref q2, .ref q3])), (q1, rI E 309 zr), (q2, rI E 618 zr), (q3, .inl (E.2 3, 2, .inl zr))]) := hD
  have hP : va_P E.1 vwCl (ms E (m4 b q1 q2 q3) (mix (fun _ => false) zr g0) zr zr) H := hP
  have hD : va_D A (ms E (m4 b q1 q2 q3) (mix (fun _ => false) zr g0) zr zr) := hD
  have hret := hret (m4 b q1 q2 q3)
  have e0 : m4 b q1 q2 q3 0 = b := rfl
  rw [← e0] at hl
  generalize m4 b q1 q2 q3 = a at hP hD hl hret e0
  refine lv_aload_n hx hb dX3_init_29 rfl (lv_at hl 0 rfl) ?_
  refine va_get (D := E.1) (ci := 3) (v := .ref (a 1)) (C := RX3) (T := TX3) (N := 3) hx hb hts in3 hown hE.1 hP 0 rfl rfl 0 (by decide) K7 (fun _ h9 => h9) rfl dX3_init_30 ?_
  refine lv_iconst (v := 1) hx hb dX3_init_33 (by decide) ?_
  refine lv_bipush (v := 40) hx hb dX3_init_34 (by decide) ?_
  refine q_iast hx hb hE hP hD hS 1 rfl (j := 1) (v := g0 (1)) (wd' := (ms E a (upd (mix (fun _ => false) zr g0) (1) (g0 (1))) zr zr)) rfl (by omega) (by decide) rfl dX3_init_36 (fun H locs hP hD hS => ?_)
  rw [mix_u] at hP hD
  have hP : va_P E.1 vwCl (ms E a (mix mc1 zr g0) zr zr) H := hP
  have hD : va_D A (ms E a (mix mc1 zr g0) zr zr) := hD
  refine lv_aload_n hx hb dX3_init_37 rfl (lv_at hl 0 rfl) ?_
  refine va_get (D := E.1) (ci := 3) (v := .ref (a 1)) (C := RX3) (T := TX3) (N := 3) hx hb hts in3 hown hE.1 hP 0 rfl rfl 0 (by decide) K7 (fun _ h9 => h9) rfl dX3_init_38 ?_
  refine lv_iconst (v := 2) hx hb dX3_init_41 (by decide) ?_
  refine lv_bipush (v := 10) hx hb dX3_init_42 (by decide) ?_
  refine q_iast hx hb hE hP hD hS 1 rfl (j := 2) (v := g0 (2)) (wd' := (ms E a (upd (mix mc1 zr g0) (2) (g0 (2))) zr zr)) rfl (by omega) (by decide) rfl dX3_init_44 (fun H locs hP hD hS => ?_)
  rw [mix_u] at hP hD
  have hP : va_P E.1 vwCl (ms E a (mix mc2 zr g0) zr zr) H := hP
  have hD : va_D A (ms E a (mix mc2 zr g0) zr zr) := hD
  refine lv_aload_n hx hb dX3_init_45 rfl (lv_at hl 0 rfl) ?_
  refine va_get (D := E.1) (ci := 3) (v := .ref (a 1)) (C := RX3) (T := TX3) (N := 3) hx hb hts in3 hown hE.1 hP 0 rfl rfl 0 (by decide) K7 (fun _ h9 => h9) rfl dX3_init_46 ?_
  refine lv_iconst (v := 3) hx hb dX3_init_49 (by decide) ?_
  refine lv_iconst (v := 1) hx hb dX3_init_50 (by decide) ?_
  refine q_iast hx hb hE hP hD hS 1 rfl (j := 3) (v := g0 (3)) (wd' := (ms E a (upd (mix mc2 zr g0) (3) (g0 (3))) zr zr)) rfl (by omega) (by decide) rfl dX3_init_51 (fun H locs hP hD hS => ?_)
  rw [mix_u] at hP hD
  have hP : va_P E.1 vwCl (ms E a (mix mc3 zr g0) zr zr) H := hP
  have hD : va_D A (ms E a (mix mc3 zr g0) zr zr) := hD
  refine lv_aload_n hx hb dX3_init_52 rfl (lv_at hl 0 rfl) ?_
  refine va_get (D := E.1) (ci := 3) (v := .ref (a 1)) (C := RX3) (T := TX3) (N := 3) hx hb hts in3 hown hE.1 hP 0 rfl rfl 0 (by decide) K7 (fun _ h9 => h9) rfl dX3_init_53 ?_
  refine lv_iconst (v := 4) hx hb dX3_init_56 (by decide) ?_
  refine lv_bipush (v := 100) hx hb dX3_init_57 (by decide) ?_
  refine q_iast hx hb hE hP hD hS 1 rfl (j := 4) (v := g0 (4)) (wd' := (ms E a (upd (mix mc3 zr g0) (4) (g0 (4))) zr zr)) rfl (by omega) (by decide) rfl dX3_init_59 (fun H locs hP hD hS => ?_)
  rw [mix_u] at hP hD
  have hP : va_P E.1 vwCl (ms E a (mix mc4 zr g0) zr zr) H := hP
  have hD : va_D A (ms E a (mix mc4 zr g0) zr zr) := hD
  refine lv_iconst (v := 0) hx hb dX3_init_60 (by decide) ?_
  refine lv_istore_n (lv' := [(1, .int (nI 0)), (0, .ref (a 0))]) hx hb dX3_init_61 rfl hl (by decide) rfl (fun ls hl => ?_)
  have lp3 : ∀ (r : Nat), r < 5 → ∀ (cm : Nat → Bool), (∀ (H : Heap) (locs : List Loc), va_P E.1 vwCl (ms E a (mix (mq3 cm r 12) zr g0) zr zr) H → va_D A (ms E a (mix (mq3 cm r 12) zr g0) zr zr) → va_S A s.heap H locs → ∀ ls : Array Slot, lv_has ls 3 [(1, .int (nI r)), (0, .ref (a 0))] → W p l e { frames := 1, cells := 3, slots := 929, locals := 21 } s m args below meth c H locs (0 + 1 + 1 + 1) (0 + 309 + 618 + 2) Q (F0 m 144 ls [])) → ∀ (fu i : Nat), i ≤ 12 → 12 + 1 ≤ i + fu → ∀ (H : Heap) (locs : List Loc), va_P E.1 vwCl (ms E a (mix (mq3 cm r i) zr g0) zr zr) H → va_D A (ms E a (mix (mq3 cm r i) zr g0) zr zr) → va_S A s.heap H locs → ∀ ls : Array Slot, lv_has ls 3 [(2, .int (nI i)), (1, .int (nI r)), (0, .ref (a 0))] → W p l e { frames := 1, cells := 3, slots := 929, locals := 21 } s m args below meth c H locs (0 + 1 + 1 + 1) (0 + 309 + 618 + 2) Q (F0 m 116 ls []) := by
    intro r hr cm kk fu
    induction fu with
    | zero => intro i h1 h2; exact absurd h2 (by omega)
    | succ fu ih =>
      intro i hi hin H locs hP hD hS ls hl
      refine lv_iload_n hx hb dX3_init_116 rfl (lv_at hl 0 rfl) ?_
      refine lv_bipush (v := 12) hx hb dX3_init_117 (by decide) ?_
      refine lv_icmp_ge (tgt := 144) hx hb dX3_init_119 (by decide) (fun c_1 => ?_) (fun c_1 => ?_)
      · have hiN : i = 12 := by have := (nI_leI (a := 12) (b := i) (by omega) (by omega)).mp c_1; omega
        subst hiN
        exact kk H locs hP hD hS ls (lv_sub hl [1, 2] rfl)
      · have hlt : i < 12 := Nat.lt_of_not_le (fun h => c_1 (nI_le (a := 12) (b := i) (by omega) (by omega)))
        refine lv_aload_n hx hb dX3_init_122 rfl (lv_at hl 2 rfl) ?_
        refine va_get (D := E.1) (ci := 3) (v := .ref (a 1)) (C := RX3) (T := TX3) (N := 3) hx hb hts in3 hown hE.1 hP 0 rfl rfl 0 (by decide) K7 (fun _ h9 => h9) rfl dX3_init_123 ?_
        refine lv_bipush (v := 82) hx hb dX3_init_126 (by decide) ?_
        refine lv_bipush (v := 12) hx hb dX3_init_128 (by decide) ?_
        refine lv_iload_n hx hb dX3_init_130 rfl (lv_at hl 1 rfl) ?_
        refine lv_imul hx hb dX3_init_131 ?_
        refine lv_iadd hx hb dX3_init_132 ?_
        refine lv_iload_n hx hb dX3_init_133 rfl (lv_at hl 0 rfl) ?_
        refine lv_iadd hx hb dX3_init_134 ?_
        refine tpe (y := nI (82 + 12 * r + i)) (by rw [← nI_add, ← nI_add, ← nI_mul]; rfl) ?_
        refine lv_bipush (v := -6) hx hb dX3_init_135 (by decide) ?_
        refine tpe (g0_82 r hr i hlt).symm ?_
        refine q_iast hx hb hE hP hD hS 1 rfl (j := 82 + 12 * r + i) (v := g0 (82 + 12 * r + i)) (wd' := (ms E a (upd (mix (mq3 cm r i) zr g0) (82 + 12 * r + i) (g0 (82 + 12 * r + i))) zr zr)) rfl (by omega) (by decide) rfl dX3_init_137 (fun H locs hP hD hS => ?_)
        rw [mix_u] at hP hD
        have hP : va_P E.1 vwCl (ms E a (mix (mq3 cm r (i + 1)) zr g0) zr zr) H := hP
        have hD : va_D A (ms E a (mix (mq3 cm r (i + 1)) zr g0) zr zr) := hD
        refine lv_iinc (v := (nI (i + 1))) (lv' := [(2, .int (nI (i + 1))), (1, .int (nI r)), (0, .ref (a 0))]) hx hb dX3_init_138 hl (k := 0) rfl (nI_1 i) (by decide) rfl (fun ls hl => ?_)
        refine lv_goto (tgt := 116) hx hb dX3_init_141 (by decide) ?_
        exact ih (i + 1) (by omega) (by omega) H locs hP hD hS ls hl
  have lp2 : ∀ (fu i : Nat), i ≤ 5 → 5 + 1 ≤ i + fu → ∀ (H : Heap) (locs : List Loc), va_P E.1 vwCl (ms E a (mix (mq2 (mq1 mc4 12) i) zr g0) zr zr) H → va_D A (ms E a (mix (mq2 (mq1 mc4 12) i) zr g0) zr zr) → va_S A s.heap H locs → ∀ ls : Array Slot, lv_has ls 3 [(1, .int (nI i)), (0, .ref (a 0))] → W p l e { frames := 1, cells := 3, slots := 929, locals := 21 } s m args below meth c H locs (0 + 1 + 1 + 1) (0 + 309 + 618 + 2) Q (F0 m 87 ls []) := by
    intro fu
    induction fu with
    | zero => intro i h1 h2; exact absurd h2 (by omega)
    | succ fu ih =>
      intro i hi hin H locs hP hD hS ls hl
      refine lv_iload_n hx hb dX3_init_87 rfl (lv_at hl 0 rfl) ?_
      refine lv_iconst (v := 5) hx hb dX3_init_88 (by decide) ?_
      refine lv_icmp_ge (tgt := 150) hx hb dX3_init_89 (by decide) (fun c_1 => ?_) (fun c_1 => ?_)
      · have hiN : i = 5 := by have := (nI_leI (a := 5) (b := i) (by omega) (by omega)).mp c_1; omega
        subst hiN
        have hP : va_P E.1 vwCl (ms E a (mix mcF zr g0) zr zr) H := hP
        have hD : va_D A (ms E a (mix mcF zr g0) zr zr) := hD
        rw [mcF_eq] at hP hD
        exact hret _ _ _ _ e0 hP hD hS dX3_init_150
      · have hlt : i < 5 := Nat.lt_of_not_le (fun h => c_1 (nI_le (a := 5) (b := i) (by omega) (by omega)))
        refine lv_aload_n hx hb dX3_init_92 rfl (lv_at hl 1 rfl) ?_
        refine va_get (D := E.1) (ci := 3) (v := .ref (a 1)) (C := RX3) (T := TX3) (N := 3) hx hb hts in3 hown hE.1 hP 0 rfl rfl 0 (by decide) K7 (fun _ h9 => h9) rfl dX3_init_93 ?_
        refine lv_bipush (v := 42) hx hb dX3_init_96 (by decide) ?_
        refine lv_iload_n hx hb dX3_init_98 rfl (lv_at hl 0 rfl) ?_
        refine lv_iadd hx hb dX3_init_99 ?_
        refine tpe (y := nI (42 + i)) (nI_add 42 i) ?_
        refine lv_iconst (v := 1) hx hb dX3_init_100 (by decide) ?_
        refine tpe (g0_rd i hlt).1.symm ?_
        refine q_iast hx hb hE hP hD hS 1 rfl (j := 42 + i) (v := g0 (42 + i)) (wd' := (ms E a (upd (mix (mq2 (mq1 mc4 12) i) zr g0) (42 + i) (g0 (42 + i))) zr zr)) rfl (by omega) (by decide) rfl dX3_init_101 (fun H locs hP hD hS => ?_)
        rw [mix_u] at hP hD
        have hP : va_P E.1 vwCl (ms E a (mix (or1 (mq2 (mq1 mc4 12) i) (42 + i)) zr g0) zr zr) H := hP
        have hD : va_D A (ms E a (mix (or1 (mq2 (mq1 mc4 12) i) (42 + i)) zr g0) zr zr) := hD
        refine lv_aload_n hx hb dX3_init_102 rfl (lv_at hl 1 rfl) ?_
        refine va_get (D := E.1) (ci := 3) (v := .ref (a 1)) (C := RX3) (T := TX3) (N := 3) hx hb hts in3 hown hE.1 hP 0 rfl rfl 0 (by decide) K7 (fun _ h9 => h9) rfl dX3_init_103 ?_
        refine lv_iload_n hx hb dX3_init_106 rfl (lv_at hl 0 rfl) ?_
        refine lv_iconst (v := 0) hx hb dX3_init_107 (by decide) ?_
        refine ci_S F hE (k_X3_said l E i 0) (va_cwS 2 hts gX3_init_X3_said rfl rfl rfl (by decide +kernel) ⟨(Nat.le_of_ble_eq_true rfl), (Nat.le_of_ble_eq_true rfl)⟩) Fr.nil hP hD hS hA rfl hl.1 rfl (Nat.le_of_ble_eq_true rfl) dX3_init_108 ⟨(Nat.le_of_ble_eq_true rfl), (Nat.le_of_ble_eq_true rfl)⟩ (fun H locs hP hD hS => ?_)
        refine lv_bipush (v := -6) hx hb dX3_init_111 (by decide) ?_
        refine tpe (g0_rd i hlt).2.2.1.symm ?_
        refine q_iast hx hb hE hP hD hS 1 rfl (j := 262 + 6 * i + 0) (v := g0 (262 + 6 * i + 0)) (wd' := (ms E a (upd (mix (or1 (mq2 (mq1 mc4 12) i) (42 + i)) zr g0) (262 + 6 * i + 0) (g0 (262 + 6 * i + 0))) zr zr)) rfl (by omega) (by decide) rfl dX3_init_113 (fun H locs hP hD hS => ?_)
        rw [mix_u] at hP hD
        have hP : va_P E.1 vwCl (ms E a (mix (or1 (or1 (mq2 (mq1 mc4 12) i) (42 + i)) (262 + 6 * i + 0)) zr g0) zr zr) H := hP
        have hD : va_D A (ms E a (mix (or1 (or1 (mq2 (mq1 mc4 12) i) (42 + i)) (262 + 6 * i + 0)) zr g0) zr zr) := hD
        refine lv_iconst (v := 0) hx hb dX3_init_114 (by decide) ?_
        refine lv_istore_n (lv' := [(2, .int (nI 0)), (1, .int (nI i)), (0, .ref (a 0))]) hx hb dX3_init_115 rfl hl (by decide) rfl (fun ls hl => ?_)
        refine lp3 i hlt (or1 (or1 (mq2 (mq1 mc4 12) i) (42 + i)) (262 + 6 * i + 0)) (fun H locs hP hD hS ls hl => ?_) 13 0 (by omega) (by omega) H locs hP hD hS ls hl
        refine lv_iinc (v := (nI (i + 1))) (lv' := [(1, .int (nI (i + 1))), (0, .ref (a 0))]) hx hb dX3_init_144 hl (k := 0) rfl (nI_1 i) (by decide) rfl (fun ls hl => ?_)
        refine lv_goto (tgt := 87) hx hb dX3_init_147 (by decide) ?_
        exact ih (i + 1) (by omega) (by omega) H locs hP hD hS ls hl
  have lp1 : ∀ (fu i : Nat), i ≤ 12 → 12 + 1 ≤ i + fu → ∀ (H : Heap) (locs : List Loc), va_P E.1 vwCl (ms E a (mix (mq1 mc4 i) zr g0) zr zr) H → va_D A (ms E a (mix (mq1 mc4 i) zr g0) zr zr) → va_S A s.heap H locs → ∀ ls : Array Slot, lv_has ls 3 [(1, .int (nI i)), (0, .ref (a 0))] → W p l e { frames := 1, cells := 3, slots := 929, locals := 21 } s m args below meth c H locs (0 + 1 + 1 + 1) (0 + 309 + 618 + 2) Q (F0 m 62 ls []) := by
    intro fu
    induction fu with
    | zero => intro i h1 h2; exact absurd h2 (by omega)
    | succ fu ih =>
      intro i hi hin H locs hP hD hS ls hl
      refine lv_iload_n hx hb dX3_init_62 rfl (lv_at hl 0 rfl) ?_
      refine lv_bipush (v := 12) hx hb dX3_init_63 (by decide) ?_
      refine lv_icmp_ge (tgt := 85) hx hb dX3_init_65 (by decide) (fun c_1 => ?_) (fun c_1 => ?_)
      · have hiN : i = 12 := by have := (nI_leI (a := 12) (b := i) (by omega) (by omega)).mp c_1; omega
        subst hiN
        refine lv_iconst (v := 0) hx hb dX3_init_85 (by decide) ?_
        refine lv_istore_n (lv' := [(1, .int (nI 0)), (0, .ref (a 0))]) hx hb dX3_init_86 rfl hl (by decide) rfl (fun ls hl => ?_)
        exact lp2 6 0 (by omega) (by omega) H locs hP hD hS ls hl
      · have hlt : i < 12 := Nat.lt_of_not_le (fun h => c_1 (nI_le (a := 12) (b := i) (by omega) (by omega)))
        refine lv_aload_n hx hb dX3_init_68 rfl (lv_at hl 1 rfl) ?_
        refine va_get (D := E.1) (ci := 3) (v := .ref (a 1)) (C := RX3) (T := TX3) (N := 3) hx hb hts in3 hown hE.1 hP 0 rfl rfl 0 (by decide) K7 (fun _ h9 => h9) rfl dX3_init_69 ?_
        refine lv_bipush (v := 17) hx hb dX3_init_72 (by decide) ?_
        refine lv_iload_n hx hb dX3_init_74 rfl (lv_at hl 0 rfl) ?_
        refine lv_iadd hx hb dX3_init_75 ?_
        refine tpe (y := nI (17 + i)) (nI_add 17 i) ?_
        refine lv_bipush (v := -6) hx hb dX3_init_76 (by decide) ?_
        refine tpe (g0_17 i hlt).symm ?_
        refine q_iast hx hb hE hP hD hS 1 rfl (j := 17 + i) (v := g0 (17 + i)) (wd' := (ms E a (upd (mix (mq1 mc4 i) zr g0) (17 + i) (g0 (17 + i))) zr zr)) rfl (by omega) (by decide) rfl dX3_init_78 (fun H locs hP hD hS => ?_)
        rw [mix_u] at hP hD
        have hP : va_P E.1 vwCl (ms E a (mix (mq1 mc4 (i + 1)) zr g0) zr zr) H := hP
        have hD : va_D A (ms E a (mix (mq1 mc4 (i + 1)) zr g0) zr zr) := hD
        refine lv_iinc (v := (nI (i + 1))) (lv' := [(1, .int (nI (i + 1))), (0, .ref (a 0))]) hx hb dX3_init_79 hl (k := 0) rfl (nI_1 i) (by decide) rfl (fun ls hl => ?_)
        refine lv_goto (tgt := 62) hx hb dX3_init_82 (by decide) ?_
        exact ih (i + 1) (by omega) (by omega) H locs hP hD hS ls hl
  exact lp1 13 0 (by omega) (by omega) _ _ hP hD hS ls hl
