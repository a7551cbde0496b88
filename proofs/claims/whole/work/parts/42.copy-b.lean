/-! BECOMES LIKE ANOTHER: the numbers of the row h come into the row g one after another -/
def mix (c : Nat → Bool) (g h : Nat → Int32) : Nat → Int32 := fun i => if c i = true then h i else g i
def or1 (c : Nat → Bool) (i : Nat) : Nat → Bool := fun j => c j || Nat.beq j i
def orn (c : Nat → Bool) (o n : Nat) : Nat → Bool := fun j => c j || (Nat.ble o j && Nat.ble (j + 1) (o + n))
theorem mix_f (g h : Nat → Int32) : mix (fun _ => false) g h = g := rfl
theorem mix_u {c : Nat → Bool} {g h : Nat → Int32} {i : Nat} : upd (mix c g h) i (h i) = mix (or1 c i) g h := by
  funext j
  unfold mix or1
  by_cases e : j = i
  · subst e
    rw [up_s, if_pos (by rw [Nat.beq_refl, Bool.or_true])]
  · rw [up_n e]
    have : Nat.beq j i = false := by
      cases hq : Nat.beq j i
      · rfl
      · exact absurd (Nat.eq_of_beq_eq_true hq) e
    rw [this, Bool.or_false]
theorem orn_t {c : Nat → Bool} {o n j : Nat} : orn c o n j = true ↔ (c j = true ∨ (o ≤ j ∧ j < o + n)) := by
  unfold orn
  rw [Bool.or_eq_true, Bool.and_eq_true, Nat.ble_eq, Nat.ble_eq]
  exact Iff.rfl
theorem mix_at {c : Nat → Bool} {g h : Nat → Int32} {j : Nat} : mix c g h j = if c j = true then h j else g j := rfl
theorem mix_0 {c : Nat → Bool} {g h : Nat → Int32} {o : Nat} : mix (orn c o 0) g h = mix c g h := by
  funext j
  rw [mix_at, mix_at]
  by_cases q : c j = true
  · rw [if_pos q, if_pos (orn_t.mpr (Or.inl q))]
  · rw [if_neg q, if_neg (fun z => (orn_t.mp z).elim q (fun z => by omega))]
theorem mix_s {c : Nat → Bool} {g h : Nat → Int32} {o n : Nat} : mix (orn c o (n + 1)) g h = upd (mix (orn c o n) g h) (o + n) (h (o + n)) := by
  funext j
  by_cases e : j = o + n
  · subst e
    rw [up_s, mix_at, if_pos (orn_t.mpr (Or.inr ⟨by omega, by omega⟩))]
  · rw [up_n e, mix_at, mix_at]
    by_cases q : orn c o n j = true
    · rw [if_pos q, if_pos (orn_t.mpr ((orn_t.mp q).imp id (fun z => ⟨z.1, by omega⟩)))]
    · rw [if_neg q, if_neg (fun z => q (orn_t.mpr ((orn_t.mp z).imp id (fun z => ⟨z.1, by omega⟩))))]
theorem mix_n {c : Nat → Bool} {g h : Nat → Int32} {o N : Nat} : va_cpy (seg h o N) (seg (mix c g h) o N) 0 0 N = seg (mix (orn c o N) g h) o N := by
  funext k
  show (if 0 ≤ k ∧ k < 0 + N then seg h o N (0 + (k - 0)) else seg (mix c g h) o N k) = _
  by_cases q : k < N
  · rw [if_pos ⟨Nat.zero_le _, by omega⟩, show 0 + (k - 0) = k by omega, seg_at q, seg_at q, mix_at, if_pos (orn_t.mpr (Or.inr ⟨by omega, by omega⟩))]
  · rw [if_neg (fun z => q (by omega))]
    unfold seg
    rw [if_neg q, if_neg q]
theorem set_id {α : Type} : ∀ (l : List α) (i : Nat) (x : α), l[i]? = some x → l.set i x = l := fun l i x h => by
  obtain ⟨s, t, h1, h2⟩ := set_split l i x x h
  rw [h2, ← h1]
theorem hs_cp {E : EE} {a : Nat → Nat} {c : Nat → Bool} {g h : Nat → Int32} {q o N : Nat} (wr : ∀ (g' : Nat → Int32) (j : Nat) (v : Int32), j < N → (hs E a g').set q (a q, rI E N (upd (seg g' o N) j v)) = hs E a (upd g' (o + j) v)) (h0 : (hs E a (mix c g h))[q]? = some (a q, rI E N (seg (mix c g h) o N))) : ∀ n, n ≤ N → (hs E a (mix c g h)).set q (a q, rI E N (seg (mix (orn c o n) g h) o N)) = hs E a (mix (orn c o n) g h)
  | 0, _ => by
    rw [mix_0]
    exact set_id _ _ _ h0
  | n + 1, hn => by
    have ih := hs_cp wr h0 n (by omega)
    have e2 : seg (mix (orn c o (n + 1)) g h) o N = upd (seg (mix (orn c o n) g h) o N) n (h (o + n)) := by rw [mix_s, ← seg_in (by omega)]
    rw [e2, mix_s, ← wr _ n _ (by omega), ← ih, List.set_set]
theorem nar_b {x : Int32} (h : x = 0 ∨ x = 1) : narrow .boolean (.int x) = .int x := by
  rcases h with rfl | rfl <;> rfl
theorem fit_b {x : Int32} (h : x = 0 ∨ x = 1) : fits .boolean (.int x) = true := by
  rcases h with rfl | rfl <;> rfl
def rc1 (c : Nat → Bool) (r : Nat) : Nat → Bool := or1 (c) (42 + r)
def rc2 (c : Nat → Bool) (r : Nat) : Nat → Bool := or1 (rc1 c r) (47 + r)
def rc3 (c : Nat → Bool) (r : Nat) : Nat → Bool := orn (rc2 c r) (82 + 12 * r) 12
def rc4 (c : Nat → Bool) (r : Nat) : Nat → Bool := orn (rc3 c r) (142 + 12 * r) 12
def rc5 (c : Nat → Bool) (r : Nat) : Nat → Bool := orn (rc4 c r) (202 + 12 * r) 12
def rc6 (c : Nat → Bool) (r : Nat) : Nat → Bool := orn (rc5 c r) (52 + 3 * r) 3
def rc7 (c : Nat → Bool) (r : Nat) : Nat → Bool := orn (rc6 c r) (67 + 3 * r) 3
def rc8 (c : Nat → Bool) (r : Nat) : Nat → Bool := or1 (rc7 c r) (262 + 6 * r + 0)
def rc9 (c : Nat → Bool) (r : Nat) : Nat → Bool := or1 (rc8 c r) (262 + 6 * r + 1)
def rc10 (c : Nat → Bool) (r : Nat) : Nat → Bool := or1 (rc9 c r) (262 + 6 * r + 2)
def rc11 (c : Nat → Bool) (r : Nat) : Nat → Bool := or1 (rc10 c r) (262 + 6 * r + 3)
def rc12 (c : Nat → Bool) (r : Nat) : Nat → Bool := or1 (rc11 c r) (262 + 6 * r + 4)
def rc13 (c : Nat → Bool) (r : Nat) : Nat → Bool := or1 (rc12 c r) (262 + 6 * r + 5)
set_option maxHeartbeats 4000000 in
set_option maxRecDepth 100000 in
theorem k_X1_becomeLike (l : Launch) (E : EE) (a b : Nat → Nat) (c : Nat → Bool) (g h : Nat → Int32) (r : Nat) (hr : r < 5) (hB : h (42 + r) = 0 ∨ h (42 + r) = 1) : Cv l E yX1_becomeLike wsX1_becomeLike { frames := 2, cells := 0, slots := 0, locals := 41 } [.ref (a (8 + 6 * r)), .ref (b (8 + 6 * r))] (hs E a (mix c g h) ++ hs E b h) (hs E a (mix (rc13 c r) g h) ++ hs E b h) := by
  refine Cv.of (cc := cX1_becomeLike) (maxL := 2) (by decide) rfl (Nat.le_of_ble_eq_true rfl) ?_
  intro p e s m args below meth co A Q F hE hA hret hP hD ls hl
  obtain ⟨hx, hb, hml, hown, hts⟩ := id F
  have hS : va_S A s.heap s.heap [] := va_S.rf
  have hl : lv_has ls 2 [(0, .ref (a (8 + 6 * r))), (1, .ref (b (8 + 6 * r)))] := hl
  have in1 : ∀ w ∈ wsX10, w ∈ wsX1_becomeLike := fun w h => List.mem_cons_of_mem _ (List.mem_append_right _ h)
  have K9 := hts (.fieldLink RX1 9 "PromiseHours$Reader" "isThere" "Z") (by decide +kernel)
  have K15 := hts (.fieldLink RX1 15 "PromiseHours$Reader" "skew" "I") (by decide +kernel)
  have K19 := hts (.fieldLink RX1 19 "PromiseHours$Reader" "copies" "[I") (by decide +kernel)
  have K23 := hts (.fieldLink RX1 23 "PromiseHours$Reader" "terms" "[I") (by decide +kernel)
  have K26 := hts (.fieldLink RX1 26 "PromiseHours$Reader" "promises" "[I") (by decide +kernel)
  have K29 := hts (.fieldLink RX1 29 "PromiseHours$Reader" "volumeTerms" "[I") (by decide +kernel)
  have K32 := hts (.fieldLink RX1 32 "PromiseHours$Reader" "lists" "[I") (by decide +kernel)
  have K35 := hts (.fieldLink RX1 35 "PromiseHours$Reader" "lastVersion" "I") (by decide +kernel)
  have K38 := hts (.fieldLink RX1 38 "PromiseHours$Reader" "timesUsed" "I") (by decide +kernel)
  have K41 := hts (.fieldLink RX1 41 "PromiseHours$Reader" "timesAsked" "I") (by decide +kernel)
  have K44 := hts (.fieldLink RX1 44 "PromiseHours$Reader" "timesNothing" "I") (by decide +kernel)
  have K47 := hts (.fieldLink RX1 47 "PromiseHours$Reader" "letters" "I") (by decide +kernel)
  have K50 := hts (.fieldLink RX1 50 "PromiseHours$Reader" "copiesLost" "I") (by decide +kernel)
  refine lv_aload_n hx hb dX1_becomeLike_0 rfl (lv_at hl 0 rfl) ?_
  refine lv_aload_n hx hb dX1_becomeLike_1 rfl (lv_at hl 1 rfl) ?_
  refine va_get (D := E.1) (ci := 1) (v := .int (h (42 + r))) (C := RX1) (T := TX1) (N := 13) hx hb hts in1 hown hE.1 hP (38 + (8 + 6 * r)) (ap_h (hs_hi0 hr)) rfl 0 (by decide) K9 (fun _ h9 => h9) rfl dX1_becomeLike_2 ?_
  refine va_put (D := E.1) (ci := 1) (v := .int (h (42 + r))) (ty := .boolean) (C := RX1) (T := TX1) (N := 13) hx hb hts in1 tyX1 tyX1_ok nmX1 hown hE.1 hP hD hS (8 + 6 * r) (ap_l (hs_hi0 hr)) rfl 0 (by decide) K9 (fun _ h9 => h9) rfl (by decide +kernel) (nar_b hB) (fit_b hB) (Nat.le_of_ble_eq_true rfl) dX1_becomeLike_5 (fun H locs hP hD hS => ?_)
  rw [set_h (by omega) (hs_r0 (r := r) hr), mix_u] at hP hD
  have hP : va_P E.1 vwCl (hs E a (mix (rc1 c r) g h) ++ hs E b h) H := hP
  have hD : va_D A (hs E a (mix (rc1 c r) g h) ++ hs E b h) := hD
  refine lv_aload_n hx hb dX1_becomeLike_8 rfl (lv_at hl 0 rfl) ?_
  refine lv_aload_n hx hb dX1_becomeLike_9 rfl (lv_at hl 1 rfl) ?_
  refine va_get (D := E.1) (ci := 1) (v := .int (h (47 + r))) (C := RX1) (T := TX1) (N := 13) hx hb hts in1 hown hE.1 hP (38 + (8 + 6 * r)) (ap_h (hs_hi0 hr)) rfl 1 (by decide) K15 (fun _ h9 => h9) rfl dX1_becomeLike_10 ?_
  refine va_put (D := E.1) (ci := 1) (v := .int (h (47 + r))) (ty := .int) (C := RX1) (T := TX1) (N := 13) hx hb hts in1 tyX1 tyX1_ok nmX1 hown hE.1 hP hD hS (8 + 6 * r) (ap_l (hs_hi0 hr)) rfl 1 (by decide) K15 (fun _ h9 => h9) rfl (by decide +kernel) rfl rfl (Nat.le_of_ble_eq_true rfl) dX1_becomeLike_13 (fun H locs hP hD hS => ?_)
  rw [set_h (by omega) (hs_r1 (r := r) hr), mix_u] at hP hD
  have hP : va_P E.1 vwCl (hs E a (mix (rc2 c r) g h) ++ hs E b h) H := hP
  have hD : va_D A (hs E a (mix (rc2 c r) g h) ++ hs E b h) := hD
  refine lv_aload_n hx hb dX1_becomeLike_16 rfl (lv_at hl 1 rfl) ?_
  refine va_get (D := E.1) (ci := 1) (v := .ref (b (8 + 6 * r + 1))) (C := RX1) (T := TX1) (N := 13) hx hb hts in1 hown hE.1 hP (38 + (8 + 6 * r)) (ap_h (hs_hi0 hr)) rfl 2 (by decide) K19 (fun _ h9 => h9) rfl dX1_becomeLike_17 ?_
  refine lv_aload_n hx hb dX1_becomeLike_20 rfl (lv_at hl 0 rfl) ?_
  refine va_get (D := E.1) (ci := 1) (v := .ref (a (8 + 6 * r + 1))) (C := RX1) (T := TX1) (N := 13) hx hb hts in1 hown hE.1 hP (8 + 6 * r) (ap_l (hs_hi0 hr)) rfl 2 (by decide) K19 (fun _ h9 => h9) rfl dX1_becomeLike_21 ?_
  refine cv_SNp F hE (k_copyRow l E (b (8 + 6 * r + 1)) (a (8 + 6 * r + 1)) 12 (seg h (82 + 12 * r) 12) (seg (mix (rc2 c r) g h) (82 + 12 * r) 12) (by decide)) ⟨va_cnB 2 hts gX1_becomeLike_X2_copyRow_n76 rfl rfl rfl (ev_link hE nk_X1_76 rfl) (hts (.initialized RX2) (by decide +kernel)) (by decide +kernel) ⟨Nat.le_of_ble_eq_true rfl, Nat.le_of_ble_eq_true rfl⟩, hts (.static yX2_copyRow) (by decide +kernel), trivial⟩ (Fp.two (i := 38 + (8 + 6 * r + 1)) (j := 8 + 6 * r + 1) (ap_h (hs_hi 1 hr (by decide) rfl)) (ap_l (hs_hi 1 hr (by decide) rfl)) (by omega)) hP hD hS hA rfl hl.1 rfl (Nat.le_of_ble_eq_true rfl) dX1_becomeLike_24 ⟨Nat.zero_le _, Nat.zero_le _⟩ (fun H locs hP hD hS => ?_)
  rw [mix_n, set_h (by omega) (hs_cp (fun g9 j9 v9 hj9 => hs_u1 hr hj9) (hs_hi 1 hr (by decide) rfl) 12 (Nat.le_refl _))] at hP hD
  have hP : va_P E.1 vwCl (hs E a (mix (rc3 c r) g h) ++ hs E b h) H := hP
  have hD : va_D A (hs E a (mix (rc3 c r) g h) ++ hs E b h) := hD
  refine lv_aload_n hx hb dX1_becomeLike_27 rfl (lv_at hl 1 rfl) ?_
  refine va_get (D := E.1) (ci := 1) (v := .ref (b (8 + 6 * r + 2))) (C := RX1) (T := TX1) (N := 13) hx hb hts in1 hown hE.1 hP (38 + (8 + 6 * r)) (ap_h (hs_hi0 hr)) rfl 3 (by decide) K23 (fun _ h9 => h9) rfl dX1_becomeLike_28 ?_
  refine lv_aload_n hx hb dX1_becomeLike_31 rfl (lv_at hl 0 rfl) ?_
  refine va_get (D := E.1) (ci := 1) (v := .ref (a (8 + 6 * r + 2))) (C := RX1) (T := TX1) (N := 13) hx hb hts in1 hown hE.1 hP (8 + 6 * r) (ap_l (hs_hi0 hr)) rfl 3 (by decide) K23 (fun _ h9 => h9) rfl dX1_becomeLike_32 ?_
  refine cv_SNp F hE (k_copyRow l E (b (8 + 6 * r + 2)) (a (8 + 6 * r + 2)) 12 (seg h (142 + 12 * r) 12) (seg (mix (rc3 c r) g h) (142 + 12 * r) 12) (by decide)) ⟨va_cnB 2 hts gX1_becomeLike_X2_copyRow_n76 rfl rfl rfl (ev_link hE nk_X1_76 rfl) (hts (.initialized RX2) (by decide +kernel)) (by decide +kernel) ⟨Nat.le_of_ble_eq_true rfl, Nat.le_of_ble_eq_true rfl⟩, hts (.static yX2_copyRow) (by decide +kernel), trivial⟩ (Fp.two (i := 38 + (8 + 6 * r + 2)) (j := 8 + 6 * r + 2) (ap_h (hs_hi 2 hr (by decide) rfl)) (ap_l (hs_hi 2 hr (by decide) rfl)) (by omega)) hP hD hS hA rfl hl.1 rfl (Nat.le_of_ble_eq_true rfl) dX1_becomeLike_35 ⟨Nat.zero_le _, Nat.zero_le _⟩ (fun H locs hP hD hS => ?_)
  rw [mix_n, set_h (by omega) (hs_cp (fun g9 j9 v9 hj9 => hs_u2 hr hj9) (hs_hi 2 hr (by decide) rfl) 12 (Nat.le_refl _))] at hP hD
  have hP : va_P E.1 vwCl (hs E a (mix (rc4 c r) g h) ++ hs E b h) H := hP
  have hD : va_D A (hs E a (mix (rc4 c r) g h) ++ hs E b h) := hD
  refine lv_aload_n hx hb dX1_becomeLike_38 rfl (lv_at hl 1 rfl) ?_
  refine va_get (D := E.1) (ci := 1) (v := .ref (b (8 + 6 * r + 3))) (C := RX1) (T := TX1) (N := 13) hx hb hts in1 hown hE.1 hP (38 + (8 + 6 * r)) (ap_h (hs_hi0 hr)) rfl 4 (by decide) K26 (fun _ h9 => h9) rfl dX1_becomeLike_39 ?_
  refine lv_aload_n hx hb dX1_becomeLike_42 rfl (lv_at hl 0 rfl) ?_
  refine va_get (D := E.1) (ci := 1) (v := .ref (a (8 + 6 * r + 3))) (C := RX1) (T := TX1) (N := 13) hx hb hts in1 hown hE.1 hP (8 + 6 * r) (ap_l (hs_hi0 hr)) rfl 4 (by decide) K26 (fun _ h9 => h9) rfl dX1_becomeLike_43 ?_
  refine cv_SNp F hE (k_copyRow l E (b (8 + 6 * r + 3)) (a (8 + 6 * r + 3)) 12 (seg h (202 + 12 * r) 12) (seg (mix (rc4 c r) g h) (202 + 12 * r) 12) (by decide)) ⟨va_cnB 2 hts gX1_becomeLike_X2_copyRow_n76 rfl rfl rfl (ev_link hE nk_X1_76 rfl) (hts (.initialized RX2) (by decide +kernel)) (by decide +kernel) ⟨Nat.le_of_ble_eq_true rfl, Nat.le_of_ble_eq_true rfl⟩, hts (.static yX2_copyRow) (by decide +kernel), trivial⟩ (Fp.two (i := 38 + (8 + 6 * r + 3)) (j := 8 + 6 * r + 3) (ap_h (hs_hi 3 hr (by decide) rfl)) (ap_l (hs_hi 3 hr (by decide) rfl)) (by omega)) hP hD hS hA rfl hl.1 rfl (Nat.le_of_ble_eq_true rfl) dX1_becomeLike_46 ⟨Nat.zero_le _, Nat.zero_le _⟩ (fun H locs hP hD hS => ?_)
  rw [mix_n, set_h (by omega) (hs_cp (fun g9 j9 v9 hj9 => hs_u3 hr hj9) (hs_hi 3 hr (by decide) rfl) 12 (Nat.le_refl _))] at hP hD
  have hP : va_P E.1 vwCl (hs E a (mix (rc5 c r) g h) ++ hs E b h) H := hP
  have hD : va_D A (hs E a (mix (rc5 c r) g h) ++ hs E b h) := hD
  refine lv_aload_n hx hb dX1_becomeLike_49 rfl (lv_at hl 1 rfl) ?_
  refine va_get (D := E.1) (ci := 1) (v := .ref (b (8 + 6 * r + 4))) (C := RX1) (T := TX1) (N := 13) hx hb hts in1 hown hE.1 hP (38 + (8 + 6 * r)) (ap_h (hs_hi0 hr)) rfl 5 (by decide) K29 (fun _ h9 => h9) rfl dX1_becomeLike_50 ?_
  refine lv_aload_n hx hb dX1_becomeLike_53 rfl (lv_at hl 0 rfl) ?_
  refine va_get (D := E.1) (ci := 1) (v := .ref (a (8 + 6 * r + 4))) (C := RX1) (T := TX1) (N := 13) hx hb hts in1 hown hE.1 hP (8 + 6 * r) (ap_l (hs_hi0 hr)) rfl 5 (by decide) K29 (fun _ h9 => h9) rfl dX1_becomeLike_54 ?_
  refine cv_SNp F hE (k_copyRow l E (b (8 + 6 * r + 4)) (a (8 + 6 * r + 4)) 3 (seg h (52 + 3 * r) 3) (seg (mix (rc5 c r) g h) (52 + 3 * r) 3) (by decide)) ⟨va_cnB 2 hts gX1_becomeLike_X2_copyRow_n76 rfl rfl rfl (ev_link hE nk_X1_76 rfl) (hts (.initialized RX2) (by decide +kernel)) (by decide +kernel) ⟨Nat.le_of_ble_eq_true rfl, Nat.le_of_ble_eq_true rfl⟩, hts (.static yX2_copyRow) (by decide +kernel), trivial⟩ (Fp.two (i := 38 + (8 + 6 * r + 4)) (j := 8 + 6 * r + 4) (ap_h (hs_hi 4 hr (by decide) rfl)) (ap_l (hs_hi 4 hr (by decide) rfl)) (by omega)) hP hD hS hA rfl hl.1 rfl (Nat.le_of_ble_eq_true rfl) dX1_becomeLike_57 ⟨Nat.zero_le _, Nat.zero_le _⟩ (fun H locs hP hD hS => ?_)
  rw [mix_n, set_h (by omega) (hs_cp (fun g9 j9 v9 hj9 => hs_u4 hr hj9) (hs_hi 4 hr (by decide) rfl) 3 (Nat.le_refl _))] at hP hD
  have hP : va_P E.1 vwCl (hs E a (mix (rc6 c r) g h) ++ hs E b h) H := hP
  have hD : va_D A (hs E a (mix (rc6 c r) g h) ++ hs E b h) := hD
  refine lv_aload_n hx hb dX1_becomeLike_60 rfl (lv_at hl 1 rfl) ?_
  refine va_get (D := E.1) (ci := 1) (v := .ref (b (8 + 6 * r + 5))) (C := RX1) (T := TX1) (N := 13) hx hb hts in1 hown hE.1 hP (38 + (8 + 6 * r)) (ap_h (hs_hi0 hr)) rfl 6 (by decide) K32 (fun _ h9 => h9) rfl dX1_becomeLike_61 ?_
  refine lv_aload_n hx hb dX1_becomeLike_64 rfl (lv_at hl 0 rfl) ?_
  refine va_get (D := E.1) (ci := 1) (v := .ref (a (8 + 6 * r + 5))) (C := RX1) (T := TX1) (N := 13) hx hb hts in1 hown hE.1 hP (8 + 6 * r) (ap_l (hs_hi0 hr)) rfl 6 (by decide) K32 (fun _ h9 => h9) rfl dX1_becomeLike_65 ?_
  refine cv_SNp F hE (k_copyRow l E (b (8 + 6 * r + 5)) (a (8 + 6 * r + 5)) 3 (seg h (67 + 3 * r) 3) (seg (mix (rc6 c r) g h) (67 + 3 * r) 3) (by decide)) ⟨va_cnB 2 hts gX1_becomeLike_X2_copyRow_n76 rfl rfl rfl (ev_link hE nk_X1_76 rfl) (hts (.initialized RX2) (by decide +kernel)) (by decide +kernel) ⟨Nat.le_of_ble_eq_true rfl, Nat.le_of_ble_eq_true rfl⟩, hts (.static yX2_copyRow) (by decide +kernel), trivial⟩ (Fp.two (i := 38 + (8 + 6 * r + 5)) (j := 8 + 6 * r + 5) (ap_h (hs_hi 5 hr (by decide) rfl)) (ap_l (hs_hi 5 hr (by decide) rfl)) (by omega)) hP hD hS hA rfl hl.1 rfl (Nat.le_of_ble_eq_true rfl) dX1_becomeLike_68 ⟨Nat.zero_le _, Nat.zero_le _⟩ (fun H locs hP hD hS => ?_)
  rw [mix_n, set_h (by omega) (hs_cp (fun g9 j9 v9 hj9 => hs_u5 hr hj9) (hs_hi 5 hr (by decide) rfl) 3 (Nat.le_refl _))] at hP hD
  have hP : va_P E.1 vwCl (hs E a (mix (rc7 c r) g h) ++ hs E b h) H := hP
  have hD : va_D A (hs E a (mix (rc7 c r) g h) ++ hs E b h) := hD
  refine lv_aload_n hx hb dX1_becomeLike_71 rfl (lv_at hl 0 rfl) ?_
  refine lv_aload_n hx hb dX1_becomeLike_72 rfl (lv_at hl 1 rfl) ?_
  refine va_get (D := E.1) (ci := 1) (v := .int (h (262 + 6 * r + 0))) (C := RX1) (T := TX1) (N := 13) hx hb hts in1 hown hE.1 hP (38 + (8 + 6 * r)) (ap_h (hs_hi0 hr)) rfl 7 (by decide) K35 (fun _ h9 => h9) rfl dX1_becomeLike_73 ?_
  refine va_put (D := E.1) (ci := 1) (v := .int (h (262 + 6 * r + 0))) (ty := .int) (C := RX1) (T := TX1) (N := 13) hx hb hts in1 tyX1 tyX1_ok nmX1 hown hE.1 hP hD hS (8 + 6 * r) (ap_l (hs_hi0 hr)) rfl 7 (by decide) K35 (fun _ h9 => h9) rfl (by decide +kernel) rfl rfl (Nat.le_of_ble_eq_true rfl) dX1_becomeLike_76 (fun H locs hP hD hS => ?_)
  rw [set_h (by omega) (hs_r7 (r := r) hr), mix_u] at hP hD
  have hP : va_P E.1 vwCl (hs E a (mix (rc8 c r) g h) ++ hs E b h) H := hP
  have hD : va_D A (hs E a (mix (rc8 c r) g h) ++ hs E b h) := hD
  refine lv_aload_n hx hb dX1_becomeLike_79 rfl (lv_at hl 0 rfl) ?_
  refine lv_aload_n hx hb dX1_becomeLike_80 rfl (lv_at hl 1 rfl) ?_
  refine va_get (D := E.1) (ci := 1) (v := .int (h (262 + 6 * r + 1))) (C := RX1) (T := TX1) (N := 13) hx hb hts in1 hown hE.1 hP (38 + (8 + 6 * r)) (ap_h (hs_hi0 hr)) rfl 8 (by decide) K38 (fun _ h9 => h9) rfl dX1_becomeLike_81 ?_
  refine va_put (D := E.1) (ci := 1) (v := .int (h (262 + 6 * r + 1))) (ty := .int) (C := RX1) (T := TX1) (N := 13) hx hb hts in1 tyX1 tyX1_ok nmX1 hown hE.1 hP hD hS (8 + 6 * r) (ap_l (hs_hi0 hr)) rfl 8 (by decide) K38 (fun _ h9 => h9) rfl (by decide +kernel) rfl rfl (Nat.le_of_ble_eq_true rfl) dX1_becomeLike_84 (fun H locs hP hD hS => ?_)
  rw [set_h (by omega) (hs_r8 (r := r) hr), mix_u] at hP hD
  have hP : va_P E.1 vwCl (hs E a (mix (rc9 c r) g h) ++ hs E b h) H := hP
  have hD : va_D A (hs E a (mix (rc9 c r) g h) ++ hs E b h) := hD
  refine lv_aload_n hx hb dX1_becomeLike_87 rfl (lv_at hl 0 rfl) ?_
  refine lv_aload_n hx hb dX1_becomeLike_88 rfl (lv_at hl 1 rfl) ?_
  refine va_get (D := E.1) (ci := 1) (v := .int (h (262 + 6 * r + 2))) (C := RX1) (T := TX1) (N := 13) hx hb hts in1 hown hE.1 hP (38 + (8 + 6 * r)) (ap_h (hs_hi0 hr)) rfl 9 (by decide) K41 (fun _ h9 => h9) rfl dX1_becomeLike_89 ?_
  refine va_put (D := E.1) (ci := 1) (v := .int (h (262 + 6 * r + 2))) (ty := .int) (C := RX1) (T := TX1) (N := 13) hx hb hts in1 tyX1 tyX1_ok nmX1 hown hE.1 hP hD hS (8 + 6 * r) (ap_l (hs_hi0 hr)) rfl 9 (by decide) K41 (fun _ h9 => h9) rfl (by decide +kernel) rfl rfl (Nat.le_of_ble_eq_true rfl) dX1_becomeLike_92 (fun H locs hP hD hS => ?_)
  rw [set_h (by omega) (hs_r9 (r := r) hr), mix_u] at hP hD
  have hP : va_P E.1 vwCl (hs E a (mix (rc10 c r) g h) ++ hs E b h) H := hP
  have hD : va_D A (hs E a (mix (rc10 c r) g h) ++ hs E b h) := hD
  refine lv_aload_n hx hb dX1_becomeLike_95 rfl (lv_at hl 0 rfl) ?_
  refine lv_aload_n hx hb dX1_becomeLike_96 rfl (lv_at hl 1 rfl) ?_
  refine va_get (D := E.1) (ci := 1) (v := .int (h (262 + 6 * r + 3))) (C := RX1) (T := TX1) (N := 13) hx hb hts in1 hown hE.1 hP (38 + (8 + 6 * r)) (ap_h (hs_hi0 hr)) rfl 10 (by decide) K44 (fun _ h9 => h9) rfl dX1_becomeLike_97 ?_
  refine va_put (D := E.1) (ci := 1) (v := .int (h (262 + 6 * r + 3))) (ty := .int) (C := RX1) (T := TX1) (N := 13) hx hb hts in1 tyX1 tyX1_ok nmX1 hown hE.1 hP hD hS (8 + 6 * r) (ap_l (hs_hi0 hr)) rfl 10 (by decide) K44 (fun _ h9 => h9) rfl (by decide +kernel) rfl rfl (Nat.le_of_ble_eq_true rfl) dX1_becomeLike_100 (fun H locs hP hD hS => ?_)
  rw [set_h (by omega) (hs_r10 (r := r) hr), mix_u] at hP hD
  have hP : va_P E.1 vwCl (hs E a (mix (rc11 c r) g h) ++ hs E b h) H := hP
  have hD : va_D A (hs E a (mix (rc11 c r) g h) ++ hs E b h) := hD
  refine lv_aload_n hx hb dX1_becomeLike_103 rfl (lv_at hl 0 rfl) ?_
  refine lv_aload_n hx hb dX1_becomeLike_104 rfl (lv_at hl 1 rfl) ?_
  refine va_get (D := E.1) (ci := 1) (v := .int (h (262 + 6 * r + 4))) (C := RX1) (T := TX1) (N := 13) hx hb hts in1 hown hE.1 hP (38 + (8 + 6 * r)) (ap_h (hs_hi0 hr)) rfl 11 (by decide) K47 (fun _ h9 => h9) rfl dX1_becomeLike_105 ?_
  refine va_put (D := E.1) (ci := 1) (v := .int (h (262 + 6 * r + 4))) (ty := .int) (C := RX1) (T := TX1) (N := 13) hx hb hts in1 tyX1 tyX1_ok nmX1 hown hE.1 hP hD hS (8 + 6 * r) (ap_l (hs_hi0 hr)) rfl 11 (by decide) K47 (fun _ h9 => h9) rfl (by decide +kernel) rfl rfl (Nat.le_of_ble_eq_true rfl) dX1_becomeLike_108 (fun H locs hP hD hS => ?_)
  rw [set_h (by omega) (hs_r11 (r := r) hr), mix_u] at hP hD
  have hP : va_P E.1 vwCl (hs E a (mix (rc12 c r) g h) ++ hs E b h) H := hP
  have hD : va_D A (hs E a (mix (rc12 c r) g h) ++ hs E b h) := hD
  refine lv_aload_n hx hb dX1_becomeLike_111 rfl (lv_at hl 0 rfl) ?_
  refine lv_aload_n hx hb dX1_becomeLike_112 rfl (lv_at hl 1 rfl) ?_
  refine va_get (D := E.1) (ci := 1) (v := .int (h (262 + 6 * r + 5))) (C := RX1) (T := TX1) (N := 13) hx hb hts in1 hown hE.1 hP (38 + (8 + 6 * r)) (ap_h (hs_hi0 hr)) rfl 12 (by decide) K50 (fun _ h9 => h9) rfl dX1_becomeLike_113 ?_
  refine va_put (D := E.1) (ci := 1) (v := .int (h (262 + 6 * r + 5))) (ty := .int) (C := RX1) (T := TX1) (N := 13) hx hb hts in1 tyX1 tyX1_ok nmX1 hown hE.1 hP hD hS (8 + 6 * r) (ap_l (hs_hi0 hr)) rfl 12 (by decide) K50 (fun _ h9 => h9) rfl (by decide +kernel) rfl rfl (Nat.le_of_ble_eq_true rfl) dX1_becomeLike_116 (fun H locs hP hD hS => ?_)
  rw [set_h (by omega) (hs_r12 (r := r) hr), mix_u] at hP hD
  have hP : va_P E.1 vwCl (hs E a (mix (rc13 c r) g h) ++ hs E b h) H := hP
  have hD : va_D A (hs E a (mix (rc13 c r) g h) ++ hs E b h) := hD
  exact hret _ _ _ _ hP hD hS dX1_becomeLike_119
def hq (c : Nat → Bool) : Nat → Nat → Bool
  | 0 => c
  | i + 1 => rc13 (hq c i) i
def hm1 : Nat → Bool := or1 (fun _ => false) (0)
def hm2 : Nat → Bool := orn hm1 (1) 4
def hm3 : Nat → Bool := hq hm2 5
def hm4 : Nat → Bool := orn hm3 (5) 12
def hm5 : Nat → Bool := orn hm4 (17) 12
def hm6 : Nat → Bool := orn hm5 (29) 12
def hm7 : Nat → Bool := or1 hm6 (41)
def hm8 : Nat → Bool := orn hm7 (292) 4
def hm9 : Nat → Bool := or1 hm8 (296)
def hm10 : Nat → Bool := orn hm9 (297) 5
def hm11 : Nat → Bool := or1 hm10 (302)
def hm12 : Nat → Bool := or1 hm11 (303)
def hm13 : Nat → Bool := or1 hm12 (304)
def hm14 : Nat → Bool := or1 hm13 (305)
def hm15 : Nat → Bool := or1 hm14 (306)
def hm16 : Nat → Bool := or1 hm15 (307)
def hm17 : Nat → Bool := or1 hm16 (308)
set_option maxRecDepth 100000 in
theorem hm_all : ∀ j, j < 309 → hm17 j = true := by decide +kernel
set_option maxHeartbeats 4000000 in
set_option maxRecDepth 100000 in
theorem k_X0_becomeLike (l : Launch) (E : EE) (a b : Nat → Nat) (g h : Nat → Int32) (hB : ∀ r, r < 5 → h (42 + r) = 0 ∨ h (42 + r) = 1) : Cv l E yX0_becomeLike wsX0_becomeLike { frames := 3, cells := 0, slots := 0, locals := 62 } [.ref (a 0), .ref (b 0)] (hs E a g ++ hs E b h) (hs E a h ++ hs E b h) := by
  refine Cv.of (cc := cX0_becomeLike) (maxL := 3) (by decide) rfl (Nat.le_of_ble_eq_true rfl) ?_
  intro p e s m args below meth co A Q F hE hA hret hP hD ls hl
  obtain ⟨hx, hb, hml, hown, hts⟩ := id F
  have hS : va_S A s.heap s.heap [] := va_S.rf
  have hl : lv_has ls 3 [(0, .ref (a 0)), (1, .ref (b 0))] := hl
  have in0 : ∀ w ∈ wsX00, w ∈ wsX0_becomeLike := fun w h => List.mem_cons_of_mem _ (List.mem_append_left _ (List.mem_append_right _ h))
  have K22 := hts (.fieldLink RX0 22 "PromiseHours$House" "readers" "[LPromiseHours$Reader;") (by decide +kernel)
  rw [← mix_f g h] at hP hD
  have K9 := hts (.fieldLink RX0 9 "PromiseHours$House" "tick" "I") (by decide +kernel)
  have K15 := hts (.fieldLink RX0 15 "PromiseHours$House" "rules" "[I") (by decide +kernel)
  have K26 := hts (.fieldLink RX0 26 "PromiseHours$House" "versions" "[I") (by decide +kernel)
  have K29 := hts (.fieldLink RX0 29 "PromiseHours$House" "ways" "[I") (by decide +kernel)
  have K32 := hts (.fieldLink RX0 32 "PromiseHours$House" "line" "[I") (by decide +kernel)
  have K35 := hts (.fieldLink RX0 35 "PromiseHours$House" "lineLength" "I") (by decide +kernel)
  have K38 := hts (.fieldLink RX0 38 "PromiseHours$House" "causes" "[I") (by decide +kernel)
  have K41 := hts (.fieldLink RX0 41 "PromiseHours$House" "causeCount" "I") (by decide +kernel)
  have K44 := hts (.fieldLink RX0 44 "PromiseHours$House" "waitedFor" "[I") (by decide +kernel)
  have K47 := hts (.fieldLink RX0 47 "PromiseHours$House" "waitedCount" "I") (by decide +kernel)
  have K50 := hts (.fieldLink RX0 50 "PromiseHours$House" "staleReads" "I") (by decide +kernel)
  have K53 := hts (.fieldLink RX0 53 "PromiseHours$House" "writesTold" "I") (by decide +kernel)
  have K56 := hts (.fieldLink RX0 56 "PromiseHours$House" "writesDone" "I") (by decide +kernel)
  have K59 := hts (.fieldLink RX0 59 "PromiseHours$House" "lettersSent" "I") (by decide +kernel)
  have K62 := hts (.fieldLink RX0 62 "PromiseHours$House" "timesListed" "I") (by decide +kernel)
  have K65 := hts (.fieldLink RX0 65 "PromiseHours$House" "timesRenewed" "I") (by decide +kernel)
  refine lv_aload_n hx hb dX0_becomeLike_0 rfl (lv_at hl 0 rfl) ?_
  refine lv_aload_n hx hb dX0_becomeLike_1 rfl (lv_at hl 1 rfl) ?_
  refine va_get (D := E.1) (ci := 0) (v := .int (h 0)) (C := RX0) (T := TX0) (N := 17) hx hb hts in0 hown hE.1 hP (38 + 0) (ap_h (hs_lo 0 (by decide) rfl)) rfl 0 (by decide) K9 (fun _ h9 => h9) rfl dX0_becomeLike_2 ?_
  refine va_put (D := E.1) (ci := 0) (v := .int (h 0)) (ty := .int) (C := RX0) (T := TX0) (N := 17) hx hb hts in0 tyX0 tyX0_ok nmX0 hown hE.1 hP hD hS 0 (ap_l (hs_lo 0 (by decide) rfl)) rfl 0 (by decide) K9 (fun _ h9 => h9) rfl (by decide +kernel) rfl rfl (Nat.le_of_ble_eq_true rfl) dX0_becomeLike_5 (fun H locs hP hD hS => ?_)
  rw [set_h (by omega) hs_f0, mix_u] at hP hD
  have hP : va_P E.1 vwCl (hs E a (mix hm1 g h) ++ hs E b h) H := hP
  have hD : va_D A (hs E a (mix hm1 g h) ++ hs E b h) := hD
  refine lv_aload_n hx hb dX0_becomeLike_8 rfl (lv_at hl 1 rfl) ?_
  refine va_get (D := E.1) (ci := 0) (v := .ref (b 1)) (C := RX0) (T := TX0) (N := 17) hx hb hts in0 hown hE.1 hP (38 + 0) (ap_h (hs_lo 0 (by decide) rfl)) rfl 1 (by decide) K15 (fun _ h9 => h9) rfl dX0_becomeLike_9 ?_
  refine lv_aload_n hx hb dX0_becomeLike_12 rfl (lv_at hl 0 rfl) ?_
  refine va_get (D := E.1) (ci := 0) (v := .ref (a 1)) (C := RX0) (T := TX0) (N := 17) hx hb hts in0 hown hE.1 hP 0 (ap_l (hs_lo 0 (by decide) rfl)) rfl 1 (by decide) K15 (fun _ h9 => h9) rfl dX0_becomeLike_13 ?_
  refine cv_SNp F hE (k_copyRow l E (b 1) (a 1) 4 (seg h 1 4) (seg (mix hm1 g h) 1 4) (by decide)) ⟨va_cnB 2 hts gX0_becomeLike_X2_copyRow_n71 rfl rfl rfl (ev_link hE nk_X0_71 rfl) (hts (.initialized RX2) (by decide +kernel)) (by decide +kernel) ⟨Nat.le_of_ble_eq_true rfl, Nat.le_of_ble_eq_true rfl⟩, hts (.static yX2_copyRow) (by decide +kernel), trivial⟩ (Fp.two (i := 38 + 1) (j := 1) (ap_h (hs_lo 1 (by decide) rfl)) (ap_l (hs_lo 1 (by decide) rfl)) (by omega)) hP hD hS hA rfl hl.1 rfl (Nat.le_of_ble_eq_true rfl) dX0_becomeLike_16 ⟨Nat.zero_le _, Nat.zero_le _⟩ (fun H locs hP hD hS => ?_)
  rw [mix_n, set_h (by omega) (hs_cp (fun g9 j9 v9 hj9 => hs_w1 hj9) (hs_lo 1 (by decide) rfl) 4 (Nat.le_refl _))] at hP hD
  have hP : va_P E.1 vwCl (hs E a (mix hm2 g h) ++ hs E b h) H := hP
  have hD : va_D A (hs E a (mix hm2 g h) ++ hs E b h) := hD
  refine lv_iconst (v := 0) hx hb dX0_becomeLike_19 (by decide) ?_
  refine lv_istore_n (lv' := [(2, .int (nI 0)), (0, .ref (a 0)), (1, .ref (b 0))]) hx hb dX0_becomeLike_20 rfl hl (by decide) rfl (fun ls hl => ?_)
  have lp : ∀ (fu i : Nat), i ≤ 5 → 5 + 1 ≤ i + fu → ∀ (H : Heap) (locs : List Loc), va_P E.1 vwCl (hs E a (mix (hq hm2 i) g h) ++ hs E b h) H → va_D A (hs E a (mix (hq hm2 i) g h) ++ hs E b h) → va_S A s.heap H locs → ∀ ls : Array Slot, lv_has ls 3 [(2, .int (nI i)), (0, .ref (a 0)), (1, .ref (b 0))] → W p l e { frames := 3, cells := 0, slots := 0, locals := 62 } s m args below meth co H locs 0 0 Q (F0 m 21 ls []) := by
    intro fu
    induction fu with
    | zero => intro i h1 h2; exact absurd h2 (by omega)
    | succ fu ih =>
      intro i hi hin H locs hP hD hS ls hl
      refine lv_iload_n hx hb dX0_becomeLike_21 rfl (lv_at hl 0 rfl) ?_
      refine lv_iconst (v := 5) hx hb dX0_becomeLike_22 (by decide) ?_
      refine lv_icmp_ge (tgt := 47) hx hb dX0_becomeLike_23 (by decide) (fun c_1 => ?_) (fun c_1 => ?_)
      · have hiN : i = 5 := by have := (nI_leI (a := 5) (b := i) (by omega) (by omega)).mp c_1; omega
        subst hiN
        have hP : va_P E.1 vwCl (hs E a (mix hm3 g h) ++ hs E b h) H := hP
        have hD : va_D A (hs E a (mix hm3 g h) ++ hs E b h) := hD
        have hl : lv_has ls 3 [(0, .ref (a 0)), (1, .ref (b 0))] := lv_sub hl [1, 2] rfl
        refine lv_aload_n hx hb dX0_becomeLike_47 rfl (lv_at hl 1 rfl) ?_
        refine va_get (D := E.1) (ci := 0) (v := .ref (b 3)) (C := RX0) (T := TX0) (N := 17) hx hb hts in0 hown hE.1 hP (38 + 0) (ap_h (hs_lo 0 (by decide) rfl)) rfl 3 (by decide) K26 (fun _ h9 => h9) rfl dX0_becomeLike_48 ?_
        refine lv_aload_n hx hb dX0_becomeLike_51 rfl (lv_at hl 0 rfl) ?_
        refine va_get (D := E.1) (ci := 0) (v := .ref (a 3)) (C := RX0) (T := TX0) (N := 17) hx hb hts in0 hown hE.1 hP 0 (ap_l (hs_lo 0 (by decide) rfl)) rfl 3 (by decide) K26 (fun _ h9 => h9) rfl dX0_becomeLike_52 ?_
        refine cv_SNp F hE (k_copyRow l E (b 3) (a 3) 12 (seg h 5 12) (seg (mix hm3 g h) 5 12) (by decide)) ⟨va_cnB 2 hts gX0_becomeLike_X2_copyRow_n71 rfl rfl rfl (ev_link hE nk_X0_71 rfl) (hts (.initialized RX2) (by decide +kernel)) (by decide +kernel) ⟨Nat.le_of_ble_eq_true rfl, Nat.le_of_ble_eq_true rfl⟩, hts (.static yX2_copyRow) (by decide +kernel), trivial⟩ (Fp.two (i := 38 + 3) (j := 3) (ap_h (hs_lo 3 (by decide) rfl)) (ap_l (hs_lo 3 (by decide) rfl)) (by omega)) hP hD hS hA rfl hl.1 rfl (Nat.le_of_ble_eq_true rfl) dX0_becomeLike_55 ⟨Nat.zero_le _, Nat.zero_le _⟩ (fun H locs hP hD hS => ?_)
        rw [mix_n, set_h (by omega) (hs_cp (fun g9 j9 v9 hj9 => hs_w3 hj9) (hs_lo 3 (by decide) rfl) 12 (Nat.le_refl _))] at hP hD
        have hP : va_P E.1 vwCl (hs E a (mix hm4 g h) ++ hs E b h) H := hP
        have hD : va_D A (hs E a (mix hm4 g h) ++ hs E b h) := hD
        refine lv_aload_n hx hb dX0_becomeLike_58 rfl (lv_at hl 1 rfl) ?_
        refine va_get (D := E.1) (ci := 0) (v := .ref (b 4)) (C := RX0) (T := TX0) (N := 17) hx hb hts in0 hown hE.1 hP (38 + 0) (ap_h (hs_lo 0 (by decide) rfl)) rfl 4 (by decide) K29 (fun _ h9 => h9) rfl dX0_becomeLike_59 ?_
        refine lv_aload_n hx hb dX0_becomeLike_62 rfl (lv_at hl 0 rfl) ?_
        refine va_get (D := E.1) (ci := 0) (v := .ref (a 4)) (C := RX0) (T := TX0) (N := 17) hx hb hts in0 hown hE.1 hP 0 (ap_l (hs_lo 0 (by decide) rfl)) rfl 4 (by decide) K29 (fun _ h9 => h9) rfl dX0_becomeLike_63 ?_
        refine cv_SNp F hE (k_copyRow l E (b 4) (a 4) 12 (seg h 17 12) (seg (mix hm4 g h) 17 12) (by decide)) ⟨va_cnB 2 hts gX0_becomeLike_X2_copyRow_n71 rfl rfl rfl (ev_link hE nk_X0_71 rfl) (hts (.initialized RX2) (by decide +kernel)) (by decide +kernel) ⟨Nat.le_of_ble_eq_true rfl, Nat.le_of_ble_eq_true rfl⟩, hts (.static yX2_copyRow) (by decide +kernel), trivial⟩ (Fp.two (i := 38 + 4) (j := 4) (ap_h (hs_lo 4 (by decide) rfl)) (ap_l (hs_lo 4 (by decide) rfl)) (by omega)) hP hD hS hA rfl hl.1 rfl (Nat.le_of_ble_eq_true rfl) dX0_becomeLike_66 ⟨Nat.zero_le _, Nat.zero_le _⟩ (fun H locs hP hD hS => ?_)
        rw [mix_n, set_h (by omega) (hs_cp (fun g9 j9 v9 hj9 => hs_w4 hj9) (hs_lo 4 (by decide) rfl) 12 (Nat.le_refl _))] at hP hD
        have hP : va_P E.1 vwCl (hs E a (mix hm5 g h) ++ hs E b h) H := hP
        have hD : va_D A (hs E a (mix hm5 g h) ++ hs E b h) := hD
        refine lv_aload_n hx hb dX0_becomeLike_69 rfl (lv_at hl 1 rfl) ?_
        refine va_get (D := E.1) (ci := 0) (v := .ref (b 5)) (C := RX0) (T := TX0) (N := 17) hx hb hts in0 hown hE.1 hP (38 + 0) (ap_h (hs_lo 0 (by decide) rfl)) rfl 5 (by decide) K32 (fun _ h9 => h9) rfl dX0_becomeLike_70 ?_
        refine lv_aload_n hx hb dX0_becomeLike_73 rfl (lv_at hl 0 rfl) ?_
        refine va_get (D := E.1) (ci := 0) (v := .ref (a 5)) (C := RX0) (T := TX0) (N := 17) hx hb hts in0 hown hE.1 hP 0 (ap_l (hs_lo 0 (by decide) rfl)) rfl 5 (by decide) K32 (fun _ h9 => h9) rfl dX0_becomeLike_74 ?_
        refine cv_SNp F hE (k_copyRow l E (b 5) (a 5) 12 (seg h 29 12) (seg (mix hm5 g h) 29 12) (by decide)) ⟨va_cnB 2 hts gX0_becomeLike_X2_copyRow_n71 rfl rfl rfl (ev_link hE nk_X0_71 rfl) (hts (.initialized RX2) (by decide +kernel)) (by decide +kernel) ⟨Nat.le_of_ble_eq_true rfl, Nat.le_of_ble_eq_true rfl⟩, hts (.static yX2_copyRow) (by decide +kernel), trivial⟩ (Fp.two (i := 38 + 5) (j := 5) (ap_h (hs_lo 5 (by decide) rfl)) (ap_l (hs_lo 5 (by decide) rfl)) (by omega)) hP hD hS hA rfl hl.1 rfl (Nat.le_of_ble_eq_true rfl) dX0_becomeLike_77 ⟨Nat.zero_le _, Nat.zero_le _⟩ (fun H locs hP hD hS => ?_)
        rw [mix_n, set_h (by omega) (hs_cp (fun g9 j9 v9 hj9 => hs_w5 hj9) (hs_lo 5 (by decide) rfl) 12 (Nat.le_refl _))] at hP hD
        have hP : va_P E.1 vwCl (hs E a (mix hm6 g h) ++ hs E b h) H := hP
        have hD : va_D A (hs E a (mix hm6 g h) ++ hs E b h) := hD
        refine lv_aload_n hx hb dX0_becomeLike_80 rfl (lv_at hl 0 rfl) ?_
        refine lv_aload_n hx hb dX0_becomeLike_81 rfl (lv_at hl 1 rfl) ?_
        refine va_get (D := E.1) (ci := 0) (v := .int (h 41)) (C := RX0) (T := TX0) (N := 17) hx hb hts in0 hown hE.1 hP (38 + 0) (ap_h (hs_lo 0 (by decide) rfl)) rfl 6 (by decide) K35 (fun _ h9 => h9) rfl dX0_becomeLike_82 ?_
        refine va_put (D := E.1) (ci := 0) (v := .int (h 41)) (ty := .int) (C := RX0) (T := TX0) (N := 17) hx hb hts in0 tyX0 tyX0_ok nmX0 hown hE.1 hP hD hS 0 (ap_l (hs_lo 0 (by decide) rfl)) rfl 6 (by decide) K35 (fun _ h9 => h9) rfl (by decide +kernel) rfl rfl (Nat.le_of_ble_eq_true rfl) dX0_becomeLike_85 (fun H locs hP hD hS => ?_)
        rw [set_h (by omega) hs_f6, mix_u] at hP hD
        have hP : va_P E.1 vwCl (hs E a (mix hm7 g h) ++ hs E b h) H := hP
        have hD : va_D A (hs E a (mix hm7 g h) ++ hs E b h) := hD
        refine lv_aload_n hx hb dX0_becomeLike_88 rfl (lv_at hl 1 rfl) ?_
        refine va_get (D := E.1) (ci := 0) (v := .ref (b 6)) (C := RX0) (T := TX0) (N := 17) hx hb hts in0 hown hE.1 hP (38 + 0) (ap_h (hs_lo 0 (by decide) rfl)) rfl 7 (by decide) K38 (fun _ h9 => h9) rfl dX0_becomeLike_89 ?_
        refine lv_aload_n hx hb dX0_becomeLike_92 rfl (lv_at hl 0 rfl) ?_
        refine va_get (D := E.1) (ci := 0) (v := .ref (a 6)) (C := RX0) (T := TX0) (N := 17) hx hb hts in0 hown hE.1 hP 0 (ap_l (hs_lo 0 (by decide) rfl)) rfl 7 (by decide) K38 (fun _ h9 => h9) rfl dX0_becomeLike_93 ?_
        refine cv_SNp F hE (k_copyRow l E (b 6) (a 6) 4 (seg h 292 4) (seg (mix hm7 g h) 292 4) (by decide)) ⟨va_cnB 2 hts gX0_becomeLike_X2_copyRow_n71 rfl rfl rfl (ev_link hE nk_X0_71 rfl) (hts (.initialized RX2) (by decide +kernel)) (by decide +kernel) ⟨Nat.le_of_ble_eq_true rfl, Nat.le_of_ble_eq_true rfl⟩, hts (.static yX2_copyRow) (by decide +kernel), trivial⟩ (Fp.two (i := 38 + 6) (j := 6) (ap_h (hs_lo 6 (by decide) rfl)) (ap_l (hs_lo 6 (by decide) rfl)) (by omega)) hP hD hS hA rfl hl.1 rfl (Nat.le_of_ble_eq_true rfl) dX0_becomeLike_96 ⟨Nat.zero_le _, Nat.zero_le _⟩ (fun H locs hP hD hS => ?_)
        rw [mix_n, set_h (by omega) (hs_cp (fun g9 j9 v9 hj9 => hs_w6 hj9) (hs_lo 6 (by decide) rfl) 4 (Nat.le_refl _))] at hP hD
        have hP : va_P E.1 vwCl (hs E a (mix hm8 g h) ++ hs E b h) H := hP
        have hD : va_D A (hs E a (mix hm8 g h) ++ hs E b h) := hD
        refine lv_aload_n hx hb dX0_becomeLike_99 rfl (lv_at hl 0 rfl) ?_
        refine lv_aload_n hx hb dX0_becomeLike_100 rfl (lv_at hl 1 rfl) ?_
        refine va_get (D := E.1) (ci := 0) (v := .int (h 296)) (C := RX0) (T := TX0) (N := 17) hx hb hts in0 hown hE.1 hP (38 + 0) (ap_h (hs_lo 0 (by decide) rfl)) rfl 8 (by decide) K41 (fun _ h9 => h9) rfl dX0_becomeLike_101 ?_
        refine va_put (D := E.1) (ci := 0) (v := .int (h 296)) (ty := .int) (C := RX0) (T := TX0) (N := 17) hx hb hts in0 tyX0 tyX0_ok nmX0 hown hE.1 hP hD hS 0 (ap_l (hs_lo 0 (by decide) rfl)) rfl 8 (by decide) K41 (fun _ h9 => h9) rfl (by decide +kernel) rfl rfl (Nat.le_of_ble_eq_true rfl) dX0_becomeLike_104 (fun H locs hP hD hS => ?_)
        rw [set_h (by omega) hs_f8, mix_u] at hP hD
        have hP : va_P E.1 vwCl (hs E a (mix hm9 g h) ++ hs E b h) H := hP
        have hD : va_D A (hs E a (mix hm9 g h) ++ hs E b h) := hD
        refine lv_aload_n hx hb dX0_becomeLike_107 rfl (lv_at hl 1 rfl) ?_
        refine va_get (D := E.1) (ci := 0) (v := .ref (b 7)) (C := RX0) (T := TX0) (N := 17) hx hb hts in0 hown hE.1 hP (38 + 0) (ap_h (hs_lo 0 (by decide) rfl)) rfl 9 (by decide) K44 (fun _ h9 => h9) rfl dX0_becomeLike_108 ?_
        refine lv_aload_n hx hb dX0_becomeLike_111 rfl (lv_at hl 0 rfl) ?_
        refine va_get (D := E.1) (ci := 0) (v := .ref (a 7)) (C := RX0) (T := TX0) (N := 17) hx hb hts in0 hown hE.1 hP 0 (ap_l (hs_lo 0 (by decide) rfl)) rfl 9 (by decide) K44 (fun _ h9 => h9) rfl dX0_becomeLike_112 ?_
        refine cv_SNp F hE (k_copyRow l E (b 7) (a 7) 5 (seg h 297 5) (seg (mix hm9 g h) 297 5) (by decide)) ⟨va_cnB 2 hts gX0_becomeLike_X2_copyRow_n71 rfl rfl rfl (ev_link hE nk_X0_71 rfl) (hts (.initialized RX2) (by decide +kernel)) (by decide +kernel) ⟨Nat.le_of_ble_eq_true rfl, Nat.le_of_ble_eq_true rfl⟩, hts (.static yX2_copyRow) (by decide +kernel), trivial⟩ (Fp.two (i := 38 + 7) (j := 7) (ap_h (hs_lo 7 (by decide) rfl)) (ap_l (hs_lo 7 (by decide) rfl)) (by omega)) hP hD hS hA rfl hl.1 rfl (Nat.le_of_ble_eq_true rfl) dX0_becomeLike_115 ⟨Nat.zero_le _, Nat.zero_le _⟩ (fun H locs hP hD hS => ?_)
        rw [mix_n, set_h (by omega) (hs_cp (fun g9 j9 v9 hj9 => hs_w7 hj9) (hs_lo 7 (by decide) rfl) 5 (Nat.le_refl _))] at hP hD
        have hP : va_P E.1 vwCl (hs E a (mix hm10 g h) ++ hs E b h) H := hP
        have hD : va_D A (hs E a (mix hm10 g h) ++ hs E b h) := hD
        refine lv_aload_n hx hb dX0_becomeLike_118 rfl (lv_at hl 0 rfl) ?_
        refine lv_aload_n hx hb dX0_becomeLike_119 rfl (lv_at hl 1 rfl) ?_
        refine va_get (D := E.1) (ci := 0) (v := .int (h 302)) (C := RX0) (T := TX0) (N := 17) hx hb hts in0 hown hE.1 hP (38 + 0) (ap_h (hs_lo 0 (by decide) rfl)) rfl 10 (by decide) K47 (fun _ h9 => h9) rfl dX0_becomeLike_120 ?_
        refine va_put (D := E.1) (ci := 0) (v := .int (h 302)) (ty := .int) (C := RX0) (T := TX0) (N := 17) hx hb hts in0 tyX0 tyX0_ok nmX0 hown hE.1 hP hD hS 0 (ap_l (hs_lo 0 (by decide) rfl)) rfl 10 (by decide) K47 (fun _ h9 => h9) rfl (by decide +kernel) rfl rfl (Nat.le_of_ble_eq_true rfl) dX0_becomeLike_123 (fun H locs hP hD hS => ?_)
        rw [set_h (by omega) hs_f10, mix_u] at hP hD
        have hP : va_P E.1 vwCl (hs E a (mix hm11 g h) ++ hs E b h) H := hP
        have hD : va_D A (hs E a (mix hm11 g h) ++ hs E b h) := hD
        refine lv_aload_n hx hb dX0_becomeLike_126 rfl (lv_at hl 0 rfl) ?_
        refine lv_aload_n hx hb dX0_becomeLike_127 rfl (lv_at hl 1 rfl) ?_
        refine va_get (D := E.1) (ci := 0) (v := .int (h 303)) (C := RX0) (T := TX0) (N := 17) hx hb hts in0 hown hE.1 hP (38 + 0) (ap_h (hs_lo 0 (by decide) rfl)) rfl 11 (by decide) K50 (fun _ h9 => h9) rfl dX0_becomeLike_128 ?_
        refine va_put (D := E.1) (ci := 0) (v := .int (h 303)) (ty := .int) (C := RX0) (T := TX0) (N := 17) hx hb hts in0 tyX0 tyX0_ok nmX0 hown hE.1 hP hD hS 0 (ap_l (hs_lo 0 (by decide) rfl)) rfl 11 (by decide) K50 (fun _ h9 => h9) rfl (by decide +kernel) rfl rfl (Nat.le_of_ble_eq_true rfl) dX0_becomeLike_131 (fun H locs hP hD hS => ?_)
        rw [set_h (by omega) hs_f11, mix_u] at hP hD
        have hP : va_P E.1 vwCl (hs E a (mix hm12 g h) ++ hs E b h) H := hP
        have hD : va_D A (hs E a (mix hm12 g h) ++ hs E b h) := hD
        refine lv_aload_n hx hb dX0_becomeLike_134 rfl (lv_at hl 0 rfl) ?_
        refine lv_aload_n hx hb dX0_becomeLike_135 rfl (lv_at hl 1 rfl) ?_
        refine va_get (D := E.1) (ci := 0) (v := .int (h 304)) (C := RX0) (T := TX0) (N := 17) hx hb hts in0 hown hE.1 hP (38 + 0) (ap_h (hs_lo 0 (by decide) rfl)) rfl 12 (by decide) K53 (fun _ h9 => h9) rfl dX0_becomeLike_136 ?_
        refine va_put (D := E.1) (ci := 0) (v := .int (h 304)) (ty := .int) (C := RX0) (T := TX0) (N := 17) hx hb hts in0 tyX0 tyX0_ok nmX0 hown hE.1 hP hD hS 0 (ap_l (hs_lo 0 (by decide) rfl)) rfl 12 (by decide) K53 (fun _ h9 => h9) rfl (by decide +kernel) rfl rfl (Nat.le_of_ble_eq_true rfl) dX0_becomeLike_139 (fun H locs hP hD hS => ?_)
        rw [set_h (by omega) hs_f12, mix_u] at hP hD
        have hP : va_P E.1 vwCl (hs E a (mix hm13 g h) ++ hs E b h) H := hP
        have hD : va_D A (hs E a (mix hm13 g h) ++ hs E b h) := hD
        refine lv_aload_n hx hb dX0_becomeLike_142 rfl (lv_at hl 0 rfl) ?_
        refine lv_aload_n hx hb dX0_becomeLike_143 rfl (lv_at hl 1 rfl) ?_
        refine va_get (D := E.1) (ci := 0) (v := .int (h 305)) (C := RX0) (T := TX0) (N := 17) hx hb hts in0 hown hE.1 hP (38 + 0) (ap_h (hs_lo 0 (by decide) rfl)) rfl 13 (by decide) K56 (fun _ h9 => h9) rfl dX0_becomeLike_144 ?_
        refine va_put (D := E.1) (ci := 0) (v := .int (h 305)) (ty := .int) (C := RX0) (T := TX0) (N := 17) hx hb hts in0 tyX0 tyX0_ok nmX0 hown hE.1 hP hD hS 0 (ap_l (hs_lo 0 (by decide) rfl)) rfl 13 (by decide) K56 (fun _ h9 => h9) rfl (by decide +kernel) rfl rfl (Nat.le_of_ble_eq_true rfl) dX0_becomeLike_147 (fun H locs hP hD hS => ?_)
        rw [set_h (by omega) hs_f13, mix_u] at hP hD
        have hP : va_P E.1 vwCl (hs E a (mix hm14 g h) ++ hs E b h) H := hP
        have hD : va_D A (hs E a (mix hm14 g h) ++ hs E b h) := hD
        refine lv_aload_n hx hb dX0_becomeLike_150 rfl (lv_at hl 0 rfl) ?_
        refine lv_aload_n hx hb dX0_becomeLike_151 rfl (lv_at hl 1 rfl) ?_
        refine va_get (D := E.1) (ci := 0) (v := .int (h 306)) (C := RX0) (T := TX0) (N := 17) hx hb hts in0 hown hE.1 hP (38 + 0) (ap_h (hs_lo 0 (by decide) rfl)) rfl 14 (by decide) K59 (fun _ h9 => h9) rfl dX0_becomeLike_152 ?_
        refine va_put (D := E.1) (ci := 0) (v := .int (h 306)) (ty := .int) (C := RX0) (T := TX0) (N := 17) hx hb hts in0 tyX0 tyX0_ok nmX0 hown hE.1 hP hD hS 0 (ap_l (hs_lo 0 (by decide) rfl)) rfl 14 (by decide) K59 (fun _ h9 => h9) rfl (by decide +kernel) rfl rfl (Nat.le_of_ble_eq_true rfl) dX0_becomeLike_155 (fun H locs hP hD hS => ?_)
        rw [set_h (by omega) hs_f14, mix_u] at hP hD
        have hP : va_P E.1 vwCl (hs E a (mix hm15 g h) ++ hs E b h) H := hP
        have hD : va_D A (hs E a (mix hm15 g h) ++ hs E b h) := hD
        refine lv_aload_n hx hb dX0_becomeLike_158 rfl (lv_at hl 0 rfl) ?_
        refine lv_aload_n hx hb dX0_becomeLike_159 rfl (lv_at hl 1 rfl) ?_
        refine va_get (D := E.1) (ci := 0) (v := .int (h 307)) (C := RX0) (T := TX0) (N := 17) hx hb hts in0 hown hE.1 hP (38 + 0) (ap_h (hs_lo 0 (by decide) rfl)) rfl 15 (by decide) K62 (fun _ h9 => h9) rfl dX0_becomeLike_160 ?_
        refine va_put (D := E.1) (ci := 0) (v := .int (h 307)) (ty := .int) (C := RX0) (T := TX0) (N := 17) hx hb hts in0 tyX0 tyX0_ok nmX0 hown hE.1 hP hD hS 0 (ap_l (hs_lo 0 (by decide) rfl)) rfl 15 (by decide) K62 (fun _ h9 => h9) rfl (by decide +kernel) rfl rfl (Nat.le_of_ble_eq_true rfl) dX0_becomeLike_163 (fun H locs hP hD hS => ?_)
        rw [set_h (by omega) hs_f15, mix_u] at hP hD
        have hP : va_P E.1 vwCl (hs E a (mix hm16 g h) ++ hs E b h) H := hP
        have hD : va_D A (hs E a (mix hm16 g h) ++ hs E b h) := hD
        refine lv_aload_n hx hb dX0_becomeLike_166 rfl (lv_at hl 0 rfl) ?_
        refine lv_aload_n hx hb dX0_becomeLike_167 rfl (lv_at hl 1 rfl) ?_
        refine va_get (D := E.1) (ci := 0) (v := .int (h 308)) (C := RX0) (T := TX0) (N := 17) hx hb hts in0 hown hE.1 hP (38 + 0) (ap_h (hs_lo 0 (by decide) rfl)) rfl 16 (by decide) K65 (fun _ h9 => h9) rfl dX0_becomeLike_168 ?_
        refine va_put (D := E.1) (ci := 0) (v := .int (h 308)) (ty := .int) (C := RX0) (T := TX0) (N := 17) hx hb hts in0 tyX0 tyX0_ok nmX0 hown hE.1 hP hD hS 0 (ap_l (hs_lo 0 (by decide) rfl)) rfl 16 (by decide) K65 (fun _ h9 => h9) rfl (by decide +kernel) rfl rfl (Nat.le_of_ble_eq_true rfl) dX0_becomeLike_171 (fun H locs hP hD hS => ?_)
        rw [set_h (by omega) hs_f16, mix_u] at hP hD
        have hP : va_P E.1 vwCl (hs E a (mix hm17 g h) ++ hs E b h) H := hP
        have hD : va_D A (hs E a (mix hm17 g h) ++ hs E b h) := hD
        have eh : hs E a (mix hm17 g h) = hs E a h := hs_same (fun i hi => by rw [mix_at, if_pos (hm_all i hi)])
        rw [eh] at hP hD
        exact hret _ _ _ _ hP hD hS dX0_becomeLike_174
      · have hlt : i < 5 := Nat.lt_of_not_le (fun h => c_1 (nI_le (a := 5) (b := i) (by omega) (by omega)))
        refine lv_aload_n hx hb dX0_becomeLike_26 rfl (lv_at hl 1 rfl) ?_
        refine va_get (D := E.1) (ci := 0) (v := .ref (a 2)) (C := RX0) (T := TX0) (N := 17) hx hb hts in0 hown hE.1 hP 0 (ap_l (hs_lo 0 (by decide) rfl)) rfl 2 (by decide) K22 (fun _ h9 => h9) rfl dX0_becomeLike_27 ?_
        refine lv_iload_n hx hb dX0_becomeLike_30 rfl (lv_at hl 0 rfl) ?_
        refine q_aald hx hb hE hP 2 1 (ap_l (hs_lo 2 (by decide) rfl)) rfl (j := i) rfl (by omega) (by decide) rfl dX0_becomeLike_31 ?_
        refine lv_aload_n hx hb dX0_becomeLike_32 rfl (lv_at hl 2 rfl) ?_
        refine va_get (D := E.1) (ci := 0) (v := .ref (b 2)) (C := RX0) (T := TX0) (N := 17) hx hb hts in0 hown hE.1 hP (38 + 0) (ap_h (hs_lo 0 (by decide) rfl)) rfl 2 (by decide) K22 (fun _ h9 => h9) rfl dX0_becomeLike_33 ?_
        refine lv_iload_n hx hb dX0_becomeLike_36 rfl (lv_at hl 0 rfl) ?_
        refine q_aald hx hb hE hP (38 + 2) 1 (ap_h (hs_lo 2 (by decide) rfl)) rfl (j := i) rfl (by omega) (by decide) rfl dX0_becomeLike_37 ?_
        refine cv_VNp F hE (k_X1_becomeLike l E a b (hq hm2 i) g h i hlt (hB i hlt)) ⟨va_cnB 1 hts gX0_becomeLike_X1_becomeLike_n222 rfl rfl rfl (ev_link hE nk_X0_222 rfl) (hts (.initialized RX1) (by decide +kernel)) (by decide +kernel) ⟨Nat.le_of_ble_eq_true rfl, Nat.le_of_ble_eq_true rfl⟩, hts (.instanceMethod yX1_becomeLike) (by decide +kernel), hts (.selects RX1 yX1_becomeLike yX1_becomeLike) (by decide +kernel)⟩ (Fp.of Fr.all) (8 + 6 * i) 1 (ap_l (hs_hi0 hlt)) rfl rfl hP hD hS hA rfl hl.1 rfl (Nat.le_of_ble_eq_true rfl) dX0_becomeLike_38 ⟨Nat.zero_le _, Nat.zero_le _⟩ (fun H locs hP hD hS => ?_)
        refine lv_iinc (v := (nI (i + 1))) (lv' := [(2, .int (nI (i + 1))), (0, .ref (a 0)), (1, .ref (b 0))]) hx hb dX0_becomeLike_41 hl (k := 0) rfl (nI_1 i) (by decide) rfl (fun ls hl => ?_)
        refine lv_goto (tgt := 21) hx hb dX0_becomeLike_44 (by decide) ?_
        exact ih (i + 1) (by omega) (by omega) H locs hP hD hS ls hl
  exact lp 6 0 (Nat.zero_le _) (by omega) _ _ hP hD hS ls hl
