theorem hu_eq (g : Nat → Int32) (r t : Nat) : f_X1_holdsUntil g r t = f_X3_lesser g r t := by
  unfold f_X1_holdsUntil f_X3_lesser
  by_cases h : g (52 + 3 * r + t / 4) ≤ g (202 + 12 * r + t)
  · rw [if_pos h]
    by_cases h2 : g (52 + 3 * r + t / 4) < g (202 + 12 * r + t)
    · rw [if_pos h2]
    · rw [if_neg h2]
      exact Int32.le_antisymm (Int32.not_lt.mp h2) h
  · rw [if_neg h, if_neg (fun q => h (Int32.le_of_lt q))]
theorem ho_eq (g : Nat → Int32) (r t : Nat) : f_X0_isHolder g r t = f_X3_isHolder g r t := rfl
theorem le_keep {g : Nat → Int32} {r t j : Nat} {v : Int32} (hr : r < 5) (ht : t < 12) (hj : 297 ≤ j) : f_X3_lesser (upd g j v) r t = f_X3_lesser g r t := by
  unfold f_X3_lesser
  rw [up_n (by omega), up_n (by omega)]
def w_X0_ins (t : Nat) (u : Int32) : Nat → (Nat → Int32) → (Nat → Int32) × Nat
  | 0, G => (G, 0)
  | k + 1, G => if u ≤ f_X1_holdsUntil G (ix (G (297 + k))) t then (G, k + 1) else w_X0_ins t u k (upd G (297 + (k + 1)) (G (297 + k)))
def s_X0_insertWaitedFor (g : Nat → Int32) (r : Nat) (t : Nat) : Nat → Int32 := (upd (upd (w_X0_ins t (f_X1_holdsUntil g r t) (ix (g 302)) g).1 (297 + (w_X0_ins t (f_X1_holdsUntil g r t) (ix (g 302)) g).2) (nI r)) 302 (((w_X0_ins t (f_X1_holdsUntil g r t) (ix (g 302)) g).1 302) + 1))
set_option maxHeartbeats 4000000 in
set_option maxRecDepth 100000 in
theorem k_X0_insertWaitedFor (l : Launch) (E : EE) (a : Nat → Nat) (g : Nat → Int32) (r : Nat) (t : Nat) (hr : r < 5) (ht : t < 12) (hW : WI g 4) : Cv l E yX0_insertWaitedFor wsX0_insertWaitedFor { frames := 3, cells := 0, slots := 0, locals := 62 } [.ref (a 0), .int (nI r), .int (nI t)] (hs E a g) (hs E a (s_X0_insertWaitedFor g r t)) := by
  refine Cv.of (cc := cX0_insertWaitedFor) (maxL := 5) (by decide) rfl (Nat.le_of_ble_eq_true rfl) ?_
  intro p e s m args below meth c A Q F hE hA hret hP hD ls hl
  obtain ⟨hx, hb, hml, hown, hts⟩ := id F
  have hS : va_S A s.heap s.heap [] := va_S.rf
  have hl : lv_has ls 5 [(0, .ref (a 0)), (1, .int (nI r)), (2, .int (nI t))] := hl
  have in0 : ∀ w ∈ wsX00, w ∈ wsX0_insertWaitedFor := fun w h => List.mem_cons_of_mem _ (List.mem_append_left _ (List.mem_append_right _ h))
  have K22 := hts (.fieldLink RX0 22 "PromiseHours$House" "readers" "[LPromiseHours$Reader;") (by decide +kernel)
  have K44 := hts (.fieldLink RX0 44 "PromiseHours$House" "waitedFor" "[I") (by decide +kernel)
  have K47 := hts (.fieldLink RX0 47 "PromiseHours$House" "waitedCount" "I") (by decide +kernel)
  obtain ⟨hW1, hW2, hW3⟩ := id hW
  refine lv_aload_n hx hb dX0_insertWaitedFor_0 rfl (lv_at hl 0 rfl) ?_
  refine va_get (D := E.1) (ci := 0) (v := .ref (a 2)) (C := RX0) (T := TX0) (N := 17) hx hb hts in0 hown hE.1 hP 0 (hs_lo 0 (by decide) rfl) rfl 2 (by decide) K22 (fun _ h9 => h9) rfl dX0_insertWaitedFor_1 ?_
  refine lv_iload_n hx hb dX0_insertWaitedFor_4 rfl (lv_at hl 1 rfl) ?_
  refine q_aald hx hb hE hP 2 1 (hs_lo 2 (by decide) rfl) rfl (j := r) rfl (by omega) (by decide) rfl dX0_insertWaitedFor_5 ?_
  refine lv_iload_n hx hb dX0_insertWaitedFor_6 rfl (lv_at hl 2 rfl) ?_
  refine ci_VN F hE (k_X1_holdsUntil l E a g r t (by omega) (by omega)) ⟨va_cnB 1 hts gX0_insertWaitedFor_X1_holdsUntil_n211 rfl rfl rfl (ev_link hE nk_X0_211 rfl) (hts (.initialized RX1) (by decide +kernel)) (by decide +kernel) ⟨Nat.le_of_ble_eq_true rfl, Nat.le_of_ble_eq_true rfl⟩, hts (.instanceMethod yX1_holdsUntil) (by decide +kernel), hts (.selects RX1 yX1_holdsUntil yX1_holdsUntil) (by decide +kernel)⟩ Fr.all (8 + 6 * r) 1 (hs_hi0 (by omega)) rfl rfl hP hD hS hA rfl hl.1 rfl (Nat.le_of_ble_eq_true rfl) dX0_insertWaitedFor_7 ⟨Nat.zero_le _, Nat.zero_le _⟩ (fun H locs hP hD hS => ?_)
  refine lv_istore_n (lv' := [(3, .int (f_X1_holdsUntil g r t)), (0, .ref (a 0)), (1, .int (nI r)), (2, .int (nI t))]) hx hb dX0_insertWaitedFor_10 rfl hl (by decide) rfl (fun ls hl => ?_)
  refine lv_aload_n hx hb dX0_insertWaitedFor_11 rfl (lv_at hl 1 rfl) ?_
  refine va_get (D := E.1) (ci := 0) (v := .int (g 302)) (C := RX0) (T := TX0) (N := 17) hx hb hts in0 hown hE.1 hP 0 (hs_lo 0 (by decide) rfl) rfl 10 (by decide) K47 (fun _ h9 => h9) rfl dX0_insertWaitedFor_12 ?_
  refine tpe (y := nI (ix (g 302))) hW2 ?_
  refine lv_istore (lv' := [(4, .int (nI (ix (g 302)))), (3, .int (f_X1_holdsUntil g r t)), (0, .ref (a 0)), (1, .int (nI r)), (2, .int (nI t))]) hx hb dX0_insertWaitedFor_15 hl (by decide) rfl (fun ls hl => ?_)
  have K66 : ∀ X : (Nat → Int32) × Nat, X = (w_X0_ins t (f_X1_holdsUntil g r t) (ix (g 302)) g) → X.2 ≤ 4 → ∀ (H : Heap) (locs : List Loc), va_P E.1 vwCl (hs E a X.1) H → va_D A (hs E a X.1) → va_S A s.heap H locs → ∀ ls : Array Slot, lv_has ls 5 [(0, .ref (a 0)), (1, .int (nI r)), (2, .int (nI t)), (3, .int (f_X1_holdsUntil g r t)), (4, .int (nI X.2))] → W p l e { frames := 3, cells := 0, slots := 0, locals := 62 } s m args below meth c H locs 0 0 Q (F0 m 66 ls []) := by
    intro X eX hX4 H locs hP hD hS ls hl
    refine lv_aload_n hx hb dX0_insertWaitedFor_66 rfl (lv_at hl 0 rfl) ?_
    refine va_get (D := E.1) (ci := 0) (v := .ref (a 7)) (C := RX0) (T := TX0) (N := 17) hx hb hts in0 hown hE.1 hP 0 (hs_lo 0 (by decide) rfl) rfl 9 (by decide) K44 (fun _ h9 => h9) rfl dX0_insertWaitedFor_67 ?_
    refine lv_iload hx hb dX0_insertWaitedFor_70 (lv_at hl 4 rfl) ?_
    refine lv_iload_n hx hb dX0_insertWaitedFor_72 rfl (lv_at hl 1 rfl) ?_
    refine q_iast hx hb hE hP hD hS 7 (hs_lo 7 (by decide) rfl) (j := X.2) (wd' := (hs E a (upd X.1 (297 + X.2) (nI r)))) rfl (by omega) (by decide) (hs_w7 (by omega)) dX0_insertWaitedFor_73 (fun H locs hP hD hS => ?_)
    refine lv_aload_n hx hb dX0_insertWaitedFor_74 rfl (lv_at hl 0 rfl) ?_
    refine lv_dup hx hb dX0_insertWaitedFor_75 rfl ?_
    refine va_get (D := E.1) (ci := 0) (v := .int ((upd X.1 (297 + X.2) (nI r)) 302)) (C := RX0) (T := TX0) (N := 17) hx hb hts in0 hown hE.1 hP 0 (hs_lo 0 (by decide) rfl) rfl 10 (by decide) K47 (fun _ h9 => h9) rfl dX0_insertWaitedFor_76 ?_
    refine tpe (up_n (by omega)) ?_
    refine lv_iconst (v := 1) hx hb dX0_insertWaitedFor_79 (by decide) ?_
    refine lv_iadd hx hb dX0_insertWaitedFor_80 ?_
    refine va_put (D := E.1) (ci := 0) (v := .int ((X.1 302) + 1)) (ty := .int) (C := RX0) (T := TX0) (N := 17) hx hb hts in0 tyX0 tyX0_ok nmX0 hown hE.1 hP hD hS 0 (hs_lo 0 (by decide) rfl) rfl 10 (by decide) K47 (fun _ h9 => h9) rfl (by decide +kernel) rfl rfl (Nat.le_of_ble_eq_true rfl) dX0_insertWaitedFor_81 (fun H locs hP hD hS => ?_)
    rw [hs_f10] at hP hD
    have hP : va_P E.1 vwCl (hs E a (upd (upd X.1 (297 + X.2) (nI r)) 302 ((X.1 302) + 1))) H := hP
    have hD : va_D A (hs E a (upd (upd X.1 (297 + X.2) (nI r)) 302 ((X.1 302) + 1))) := hD
    have eg : (upd (upd X.1 (297 + X.2) (nI r)) 302 ((X.1 302) + 1)) = (s_X0_insertWaitedFor g r t) := (by unfold s_X0_insertWaitedFor; rw [← eX])
    exact hret _ _ _ _ (by rw [← eg]; exact hP) (by rw [← eg]; exact hD) hS dX0_insertWaitedFor_84
  have lp17 : ∀ (k : Nat) (G : Nat → Int32), k ≤ 4 → (∀ j, j < k → ix (G (297 + j)) < 5 ∧ G (297 + j) = nI (ix (G (297 + j)))) → w_X0_ins t (f_X1_holdsUntil g r t) k G = (w_X0_ins t (f_X1_holdsUntil g r t) (ix (g 302)) g) → ∀ (H : Heap) (locs : List Loc), va_P E.1 vwCl (hs E a G) H → va_D A (hs E a G) → va_S A s.heap H locs → ∀ ls : Array Slot, lv_has ls 5 [(0, .ref (a 0)), (1, .int (nI r)), (2, .int (nI t)), (3, .int (f_X1_holdsUntil g r t)), (4, .int (nI k))] → W p l e { frames := 3, cells := 0, slots := 0, locals := 62 } s m args below meth c H locs 0 0 Q (F0 m 17 ls []) := by
    intro k
    induction k with
    | zero =>
      intro G hk hG hw H locs hP hD hS ls hl
      refine lv_iload hx hb dX0_insertWaitedFor_17 (lv_at hl 4 rfl) ?_
      refine lv_if_le (tgt := 66) hx hb dX0_insertWaitedFor_19 (by decide) (fun c0 => ?_) (fun c0 => ?_)
      · exact K66 (G, 0) hw (Nat.zero_le 4) _ _ hP hD hS ls hl
      · exact absurd (show nI 0 ≤ 0 by decide) c0
    | succ k ih =>
      intro G hk hG hw H locs hP hD hS ls hl
      refine lv_iload hx hb dX0_insertWaitedFor_17 (lv_at hl 4 rfl) ?_
      refine lv_if_le (tgt := 66) hx hb dX0_insertWaitedFor_19 (by decide) (fun c0 => ?_) (fun c0 => ?_)
      · exact absurd c0 (nI_nle (n := k + 1) (by omega) (by omega))
      obtain ⟨b_j, e_j⟩ := hG k (Nat.lt_succ_self k)
      refine lv_aload_n hx hb dX0_insertWaitedFor_22 rfl (lv_at hl 0 rfl) ?_
      refine va_get (D := E.1) (ci := 0) (v := .ref (a 2)) (C := RX0) (T := TX0) (N := 17) hx hb hts in0 hown hE.1 hP 0 (hs_lo 0 (by decide) rfl) rfl 2 (by decide) K22 (fun _ h9 => h9) rfl dX0_insertWaitedFor_23 ?_
      refine lv_aload_n hx hb dX0_insertWaitedFor_26 rfl (lv_at hl 0 rfl) ?_
      refine va_get (D := E.1) (ci := 0) (v := .ref (a 7)) (C := RX0) (T := TX0) (N := 17) hx hb hts in0 hown hE.1 hP 0 (hs_lo 0 (by decide) rfl) rfl 9 (by decide) K44 (fun _ h9 => h9) rfl dX0_insertWaitedFor_27 ?_
      refine lv_iload hx hb dX0_insertWaitedFor_30 (lv_at hl 4 rfl) ?_
      refine lv_iconst (v := 1) hx hb dX0_insertWaitedFor_32 (by decide) ?_
      refine lv_isub hx hb dX0_insertWaitedFor_33 ?_
      refine tpe (y := nI k) (nI_pred k) ?_
      refine q_iald hx hb hE hP 7 (hs_lo 7 (by decide) rfl) (j := k) (v := (G (297 + k))) rfl (by omega) (by decide) ((seg_at (by omega)).trans rfl) dX0_insertWaitedFor_34 ?_
      refine tpe (y := nI (ix (G (297 + k)))) e_j ?_
      refine q_aald hx hb hE hP 2 1 (hs_lo 2 (by decide) rfl) rfl (j := (ix (G (297 + k)))) rfl (by omega) (by decide) rfl dX0_insertWaitedFor_35 ?_
      refine lv_iload_n hx hb dX0_insertWaitedFor_36 rfl (lv_at hl 2 rfl) ?_
      refine ci_VN F hE (k_X1_holdsUntil l E a G (ix (G (297 + k))) t (by omega) (by omega)) ⟨va_cnB 1 hts gX0_insertWaitedFor_X1_holdsUntil_n211 rfl rfl rfl (ev_link hE nk_X0_211 rfl) (hts (.initialized RX1) (by decide +kernel)) (by decide +kernel) ⟨Nat.le_of_ble_eq_true rfl, Nat.le_of_ble_eq_true rfl⟩, hts (.instanceMethod yX1_holdsUntil) (by decide +kernel), hts (.selects RX1 yX1_holdsUntil yX1_holdsUntil) (by decide +kernel)⟩ Fr.all (8 + 6 * (ix (G (297 + k)))) 1 (hs_hi0 (by omega)) rfl rfl hP hD hS hA rfl hl.1 rfl (Nat.le_of_ble_eq_true rfl) dX0_insertWaitedFor_37 ⟨Nat.zero_le _, Nat.zero_le _⟩ (fun H locs hP hD hS => ?_)
      refine lv_iload_n hx hb dX0_insertWaitedFor_40 rfl (lv_at hl 3 rfl) ?_
      refine lv_icmp_ge (tgt := 66) hx hb dX0_insertWaitedFor_41 (by decide) (fun c_1 => ?_) (fun c_1 => ?_)
      · exact K66 (G, k + 1) (by rw [← hw]; unfold w_X0_ins; rw [if_pos c_1]) hk _ _ hP hD hS ls (lv_sub hl [0, 1, 2, 3, 4] rfl)
      · refine lv_aload_n hx hb dX0_insertWaitedFor_44 rfl (lv_at hl 0 rfl) ?_
        refine va_get (D := E.1) (ci := 0) (v := .ref (a 7)) (C := RX0) (T := TX0) (N := 17) hx hb hts in0 hown hE.1 hP 0 (hs_lo 0 (by decide) rfl) rfl 9 (by decide) K44 (fun _ h9 => h9) rfl dX0_insertWaitedFor_45 ?_
        refine lv_iload hx hb dX0_insertWaitedFor_48 (lv_at hl 4 rfl) ?_
        refine lv_aload_n hx hb dX0_insertWaitedFor_50 rfl (lv_at hl 0 rfl) ?_
        refine va_get (D := E.1) (ci := 0) (v := .ref (a 7)) (C := RX0) (T := TX0) (N := 17) hx hb hts in0 hown hE.1 hP 0 (hs_lo 0 (by decide) rfl) rfl 9 (by decide) K44 (fun _ h9 => h9) rfl dX0_insertWaitedFor_51 ?_
        refine lv_iload hx hb dX0_insertWaitedFor_54 (lv_at hl 4 rfl) ?_
        refine lv_iconst (v := 1) hx hb dX0_insertWaitedFor_56 (by decide) ?_
        refine lv_isub hx hb dX0_insertWaitedFor_57 ?_
        refine tpe (y := nI k) (nI_pred k) ?_
        refine q_iald hx hb hE hP 7 (hs_lo 7 (by decide) rfl) (j := k) (v := (G (297 + k))) rfl (by omega) (by decide) ((seg_at (by omega)).trans rfl) dX0_insertWaitedFor_58 ?_
        refine q_iast hx hb hE hP hD hS 7 (hs_lo 7 (by decide) rfl) (j := (k + 1)) (wd' := (hs E a (upd G (297 + (k + 1)) (G (297 + k))))) rfl (by omega) (by decide) (hs_w7 (by omega)) dX0_insertWaitedFor_59 (fun H locs hP hD hS => ?_)
        refine lv_iinc (v := (nI k)) (lv' := [(4, .int (nI k)), (0, .ref (a 0)), (1, .int (nI r)), (2, .int (nI t)), (3, .int (f_X1_holdsUntil g r t))]) hx hb dX0_insertWaitedFor_60 hl (k := 4) rfl (pk_m1 k) (by decide) rfl (fun ls hl => ?_)
        refine lv_goto (tgt := 17) hx hb dX0_insertWaitedFor_63 (by decide) ?_
        refine ih (upd G (297 + (k + 1)) (G (297 + k))) (by omega) (fun j hj => ?_) ?_ _ _ hP hD hS ls (lv_sub hl [1, 2, 3, 4, 0] rfl)
        · rw [up_n (by omega)]; exact hG j (by omega)
        · rw [← hw]
          show _ = (if f_X1_holdsUntil g r t ≤ f_X1_holdsUntil G (ix (G (297 + k))) t then (G, k + 1) else w_X0_ins t (f_X1_holdsUntil g r t) k (upd G (297 + (k + 1)) (G (297 + k))))
          rw [if_neg c_1]
  exact lp17 (ix (g 302)) g hW1 hW3 rfl _ _ hP hD hS ls (lv_sub hl [2, 3, 4, 1, 0] rfl)
/-- the two ways to lay a reader among those who are waited for -/
theorem ins_eq {t i : Nat} (ht : t < 12) (hi : i < 5) {u : Int32} : ∀ (k : Nat) (G : Nat → Int32), u = f_X3_lesser G i t → w_X0_ins t u k G = w_X3_layWaited_38 t i k G
  | 0, _, _ => rfl
  | k + 1, G, hu => by
    unfold w_X0_ins w_X3_layWaited_38
    rw [hu_eq, hu]
    split
    · rfl
    · rw [← hu]; exact ins_eq ht hi k _ (by rw [le_keep hi ht (by omega)]; exact hu)
def p_X0_noteWaitedFor_7 (g : Nat → Int32) (t : Nat) (S7 : (Nat → Int32)) (i : Nat) : (Nat → Int32) := (if (f_X0_isHolder S7 i t) = 0 then S7 else (s_X0_insertWaitedFor S7 i t))
def q_X0_noteWaitedFor_7 (g : Nat → Int32) (t : Nat) (S0 : (Nat → Int32)) : Nat → (Nat → Int32)
  | 0 => S0
  | i + 1 => p_X0_noteWaitedFor_7 g t (q_X0_noteWaitedFor_7 g t S0 i) i
def s_X0_noteWaitedFor (g : Nat → Int32) (t : Nat) : Nat → Int32 := (q_X0_noteWaitedFor_7 g t (upd g 302 0) 5)
theorem wi_mono {S : Nat → Int32} {i j : Nat} (h : WI S i) (hij : i ≤ j) : WI S j := ⟨Nat.le_trans h.1 hij, h.2⟩
theorem nw_p {g S : Nat → Int32} {t i : Nat} (ht : t < 12) (hi : i < 5) : p_X0_noteWaitedFor_7 g t S i = p_X3_layWaited_11 g t S i := by
  unfold p_X0_noteWaitedFor_7 p_X3_layWaited_11 s_X0_insertWaitedFor
  rw [ins_eq ht hi _ _ (hu_eq S i t)]
  rfl
theorem nw_q (g : Nat → Int32) {t : Nat} (ht : t < 12) : ∀ i, i ≤ 5 → q_X0_noteWaitedFor_7 g t (upd g 302 0) i = q_X3_layWaited_11 g t (upd g 302 0) i
  | 0, _ => rfl
  | i + 1, hi => by
    show p_X0_noteWaitedFor_7 g t (q_X0_noteWaitedFor_7 g t (upd g 302 0) i) i = p_X3_layWaited_11 g t (q_X3_layWaited_11 g t (upd g 302 0) i) i
    rw [nw_q g ht i (by omega)]
    exact nw_p ht (by omega)
theorem wi_X0_noteWaitedFor (g : Nat → Int32) (t : Nat) (ht : t < 12) (i : Nat) (hi : i ≤ 5) : WI (q_X0_noteWaitedFor_7 g t (upd g 302 0) i) i := by
  rw [nw_q g ht i hi]
  exact wi_X3_layWaited g t i hi
set_option maxHeartbeats 4000000 in
set_option maxRecDepth 100000 in
theorem k_X0_noteWaitedFor (l : Launch) (E : EE) (a : Nat → Nat) (g : Nat → Int32) (t : Nat) (ht : t < 12) : Cv l E yX0_noteWaitedFor wsX0_noteWaitedFor { frames := 4, cells := 0, slots := 0, locals := 86 } [.ref (a 0), .int (nI t)] (hs E a g) (hs E a (s_X0_noteWaitedFor g t)) := by
  refine Cv.of (cc := cX0_noteWaitedFor) (maxL := 3) (by decide) rfl (Nat.le_of_ble_eq_true rfl) ?_
  intro p e s m args below meth c A Q F hE hA hret hP hD ls hl
  obtain ⟨hx, hb, hml, hown, hts⟩ := id F
  have hS : va_S A s.heap s.heap [] := va_S.rf
  have hl : lv_has ls 3 [(0, .ref (a 0)), (1, .int (nI t))] := hl
  have in0 : ∀ w ∈ wsX00, w ∈ wsX0_noteWaitedFor := fun w h => List.mem_cons_of_mem _ (List.mem_append_left _ (List.mem_append_right _ h))
  have K22 := hts (.fieldLink RX0 22 "PromiseHours$House" "readers" "[LPromiseHours$Reader;") (by decide +kernel)
  have K47 := hts (.fieldLink RX0 47 "PromiseHours$House" "waitedCount" "I") (by decide +kernel)
  refine lv_aload_n hx hb dX0_noteWaitedFor_0 rfl (lv_at hl 0 rfl) ?_
  refine lv_iconst (v := 0) hx hb dX0_noteWaitedFor_1 (by decide) ?_
  refine va_put (D := E.1) (ci := 0) (v := .int 0) (ty := .int) (C := RX0) (T := TX0) (N := 17) hx hb hts in0 tyX0 tyX0_ok nmX0 hown hE.1 hP hD hS 0 (hs_lo 0 (by decide) rfl) rfl 10 (by decide) K47 (fun _ h9 => h9) rfl (by decide +kernel) rfl rfl (Nat.le_of_ble_eq_true rfl) dX0_noteWaitedFor_2 (fun H locs hP hD hS => ?_)
  rw [hs_f10] at hP hD
  have hP : va_P E.1 vwCl (hs E a (upd g 302 0)) H := hP
  have hD : va_D A (hs E a (upd g 302 0)) := hD
  refine lv_iconst (v := 0) hx hb dX0_noteWaitedFor_5 (by decide) ?_
  refine lv_istore_n (lv' := [(2, .int 0), (0, .ref (a 0)), (1, .int (nI t))]) hx hb dX0_noteWaitedFor_6 rfl hl (by decide) rfl (fun ls hl => ?_)
  have lp7 : ∀ (fu i : Nat), i ≤ 5 → 5 + 1 ≤ i + fu → ∀ (S7 : (Nat → Int32)), S7 = (q_X0_noteWaitedFor_7 g t (upd g 302 0) i) → ∀ (H : Heap) (locs : List Loc), va_P E.1 vwCl (hs E a S7) H → va_D A (hs E a S7) → va_S A s.heap H locs → ∀ ls : Array Slot, lv_has ls 3 [(0, .ref (a 0)), (1, .int (nI t)), (2, .int (nI i))] → W p l e { frames := 4, cells := 0, slots := 0, locals := 86 } s m args below meth c H locs 0 0 Q (F0 m 7 ls []) := by
    intro fu
    induction fu with
    | zero => intro i h1 h2; exact absurd h2 (by omega)
    | succ fu ih =>
      intro i hi hin S7 eS7 H locs hP hD hS ls hl
      refine lv_iload_n hx hb dX0_noteWaitedFor_7 rfl (lv_at hl 2 rfl) ?_
      refine lv_iconst (v := 5) hx hb dX0_noteWaitedFor_8 (by decide) ?_
      refine lv_icmp_ge (tgt := 38) hx hb dX0_noteWaitedFor_9 (by decide) (fun c_1 => ?_) (fun c_1 => ?_)
      · have hiN : i = 5 := by have := (nI_leI (a := 5) (b := i) (by omega) (by omega)).mp c_1; omega
        rw [hiN] at eS7 hl
        have eg : S7 = (s_X0_noteWaitedFor g t) := (by unfold s_X0_noteWaitedFor; rw [← eS7])
        exact hret _ _ _ _ (by rw [← eg]; exact hP) (by rw [← eg]; exact hD) hS dX0_noteWaitedFor_38
      · have hlt : i < 5 := Nat.lt_of_not_le (fun h => c_1 (nI_le (a := 5) (b := i) (by omega) (by omega)))
        have hW := wi_X0_noteWaitedFor g t ht i hi
        rw [← eS7] at hW
        refine lv_aload_n hx hb dX0_noteWaitedFor_12 rfl (lv_at hl 0 rfl) ?_
        refine lv_aload_n hx hb dX0_noteWaitedFor_13 rfl (lv_at hl 0 rfl) ?_
        refine va_get (D := E.1) (ci := 0) (v := .ref (a 2)) (C := RX0) (T := TX0) (N := 17) hx hb hts in0 hown hE.1 hP 0 (hs_lo 0 (by decide) rfl) rfl 2 (by decide) K22 (fun _ h9 => h9) rfl dX0_noteWaitedFor_14 ?_
        refine lv_iload_n hx hb dX0_noteWaitedFor_17 rfl (lv_at hl 2 rfl) ?_
        refine q_aald hx hb hE hP 2 1 (hs_lo 2 (by decide) rfl) rfl (j := i) rfl (by omega) (by decide) rfl dX0_noteWaitedFor_18 ?_
        refine lv_iload_n hx hb dX0_noteWaitedFor_19 rfl (lv_at hl 1 rfl) ?_
        refine ci_V F hE (k_X0_isHolder l E a S7 i t (by omega) (by omega)) (cwV 2 hts gX0_noteWaitedFor_X0_isHolder rfl rfl rfl (by decide +kernel) ⟨Nat.le_of_ble_eq_true rfl, Nat.le_of_ble_eq_true rfl⟩) Fr.all 0 0 (hs_lo 0 (by decide) rfl) rfl rfl hP hD hS hA rfl hl.1 rfl (Nat.le_of_ble_eq_true rfl) dX0_noteWaitedFor_20 ⟨Nat.zero_le _, Nat.zero_le _⟩ (fun H locs hP hD hS => ?_)
        refine lv_if_eq (tgt := 32) hx hb dX0_noteWaitedFor_23 (by decide) (fun c_2 => ?_) (fun c_2 => ?_)
        · refine lv_iinc (v := (nI (i + 1))) (lv' := [(2, .int (nI (i + 1))), (0, .ref (a 0)), (1, .int (nI t))]) hx hb dX0_noteWaitedFor_32 hl (k := 2) rfl (nI_1 i) (by decide) rfl (fun ls hl => ?_)
          refine lv_goto (tgt := 7) hx hb dX0_noteWaitedFor_35 (by decide) ?_
          have eS1 : (S7 : (Nat → Int32)) = (q_X0_noteWaitedFor_7 g t (upd g 302 0) (i + 1)) := by
            show _ = p_X0_noteWaitedFor_7 g t (q_X0_noteWaitedFor_7 g t (upd g 302 0) i) i
            rw [← eS7]
            unfold p_X0_noteWaitedFor_7; exact (if_pos c_2).symm
          exact ih (i + 1) (by omega) (by omega) S7 eS1 _ _ hP hD hS ls (lv_sub hl [1, 2, 0] rfl)
        · refine lv_aload_n hx hb dX0_noteWaitedFor_26 rfl (lv_at hl 0 rfl) ?_
          refine lv_iload_n hx hb dX0_noteWaitedFor_27 rfl (lv_at hl 2 rfl) ?_
          refine lv_iload_n hx hb dX0_noteWaitedFor_28 rfl (lv_at hl 1 rfl) ?_
          refine cv_V F hE (k_X0_insertWaitedFor l E a S7 i t (by omega) (by omega) (wi_mono hW (by omega))) (cwV 2 hts gX0_noteWaitedFor_X0_insertWaitedFor rfl rfl rfl (by decide +kernel) ⟨Nat.le_of_ble_eq_true rfl, Nat.le_of_ble_eq_true rfl⟩) Fr.all 0 0 (hs_lo 0 (by decide) rfl) rfl rfl hP hD hS hA rfl hl.1 rfl (Nat.le_of_ble_eq_true rfl) dX0_noteWaitedFor_29 ⟨Nat.zero_le _, Nat.zero_le _⟩ (fun H locs hP hD hS => ?_)
          have hP : va_P E.1 vwCl (hs E a (s_X0_insertWaitedFor S7 i t)) H := hP
          have hD : va_D A (hs E a (s_X0_insertWaitedFor S7 i t)) := hD
          refine lv_iinc (v := (nI (i + 1))) (lv' := [(2, .int (nI (i + 1))), (0, .ref (a 0)), (1, .int (nI t))]) hx hb dX0_noteWaitedFor_32 hl (k := 2) rfl (nI_1 i) (by decide) rfl (fun ls hl => ?_)
          refine lv_goto (tgt := 7) hx hb dX0_noteWaitedFor_35 (by decide) ?_
          have eS1 : ((s_X0_insertWaitedFor S7 i t) : (Nat → Int32)) = (q_X0_noteWaitedFor_7 g t (upd g 302 0) (i + 1)) := by
            show _ = p_X0_noteWaitedFor_7 g t (q_X0_noteWaitedFor_7 g t (upd g 302 0) i) i
            rw [← eS7]
            unfold p_X0_noteWaitedFor_7; exact (if_neg c_2).symm
          exact ih (i + 1) (by omega) (by omega) (s_X0_insertWaitedFor S7 i t) eS1 _ _ hP hD hS ls (lv_sub hl [1, 2, 0] rfl)
  exact lp7 (5 + 1) 0 (Nat.zero_le _) (by omega) (upd g 302 0) rfl _ _ hP hD hS ls (lv_sub hl [1, 2, 0] rfl)
def t1_X0_noteCauses (g : Nat → Int32) (r : Nat) (t : Nat) : Nat → Int32 := (s_X0_addCauseIf (upd g 296 0) (if (g (42 + r)) = 0 then 1 else 0 : Int32) 1)
def t2_X0_noteCauses (g : Nat → Int32) (r : Nat) (t : Nat) : Nat → Int32 := (s_X0_addCauseIf (t1_X0_noteCauses g r t) (f_X0_isOver (t1_X0_noteCauses g r t) r ((t1_X0_noteCauses g r t) (52 + 3 * r + t / 4))) 2)
def t3_X0_noteCauses (g : Nat → Int32) (r : Nat) (t : Nat) : Nat → Int32 := (s_X0_addCauseIf (t2_X0_noteCauses g r t) (f_X0_isOver (t2_X0_noteCauses g r t) r ((t2_X0_noteCauses g r t) (142 + 12 * r + t))) 3)
def t4_X0_noteCauses (g : Nat → Int32) (r : Nat) (t : Nat) : Nat → Int32 := (s_X0_addCauseIf (t3_X0_noteCauses g r t) (if (f_X1_hasCopy (t3_X0_noteCauses g r t) r t) = 0 then 1 else 0 : Int32) 4)
def s_X0_noteCauses (g : Nat → Int32) (r : Nat) (t : Nat) : Nat → Int32 := (t4_X0_noteCauses g r t)
set_option maxHeartbeats 4000000 in
set_option maxRecDepth 100000 in
theorem k_X0_noteCauses (l : Launch) (E : EE) (a : Nat → Nat) (g : Nat → Int32) (r : Nat) (t : Nat) (hr : r < 5) (ht : t < 12) : Cv l E yX0_noteCauses wsX0_noteCauses { frames := 2, cells := 0, slots := 0, locals := 41 } [.ref (a 0), .ref (a (8 + 6 * r)), .int (nI t)] (hs E a g) (hs E a (s_X0_noteCauses g r t)) := by
  refine Cv.of (cc := cX0_noteCauses) (maxL := 3) (by decide) rfl (Nat.le_of_ble_eq_true rfl) ?_
  intro p e s m args below meth c A Q F hE hA hret hP hD ls hl
  obtain ⟨hx, hb, hml, hown, hts⟩ := id F
  have hS : va_S A s.heap s.heap [] := va_S.rf
  have hl : lv_has ls 3 [(0, .ref (a 0)), (1, .ref (a (8 + 6 * r))), (2, .int (nI t))] := hl
  have in0 : ∀ w ∈ wsX00, w ∈ wsX0_noteCauses := fun w h => List.mem_cons_of_mem _ (List.mem_append_left _ (List.mem_append_right _ h))
  have in1 : ∀ w ∈ wsX10, w ∈ wsX0_noteCauses := fun w h => List.mem_cons_of_mem _ (List.mem_append_right _ h)
  have K41 := hts (.fieldLink RX0 41 "PromiseHours$House" "causeCount" "I") (by decide +kernel)
  refine lv_aload_n hx hb dX0_noteCauses_0 rfl (lv_at hl 0 rfl) ?_
  refine lv_iconst (v := 0) hx hb dX0_noteCauses_1 (by decide) ?_
  refine va_put (D := E.1) (ci := 0) (v := .int 0) (ty := .int) (C := RX0) (T := TX0) (N := 17) hx hb hts in0 tyX0 tyX0_ok nmX0 hown hE.1 hP hD hS 0 (hs_lo 0 (by decide) rfl) rfl 8 (by decide) K41 (fun _ h9 => h9) rfl (by decide +kernel) rfl rfl (Nat.le_of_ble_eq_true rfl) dX0_noteCauses_2 (fun H locs hP hD hS => ?_)
  rw [hs_f8] at hP hD
  have hP : va_P E.1 vwCl (hs E a (upd g 296 0)) H := hP
  have hD : va_D A (hs E a (upd g 296 0)) := hD
  refine lv_aload_n hx hb dX0_noteCauses_5 rfl (lv_at hl 0 rfl) ?_
  refine lv_aload_n hx hb dX0_noteCauses_6 rfl (lv_at hl 1 rfl) ?_
  refine va_getN (D := E.1) (ci := 1) (v := .int ((upd g 296 0) (42 + r))) (C := RX1) (T := TX1) (N := 13) hx hb hts in1 hown hE.1 hP (8 + 6 * r) (hs_hi0 (by omega)) rfl 0 (by decide) (ev_use hE nk_X0_122 rfl) (fun _ h9 => h9) rfl dX0_noteCauses_7 ?_
  refine tpe (up_n (by omega)) ?_
  have J_18_1 : ∀ (w : Int32) (H : Heap) (locs : List Loc), va_P E.1 vwCl (hs E a (upd g 296 0)) H → va_D A (hs E a (upd g 296 0)) → va_S A s.heap H locs → w = (if (g (42 + r)) = 0 then 1 else 0 : Int32) → W p l e { frames := 2, cells := 0, slots := 0, locals := 41 } s m args below meth c H locs 0 0 Q (F0 m 18 ls [.int w, .ref (a 0)]) := by
    intro w H locs hP hD hS ew
    rw [ew]
    refine lv_iconst (v := 1) hx hb dX0_noteCauses_18 (by decide) ?_
    refine cv_V F hE (k_X0_addCauseIf l E a (upd g 296 0) (if (g (42 + r)) = 0 then 1 else 0 : Int32) 1 (cb_0 _).2) (cwV 2 hts gX0_noteCauses_X0_addCauseIf rfl rfl rfl (by decide +kernel) ⟨Nat.le_of_ble_eq_true rfl, Nat.le_of_ble_eq_true rfl⟩) Fr.all 0 0 (hs_lo 0 (by decide) rfl) rfl rfl hP hD hS hA rfl hl.1 rfl (Nat.le_of_ble_eq_true rfl) dX0_noteCauses_19 ⟨Nat.zero_le _, Nat.zero_le _⟩ (fun H locs hP hD hS => ?_)
    have hP : va_P E.1 vwCl (hs E a (t1_X0_noteCauses g r t)) H := hP
    have hD : va_D A (hs E a (t1_X0_noteCauses g r t)) := hD
    refine lv_aload_n hx hb dX0_noteCauses_22 rfl (lv_at hl 0 rfl) ?_
    refine lv_aload_n hx hb dX0_noteCauses_23 rfl (lv_at hl 0 rfl) ?_
    refine lv_aload_n hx hb dX0_noteCauses_24 rfl (lv_at hl 1 rfl) ?_
    refine lv_aload_n hx hb dX0_noteCauses_25 rfl (lv_at hl 1 rfl) ?_
    refine lv_iload_n hx hb dX0_noteCauses_26 rfl (lv_at hl 2 rfl) ?_
    refine ci_VN F hE (k_X1_volumeTermFor l E a (t1_X0_noteCauses g r t) r t (by omega) (by omega)) ⟨va_cnB 1 hts gX0_noteCauses_X1_volumeTermFor_n95 rfl rfl rfl (ev_link hE nk_X0_95 rfl) (hts (.initialized RX1) (by decide +kernel)) (by decide +kernel) ⟨Nat.le_of_ble_eq_true rfl, Nat.le_of_ble_eq_true rfl⟩, hts (.instanceMethod yX1_volumeTermFor) (by decide +kernel), hts (.selects RX1 yX1_volumeTermFor yX1_volumeTermFor) (by decide +kernel)⟩ Fr.all (8 + 6 * r) 1 (hs_hi0 (by omega)) rfl rfl hP hD hS hA rfl hl.1 rfl (Nat.le_of_ble_eq_true rfl) dX0_noteCauses_27 ⟨Nat.zero_le _, Nat.zero_le _⟩ (fun H locs hP hD hS => ?_)
    refine ci_V F hE (k_X0_isOver l E a (t1_X0_noteCauses g r t) r ((t1_X0_noteCauses g r t) (52 + 3 * r + t / 4)) (by omega)) (cwV 2 hts gX0_noteCauses_X0_isOver rfl rfl rfl (by decide +kernel) ⟨Nat.le_of_ble_eq_true rfl, Nat.le_of_ble_eq_true rfl⟩) Fr.all 0 0 (hs_lo 0 (by decide) rfl) rfl rfl hP hD hS hA rfl hl.1 rfl (Nat.le_of_ble_eq_true rfl) dX0_noteCauses_30 ⟨Nat.zero_le _, Nat.zero_le _⟩ (fun H locs hP hD hS => ?_)
    refine lv_iconst (v := 2) hx hb dX0_noteCauses_33 (by decide) ?_
    refine cv_V F hE (k_X0_addCauseIf l E a (t1_X0_noteCauses g r t) (f_X0_isOver (t1_X0_noteCauses g r t) r ((t1_X0_noteCauses g r t) (52 + 3 * r + t / 4))) 2 (cb_c _ _ (cb_0 _)).2) (cwV 2 hts gX0_noteCauses_X0_addCauseIf rfl rfl rfl (by decide +kernel) ⟨Nat.le_of_ble_eq_true rfl, Nat.le_of_ble_eq_true rfl⟩) Fr.all 0 0 (hs_lo 0 (by decide) rfl) rfl rfl hP hD hS hA rfl hl.1 rfl (Nat.le_of_ble_eq_true rfl) dX0_noteCauses_34 ⟨Nat.zero_le _, Nat.zero_le _⟩ (fun H locs hP hD hS => ?_)
    have hP : va_P E.1 vwCl (hs E a (t2_X0_noteCauses g r t)) H := hP
    have hD : va_D A (hs E a (t2_X0_noteCauses g r t)) := hD
    refine lv_aload_n hx hb dX0_noteCauses_37 rfl (lv_at hl 0 rfl) ?_
    refine lv_aload_n hx hb dX0_noteCauses_38 rfl (lv_at hl 0 rfl) ?_
    refine lv_aload_n hx hb dX0_noteCauses_39 rfl (lv_at hl 1 rfl) ?_
    refine lv_aload_n hx hb dX0_noteCauses_40 rfl (lv_at hl 1 rfl) ?_
    refine va_getN (D := E.1) (ci := 1) (v := .ref (a (8 + 6 * r + 2))) (C := RX1) (T := TX1) (N := 13) hx hb hts in1 hown hE.1 hP (8 + 6 * r) (hs_hi0 (by omega)) rfl 3 (by decide) (ev_use hE nk_X0_88 rfl) (fun _ h9 => h9) rfl dX0_noteCauses_41 ?_
    refine lv_iload_n hx hb dX0_noteCauses_44 rfl (lv_at hl 2 rfl) ?_
    refine q_iald hx hb hE hP (8 + 6 * r + 2) (hs_hi 2 (by omega) (by decide) rfl) (j := t) (v := ((t2_X0_noteCauses g r t) (142 + 12 * r + t))) rfl (by omega) (by decide) ((seg_at (by omega)).trans rfl) dX0_noteCauses_45 ?_
    refine ci_V F hE (k_X0_isOver l E a (t2_X0_noteCauses g r t) r ((t2_X0_noteCauses g r t) (142 + 12 * r + t)) (by omega)) (cwV 2 hts gX0_noteCauses_X0_isOver rfl rfl rfl (by decide +kernel) ⟨Nat.le_of_ble_eq_true rfl, Nat.le_of_ble_eq_true rfl⟩) Fr.all 0 0 (hs_lo 0 (by decide) rfl) rfl rfl hP hD hS hA rfl hl.1 rfl (Nat.le_of_ble_eq_true rfl) dX0_noteCauses_46 ⟨Nat.zero_le _, Nat.zero_le _⟩ (fun H locs hP hD hS => ?_)
    refine lv_iconst (v := 3) hx hb dX0_noteCauses_49 (by decide) ?_
    refine cv_V F hE (k_X0_addCauseIf l E a (t2_X0_noteCauses g r t) (f_X0_isOver (t2_X0_noteCauses g r t) r ((t2_X0_noteCauses g r t) (142 + 12 * r + t))) 3 (cb_c _ _ (cb_c _ _ (cb_0 _))).2) (cwV 2 hts gX0_noteCauses_X0_addCauseIf rfl rfl rfl (by decide +kernel) ⟨Nat.le_of_ble_eq_true rfl, Nat.le_of_ble_eq_true rfl⟩) Fr.all 0 0 (hs_lo 0 (by decide) rfl) rfl rfl hP hD hS hA rfl hl.1 rfl (Nat.le_of_ble_eq_true rfl) dX0_noteCauses_50 ⟨Nat.zero_le _, Nat.zero_le _⟩ (fun H locs hP hD hS => ?_)
    have hP : va_P E.1 vwCl (hs E a (t3_X0_noteCauses g r t)) H := hP
    have hD : va_D A (hs E a (t3_X0_noteCauses g r t)) := hD
    refine lv_aload_n hx hb dX0_noteCauses_53 rfl (lv_at hl 0 rfl) ?_
    refine lv_aload_n hx hb dX0_noteCauses_54 rfl (lv_at hl 1 rfl) ?_
    refine lv_iload_n hx hb dX0_noteCauses_55 rfl (lv_at hl 2 rfl) ?_
    refine ci_VN F hE (k_X1_hasCopy l E a (t3_X0_noteCauses g r t) r t (by omega) (by omega)) ⟨va_cnB 1 hts gX0_noteCauses_X1_hasCopy_n84 rfl rfl rfl (ev_link hE nk_X0_84 rfl) (hts (.initialized RX1) (by decide +kernel)) (by decide +kernel) ⟨Nat.le_of_ble_eq_true rfl, Nat.le_of_ble_eq_true rfl⟩, hts (.instanceMethod yX1_hasCopy) (by decide +kernel), hts (.selects RX1 yX1_hasCopy yX1_hasCopy) (by decide +kernel)⟩ Fr.all (8 + 6 * r) 1 (hs_hi0 (by omega)) rfl rfl hP hD hS hA rfl hl.1 rfl (Nat.le_of_ble_eq_true rfl) dX0_noteCauses_56 ⟨Nat.zero_le _, Nat.zero_le _⟩ (fun H locs hP hD hS => ?_)
    have J_67_3 : ∀ (w : Int32) (H : Heap) (locs : List Loc), va_P E.1 vwCl (hs E a (t3_X0_noteCauses g r t)) H → va_D A (hs E a (t3_X0_noteCauses g r t)) → va_S A s.heap H locs → w = (if (f_X1_hasCopy (t3_X0_noteCauses g r t) r t) = 0 then 1 else 0 : Int32) → W p l e { frames := 2, cells := 0, slots := 0, locals := 41 } s m args below meth c H locs 0 0 Q (F0 m 67 ls [.int w, .ref (a 0)]) := by
      intro w H locs hP hD hS ew
      rw [ew]
      refine lv_iconst (v := 4) hx hb dX0_noteCauses_67 (by decide) ?_
      refine cv_V F hE (k_X0_addCauseIf l E a (t3_X0_noteCauses g r t) (if (f_X1_hasCopy (t3_X0_noteCauses g r t) r t) = 0 then 1 else 0 : Int32) 4 (cb_c _ _ (cb_c _ _ (cb_c _ _ (cb_0 _)))).2) (cwV 2 hts gX0_noteCauses_X0_addCauseIf rfl rfl rfl (by decide +kernel) ⟨Nat.le_of_ble_eq_true rfl, Nat.le_of_ble_eq_true rfl⟩) Fr.all 0 0 (hs_lo 0 (by decide) rfl) rfl rfl hP hD hS hA rfl hl.1 rfl (Nat.le_of_ble_eq_true rfl) dX0_noteCauses_68 ⟨Nat.zero_le _, Nat.zero_le _⟩ (fun H locs hP hD hS => ?_)
      have hP : va_P E.1 vwCl (hs E a (t4_X0_noteCauses g r t)) H := hP
      have hD : va_D A (hs E a (t4_X0_noteCauses g r t)) := hD
      have eg : (t4_X0_noteCauses g r t) = (s_X0_noteCauses g r t) := rfl
      exact hret _ _ _ _ (by rw [← eg]; exact hP) (by rw [← eg]; exact hD) hS dX0_noteCauses_71
    refine lv_if_ne (tgt := 66) hx hb dX0_noteCauses_59 (by decide) (fun c_4 => ?_) (fun c_4 => ?_)
    · refine lv_iconst (v := 0) hx hb dX0_noteCauses_66 (by decide) ?_
      exact J_67_3 _ _ _ hP hD hS (if_neg c_4).symm
    · refine lv_iconst (v := 1) hx hb dX0_noteCauses_62 (by decide) ?_
      refine lv_goto (tgt := 67) hx hb dX0_noteCauses_63 (by decide) ?_
      exact J_67_3 _ _ _ hP hD hS (if_pos c_4).symm
  refine lv_if_ne (tgt := 17) hx hb dX0_noteCauses_10 (by decide) (fun c_2 => ?_) (fun c_2 => ?_)
  · refine lv_iconst (v := 0) hx hb dX0_noteCauses_17 (by decide) ?_
    exact J_18_1 _ _ _ hP hD hS (if_neg c_2).symm
  · refine lv_iconst (v := 1) hx hb dX0_noteCauses_13 (by decide) ?_
    refine lv_goto (tgt := 18) hx hb dX0_noteCauses_14 (by decide) ?_
    exact J_18_1 _ _ _ hP hD hS (if_pos c_2).symm
