theorem ix_lt (x : Int32) : ix x < 2 ^ 31 := by
  have h : x.toInt < 2 ^ 31 := Int32.toInt_lt x
  show x.toInt.toNat < 2 ^ 31
  omega
theorem lt_of_c {x : Int32} {n : Nat} (h : x = nI (ix x)) {m : Int32} (hc : ¬ m ≤ x) (hm : m = nI n := by rfl) : ix x < n := by
  rcases Nat.lt_or_ge (ix x) n with q | q
  · exact q
  · exfalso
    apply hc
    rw [hm, h]
    exact nI_le q (ix_lt x)
def f_X2_isReader (x : Int32) : Int32 := (if x < 0 then 0 else (if 5 ≤ x then 0 else 1) : Int32)
theorem nar_X2_isReader (x : Int32) : narrow .boolean (.int (f_X2_isReader x)) = .int (f_X2_isReader x) := by unfold f_X2_isReader; (repeat' split) <;> rfl
set_option maxHeartbeats 4000000 in
set_option maxRecDepth 100000 in
theorem k_X2_isReader (l : Launch) (E : EE)  (x : Int32)  : Ci l E yX2_isReader wsX2_isReader { frames := 0, cells := 0, slots := 0, locals := 0 } [.int x] [] (f_X2_isReader x) [] := by
  refine Ci.of (cc := cX2_isReader) (maxL := 1) (rt := .boolean) (by decide) rfl (nar_X2_isReader x) (Nat.le_of_ble_eq_true rfl) ?_
  intro p e s m args below meth c A Q F hE hA hret hP hD ls hl
  obtain ⟨hx, hb, hml, hown, hts⟩ := id F
  have hS : va_S A s.heap s.heap [] := va_S.rf
  have hl : lv_has ls 1 [(0, .int x)] := hl
  refine lv_iload_n hx hb dX2_isReader_0 rfl (lv_at hl 0 rfl) ?_
  have J_14_1 : ∀ (w : Int32) (H : Heap) (locs : List Loc), va_P E.1 vwCl [] H → va_D A [] → va_S A s.heap H locs → w = (if x < 0 then 0 else (if 5 ≤ x then 0 else 1) : Int32) → W p l e { frames := 0, cells := 0, slots := 0, locals := 0 } s m args below meth c H locs 0 0 Q (F0 m 14 ls [.int w]) := by
    intro w H locs hP hD hS ew
    rw [ew]
    exact hret _ _ _ _ _ hP hD hS rfl dX2_isReader_14
  refine lv_if_lt (tgt := 13) hx hb dX2_isReader_1 (by decide) (fun c_2 => ?_) (fun c_2 => ?_)
  · refine lv_iconst (v := 0) hx hb dX2_isReader_13 (by decide) ?_
    exact J_14_1 _ _ _ hP hD hS (if_pos c_2).symm
  · refine lv_iload_n hx hb dX2_isReader_4 rfl (lv_at hl 0 rfl) ?_
    refine lv_iconst (v := 5) hx hb dX2_isReader_5 (by decide) ?_
    refine lv_icmp_ge (tgt := 13) hx hb dX2_isReader_6 (by decide) (fun c_3 => ?_) (fun c_3 => ?_)
    · refine lv_iconst (v := 0) hx hb dX2_isReader_13 (by decide) ?_
      exact J_14_1 _ _ _ hP hD hS ((if_neg c_2).trans (if_pos c_3)).symm
    · refine lv_iconst (v := 1) hx hb dX2_isReader_9 (by decide) ?_
      refine lv_goto (tgt := 14) hx hb dX2_isReader_10 (by decide) ?_
      exact J_14_1 _ _ _ hP hD hS ((if_neg c_2).trans (if_neg c_3)).symm
def f_X2_isThing (x : Int32) : Int32 := (if x < 0 then 0 else (if 12 ≤ x then 0 else 1) : Int32)
theorem nar_X2_isThing (x : Int32) : narrow .boolean (.int (f_X2_isThing x)) = .int (f_X2_isThing x) := by unfold f_X2_isThing; (repeat' split) <;> rfl
set_option maxHeartbeats 4000000 in
set_option maxRecDepth 100000 in
theorem k_X2_isThing (l : Launch) (E : EE)  (x : Int32)  : Ci l E yX2_isThing wsX2_isThing { frames := 0, cells := 0, slots := 0, locals := 0 } [.int x] [] (f_X2_isThing x) [] := by
  refine Ci.of (cc := cX2_isThing) (maxL := 1) (rt := .boolean) (by decide) rfl (nar_X2_isThing x) (Nat.le_of_ble_eq_true rfl) ?_
  intro p e s m args below meth c A Q F hE hA hret hP hD ls hl
  obtain ⟨hx, hb, hml, hown, hts⟩ := id F
  have hS : va_S A s.heap s.heap [] := va_S.rf
  have hl : lv_has ls 1 [(0, .int x)] := hl
  refine lv_iload_n hx hb dX2_isThing_0 rfl (lv_at hl 0 rfl) ?_
  have J_15_1 : ∀ (w : Int32) (H : Heap) (locs : List Loc), va_P E.1 vwCl [] H → va_D A [] → va_S A s.heap H locs → w = (if x < 0 then 0 else (if 12 ≤ x then 0 else 1) : Int32) → W p l e { frames := 0, cells := 0, slots := 0, locals := 0 } s m args below meth c H locs 0 0 Q (F0 m 15 ls [.int w]) := by
    intro w H locs hP hD hS ew
    rw [ew]
    exact hret _ _ _ _ _ hP hD hS rfl dX2_isThing_15
  refine lv_if_lt (tgt := 14) hx hb dX2_isThing_1 (by decide) (fun c_2 => ?_) (fun c_2 => ?_)
  · refine lv_iconst (v := 0) hx hb dX2_isThing_14 (by decide) ?_
    exact J_15_1 _ _ _ hP hD hS (if_pos c_2).symm
  · refine lv_iload_n hx hb dX2_isThing_4 rfl (lv_at hl 0 rfl) ?_
    refine lv_bipush (v := 12) hx hb dX2_isThing_5 (by decide) ?_
    refine lv_icmp_ge (tgt := 14) hx hb dX2_isThing_7 (by decide) (fun c_3 => ?_) (fun c_3 => ?_)
    · refine lv_iconst (v := 0) hx hb dX2_isThing_14 (by decide) ?_
      exact J_15_1 _ _ _ hP hD hS ((if_neg c_2).trans (if_pos c_3)).symm
    · refine lv_iconst (v := 1) hx hb dX2_isThing_10 (by decide) ?_
      refine lv_goto (tgt := 15) hx hb dX2_isThing_11 (by decide) ?_
      exact J_15_1 _ _ _ hP hD hS ((if_neg c_2).trans (if_neg c_3)).symm
def f_X2_isImage (x : Int32) : Int32 := (if x < 0 then 0 else (if 2 ≤ x then 0 else 1) : Int32)
theorem nar_X2_isImage (x : Int32) : narrow .boolean (.int (f_X2_isImage x)) = .int (f_X2_isImage x) := by unfold f_X2_isImage; (repeat' split) <;> rfl
set_option maxHeartbeats 4000000 in
set_option maxRecDepth 100000 in
theorem k_X2_isImage (l : Launch) (E : EE)  (x : Int32)  : Ci l E yX2_isImage wsX2_isImage { frames := 0, cells := 0, slots := 0, locals := 0 } [.int x] [] (f_X2_isImage x) [] := by
  refine Ci.of (cc := cX2_isImage) (maxL := 1) (rt := .boolean) (by decide) rfl (nar_X2_isImage x) (Nat.le_of_ble_eq_true rfl) ?_
  intro p e s m args below meth c A Q F hE hA hret hP hD ls hl
  obtain ⟨hx, hb, hml, hown, hts⟩ := id F
  have hS : va_S A s.heap s.heap [] := va_S.rf
  have hl : lv_has ls 1 [(0, .int x)] := hl
  refine lv_iload_n hx hb dX2_isImage_0 rfl (lv_at hl 0 rfl) ?_
  have J_14_1 : ∀ (w : Int32) (H : Heap) (locs : List Loc), va_P E.1 vwCl [] H → va_D A [] → va_S A s.heap H locs → w = (if x < 0 then 0 else (if 2 ≤ x then 0 else 1) : Int32) → W p l e { frames := 0, cells := 0, slots := 0, locals := 0 } s m args below meth c H locs 0 0 Q (F0 m 14 ls [.int w]) := by
    intro w H locs hP hD hS ew
    rw [ew]
    exact hret _ _ _ _ _ hP hD hS rfl dX2_isImage_14
  refine lv_if_lt (tgt := 13) hx hb dX2_isImage_1 (by decide) (fun c_2 => ?_) (fun c_2 => ?_)
  · refine lv_iconst (v := 0) hx hb dX2_isImage_13 (by decide) ?_
    exact J_14_1 _ _ _ hP hD hS (if_pos c_2).symm
  · refine lv_iload_n hx hb dX2_isImage_4 rfl (lv_at hl 0 rfl) ?_
    refine lv_iconst (v := 2) hx hb dX2_isImage_5 (by decide) ?_
    refine lv_icmp_ge (tgt := 13) hx hb dX2_isImage_6 (by decide) (fun c_3 => ?_) (fun c_3 => ?_)
    · refine lv_iconst (v := 0) hx hb dX2_isImage_13 (by decide) ?_
      exact J_14_1 _ _ _ hP hD hS ((if_neg c_2).trans (if_pos c_3)).symm
    · refine lv_iconst (v := 1) hx hb dX2_isImage_9 (by decide) ?_
      refine lv_goto (tgt := 14) hx hb dX2_isImage_10 (by decide) ?_
      exact J_14_1 _ _ _ hP hD hS ((if_neg c_2).trans (if_neg c_3)).symm
set_option maxHeartbeats 4000000 in
set_option maxRecDepth 100000 in
theorem k_X2_volumeOf (l : Launch) (E : EE)  (t : Nat) (ht : t < 2 ^ 31) : Ci l E yX2_volumeOf wsX2_volumeOf { frames := 0, cells := 0, slots := 0, locals := 0 } [.int (nI t)] [] (nI (t / 4)) [] := by
  refine Ci.of (cc := cX2_volumeOf) (maxL := 1) (rt := .int) (by decide) rfl rfl (Nat.le_of_ble_eq_true rfl) ?_
  intro p e s m args below meth c A Q F hE hA hret hP hD ls hl
  obtain ⟨hx, hb, hml, hown, hts⟩ := id F
  have hS : va_S A s.heap s.heap [] := va_S.rf
  have hl : lv_has ls 1 [(0, .int (nI t))] := hl
  refine lv_iload_n hx hb dX2_volumeOf_0 rfl (lv_at hl 0 rfl) ?_
  refine lv_iconst (v := 4) hx hb dX2_volumeOf_1 (by decide) ?_
  refine lv_idiv hx hb dX2_volumeOf_2 (by decide) ?_
  refine tpe (y := nI (t / 4)) (pk_div (d := 4) (by omega) (by decide) (by decide)) ?_
  exact hret _ _ _ _ _ hP hD hS rfl dX2_volumeOf_3
def f_X2_isInSet (s0 : Int32) (n : Int32) : Int32 := (if (s0 &&& (1 <<< (n &&& 31))) = 0 then 0 else 1 : Int32)
theorem nar_X2_isInSet (s0 : Int32) (n : Int32) : narrow .boolean (.int (f_X2_isInSet s0 n)) = .int (f_X2_isInSet s0 n) := by unfold f_X2_isInSet; (repeat' split) <;> rfl
set_option maxHeartbeats 4000000 in
set_option maxRecDepth 100000 in
theorem k_X2_isInSet (l : Launch) (E : EE)  (s0 : Int32) (n : Int32)  : Ci l E yX2_isInSet wsX2_isInSet { frames := 0, cells := 0, slots := 0, locals := 0 } [.int s0, .int n] [] (f_X2_isInSet s0 n) [] := by
  refine Ci.of (cc := cX2_isInSet) (maxL := 2) (rt := .boolean) (by decide) rfl (nar_X2_isInSet s0 n) (Nat.le_of_ble_eq_true rfl) ?_
  intro p e s m args below meth c A Q F hE hA hret hP hD ls hl
  obtain ⟨hx, hb, hml, hown, hts⟩ := id F
  have hS : va_S A s.heap s.heap [] := va_S.rf
  have hl : lv_has ls 2 [(0, .int s0), (1, .int n)] := hl
  refine lv_iload_n hx hb dX2_isInSet_0 rfl (lv_at hl 0 rfl) ?_
  refine lv_iconst (v := 1) hx hb dX2_isInSet_1 (by decide) ?_
  refine lv_iload_n hx hb dX2_isInSet_2 rfl (lv_at hl 1 rfl) ?_
  refine lv_ishl hx hb dX2_isInSet_3 ?_
  refine lv_iand hx hb dX2_isInSet_4 ?_
  have J_13_1 : ∀ (w : Int32) (H : Heap) (locs : List Loc), va_P E.1 vwCl [] H → va_D A [] → va_S A s.heap H locs → w = (if (s0 &&& (1 <<< (n &&& 31))) = 0 then 0 else 1 : Int32) → W p l e { frames := 0, cells := 0, slots := 0, locals := 0 } s m args below meth c H locs 0 0 Q (F0 m 13 ls [.int w]) := by
    intro w H locs hP hD hS ew
    rw [ew]
    exact hret _ _ _ _ _ hP hD hS rfl dX2_isInSet_13
  refine lv_if_eq (tgt := 12) hx hb dX2_isInSet_5 (by decide) (fun c_2 => ?_) (fun c_2 => ?_)
  · refine lv_iconst (v := 0) hx hb dX2_isInSet_12 (by decide) ?_
    exact J_13_1 _ _ _ hP hD hS (if_pos c_2).symm
  · refine lv_iconst (v := 1) hx hb dX2_isInSet_8 (by decide) ?_
    refine lv_goto (tgt := 13) hx hb dX2_isInSet_9 (by decide) ?_
    exact J_13_1 _ _ _ hP hD hS (if_neg c_2).symm
def f_X2_bit (b : Int32) : Int32 := (if b = 0 then 0 else 1 : Int32)
set_option maxHeartbeats 4000000 in
set_option maxRecDepth 100000 in
theorem k_X2_bit (l : Launch) (E : EE)  (b : Int32)  : Ci l E yX2_bit wsX2_bit { frames := 0, cells := 0, slots := 0, locals := 0 } [.int b] [] (f_X2_bit b) [] := by
  refine Ci.of (cc := cX2_bit) (maxL := 1) (rt := .int) (by decide) rfl rfl (Nat.le_of_ble_eq_true rfl) ?_
  intro p e s m args below meth c A Q F hE hA hret hP hD ls hl
  obtain ⟨hx, hb, hml, hown, hts⟩ := id F
  have hS : va_S A s.heap s.heap [] := va_S.rf
  have hl : lv_has ls 1 [(0, .int b)] := hl
  refine lv_iload_n hx hb dX2_bit_0 rfl (lv_at hl 0 rfl) ?_
  have J_9_1 : ∀ (w : Int32) (H : Heap) (locs : List Loc), va_P E.1 vwCl [] H → va_D A [] → va_S A s.heap H locs → w = (if b = 0 then 0 else 1 : Int32) → W p l e { frames := 0, cells := 0, slots := 0, locals := 0 } s m args below meth c H locs 0 0 Q (F0 m 9 ls [.int w]) := by
    intro w H locs hP hD hS ew
    rw [ew]
    exact hret _ _ _ _ _ hP hD hS rfl dX2_bit_9
  refine lv_if_eq (tgt := 8) hx hb dX2_bit_1 (by decide) (fun c_2 => ?_) (fun c_2 => ?_)
  · refine lv_iconst (v := 0) hx hb dX2_bit_8 (by decide) ?_
    exact J_9_1 _ _ _ hP hD hS (if_pos c_2).symm
  · refine lv_iconst (v := 1) hx hb dX2_bit_4 (by decide) ?_
    refine lv_goto (tgt := 9) hx hb dX2_bit_5 (by decide) ?_
    exact J_9_1 _ _ _ hP hD hS (if_neg c_2).symm
def f_X1_hasCopy (g : Nat → Int32) (r : Nat) (t : Nat) : Int32 := (if (g (82 + 12 * r + t)) = (-6) then 0 else 1 : Int32)
theorem nar_X1_hasCopy (g : Nat → Int32) (r : Nat) (t : Nat) : narrow .boolean (.int (f_X1_hasCopy g r t)) = .int (f_X1_hasCopy g r t) := by unfold f_X1_hasCopy; (repeat' split) <;> rfl
set_option maxHeartbeats 4000000 in
set_option maxRecDepth 100000 in
theorem k_X1_hasCopy (l : Launch) (E : EE) (a : Nat → Nat) (g : Nat → Int32) (r : Nat) (t : Nat) (hr : r < 5) (ht : t < 12) : Ci l E yX1_hasCopy wsX1_hasCopy { frames := 0, cells := 0, slots := 0, locals := 0 } [.ref (a (8 + 6 * r)), .int (nI t)] (hs E a g) (f_X1_hasCopy g r t) (hs E a g) := by
  refine Ci.of (cc := cX1_hasCopy) (maxL := 2) (rt := .boolean) (by decide) rfl (nar_X1_hasCopy g r t) (Nat.le_of_ble_eq_true rfl) ?_
  intro p e s m args below meth c A Q F hE hA hret hP hD ls hl
  obtain ⟨hx, hb, hml, hown, hts⟩ := id F
  have hS : va_S A s.heap s.heap [] := va_S.rf
  have hl : lv_has ls 2 [(0, .ref (a (8 + 6 * r))), (1, .int (nI t))] := hl
  have in1 : ∀ w ∈ wsX10, w ∈ wsX1_hasCopy := fun w h => List.mem_cons_of_mem _ (List.mem_append_right _ h)
  have K19 := hts (.fieldLink RX1 19 "PromiseHours$Reader" "copies" "[I") (by decide +kernel)
  refine lv_aload_n hx hb dX1_hasCopy_0 rfl (lv_at hl 0 rfl) ?_
  refine va_get (D := E.1) (ci := 1) (v := .ref (a (8 + 6 * r + 1))) (C := RX1) (T := TX1) (N := 13) hx hb hts in1 hown hE.1 hP (8 + 6 * r) (hs_hi0 (by omega)) rfl 2 (by decide) K19 (fun _ h9 => h9) rfl dX1_hasCopy_1 ?_
  refine lv_iload_n hx hb dX1_hasCopy_4 rfl (lv_at hl 1 rfl) ?_
  refine q_iald hx hb hE hP (8 + 6 * r + 1) (hs_hi 1 (by omega) (by decide) rfl) (j := t) (v := (g (82 + 12 * r + t))) rfl (by omega) (by decide) ((seg_at (by omega)).trans rfl) dX1_hasCopy_5 ?_
  refine lv_bipush (v := -6) hx hb dX1_hasCopy_6 (by decide) ?_
  have J_16_1 : ∀ (w : Int32) (H : Heap) (locs : List Loc), va_P E.1 vwCl (hs E a g) H → va_D A (hs E a g) → va_S A s.heap H locs → w = (if (g (82 + 12 * r + t)) = (-6) then 0 else 1 : Int32) → W p l e { frames := 0, cells := 0, slots := 0, locals := 0 } s m args below meth c H locs 0 0 Q (F0 m 16 ls [.int w]) := by
    intro w H locs hP hD hS ew
    rw [ew]
    exact hret _ _ _ _ _ hP hD hS rfl dX1_hasCopy_16
  refine lv_icmp_eq (tgt := 15) hx hb dX1_hasCopy_8 (by decide) (fun c_2 => ?_) (fun c_2 => ?_)
  · refine lv_iconst (v := 0) hx hb dX1_hasCopy_15 (by decide) ?_
    exact J_16_1 _ _ _ hP hD hS (if_pos c_2).symm
  · refine lv_iconst (v := 1) hx hb dX1_hasCopy_11 (by decide) ?_
    refine lv_goto (tgt := 16) hx hb dX1_hasCopy_12 (by decide) ?_
    exact J_16_1 _ _ _ hP hD hS (if_neg c_2).symm
set_option maxHeartbeats 4000000 in
set_option maxRecDepth 100000 in
theorem k_X1_takeCopy (l : Launch) (E : EE) (a : Nat → Nat) (g : Nat → Int32) (r : Nat) (t : Nat) (v : Int32) (u : Int32) (hr : r < 5) (ht : t < 12) : Cv l E yX1_takeCopy wsX1_takeCopy { frames := 0, cells := 0, slots := 0, locals := 0 } [.ref (a (8 + 6 * r)), .int (nI t), .int v, .int u] (hs E a g) (hs E a (upd (upd (upd g (82 + 12 * r + t) v) (142 + 12 * r + t) u) (202 + 12 * r + t) u)) := by
  refine Cv.of (cc := cX1_takeCopy) (maxL := 4) (by decide) rfl (Nat.le_of_ble_eq_true rfl) ?_
  intro p e s m args below meth c A Q F hE hA hret hP hD ls hl
  obtain ⟨hx, hb, hml, hown, hts⟩ := id F
  have hS : va_S A s.heap s.heap [] := va_S.rf
  have hl : lv_has ls 4 [(0, .ref (a (8 + 6 * r))), (1, .int (nI t)), (2, .int v), (3, .int u)] := hl
  have in1 : ∀ w ∈ wsX10, w ∈ wsX1_takeCopy := fun w h => List.mem_cons_of_mem _ (List.mem_append_right _ h)
  have K19 := hts (.fieldLink RX1 19 "PromiseHours$Reader" "copies" "[I") (by decide +kernel)
  have K23 := hts (.fieldLink RX1 23 "PromiseHours$Reader" "terms" "[I") (by decide +kernel)
  have K26 := hts (.fieldLink RX1 26 "PromiseHours$Reader" "promises" "[I") (by decide +kernel)
  refine lv_aload_n hx hb dX1_takeCopy_0 rfl (lv_at hl 0 rfl) ?_
  refine va_get (D := E.1) (ci := 1) (v := .ref (a (8 + 6 * r + 1))) (C := RX1) (T := TX1) (N := 13) hx hb hts in1 hown hE.1 hP (8 + 6 * r) (hs_hi0 (by omega)) rfl 2 (by decide) K19 (fun _ h9 => h9) rfl dX1_takeCopy_1 ?_
  refine lv_iload_n hx hb dX1_takeCopy_4 rfl (lv_at hl 1 rfl) ?_
  refine lv_iload_n hx hb dX1_takeCopy_5 rfl (lv_at hl 2 rfl) ?_
  refine q_iast hx hb hE hP hD hS (8 + 6 * r + 1) (hs_hi 1 (by omega) (by decide) rfl) (j := t) (wd' := (hs E a (upd g (82 + 12 * r + t) v))) rfl (by omega) (by decide) (hs_u1 (by omega) (by omega)) dX1_takeCopy_6 (fun H locs hP hD hS => ?_)
  refine lv_aload_n hx hb dX1_takeCopy_7 rfl (lv_at hl 0 rfl) ?_
  refine va_get (D := E.1) (ci := 1) (v := .ref (a (8 + 6 * r + 2))) (C := RX1) (T := TX1) (N := 13) hx hb hts in1 hown hE.1 hP (8 + 6 * r) (hs_hi0 (by omega)) rfl 3 (by decide) K23 (fun _ h9 => h9) rfl dX1_takeCopy_8 ?_
  refine lv_iload_n hx hb dX1_takeCopy_11 rfl (lv_at hl 1 rfl) ?_
  refine lv_iload_n hx hb dX1_takeCopy_12 rfl (lv_at hl 3 rfl) ?_
  refine q_iast hx hb hE hP hD hS (8 + 6 * r + 2) (hs_hi 2 (by omega) (by decide) rfl) (j := t) (wd' := (hs E a (upd (upd g (82 + 12 * r + t) v) (142 + 12 * r + t) u))) rfl (by omega) (by decide) (hs_u2 (by omega) (by omega)) dX1_takeCopy_13 (fun H locs hP hD hS => ?_)
  refine lv_aload_n hx hb dX1_takeCopy_14 rfl (lv_at hl 0 rfl) ?_
  refine va_get (D := E.1) (ci := 1) (v := .ref (a (8 + 6 * r + 3))) (C := RX1) (T := TX1) (N := 13) hx hb hts in1 hown hE.1 hP (8 + 6 * r) (hs_hi0 (by omega)) rfl 4 (by decide) K26 (fun _ h9 => h9) rfl dX1_takeCopy_15 ?_
  refine lv_iload_n hx hb dX1_takeCopy_18 rfl (lv_at hl 1 rfl) ?_
  refine lv_iload_n hx hb dX1_takeCopy_19 rfl (lv_at hl 3 rfl) ?_
  refine q_iast hx hb hE hP hD hS (8 + 6 * r + 3) (hs_hi 3 (by omega) (by decide) rfl) (j := t) (wd' := (hs E a (upd (upd (upd g (82 + 12 * r + t) v) (142 + 12 * r + t) u) (202 + 12 * r + t) u))) rfl (by omega) (by decide) (hs_u3 (by omega) (by omega)) dX1_takeCopy_20 (fun H locs hP hD hS => ?_)
  exact hret _ _ _ _ hP hD hS dX1_takeCopy_21
set_option maxHeartbeats 4000000 in
set_option maxRecDepth 100000 in
theorem k_X1_dropCopy (l : Launch) (E : EE) (a : Nat → Nat) (g : Nat → Int32) (r : Nat) (t : Nat) (hr : r < 5) (ht : t < 12) : Cv l E yX1_dropCopy wsX1_dropCopy { frames := 1, cells := 0, slots := 0, locals := 23 } [.ref (a (8 + 6 * r)), .int (nI t)] (hs E a g) (hs E a (upd (upd (upd g (82 + 12 * r + t) (-6)) (142 + 12 * r + t) 0) (202 + 12 * r + t) 0)) := by
  refine Cv.of (cc := cX1_dropCopy) (maxL := 2) (by decide) rfl (Nat.le_of_ble_eq_true rfl) ?_
  intro p e s m args below meth c A Q F hE hA hret hP hD ls hl
  obtain ⟨hx, hb, hml, hown, hts⟩ := id F
  have hS : va_S A s.heap s.heap [] := va_S.rf
  have hl : lv_has ls 2 [(0, .ref (a (8 + 6 * r))), (1, .int (nI t))] := hl
  refine lv_aload_n hx hb dX1_dropCopy_0 rfl (lv_at hl 0 rfl) ?_
  refine lv_iload_n hx hb dX1_dropCopy_1 rfl (lv_at hl 1 rfl) ?_
  refine lv_bipush (v := -6) hx hb dX1_dropCopy_2 (by decide) ?_
  refine lv_iconst (v := 0) hx hb dX1_dropCopy_4 (by decide) ?_
  refine cv_V F hE (k_X1_takeCopy l E a g r t (-6) 0 (by omega) (by omega)) (cwV 3 hts gX1_dropCopy_X1_takeCopy rfl rfl rfl (by decide +kernel) ⟨Nat.le_of_ble_eq_true rfl, Nat.le_of_ble_eq_true rfl⟩) Fr.all (8 + 6 * r) 1 (hs_hi0 (by omega)) rfl rfl hP hD hS hA rfl hl.1 rfl (Nat.le_of_ble_eq_true rfl) dX1_dropCopy_5 ⟨Nat.zero_le _, Nat.zero_le _⟩ (fun H locs hP hD hS => ?_)
  have hP : va_P E.1 vwCl (hs E a (upd (upd (upd g (82 + 12 * r + t) (-6)) (142 + 12 * r + t) 0) (202 + 12 * r + t) 0)) H := hP
  have hD : va_D A (hs E a (upd (upd (upd g (82 + 12 * r + t) (-6)) (142 + 12 * r + t) 0) (202 + 12 * r + t) 0)) := hD
  exact hret _ _ _ _ hP hD hS dX1_dropCopy_8
set_option maxHeartbeats 4000000 in
set_option maxRecDepth 100000 in
theorem k_X1_volumeTermFor (l : Launch) (E : EE) (a : Nat → Nat) (g : Nat → Int32) (r : Nat) (t : Nat) (hr : r < 5) (ht : t < 12) : Ci l E yX1_volumeTermFor wsX1_volumeTermFor { frames := 1, cells := 0, slots := 0, locals := 20 } [.ref (a (8 + 6 * r)), .int (nI t)] (hs E a g) (g (52 + 3 * r + t / 4)) (hs E a g) := by
  refine Ci.of (cc := cX1_volumeTermFor) (maxL := 2) (rt := .int) (by decide) rfl rfl (Nat.le_of_ble_eq_true rfl) ?_
  intro p e s m args below meth c A Q F hE hA hret hP hD ls hl
  obtain ⟨hx, hb, hml, hown, hts⟩ := id F
  have hS : va_S A s.heap s.heap [] := va_S.rf
  have hl : lv_has ls 2 [(0, .ref (a (8 + 6 * r))), (1, .int (nI t))] := hl
  have in1 : ∀ w ∈ wsX10, w ∈ wsX1_volumeTermFor := fun w h => List.mem_cons_of_mem _ (List.mem_append_right _ h)
  have K29 := hts (.fieldLink RX1 29 "PromiseHours$Reader" "volumeTerms" "[I") (by decide +kernel)
  refine lv_aload_n hx hb dX1_volumeTermFor_0 rfl (lv_at hl 0 rfl) ?_
  refine va_get (D := E.1) (ci := 1) (v := .ref (a (8 + 6 * r + 4))) (C := RX1) (T := TX1) (N := 13) hx hb hts in1 hown hE.1 hP (8 + 6 * r) (hs_hi0 (by omega)) rfl 5 (by decide) K29 (fun _ h9 => h9) rfl dX1_volumeTermFor_1 ?_
  refine lv_iload_n hx hb dX1_volumeTermFor_4 rfl (lv_at hl 1 rfl) ?_
  refine ci_SN F hE (k_X2_volumeOf l E t (by omega)) ⟨va_cnB 1 hts gX1_volumeTermFor_X2_volumeOf_n63 rfl rfl rfl (ev_link hE nk_X1_63 rfl) (hts (.initialized RX2) (by decide +kernel)) (by decide +kernel) ⟨Nat.le_of_ble_eq_true rfl, Nat.le_of_ble_eq_true rfl⟩, hts (.static yX2_volumeOf) (by decide +kernel), trivial⟩ Fr.nil hP hD hS hA rfl hl.1 rfl (Nat.le_of_ble_eq_true rfl) dX1_volumeTermFor_5 ⟨Nat.zero_le _, Nat.zero_le _⟩ (fun H locs hP hD hS => ?_)
  refine q_iald hx hb hE hP (8 + 6 * r + 4) (hs_hi 4 (by omega) (by decide) rfl) (j := (t / 4)) (v := (g (52 + 3 * r + t / 4))) rfl (by omega) (by decide) ((seg_at (by omega)).trans rfl) dX1_volumeTermFor_8 ?_
  exact hret _ _ _ _ _ hP hD hS rfl dX1_volumeTermFor_9
def f_X1_holdsUntil (g : Nat → Int32) (r : Nat) (t : Nat) : Int32 := (if (g (52 + 3 * r + t / 4)) < (g (202 + 12 * r + t)) then (g (52 + 3 * r + t / 4)) else (g (202 + 12 * r + t)))
set_option maxHeartbeats 4000000 in
set_option maxRecDepth 100000 in
theorem k_X1_holdsUntil (l : Launch) (E : EE) (a : Nat → Nat) (g : Nat → Int32) (r : Nat) (t : Nat) (hr : r < 5) (ht : t < 12) : Ci l E yX1_holdsUntil wsX1_holdsUntil { frames := 2, cells := 0, slots := 0, locals := 41 } [.ref (a (8 + 6 * r)), .int (nI t)] (hs E a g) (f_X1_holdsUntil g r t) (hs E a g) := by
  refine Ci.of (cc := cX1_holdsUntil) (maxL := 2) (rt := .int) (by decide) rfl rfl (Nat.le_of_ble_eq_true rfl) ?_
  intro p e s m args below meth c A Q F hE hA hret hP hD ls hl
  obtain ⟨hx, hb, hml, hown, hts⟩ := id F
  have hS : va_S A s.heap s.heap [] := va_S.rf
  have hl : lv_has ls 2 [(0, .ref (a (8 + 6 * r))), (1, .int (nI t))] := hl
  have in1 : ∀ w ∈ wsX10, w ∈ wsX1_holdsUntil := fun w h => List.mem_cons_of_mem _ (List.mem_append_right _ h)
  have K26 := hts (.fieldLink RX1 26 "PromiseHours$Reader" "promises" "[I") (by decide +kernel)
  refine lv_aload_n hx hb dX1_holdsUntil_0 rfl (lv_at hl 0 rfl) ?_
  refine va_get (D := E.1) (ci := 1) (v := .ref (a (8 + 6 * r + 3))) (C := RX1) (T := TX1) (N := 13) hx hb hts in1 hown hE.1 hP (8 + 6 * r) (hs_hi0 (by omega)) rfl 4 (by decide) K26 (fun _ h9 => h9) rfl dX1_holdsUntil_1 ?_
  refine lv_iload_n hx hb dX1_holdsUntil_4 rfl (lv_at hl 1 rfl) ?_
  refine q_iald hx hb hE hP (8 + 6 * r + 3) (hs_hi 3 (by omega) (by decide) rfl) (j := t) (v := (g (202 + 12 * r + t))) rfl (by omega) (by decide) ((seg_at (by omega)).trans rfl) dX1_holdsUntil_5 ?_
  refine lv_aload_n hx hb dX1_holdsUntil_6 rfl (lv_at hl 0 rfl) ?_
  refine lv_iload_n hx hb dX1_holdsUntil_7 rfl (lv_at hl 1 rfl) ?_
  refine ci_V F hE (k_X1_volumeTermFor l E a g r t (by omega) (by omega)) (cwV 1 hts gX1_holdsUntil_X1_volumeTermFor rfl rfl rfl (by decide +kernel) ⟨Nat.le_of_ble_eq_true rfl, Nat.le_of_ble_eq_true rfl⟩) Fr.all (8 + 6 * r) 1 (hs_hi0 (by omega)) rfl rfl hP hD hS hA rfl hl.1 rfl (Nat.le_of_ble_eq_true rfl) dX1_holdsUntil_8 ⟨Nat.zero_le _, Nat.zero_le _⟩ (fun H locs hP hD hS => ?_)
  refine va_mmin hx hb (hml.trans hl.1.symm) hown (hts (.methodLink RX1 70 Lib.Math.min.name) (by decide +kernel)) (hts (.static Lib.Math.min.name) (by decide +kernel)) (hts (.initialized "java/lang/Math") (by decide +kernel)) (hts (.code Lib.Math.min.name Lib.Math.min.code 2 (some .int)) (by decide +kernel)) (Nat.le_of_ble_eq_true rfl) (Nat.le_of_ble_eq_true rfl) (Nat.zero_le _) (Nat.zero_le _) dX1_holdsUntil_11 ?_
  exact hret _ _ _ _ _ hP hD hS rfl dX1_holdsUntil_14
def f_X0_isOver (g : Nat → Int32) (r : Nat) (x : Int32) : Int32 := (if (((g 0) + (g (47 + r))) + (g 3)) < x then 0 else 1 : Int32)
theorem nar_X0_isOver (g : Nat → Int32) (r : Nat) (x : Int32) : narrow .boolean (.int (f_X0_isOver g r x)) = .int (f_X0_isOver g r x) := by unfold f_X0_isOver; (repeat' split) <;> rfl
set_option maxHeartbeats 4000000 in
set_option maxRecDepth 100000 in
theorem k_X0_isOver (l : Launch) (E : EE) (a : Nat → Nat) (g : Nat → Int32) (r : Nat) (x : Int32) (hr : r < 5) : Ci l E yX0_isOver wsX0_isOver { frames := 0, cells := 0, slots := 0, locals := 0 } [.ref (a 0), .ref (a (8 + 6 * r)), .int x] (hs E a g) (f_X0_isOver g r x) (hs E a g) := by
  refine Ci.of (cc := cX0_isOver) (maxL := 3) (rt := .boolean) (by decide) rfl (nar_X0_isOver g r x) (Nat.le_of_ble_eq_true rfl) ?_
  intro p e s m args below meth c A Q F hE hA hret hP hD ls hl
  obtain ⟨hx, hb, hml, hown, hts⟩ := id F
  have hS : va_S A s.heap s.heap [] := va_S.rf
  have hl : lv_has ls 3 [(0, .ref (a 0)), (1, .ref (a (8 + 6 * r))), (2, .int x)] := hl
  have in0 : ∀ w ∈ wsX00, w ∈ wsX0_isOver := fun w h => List.mem_cons_of_mem _ (List.mem_append_left _ (List.mem_append_right _ h))
  have in1 : ∀ w ∈ wsX10, w ∈ wsX0_isOver := fun w h => List.mem_cons_of_mem _ (List.mem_append_right _ h)
  have K15 := hts (.fieldLink RX0 15 "PromiseHours$House" "rules" "[I") (by decide +kernel)
  have K9 := hts (.fieldLink RX0 9 "PromiseHours$House" "tick" "I") (by decide +kernel)
  refine lv_aload_n hx hb dX0_isOver_0 rfl (lv_at hl 0 rfl) ?_
  refine va_get (D := E.1) (ci := 0) (v := .int (g 0)) (C := RX0) (T := TX0) (N := 17) hx hb hts in0 hown hE.1 hP 0 (hs_lo 0 (by decide) rfl) rfl 0 (by decide) K9 (fun _ h9 => h9) rfl dX0_isOver_1 ?_
  refine lv_aload_n hx hb dX0_isOver_4 rfl (lv_at hl 1 rfl) ?_
  refine va_getN (D := E.1) (ci := 1) (v := .int (g (47 + r))) (C := RX1) (T := TX1) (N := 13) hx hb hts in1 hown hE.1 hP (8 + 6 * r) (hs_hi0 (by omega)) rfl 1 (by decide) (ev_use hE nk_X0_81 rfl) (fun _ h9 => h9) rfl dX0_isOver_5 ?_
  refine lv_iadd hx hb dX0_isOver_8 ?_
  refine lv_aload_n hx hb dX0_isOver_9 rfl (lv_at hl 0 rfl) ?_
  refine va_get (D := E.1) (ci := 0) (v := .ref (a 1)) (C := RX0) (T := TX0) (N := 17) hx hb hts in0 hown hE.1 hP 0 (hs_lo 0 (by decide) rfl) rfl 1 (by decide) K15 (fun _ h9 => h9) rfl dX0_isOver_10 ?_
  refine lv_iconst (v := 2) hx hb dX0_isOver_13 (by decide) ?_
  refine q_iald hx hb hE hP 1 (hs_lo 1 (by decide) rfl) (j := 2) (v := (g 3)) rfl (by omega) (by decide) ((seg_at (by omega)).trans rfl) dX0_isOver_14 ?_
  refine lv_iadd hx hb dX0_isOver_15 ?_
  refine lv_iload_n hx hb dX0_isOver_16 rfl (lv_at hl 2 rfl) ?_
  have J_25_1 : ∀ (w : Int32) (H : Heap) (locs : List Loc), va_P E.1 vwCl (hs E a g) H → va_D A (hs E a g) → va_S A s.heap H locs → w = (if (((g 0) + (g (47 + r))) + (g 3)) < x then 0 else 1 : Int32) → W p l e { frames := 0, cells := 0, slots := 0, locals := 0 } s m args below meth c H locs 0 0 Q (F0 m 25 ls [.int w]) := by
    intro w H locs hP hD hS ew
    rw [ew]
    exact hret _ _ _ _ _ hP hD hS rfl dX0_isOver_25
  refine lv_icmp_lt (tgt := 24) hx hb dX0_isOver_17 (by decide) (fun c_2 => ?_) (fun c_2 => ?_)
  · refine lv_iconst (v := 0) hx hb dX0_isOver_24 (by decide) ?_
    exact J_25_1 _ _ _ hP hD hS (if_pos c_2).symm
  · refine lv_iconst (v := 1) hx hb dX0_isOver_20 (by decide) ?_
    refine lv_goto (tgt := 25) hx hb dX0_isOver_21 (by decide) ?_
    exact J_25_1 _ _ _ hP hD hS (if_neg c_2).symm
def f_X0_canUse (g : Nat → Int32) (r : Nat) (t : Nat) : Int32 := (if (f_X1_hasCopy g r t) = 0 then 0 else (if (f_X0_isOver g r (g (142 + 12 * r + t))) = 0 then (if (f_X0_isOver g r (g (52 + 3 * r + t / 4))) = 0 then 1 else 0) else 0) : Int32)
theorem nar_X0_canUse (g : Nat → Int32) (r : Nat) (t : Nat) : narrow .boolean (.int (f_X0_canUse g r t)) = .int (f_X0_canUse g r t) := by unfold f_X0_canUse; (repeat' split) <;> rfl
set_option maxHeartbeats 4000000 in
set_option maxRecDepth 100000 in
theorem k_X0_canUse (l : Launch) (E : EE) (a : Nat → Nat) (g : Nat → Int32) (r : Nat) (t : Nat) (hr : r < 5) (ht : t < 12) : Ci l E yX0_canUse wsX0_canUse { frames := 2, cells := 0, slots := 0, locals := 41 } [.ref (a 0), .ref (a (8 + 6 * r)), .int (nI t)] (hs E a g) (f_X0_canUse g r t) (hs E a g) := by
  refine Ci.of (cc := cX0_canUse) (maxL := 3) (rt := .boolean) (by decide) rfl (nar_X0_canUse g r t) (Nat.le_of_ble_eq_true rfl) ?_
  intro p e s m args below meth c A Q F hE hA hret hP hD ls hl
  obtain ⟨hx, hb, hml, hown, hts⟩ := id F
  have hS : va_S A s.heap s.heap [] := va_S.rf
  have hl : lv_has ls 3 [(0, .ref (a 0)), (1, .ref (a (8 + 6 * r))), (2, .int (nI t))] := hl
  have in1 : ∀ w ∈ wsX10, w ∈ wsX0_canUse := fun w h => List.mem_cons_of_mem _ (List.mem_append_left _ (List.mem_append_right _ h))
  refine lv_aload_n hx hb dX0_canUse_0 rfl (lv_at hl 1 rfl) ?_
  refine lv_iload_n hx hb dX0_canUse_1 rfl (lv_at hl 2 rfl) ?_
  refine ci_VN F hE (k_X1_hasCopy l E a g r t (by omega) (by omega)) ⟨va_cnB 1 hts gX0_canUse_X1_hasCopy_n84 rfl rfl rfl (ev_link hE nk_X0_84 rfl) (hts (.initialized RX1) (by decide +kernel)) (by decide +kernel) ⟨Nat.le_of_ble_eq_true rfl, Nat.le_of_ble_eq_true rfl⟩, hts (.instanceMethod yX1_hasCopy) (by decide +kernel), hts (.selects RX1 yX1_hasCopy yX1_hasCopy) (by decide +kernel)⟩ Fr.all (8 + 6 * r) 1 (hs_hi0 (by omega)) rfl rfl hP hD hS hA rfl hl.1 rfl (Nat.le_of_ble_eq_true rfl) dX0_canUse_2 ⟨Nat.zero_le _, Nat.zero_le _⟩ (fun H locs hP hD hS => ?_)
  have J_40_1 : ∀ (w : Int32) (H : Heap) (locs : List Loc), va_P E.1 vwCl (hs E a g) H → va_D A (hs E a g) → va_S A s.heap H locs → w = (if (f_X1_hasCopy g r t) = 0 then 0 else (if (f_X0_isOver g r (g (142 + 12 * r + t))) = 0 then (if (f_X0_isOver g r (g (52 + 3 * r + t / 4))) = 0 then 1 else 0) else 0) : Int32) → W p l e { frames := 2, cells := 0, slots := 0, locals := 41 } s m args below meth c H locs 0 0 Q (F0 m 40 ls [.int w]) := by
    intro w H locs hP hD hS ew
    rw [ew]
    exact hret _ _ _ _ _ hP hD hS rfl dX0_canUse_40
  refine lv_if_eq (tgt := 39) hx hb dX0_canUse_5 (by decide) (fun c_2 => ?_) (fun c_2 => ?_)
  · refine lv_iconst (v := 0) hx hb dX0_canUse_39 (by decide) ?_
    exact J_40_1 _ _ _ hP hD hS (if_pos c_2).symm
  · refine lv_aload_n hx hb dX0_canUse_8 rfl (lv_at hl 0 rfl) ?_
    refine lv_aload_n hx hb dX0_canUse_9 rfl (lv_at hl 1 rfl) ?_
    refine lv_aload_n hx hb dX0_canUse_10 rfl (lv_at hl 1 rfl) ?_
    refine va_getN (D := E.1) (ci := 1) (v := .ref (a (8 + 6 * r + 2))) (C := RX1) (T := TX1) (N := 13) hx hb hts in1 hown hE.1 hP (8 + 6 * r) (hs_hi0 (by omega)) rfl 3 (by decide) (ev_use hE nk_X0_88 rfl) (fun _ h9 => h9) rfl dX0_canUse_11 ?_
    refine lv_iload_n hx hb dX0_canUse_14 rfl (lv_at hl 2 rfl) ?_
    refine q_iald hx hb hE hP (8 + 6 * r + 2) (hs_hi 2 (by omega) (by decide) rfl) (j := t) (v := (g (142 + 12 * r + t))) rfl (by omega) (by decide) ((seg_at (by omega)).trans rfl) dX0_canUse_15 ?_
    refine ci_V F hE (k_X0_isOver l E a g r (g (142 + 12 * r + t)) (by omega)) (cwV 2 hts gX0_canUse_X0_isOver rfl rfl rfl (by decide +kernel) ⟨Nat.le_of_ble_eq_true rfl, Nat.le_of_ble_eq_true rfl⟩) Fr.all 0 0 (hs_lo 0 (by decide) rfl) rfl rfl hP hD hS hA rfl hl.1 rfl (Nat.le_of_ble_eq_true rfl) dX0_canUse_16 ⟨Nat.zero_le _, Nat.zero_le _⟩ (fun H locs hP hD hS => ?_)
    refine lv_if_ne (tgt := 39) hx hb dX0_canUse_19 (by decide) (fun c_3 => ?_) (fun c_3 => ?_)
    · refine lv_iconst (v := 0) hx hb dX0_canUse_39 (by decide) ?_
      exact J_40_1 _ _ _ hP hD hS ((if_neg c_2).trans (if_neg c_3)).symm
    · refine lv_aload_n hx hb dX0_canUse_22 rfl (lv_at hl 0 rfl) ?_
      refine lv_aload_n hx hb dX0_canUse_23 rfl (lv_at hl 1 rfl) ?_
      refine lv_aload_n hx hb dX0_canUse_24 rfl (lv_at hl 1 rfl) ?_
      refine lv_iload_n hx hb dX0_canUse_25 rfl (lv_at hl 2 rfl) ?_
      refine ci_VN F hE (k_X1_volumeTermFor l E a g r t (by omega) (by omega)) ⟨va_cnB 1 hts gX0_canUse_X1_volumeTermFor_n95 rfl rfl rfl (ev_link hE nk_X0_95 rfl) (hts (.initialized RX1) (by decide +kernel)) (by decide +kernel) ⟨Nat.le_of_ble_eq_true rfl, Nat.le_of_ble_eq_true rfl⟩, hts (.instanceMethod yX1_volumeTermFor) (by decide +kernel), hts (.selects RX1 yX1_volumeTermFor yX1_volumeTermFor) (by decide +kernel)⟩ Fr.all (8 + 6 * r) 1 (hs_hi0 (by omega)) rfl rfl hP hD hS hA rfl hl.1 rfl (Nat.le_of_ble_eq_true rfl) dX0_canUse_26 ⟨Nat.zero_le _, Nat.zero_le _⟩ (fun H locs hP hD hS => ?_)
      refine ci_V F hE (k_X0_isOver l E a g r (g (52 + 3 * r + t / 4)) (by omega)) (cwV 2 hts gX0_canUse_X0_isOver rfl rfl rfl (by decide +kernel) ⟨Nat.le_of_ble_eq_true rfl, Nat.le_of_ble_eq_true rfl⟩) Fr.all 0 0 (hs_lo 0 (by decide) rfl) rfl rfl hP hD hS hA rfl hl.1 rfl (Nat.le_of_ble_eq_true rfl) dX0_canUse_29 ⟨Nat.zero_le _, Nat.zero_le _⟩ (fun H locs hP hD hS => ?_)
      refine lv_if_ne (tgt := 39) hx hb dX0_canUse_32 (by decide) (fun c_4 => ?_) (fun c_4 => ?_)
      · refine lv_iconst (v := 0) hx hb dX0_canUse_39 (by decide) ?_
        exact J_40_1 _ _ _ hP hD hS ((if_neg c_2).trans ((if_pos c_3).trans (if_neg c_4))).symm
      · refine lv_iconst (v := 1) hx hb dX0_canUse_35 (by decide) ?_
        refine lv_goto (tgt := 40) hx hb dX0_canUse_36 (by decide) ?_
        exact J_40_1 _ _ _ hP hD hS ((if_neg c_2).trans ((if_pos c_3).trans (if_pos c_4))).symm
def f_X0_isHolder (g : Nat → Int32) (r : Nat) (t : Nat) : Int32 := (if (g (202 + 12 * r + t)) ≤ (g 0) then 0 else 1 : Int32)
theorem nar_X0_isHolder (g : Nat → Int32) (r : Nat) (t : Nat) : narrow .boolean (.int (f_X0_isHolder g r t)) = .int (f_X0_isHolder g r t) := by unfold f_X0_isHolder; (repeat' split) <;> rfl
set_option maxHeartbeats 4000000 in
set_option maxRecDepth 100000 in
theorem k_X0_isHolder (l : Launch) (E : EE) (a : Nat → Nat) (g : Nat → Int32) (r : Nat) (t : Nat) (hr : r < 5) (ht : t < 12) : Ci l E yX0_isHolder wsX0_isHolder { frames := 0, cells := 0, slots := 0, locals := 0 } [.ref (a 0), .ref (a (8 + 6 * r)), .int (nI t)] (hs E a g) (f_X0_isHolder g r t) (hs E a g) := by
  refine Ci.of (cc := cX0_isHolder) (maxL := 3) (rt := .boolean) (by decide) rfl (nar_X0_isHolder g r t) (Nat.le_of_ble_eq_true rfl) ?_
  intro p e s m args below meth c A Q F hE hA hret hP hD ls hl
  obtain ⟨hx, hb, hml, hown, hts⟩ := id F
  have hS : va_S A s.heap s.heap [] := va_S.rf
  have hl : lv_has ls 3 [(0, .ref (a 0)), (1, .ref (a (8 + 6 * r))), (2, .int (nI t))] := hl
  have in0 : ∀ w ∈ wsX00, w ∈ wsX0_isHolder := fun w h => List.mem_cons_of_mem _ (List.mem_append_right _ h)
  have in1 : ∀ w ∈ wsX10, w ∈ wsX0_isHolder := fun w h => List.mem_cons_of_mem _ (List.mem_append_left _ (List.mem_append_right _ h))
  have K9 := hts (.fieldLink RX0 9 "PromiseHours$House" "tick" "I") (by decide +kernel)
  refine lv_aload_n hx hb dX0_isHolder_0 rfl (lv_at hl 1 rfl) ?_
  refine va_getN (D := E.1) (ci := 1) (v := .ref (a (8 + 6 * r + 3))) (C := RX1) (T := TX1) (N := 13) hx hb hts in1 hown hE.1 hP (8 + 6 * r) (hs_hi0 (by omega)) rfl 4 (by decide) (ev_use hE nk_X0_99 rfl) (fun _ h9 => h9) rfl dX0_isHolder_1 ?_
  refine lv_iload_n hx hb dX0_isHolder_4 rfl (lv_at hl 2 rfl) ?_
  refine q_iald hx hb hE hP (8 + 6 * r + 3) (hs_hi 3 (by omega) (by decide) rfl) (j := t) (v := (g (202 + 12 * r + t))) rfl (by omega) (by decide) ((seg_at (by omega)).trans rfl) dX0_isHolder_5 ?_
  refine lv_aload_n hx hb dX0_isHolder_6 rfl (lv_at hl 0 rfl) ?_
  refine va_get (D := E.1) (ci := 0) (v := .int (g 0)) (C := RX0) (T := TX0) (N := 17) hx hb hts in0 hown hE.1 hP 0 (hs_lo 0 (by decide) rfl) rfl 0 (by decide) K9 (fun _ h9 => h9) rfl dX0_isHolder_7 ?_
  have J_18_1 : ∀ (w : Int32) (H : Heap) (locs : List Loc), va_P E.1 vwCl (hs E a g) H → va_D A (hs E a g) → va_S A s.heap H locs → w = (if (g (202 + 12 * r + t)) ≤ (g 0) then 0 else 1 : Int32) → W p l e { frames := 0, cells := 0, slots := 0, locals := 0 } s m args below meth c H locs 0 0 Q (F0 m 18 ls [.int w]) := by
    intro w H locs hP hD hS ew
    rw [ew]
    exact hret _ _ _ _ _ hP hD hS rfl dX0_isHolder_18
  refine lv_icmp_le (tgt := 17) hx hb dX0_isHolder_10 (by decide) (fun c_2 => ?_) (fun c_2 => ?_)
  · refine lv_iconst (v := 0) hx hb dX0_isHolder_17 (by decide) ?_
    exact J_18_1 _ _ _ hP hD hS (if_pos c_2).symm
  · refine lv_iconst (v := 1) hx hb dX0_isHolder_13 (by decide) ?_
    refine lv_goto (tgt := 18) hx hb dX0_isHolder_14 (by decide) ?_
    exact J_18_1 _ _ _ hP hD hS (if_neg c_2).symm
def f_X0_isWaiting (g : Nat → Int32) (t : Nat) : Int32 := (if (g (17 + t)) = (-6) then 0 else 1 : Int32)
theorem nar_X0_isWaiting (g : Nat → Int32) (t : Nat) : narrow .boolean (.int (f_X0_isWaiting g t)) = .int (f_X0_isWaiting g t) := by unfold f_X0_isWaiting; (repeat' split) <;> rfl
set_option maxHeartbeats 4000000 in
set_option maxRecDepth 100000 in
theorem k_X0_isWaiting (l : Launch) (E : EE) (a : Nat → Nat) (g : Nat → Int32) (t : Nat) (ht : t < 12) : Ci l E yX0_isWaiting wsX0_isWaiting { frames := 0, cells := 0, slots := 0, locals := 0 } [.ref (a 0), .int (nI t)] (hs E a g) (f_X0_isWaiting g t) (hs E a g) := by
  refine Ci.of (cc := cX0_isWaiting) (maxL := 2) (rt := .boolean) (by decide) rfl (nar_X0_isWaiting g t) (Nat.le_of_ble_eq_true rfl) ?_
  intro p e s m args below meth c A Q F hE hA hret hP hD ls hl
  obtain ⟨hx, hb, hml, hown, hts⟩ := id F
  have hS : va_S A s.heap s.heap [] := va_S.rf
  have hl : lv_has ls 2 [(0, .ref (a 0)), (1, .int (nI t))] := hl
  have in0 : ∀ w ∈ wsX00, w ∈ wsX0_isWaiting := fun w h => List.mem_cons_of_mem _ (List.mem_append_right _ h)
  have K29 := hts (.fieldLink RX0 29 "PromiseHours$House" "ways" "[I") (by decide +kernel)
  refine lv_aload_n hx hb dX0_isWaiting_0 rfl (lv_at hl 0 rfl) ?_
  refine va_get (D := E.1) (ci := 0) (v := .ref (a 4)) (C := RX0) (T := TX0) (N := 17) hx hb hts in0 hown hE.1 hP 0 (hs_lo 0 (by decide) rfl) rfl 4 (by decide) K29 (fun _ h9 => h9) rfl dX0_isWaiting_1 ?_
  refine lv_iload_n hx hb dX0_isWaiting_4 rfl (lv_at hl 1 rfl) ?_
  refine q_iald hx hb hE hP 4 (hs_lo 4 (by decide) rfl) (j := t) (v := (g (17 + t))) rfl (by omega) (by decide) ((seg_at (by omega)).trans rfl) dX0_isWaiting_5 ?_
  refine lv_bipush (v := -6) hx hb dX0_isWaiting_6 (by decide) ?_
  have J_16_1 : ∀ (w : Int32) (H : Heap) (locs : List Loc), va_P E.1 vwCl (hs E a g) H → va_D A (hs E a g) → va_S A s.heap H locs → w = (if (g (17 + t)) = (-6) then 0 else 1 : Int32) → W p l e { frames := 0, cells := 0, slots := 0, locals := 0 } s m args below meth c H locs 0 0 Q (F0 m 16 ls [.int w]) := by
    intro w H locs hP hD hS ew
    rw [ew]
    exact hret _ _ _ _ _ hP hD hS rfl dX0_isWaiting_16
  refine lv_icmp_eq (tgt := 15) hx hb dX0_isWaiting_8 (by decide) (fun c_2 => ?_) (fun c_2 => ?_)
  · refine lv_iconst (v := 0) hx hb dX0_isWaiting_15 (by decide) ?_
    exact J_16_1 _ _ _ hP hD hS (if_pos c_2).symm
  · refine lv_iconst (v := 1) hx hb dX0_isWaiting_11 (by decide) ?_
    refine lv_goto (tgt := 16) hx hb dX0_isWaiting_12 (by decide) ?_
    exact J_16_1 _ _ _ hP hD hS (if_neg c_2).symm
def p_X0_countSkewedBeyondDoubt_4 (g : Nat → Int32) (S4 : Int32) (i : Nat) : Int32 := (S4 + (f_X2_bit (if (if 0 ≤ (g (47 + i)) then (g (47 + i)) else 0 - (g (47 + i))) ≤ (g 3) then 0 else 1 : Int32)))
def q_X0_countSkewedBeyondDoubt_4 (g : Nat → Int32) (S0 : Int32) : Nat → Int32
  | 0 => S0
  | i + 1 => p_X0_countSkewedBeyondDoubt_4 g (q_X0_countSkewedBeyondDoubt_4 g S0 i) i
set_option maxHeartbeats 4000000 in
set_option maxRecDepth 100000 in
theorem k_X0_countSkewedBeyondDoubt (l : Launch) (E : EE) (a : Nat → Nat) (g : Nat → Int32)   : Ci l E yX0_countSkewedBeyondDoubt wsX0_countSkewedBeyondDoubt { frames := 1, cells := 0, slots := 0, locals := 21 } [.ref (a 0)] (hs E a g) (q_X0_countSkewedBeyondDoubt_4 g 0 5) (hs E a g) := by
  refine Ci.of (cc := cX0_countSkewedBeyondDoubt) (maxL := 3) (rt := .int) (by decide) rfl rfl (Nat.le_of_ble_eq_true rfl) ?_
  intro p e s m args below meth c A Q F hE hA hret hP hD ls hl
  obtain ⟨hx, hb, hml, hown, hts⟩ := id F
  have hS : va_S A s.heap s.heap [] := va_S.rf
  have hl : lv_has ls 3 [(0, .ref (a 0))] := hl
  have in0 : ∀ w ∈ wsX00, w ∈ wsX0_countSkewedBeyondDoubt := fun w h => List.mem_cons_of_mem _ (List.mem_append_left _ (List.mem_append_right _ h))
  have in1 : ∀ w ∈ wsX10, w ∈ wsX0_countSkewedBeyondDoubt := fun w h => List.mem_cons_of_mem _ (List.mem_append_right _ h)
  have K15 := hts (.fieldLink RX0 15 "PromiseHours$House" "rules" "[I") (by decide +kernel)
  have K22 := hts (.fieldLink RX0 22 "PromiseHours$House" "readers" "[LPromiseHours$Reader;") (by decide +kernel)
  refine lv_iconst (v := 0) hx hb dX0_countSkewedBeyondDoubt_0 (by decide) ?_
  refine lv_istore_n (lv' := [(1, .int 0), (0, .ref (a 0))]) hx hb dX0_countSkewedBeyondDoubt_1 rfl hl (by decide) rfl (fun ls hl => ?_)
  refine lv_iconst (v := 0) hx hb dX0_countSkewedBeyondDoubt_2 (by decide) ?_
  refine lv_istore_n (lv' := [(2, .int 0), (1, .int 0), (0, .ref (a 0))]) hx hb dX0_countSkewedBeyondDoubt_3 rfl hl (by decide) rfl (fun ls hl => ?_)
  have lp4 : ∀ (fu i : Nat), i ≤ 5 → 5 + 1 ≤ i + fu → ∀ (S4 : Int32), S4 = (q_X0_countSkewedBeyondDoubt_4 g 0 i) → ∀ (H : Heap) (locs : List Loc), va_P E.1 vwCl (hs E a g) H → va_D A (hs E a g) → va_S A s.heap H locs → ∀ ls : Array Slot, lv_has ls 3 [(0, .ref (a 0)), (1, .int S4), (2, .int (nI i))] → W p l e { frames := 1, cells := 0, slots := 0, locals := 21 } s m args below meth c H locs 0 0 Q (F0 m 4 ls []) := by
    intro fu
    induction fu with
    | zero => intro i h1 h2; exact absurd h2 (by omega)
    | succ fu ih =>
      intro i hi hin S4 eS4 H locs hP hD hS ls hl
      refine lv_iload_n hx hb dX0_countSkewedBeyondDoubt_4 rfl (lv_at hl 2 rfl) ?_
      refine lv_iconst (v := 5) hx hb dX0_countSkewedBeyondDoubt_5 (by decide) ?_
      refine lv_icmp_ge (tgt := 47) hx hb dX0_countSkewedBeyondDoubt_6 (by decide) (fun c_1 => ?_) (fun c_1 => ?_)
      · have hiN : i = 5 := by have := (nI_leI (a := 5) (b := i) (by omega) (by omega)).mp c_1; omega
        rw [hiN] at eS4 hl
        refine lv_iload_n hx hb dX0_countSkewedBeyondDoubt_47 rfl (lv_at hl 1 rfl) ?_
        exact hret _ _ _ _ _ hP hD hS (by rw [← eS4]) dX0_countSkewedBeyondDoubt_48
      · have hlt : i < 5 := Nat.lt_of_not_le (fun h => c_1 (nI_le (a := 5) (b := i) (by omega) (by omega)))
        refine lv_iload_n hx hb dX0_countSkewedBeyondDoubt_9 rfl (lv_at hl 1 rfl) ?_
        refine lv_aload_n hx hb dX0_countSkewedBeyondDoubt_10 rfl (lv_at hl 0 rfl) ?_
        refine va_get (D := E.1) (ci := 0) (v := .ref (a 2)) (C := RX0) (T := TX0) (N := 17) hx hb hts in0 hown hE.1 hP 0 (hs_lo 0 (by decide) rfl) rfl 2 (by decide) K22 (fun _ h9 => h9) rfl dX0_countSkewedBeyondDoubt_11 ?_
        refine lv_iload_n hx hb dX0_countSkewedBeyondDoubt_14 rfl (lv_at hl 2 rfl) ?_
        refine q_aald hx hb hE hP 2 1 (hs_lo 2 (by decide) rfl) rfl (j := i) rfl (by omega) (by decide) rfl dX0_countSkewedBeyondDoubt_15 ?_
        refine va_getN (D := E.1) (ci := 1) (v := .int (g (47 + i))) (C := RX1) (T := TX1) (N := 13) hx hb hts in1 hown hE.1 hP (8 + 6 * i) (hs_hi0 (by omega)) rfl 1 (by decide) (ev_use hE nk_X0_81 rfl) (fun _ h9 => h9) rfl dX0_countSkewedBeyondDoubt_16 ?_
        refine va_mabs hx hb (hml.trans hl.1.symm) hown (hts (.methodLink RX0 102 Lib.Math.abs.name) (by decide +kernel)) (hts (.static Lib.Math.abs.name) (by decide +kernel)) (hts (.initialized "java/lang/Math") (by decide +kernel)) (hts (.code Lib.Math.abs.name Lib.Math.abs.code 1 (some .int)) (by decide +kernel)) (Nat.le_of_ble_eq_true rfl) (Nat.le_of_ble_eq_true rfl) (Nat.zero_le _) (Nat.zero_le _) dX0_countSkewedBeyondDoubt_19 ?_
        refine lv_aload_n hx hb dX0_countSkewedBeyondDoubt_22 rfl (lv_at hl 0 rfl) ?_
        refine va_get (D := E.1) (ci := 0) (v := .ref (a 1)) (C := RX0) (T := TX0) (N := 17) hx hb hts in0 hown hE.1 hP 0 (hs_lo 0 (by decide) rfl) rfl 1 (by decide) K15 (fun _ h9 => h9) rfl dX0_countSkewedBeyondDoubt_23 ?_
        refine lv_iconst (v := 2) hx hb dX0_countSkewedBeyondDoubt_26 (by decide) ?_
        refine q_iald hx hb hE hP 1 (hs_lo 1 (by decide) rfl) (j := 2) (v := (g 3)) rfl (by omega) (by decide) ((seg_at (by omega)).trans rfl) dX0_countSkewedBeyondDoubt_27 ?_
        have J_36_2 : ∀ (w : Int32) (H : Heap) (locs : List Loc), va_P E.1 vwCl (hs E a g) H → va_D A (hs E a g) → va_S A s.heap H locs → w = (if (if 0 ≤ (g (47 + i)) then (g (47 + i)) else 0 - (g (47 + i))) ≤ (g 3) then 0 else 1 : Int32) → W p l e { frames := 1, cells := 0, slots := 0, locals := 21 } s m args below meth c H locs 0 0 Q (F0 m 36 ls [.int w, .int S4]) := by
          intro w H locs hP hD hS ew
          rw [ew]
          refine ci_SN F hE (k_X2_bit l E (if (if 0 ≤ (g (47 + i)) then (g (47 + i)) else 0 - (g (47 + i))) ≤ (g 3) then 0 else 1 : Int32)) ⟨va_cnB 1 hts gX0_countSkewedBeyondDoubt_X2_bit_n107 rfl rfl rfl (ev_link hE nk_X0_107 rfl) (hts (.initialized RX2) (by decide +kernel)) (by decide +kernel) ⟨Nat.le_of_ble_eq_true rfl, Nat.le_of_ble_eq_true rfl⟩, hts (.static yX2_bit) (by decide +kernel), trivial⟩ Fr.nil hP hD hS hA rfl hl.1 rfl (Nat.le_of_ble_eq_true rfl) dX0_countSkewedBeyondDoubt_36 ⟨Nat.zero_le _, Nat.zero_le _⟩ (fun H locs hP hD hS => ?_)
          refine lv_iadd hx hb dX0_countSkewedBeyondDoubt_39 ?_
          refine lv_istore_n (lv' := [(1, .int (S4 + (f_X2_bit (if (if 0 ≤ (g (47 + i)) then (g (47 + i)) else 0 - (g (47 + i))) ≤ (g 3) then 0 else 1 : Int32)))), (0, .ref (a 0)), (2, .int (nI i))]) hx hb dX0_countSkewedBeyondDoubt_40 rfl hl (by decide) rfl (fun ls hl => ?_)
          refine lv_iinc (v := (nI (i + 1))) (lv' := [(2, .int (nI (i + 1))), (1, .int (S4 + (f_X2_bit (if (if 0 ≤ (g (47 + i)) then (g (47 + i)) else 0 - (g (47 + i))) ≤ (g 3) then 0 else 1 : Int32)))), (0, .ref (a 0))]) hx hb dX0_countSkewedBeyondDoubt_41 hl (k := 2) rfl (nI_1 i) (by decide) rfl (fun ls hl => ?_)
          refine lv_goto (tgt := 4) hx hb dX0_countSkewedBeyondDoubt_44 (by decide) ?_
          have eS1 : ((S4 + (f_X2_bit (if (if 0 ≤ (g (47 + i)) then (g (47 + i)) else 0 - (g (47 + i))) ≤ (g 3) then 0 else 1 : Int32))) : Int32) = (q_X0_countSkewedBeyondDoubt_4 g 0 (i + 1)) := by
            show _ = p_X0_countSkewedBeyondDoubt_4 g (q_X0_countSkewedBeyondDoubt_4 g 0 i) i
            rw [← eS4]
            rfl
          exact ih (i + 1) (by omega) (by omega) (S4 + (f_X2_bit (if (if 0 ≤ (g (47 + i)) then (g (47 + i)) else 0 - (g (47 + i))) ≤ (g 3) then 0 else 1 : Int32))) eS1 _ _ hP hD hS ls (lv_sub hl [2, 1, 0] rfl)
        refine lv_icmp_le (tgt := 35) hx hb dX0_countSkewedBeyondDoubt_28 (by decide) (fun c_3 => ?_) (fun c_3 => ?_)
        · refine lv_iconst (v := 0) hx hb dX0_countSkewedBeyondDoubt_35 (by decide) ?_
          exact J_36_2 _ _ _ hP hD hS (if_pos c_3).symm
        · refine lv_iconst (v := 1) hx hb dX0_countSkewedBeyondDoubt_31 (by decide) ?_
          refine lv_goto (tgt := 36) hx hb dX0_countSkewedBeyondDoubt_32 (by decide) ?_
          exact J_36_2 _ _ _ hP hD hS (if_neg c_3).symm
  exact lp4 (5 + 1) 0 (Nat.zero_le _) (by omega) 0 rfl _ _ hP hD hS ls (lv_sub hl [2, 1, 0] rfl)
def s_X0_useCopy (g : Nat → Int32) (r : Nat) (t : Nat) : Nat → Int32 := (if (g (82 + 12 * r + t)) = (g (5 + t)) then (upd (upd g (262 + 6 * r + 1) ((g (262 + 6 * r + 1)) + 1)) (262 + 6 * r + 0) (g (82 + 12 * r + t))) else (upd (upd (upd g (262 + 6 * r + 1) ((g (262 + 6 * r + 1)) + 1)) (262 + 6 * r + 0) (g (82 + 12 * r + t))) 303 ((g 303) + 1)))
def f_X0_useCopy (g : Nat → Int32) (r : Nat) (t : Nat) : Int32 := (if (g (82 + 12 * r + t)) = (g (5 + t)) then 0 else 1)
set_option maxHeartbeats 4000000 in
set_option maxRecDepth 100000 in
theorem k_X0_useCopy (l : Launch) (E : EE) (a : Nat → Nat) (g : Nat → Int32) (r : Nat) (t : Nat) (hr : r < 5) (ht : t < 12) : Ci l E yX0_useCopy wsX0_useCopy { frames := 0, cells := 0, slots := 0, locals := 0 } [.ref (a 0), .ref (a (8 + 6 * r)), .int (nI t)] (hs E a g) (f_X0_useCopy g r t) (hs E a (s_X0_useCopy g r t)) := by
  refine Ci.of (cc := cX0_useCopy) (maxL := 3) (rt := .int) (by decide) rfl rfl (Nat.le_of_ble_eq_true rfl) ?_
  intro p e s m args below meth c A Q F hE hA hret hP hD ls hl
  obtain ⟨hx, hb, hml, hown, hts⟩ := id F
  have hS : va_S A s.heap s.heap [] := va_S.rf
  have hl : lv_has ls 3 [(0, .ref (a 0)), (1, .ref (a (8 + 6 * r))), (2, .int (nI t))] := hl
  have in0 : ∀ w ∈ wsX00, w ∈ wsX0_useCopy := fun w h => List.mem_cons_of_mem _ (List.mem_append_right _ h)
  have in1 : ∀ w ∈ wsX10, w ∈ wsX0_useCopy := fun w h => List.mem_cons_of_mem _ (List.mem_append_left _ (List.mem_append_right _ h))
  have K26 := hts (.fieldLink RX0 26 "PromiseHours$House" "versions" "[I") (by decide +kernel)
  have K50 := hts (.fieldLink RX0 50 "PromiseHours$House" "staleReads" "I") (by decide +kernel)
  refine lv_aload_n hx hb dX0_useCopy_0 rfl (lv_at hl 1 rfl) ?_
  refine lv_dup hx hb dX0_useCopy_1 rfl ?_
  refine va_getN (D := E.1) (ci := 1) (v := .int (g (262 + 6 * r + 1))) (C := RX1) (T := TX1) (N := 13) hx hb hts in1 hown hE.1 hP (8 + 6 * r) (hs_hi0 (by omega)) rfl 8 (by decide) (ev_use hE nk_X0_132 rfl) (fun _ h9 => h9) rfl dX0_useCopy_2 ?_
  refine lv_iconst (v := 1) hx hb dX0_useCopy_5 (by decide) ?_
  refine lv_iadd hx hb dX0_useCopy_6 ?_
  refine va_putN (D := E.1) (ci := 1) (v := .int ((g (262 + 6 * r + 1)) + 1)) (ty := .int) (C := RX1) (T := TX1) (N := 13) hx hb hts in1 tyX1 tyX1_ok nmX1 hown hE.1 hP hD hS (8 + 6 * r) (hs_hi0 (by omega)) rfl 8 (by decide) (ev_use hE nk_X0_132 rfl) (fun _ h9 => h9) rfl (by decide +kernel) rfl rfl (Nat.le_of_ble_eq_true rfl) dX0_useCopy_7 (fun H locs hP hD hS => ?_)
  rw [(hs_r8 (r := r) (by omega))] at hP hD
  have hP : va_P E.1 vwCl (hs E a (upd g (262 + 6 * r + 1) ((g (262 + 6 * r + 1)) + 1))) H := hP
  have hD : va_D A (hs E a (upd g (262 + 6 * r + 1) ((g (262 + 6 * r + 1)) + 1))) := hD
  refine lv_aload_n hx hb dX0_useCopy_10 rfl (lv_at hl 1 rfl) ?_
  refine lv_aload_n hx hb dX0_useCopy_11 rfl (lv_at hl 1 rfl) ?_
  refine va_getN (D := E.1) (ci := 1) (v := .ref (a (8 + 6 * r + 1))) (C := RX1) (T := TX1) (N := 13) hx hb hts in1 hown hE.1 hP (8 + 6 * r) (hs_hi0 (by omega)) rfl 2 (by decide) (ev_use hE nk_X0_135 rfl) (fun _ h9 => h9) rfl dX0_useCopy_12 ?_
  refine lv_iload_n hx hb dX0_useCopy_15 rfl (lv_at hl 2 rfl) ?_
  refine q_iald hx hb hE hP (8 + 6 * r + 1) (hs_hi 1 (by omega) (by decide) rfl) (j := t) (v := (g (82 + 12 * r + t))) rfl (by omega) (by decide) ((seg_at (by omega)).trans (up_n (by omega))) dX0_useCopy_16 ?_
  refine va_putN (D := E.1) (ci := 1) (v := .int (g (82 + 12 * r + t))) (ty := .int) (C := RX1) (T := TX1) (N := 13) hx hb hts in1 tyX1 tyX1_ok nmX1 hown hE.1 hP hD hS (8 + 6 * r) (hs_hi0 (by omega)) rfl 7 (by decide) (ev_use hE nk_X0_138 rfl) (fun _ h9 => h9) rfl (by decide +kernel) rfl rfl (Nat.le_of_ble_eq_true rfl) dX0_useCopy_17 (fun H locs hP hD hS => ?_)
  rw [(hs_r7 (r := r) (by omega))] at hP hD
  have hP : va_P E.1 vwCl (hs E a (upd (upd g (262 + 6 * r + 1) ((g (262 + 6 * r + 1)) + 1)) (262 + 6 * r + 0) (g (82 + 12 * r + t)))) H := hP
  have hD : va_D A (hs E a (upd (upd g (262 + 6 * r + 1) ((g (262 + 6 * r + 1)) + 1)) (262 + 6 * r + 0) (g (82 + 12 * r + t)))) := hD
  refine lv_aload_n hx hb dX0_useCopy_20 rfl (lv_at hl 1 rfl) ?_
  refine va_getN (D := E.1) (ci := 1) (v := .ref (a (8 + 6 * r + 1))) (C := RX1) (T := TX1) (N := 13) hx hb hts in1 hown hE.1 hP (8 + 6 * r) (hs_hi0 (by omega)) rfl 2 (by decide) (ev_use hE nk_X0_135 rfl) (fun _ h9 => h9) rfl dX0_useCopy_21 ?_
  refine lv_iload_n hx hb dX0_useCopy_24 rfl (lv_at hl 2 rfl) ?_
  refine q_iald hx hb hE hP (8 + 6 * r + 1) (hs_hi 1 (by omega) (by decide) rfl) (j := t) (v := (g (82 + 12 * r + t))) rfl (by omega) (by decide) ((seg_at (by omega)).trans ((up_n (by omega)).trans (up_n (by omega)))) dX0_useCopy_25 ?_
  refine lv_aload_n hx hb dX0_useCopy_26 rfl (lv_at hl 0 rfl) ?_
  refine va_get (D := E.1) (ci := 0) (v := .ref (a 3)) (C := RX0) (T := TX0) (N := 17) hx hb hts in0 hown hE.1 hP 0 (hs_lo 0 (by decide) rfl) rfl 3 (by decide) K26 (fun _ h9 => h9) rfl dX0_useCopy_27 ?_
  refine lv_iload_n hx hb dX0_useCopy_30 rfl (lv_at hl 2 rfl) ?_
  refine q_iald hx hb hE hP 3 (hs_lo 3 (by decide) rfl) (j := t) (v := (g (5 + t))) rfl (by omega) (by decide) ((seg_at (by omega)).trans ((up_n (by omega)).trans (up_n (by omega)))) dX0_useCopy_31 ?_
  refine lv_icmp_ne (tgt := 37) hx hb dX0_useCopy_32 (by decide) (fun c_1 => ?_) (fun c_1 => ?_)
  · refine lv_aload_n hx hb dX0_useCopy_37 rfl (lv_at hl 0 rfl) ?_
    refine lv_dup hx hb dX0_useCopy_38 rfl ?_
    refine va_get (D := E.1) (ci := 0) (v := .int ((upd (upd g (262 + 6 * r + 1) ((g (262 + 6 * r + 1)) + 1)) (262 + 6 * r + 0) (g (82 + 12 * r + t))) 303)) (C := RX0) (T := TX0) (N := 17) hx hb hts in0 hown hE.1 hP 0 (hs_lo 0 (by decide) rfl) rfl 11 (by decide) K50 (fun _ h9 => h9) rfl dX0_useCopy_39 ?_
    refine tpe ((up_n (by omega)).trans (up_n (by omega))) ?_
    refine lv_iconst (v := 1) hx hb dX0_useCopy_42 (by decide) ?_
    refine lv_iadd hx hb dX0_useCopy_43 ?_
    refine va_put (D := E.1) (ci := 0) (v := .int ((g 303) + 1)) (ty := .int) (C := RX0) (T := TX0) (N := 17) hx hb hts in0 tyX0 tyX0_ok nmX0 hown hE.1 hP hD hS 0 (hs_lo 0 (by decide) rfl) rfl 11 (by decide) K50 (fun _ h9 => h9) rfl (by decide +kernel) rfl rfl (Nat.le_of_ble_eq_true rfl) dX0_useCopy_44 (fun H locs hP hD hS => ?_)
    rw [hs_f11] at hP hD
    have hP : va_P E.1 vwCl (hs E a (upd (upd (upd g (262 + 6 * r + 1) ((g (262 + 6 * r + 1)) + 1)) (262 + 6 * r + 0) (g (82 + 12 * r + t))) 303 ((g 303) + 1))) H := hP
    have hD : va_D A (hs E a (upd (upd (upd g (262 + 6 * r + 1) ((g (262 + 6 * r + 1)) + 1)) (262 + 6 * r + 0) (g (82 + 12 * r + t))) 303 ((g 303) + 1))) := hD
    refine lv_iconst (v := 1) hx hb dX0_useCopy_47 (by decide) ?_
    have eg : (upd (upd (upd g (262 + 6 * r + 1) ((g (262 + 6 * r + 1)) + 1)) (262 + 6 * r + 0) (g (82 + 12 * r + t))) 303 ((g 303) + 1)) = (s_X0_useCopy g r t) := (by unfold s_X0_useCopy; exact (if_neg c_1).symm)
    exact hret _ _ _ _ _ (by rw [← eg]; exact hP) (by rw [← eg]; exact hD) hS (by unfold f_X0_useCopy; exact (if_neg c_1).symm) dX0_useCopy_48
  · refine lv_iconst (v := 0) hx hb dX0_useCopy_35 (by decide) ?_
    have eg : (upd (upd g (262 + 6 * r + 1) ((g (262 + 6 * r + 1)) + 1)) (262 + 6 * r + 0) (g (82 + 12 * r + t))) = (s_X0_useCopy g r t) := (by unfold s_X0_useCopy; exact (if_pos c_1).symm)
    exact hret _ _ _ _ _ (by rw [← eg]; exact hP) (by rw [← eg]; exact hD) hS (by unfold f_X0_useCopy; exact (if_pos c_1).symm) dX0_useCopy_36
def s_X0_addCauseIf (g : Nat → Int32) (b : Int32) (k : Int32) : Nat → Int32 := (if b = 0 then g else (if 4 ≤ (g 296) then g else (upd (upd g (292 + (ix (g 296))) k) 296 ((g 296) + 1))))
set_option maxHeartbeats 4000000 in
set_option maxRecDepth 100000 in
theorem k_X0_addCauseIf (l : Launch) (E : EE) (a : Nat → Nat) (g : Nat → Int32) (b : Int32) (k : Int32) (hm : g 296 = nI (ix (g 296))) : Cv l E yX0_addCauseIf wsX0_addCauseIf { frames := 0, cells := 0, slots := 0, locals := 0 } [.ref (a 0), .int b, .int k] (hs E a g) (hs E a (s_X0_addCauseIf g b k)) := by
  refine Cv.of (cc := cX0_addCauseIf) (maxL := 3) (by decide) rfl (Nat.le_of_ble_eq_true rfl) ?_
  intro p e s m args below meth c A Q F hE hA hret hP hD ls hl
  obtain ⟨hx, hb, hml, hown, hts⟩ := id F
  have hS : va_S A s.heap s.heap [] := va_S.rf
  have hl : lv_has ls 3 [(0, .ref (a 0)), (1, .int b), (2, .int k)] := hl
  have in0 : ∀ w ∈ wsX00, w ∈ wsX0_addCauseIf := fun w h => List.mem_cons_of_mem _ (List.mem_append_right _ h)
  have K38 := hts (.fieldLink RX0 38 "PromiseHours$House" "causes" "[I") (by decide +kernel)
  have K41 := hts (.fieldLink RX0 41 "PromiseHours$House" "causeCount" "I") (by decide +kernel)
  refine lv_iload_n hx hb dX0_addCauseIf_0 rfl (lv_at hl 1 rfl) ?_
  refine lv_if_eq (tgt := 32) hx hb dX0_addCauseIf_1 (by decide) (fun c_1 => ?_) (fun c_1 => ?_)
  · skip
    have eg : g = (s_X0_addCauseIf g b k) := (by unfold s_X0_addCauseIf; exact (if_pos c_1).symm)
    exact hret _ _ _ _ (by rw [← eg]; exact hP) (by rw [← eg]; exact hD) hS dX0_addCauseIf_32
  · refine lv_aload_n hx hb dX0_addCauseIf_4 rfl (lv_at hl 0 rfl) ?_
    refine va_get (D := E.1) (ci := 0) (v := .int (g 296)) (C := RX0) (T := TX0) (N := 17) hx hb hts in0 hown hE.1 hP 0 (hs_lo 0 (by decide) rfl) rfl 8 (by decide) K41 (fun _ h9 => h9) rfl dX0_addCauseIf_5 ?_
    refine lv_iconst (v := 4) hx hb dX0_addCauseIf_8 (by decide) ?_
    refine lv_icmp_ge (tgt := 32) hx hb dX0_addCauseIf_9 (by decide) (fun c_2 => ?_) (fun c_2 => ?_)
    · skip
      have eg : g = (s_X0_addCauseIf g b k) := (by unfold s_X0_addCauseIf; exact ((if_neg c_1).trans (if_pos c_2)).symm)
      exact hret _ _ _ _ (by rw [← eg]; exact hP) (by rw [← eg]; exact hD) hS dX0_addCauseIf_32
    · have hm4 : ix (g 296) < 4 := lt_of_c (n := 4) hm c_2
      refine lv_aload_n hx hb dX0_addCauseIf_12 rfl (lv_at hl 0 rfl) ?_
      refine va_get (D := E.1) (ci := 0) (v := .ref (a 6)) (C := RX0) (T := TX0) (N := 17) hx hb hts in0 hown hE.1 hP 0 (hs_lo 0 (by decide) rfl) rfl 7 (by decide) K38 (fun _ h9 => h9) rfl dX0_addCauseIf_13 ?_
      refine lv_aload_n hx hb dX0_addCauseIf_16 rfl (lv_at hl 0 rfl) ?_
      refine va_get (D := E.1) (ci := 0) (v := .int (g 296)) (C := RX0) (T := TX0) (N := 17) hx hb hts in0 hown hE.1 hP 0 (hs_lo 0 (by decide) rfl) rfl 8 (by decide) K41 (fun _ h9 => h9) rfl dX0_addCauseIf_17 ?_
      refine tpe (y := nI (ix (g 296))) hm ?_
      refine lv_iload_n hx hb dX0_addCauseIf_20 rfl (lv_at hl 2 rfl) ?_
      refine q_iast hx hb hE hP hD hS 6 (hs_lo 6 (by decide) rfl) (j := (ix (g 296))) (wd' := (hs E a (upd g (292 + (ix (g 296))) k))) rfl (by omega) (by decide) (hs_w6 (by omega)) dX0_addCauseIf_21 (fun H locs hP hD hS => ?_)
      refine lv_aload_n hx hb dX0_addCauseIf_22 rfl (lv_at hl 0 rfl) ?_
      refine lv_dup hx hb dX0_addCauseIf_23 rfl ?_
      refine va_get (D := E.1) (ci := 0) (v := .int ((upd g (292 + (ix (g 296))) k) 296)) (C := RX0) (T := TX0) (N := 17) hx hb hts in0 hown hE.1 hP 0 (hs_lo 0 (by decide) rfl) rfl 8 (by decide) K41 (fun _ h9 => h9) rfl dX0_addCauseIf_24 ?_
      refine tpe (up_n (by omega)) ?_
      refine lv_iconst (v := 1) hx hb dX0_addCauseIf_27 (by decide) ?_
      refine lv_iadd hx hb dX0_addCauseIf_28 ?_
      refine va_put (D := E.1) (ci := 0) (v := .int ((g 296) + 1)) (ty := .int) (C := RX0) (T := TX0) (N := 17) hx hb hts in0 tyX0 tyX0_ok nmX0 hown hE.1 hP hD hS 0 (hs_lo 0 (by decide) rfl) rfl 8 (by decide) K41 (fun _ h9 => h9) rfl (by decide +kernel) rfl rfl (Nat.le_of_ble_eq_true rfl) dX0_addCauseIf_29 (fun H locs hP hD hS => ?_)
      rw [hs_f8] at hP hD
      have hP : va_P E.1 vwCl (hs E a (upd (upd g (292 + (ix (g 296))) k) 296 ((g 296) + 1))) H := hP
      have hD : va_D A (hs E a (upd (upd g (292 + (ix (g 296))) k) 296 ((g 296) + 1))) := hD
      have eg : (upd (upd g (292 + (ix (g 296))) k) 296 ((g 296) + 1)) = (s_X0_addCauseIf g b k) := (by unfold s_X0_addCauseIf; exact ((if_neg c_1).trans (if_neg c_2)).symm)
      exact hret _ _ _ _ (by rw [← eg]; exact hP) (by rw [← eg]; exact hD) hS dX0_addCauseIf_32
def CB (g : Nat → Int32) (n : Nat) : Prop := ix (g 296) ≤ n ∧ g 296 = nI (ix (g 296))
theorem cb_0 (g : Nat → Int32) : CB (upd g 296 0) 0 := by
  unfold CB
  rw [up_s]
  exact ⟨Nat.le_refl 0, rfl⟩
theorem cb_c {g : Nat → Int32} {n : Nat} (b k : Int32) (h : CB g n) : CB (s_X0_addCauseIf g b k) (n + 1) := by
  obtain ⟨h1, h2⟩ := h
  unfold s_X0_addCauseIf
  split
  · exact ⟨by omega, h2⟩
  · split
    · exact ⟨by omega, h2⟩
    · rename_i hc
      have h4 := lt_of_c (n := 4) h2 hc
      unfold CB
      rw [up_s]
      have e : g 296 + 1 = nI (ix (g 296) + 1) := by rw [← nI_1, ← h2]
      rw [e, ix_nI (by omega)]
      exact ⟨by omega, rfl⟩
