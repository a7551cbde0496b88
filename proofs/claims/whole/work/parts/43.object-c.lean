/-! THE OBJECT: image, restore -/
theorem set_rr (x y : va_W) (n k : Nat) (e : Nat × va_E) (h : x.length = n) : (x ++ y).set (n + k) e = x ++ y.set k e := by
  subst h
  induction x with
  | nil => simp
  | cons q x ih =>
    rw [List.cons_append, List.cons_append, ← ih, List.length_cons, show x.length + 1 + k = (x.length + k) + 1 by omega]
    rfl
theorem set_ph {E : EE} {a o : Nat → Nat} {bA cA : Nat} {g : Nat → Int32} {kp v : Int32} {rs : va_W} : (hs E a g ++ (phc E a o bA cA kp ++ rs)).set (38 + 0) (o 0, .inr (2, ([.ref (a 0), .ref (o 1), .int kp] : List Value).set 2 (.int v))) = hs E a g ++ (phc E a o bA cA v ++ rs) := by
  exact (set_rr (hs E a g) _ 38 0 _ hs_len).trans rfl
theorem pm_1 {α : Type} (A P B C : List α) : (A ++ (P ++ (B ++ C))).Perm ((A ++ B) ++ (P ++ C)) := by
  rw [List.append_assoc]
  exact List.Perm.append_left A (List.perm_append_comm_assoc P B C)
theorem pm_2 {α : Type} (A P B C : List α) : (A ++ (P ++ (B ++ C))).Perm ((B ++ A) ++ (P ++ C)) := (pm_1 A P B C).trans (List.Perm.append_right _ List.perm_append_comm)
theorem pm_0 {α : Type} (A P B C : List α) : (A ++ (P ++ (B ++ C))).Perm (A ++ (P ++ (C ++ B))) := List.Perm.append_left A (List.Perm.append_left P List.perm_append_comm)
theorem Fp.im0 {A A' P B B' C : va_W} : Fp (A ++ (P ++ (B ++ C))) (B ++ A) (B' ++ A') (A' ++ (P ++ (B' ++ C))) := ⟨P ++ C, pm_2 A P B C, pm_2 A' P B' C⟩
theorem Fp.im1 {A A' P B C C' : va_W} : Fp (A ++ (P ++ (B ++ C))) (C ++ A) (C' ++ A') (A' ++ (P ++ (B ++ C'))) := ⟨P ++ B, (pm_0 A P B C).trans (pm_2 A P C B), (pm_0 A' P B C').trans (pm_2 A' P C' B)⟩
theorem Fp.rs0 {A A' P B B' C : va_W} : Fp (A ++ (P ++ (B ++ C))) (A ++ B) (A' ++ B') (A' ++ (P ++ (B' ++ C))) := ⟨P ++ C, pm_1 A P B C, pm_1 A' P B' C⟩
theorem Fp.rs1 {A A' P B C C' : va_W} : Fp (A ++ (P ++ (B ++ C))) (A ++ C) (A' ++ C') (A' ++ (P ++ (B ++ C'))) := ⟨P ++ B, (pm_0 A P B C).trans (pm_1 A P C B), (pm_0 A' P B C').trans (pm_1 A' P C' B)⟩
abbrev phw (E : EE) (a o b c : Nat → Nat) (g g1 g2 : Nat → Int32) (kp : Int32) : va_W := hs E a g ++ (phc E a o (b 0) (c 0) kp ++ (hs E b g1 ++ hs E c g2))
set_option maxHeartbeats 4000000 in
set_option maxRecDepth 100000 in
theorem k_X2_image_no (l : Launch) (E : EE) (a o b c : Nat → Nat) (g g1 g2 : Nat → Int32) (kp : Int32) (x : Int32) (hn : f_X2_isImage x = 0) : Ci l E yX2_image wsX2_image { frames := 4, cells := 0, slots := 0, locals := 84 } [.ref (o 0), .int x] (phw E a o b c g g1 g2 kp) (-2) (phw E a o b c g g1 g2 kp) := by
  refine Ci.of (cc := cX2_image) (maxL := 2) (rt := .int) (by decide) rfl rfl (Nat.le_of_ble_eq_true rfl) ?_
  intro p e s m args below meth co A Q F hE hA hret hP hD ls hl
  obtain ⟨hx, hb, hml, hown, hts⟩ := id F
  have hS : va_S A s.heap s.heap [] := va_S.rf
  have hl : lv_has ls 2 [(0, .ref (o 0)), (1, .int x)] := hl
  have in2 : ∀ w ∈ wsX20, w ∈ wsX2_image := fun w h => List.mem_cons_of_mem _ (List.mem_append_left _ (List.mem_append_left _ (List.mem_append_right _ h)))
  have K10 := hts (.fieldLink RX2 10 "PromiseHours" "house" "LPromiseHours$House;") (by decide +kernel)
  have K16 := hts (.fieldLink RX2 16 "PromiseHours" "images" "[LPromiseHours$House;") (by decide +kernel)
  have K20 := hts (.fieldLink RX2 20 "PromiseHours" "keptImages" "I") (by decide +kernel)
  refine lv_iload_n hx hb dX2_image_0 rfl (lv_at hl 1 rfl) ?_
  refine ci_S F hE (k_X2_isImage l E x) (va_cwS 1 hts gX2_image_X2_isImage rfl rfl rfl (by decide +kernel) ⟨Nat.le_of_ble_eq_true rfl, Nat.le_of_ble_eq_true rfl⟩) Fr.nil hP hD hS hA rfl hl.1 rfl (Nat.le_of_ble_eq_true rfl) dX2_image_1 ⟨Nat.zero_le _, Nat.zero_le _⟩ (fun H locs hP hD hS => ?_)
  refine lv_if_ne (tgt := 10) hx hb dX2_image_4 (by decide) (fun c_1 => ?_) (fun c_1 => ?_)
  · exact absurd hn c_1
  · refine lv_bipush (v := -2) hx hb dX2_image_7 (by decide) ?_
    exact hret _ _ _ _ _ hP hD hS rfl dX2_image_9
set_option maxHeartbeats 4000000 in
set_option maxRecDepth 100000 in
theorem k_X2_image_0 (l : Launch) (E : EE) (a o b c : Nat → Nat) (g g1 g2 : Nat → Int32) (kp : Int32) (hB : ∀ r, r < 5 → g (42 + r) = 0 ∨ g (42 + r) = 1) : Ci l E yX2_image wsX2_image { frames := 4, cells := 0, slots := 0, locals := 84 } [.ref (o 0), .int 0] (phw E a o b c g g1 g2 kp) (1) (phw E a o b c g g g2 (kp ||| ((1 : Int32) <<< ((0 : Int32) &&& 31)))) := by
  refine Ci.of (cc := cX2_image) (maxL := 2) (rt := .int) (by decide) rfl rfl (Nat.le_of_ble_eq_true rfl) ?_
  intro p e s m args below meth co A Q F hE hA hret hP hD ls hl
  obtain ⟨hx, hb, hml, hown, hts⟩ := id F
  have hS : va_S A s.heap s.heap [] := va_S.rf
  have hl : lv_has ls 2 [(0, .ref (o 0)), (1, .int 0)] := hl
  have in2 : ∀ w ∈ wsX20, w ∈ wsX2_image := fun w h => List.mem_cons_of_mem _ (List.mem_append_left _ (List.mem_append_left _ (List.mem_append_right _ h)))
  have K10 := hts (.fieldLink RX2 10 "PromiseHours" "house" "LPromiseHours$House;") (by decide +kernel)
  have K16 := hts (.fieldLink RX2 16 "PromiseHours" "images" "[LPromiseHours$House;") (by decide +kernel)
  have K20 := hts (.fieldLink RX2 20 "PromiseHours" "keptImages" "I") (by decide +kernel)
  refine lv_iload_n hx hb dX2_image_0 rfl (lv_at hl 1 rfl) ?_
  refine ci_S F hE (k_X2_isImage l E 0) (va_cwS 1 hts gX2_image_X2_isImage rfl rfl rfl (by decide +kernel) ⟨Nat.le_of_ble_eq_true rfl, Nat.le_of_ble_eq_true rfl⟩) Fr.nil hP hD hS hA rfl hl.1 rfl (Nat.le_of_ble_eq_true rfl) dX2_image_1 ⟨Nat.zero_le _, Nat.zero_le _⟩ (fun H locs hP hD hS => ?_)
  refine lv_if_ne (tgt := 10) hx hb dX2_image_4 (by decide) (fun c_1 => ?_) (fun c_1 => ?_)
  · refine lv_aload_n hx hb dX2_image_10 rfl (lv_at hl 0 rfl) ?_
    refine va_get (D := E.1) (ci := 2) (v := .ref (o 1)) (C := RX2) (T := TX2) (N := 3) hx hb hts in2 hown hE.1 hP (38 + 0) (ap_h rfl) rfl 1 (by decide) K16 (fun _ h9 => h9) rfl dX2_image_11 ?_
    refine lv_iload_n hx hb dX2_image_14 rfl (lv_at hl 1 rfl) ?_
    refine q_aald hx hb hE hP (38 + 1) 2 (ap_h rfl) rfl (j := 0) rfl (by omega) (by decide) (v := b 0) rfl dX2_image_15 ?_
    refine lv_aload_n hx hb dX2_image_16 rfl (lv_at hl 0 rfl) ?_
    refine va_get (D := E.1) (ci := 2) (v := .ref (a 0)) (C := RX2) (T := TX2) (N := 3) hx hb hts in2 hown hE.1 hP (38 + 0) (ap_h rfl) rfl 0 (by decide) K10 (fun _ h9 => h9) rfl dX2_image_17 ?_
    refine cv_VNp F hE (k_X0_becomeLike l E b a g1 g hB) ⟨va_cnB 1 hts gX2_image_X0_becomeLike_n177 rfl rfl rfl (ev_link hE nk_X2_177 rfl) (hts (.initialized RX0) (by decide +kernel)) (by decide +kernel) ⟨Nat.le_of_ble_eq_true rfl, Nat.le_of_ble_eq_true rfl⟩, hts (.instanceMethod yX0_becomeLike) (by decide +kernel), hts (.selects RX0 yX0_becomeLike yX0_becomeLike) (by decide +kernel)⟩ Fp.im0 0 0 (ap_l (hs_lo 0 (by decide) rfl)) rfl rfl hP hD hS hA rfl hl.1 rfl (Nat.le_of_ble_eq_true rfl) dX2_image_20 ⟨Nat.zero_le _, Nat.zero_le _⟩ (fun H locs hP hD hS => ?_)
    refine lv_aload_n hx hb dX2_image_23 rfl (lv_at hl 0 rfl) ?_
    refine lv_dup hx hb dX2_image_24 rfl ?_
    refine va_get (D := E.1) (ci := 2) (v := .int kp) (C := RX2) (T := TX2) (N := 3) hx hb hts in2 hown hE.1 hP (38 + 0) (ap_h rfl) rfl 2 (by decide) K20 (fun _ h9 => h9) rfl dX2_image_25 ?_
    refine lv_iconst (v := 1) hx hb dX2_image_28 (by decide) ?_
    refine lv_iload_n hx hb dX2_image_29 rfl (lv_at hl 1 rfl) ?_
    refine lv_ishl hx hb dX2_image_30 ?_
    refine lv_ior hx hb dX2_image_31 ?_
    refine va_put (D := E.1) (ci := 2) (v := .int (kp ||| ((1 : Int32) <<< ((0 : Int32) &&& 31)))) (ty := .int) (C := RX2) (T := TX2) (N := 3) hx hb hts in2 tyX2 tyX2_ok nmX2 hown hE.1 hP hD hS (38 + 0) (ap_h rfl) rfl 2 (by decide) K20 (fun _ h9 => h9) rfl (by decide +kernel) rfl rfl (Nat.le_of_ble_eq_true rfl) dX2_image_32 (fun H locs hP hD hS => ?_)
    have hP := hP
    rw [set_ph] at hP hD
    refine lv_iconst (v := 1) hx hb dX2_image_35 (by decide) ?_
    exact hret _ _ _ _ _ hP hD hS rfl dX2_image_36
  · exact absurd c_1 (by decide)
set_option maxHeartbeats 4000000 in
set_option maxRecDepth 100000 in
theorem k_X2_image_1 (l : Launch) (E : EE) (a o b c : Nat → Nat) (g g1 g2 : Nat → Int32) (kp : Int32) (hB : ∀ r, r < 5 → g (42 + r) = 0 ∨ g (42 + r) = 1) : Ci l E yX2_image wsX2_image { frames := 4, cells := 0, slots := 0, locals := 84 } [.ref (o 0), .int 1] (phw E a o b c g g1 g2 kp) (1) (phw E a o b c g g1 g (kp ||| ((1 : Int32) <<< ((1 : Int32) &&& 31)))) := by
  refine Ci.of (cc := cX2_image) (maxL := 2) (rt := .int) (by decide) rfl rfl (Nat.le_of_ble_eq_true rfl) ?_
  intro p e s m args below meth co A Q F hE hA hret hP hD ls hl
  obtain ⟨hx, hb, hml, hown, hts⟩ := id F
  have hS : va_S A s.heap s.heap [] := va_S.rf
  have hl : lv_has ls 2 [(0, .ref (o 0)), (1, .int 1)] := hl
  have in2 : ∀ w ∈ wsX20, w ∈ wsX2_image := fun w h => List.mem_cons_of_mem _ (List.mem_append_left _ (List.mem_append_left _ (List.mem_append_right _ h)))
  have K10 := hts (.fieldLink RX2 10 "PromiseHours" "house" "LPromiseHours$House;") (by decide +kernel)
  have K16 := hts (.fieldLink RX2 16 "PromiseHours" "images" "[LPromiseHours$House;") (by decide +kernel)
  have K20 := hts (.fieldLink RX2 20 "PromiseHours" "keptImages" "I") (by decide +kernel)
  refine lv_iload_n hx hb dX2_image_0 rfl (lv_at hl 1 rfl) ?_
  refine ci_S F hE (k_X2_isImage l E 1) (va_cwS 1 hts gX2_image_X2_isImage rfl rfl rfl (by decide +kernel) ⟨Nat.le_of_ble_eq_true rfl, Nat.le_of_ble_eq_true rfl⟩) Fr.nil hP hD hS hA rfl hl.1 rfl (Nat.le_of_ble_eq_true rfl) dX2_image_1 ⟨Nat.zero_le _, Nat.zero_le _⟩ (fun H locs hP hD hS => ?_)
  refine lv_if_ne (tgt := 10) hx hb dX2_image_4 (by decide) (fun c_1 => ?_) (fun c_1 => ?_)
  · refine lv_aload_n hx hb dX2_image_10 rfl (lv_at hl 0 rfl) ?_
    refine va_get (D := E.1) (ci := 2) (v := .ref (o 1)) (C := RX2) (T := TX2) (N := 3) hx hb hts in2 hown hE.1 hP (38 + 0) (ap_h rfl) rfl 1 (by decide) K16 (fun _ h9 => h9) rfl dX2_image_11 ?_
    refine lv_iload_n hx hb dX2_image_14 rfl (lv_at hl 1 rfl) ?_
    refine q_aald hx hb hE hP (38 + 1) 2 (ap_h rfl) rfl (j := 1) rfl (by omega) (by decide) (v := c 0) rfl dX2_image_15 ?_
    refine lv_aload_n hx hb dX2_image_16 rfl (lv_at hl 0 rfl) ?_
    refine va_get (D := E.1) (ci := 2) (v := .ref (a 0)) (C := RX2) (T := TX2) (N := 3) hx hb hts in2 hown hE.1 hP (38 + 0) (ap_h rfl) rfl 0 (by decide) K10 (fun _ h9 => h9) rfl dX2_image_17 ?_
    refine cv_VNp F hE (k_X0_becomeLike l E c a g2 g hB) ⟨va_cnB 1 hts gX2_image_X0_becomeLike_n177 rfl rfl rfl (ev_link hE nk_X2_177 rfl) (hts (.initialized RX0) (by decide +kernel)) (by decide +kernel) ⟨Nat.le_of_ble_eq_true rfl, Nat.le_of_ble_eq_true rfl⟩, hts (.instanceMethod yX0_becomeLike) (by decide +kernel), hts (.selects RX0 yX0_becomeLike yX0_becomeLike) (by decide +kernel)⟩ Fp.im1 0 0 (ap_l (hs_lo 0 (by decide) rfl)) rfl rfl hP hD hS hA rfl hl.1 rfl (Nat.le_of_ble_eq_true rfl) dX2_image_20 ⟨Nat.zero_le _, Nat.zero_le _⟩ (fun H locs hP hD hS => ?_)
    refine lv_aload_n hx hb dX2_image_23 rfl (lv_at hl 0 rfl) ?_
    refine lv_dup hx hb dX2_image_24 rfl ?_
    refine va_get (D := E.1) (ci := 2) (v := .int kp) (C := RX2) (T := TX2) (N := 3) hx hb hts in2 hown hE.1 hP (38 + 0) (ap_h rfl) rfl 2 (by decide) K20 (fun _ h9 => h9) rfl dX2_image_25 ?_
    refine lv_iconst (v := 1) hx hb dX2_image_28 (by decide) ?_
    refine lv_iload_n hx hb dX2_image_29 rfl (lv_at hl 1 rfl) ?_
    refine lv_ishl hx hb dX2_image_30 ?_
    refine lv_ior hx hb dX2_image_31 ?_
    refine va_put (D := E.1) (ci := 2) (v := .int (kp ||| ((1 : Int32) <<< ((1 : Int32) &&& 31)))) (ty := .int) (C := RX2) (T := TX2) (N := 3) hx hb hts in2 tyX2 tyX2_ok nmX2 hown hE.1 hP hD hS (38 + 0) (ap_h rfl) rfl 2 (by decide) K20 (fun _ h9 => h9) rfl (by decide +kernel) rfl rfl (Nat.le_of_ble_eq_true rfl) dX2_image_32 (fun H locs hP hD hS => ?_)
    have hP := hP
    rw [set_ph] at hP hD
    refine lv_iconst (v := 1) hx hb dX2_image_35 (by decide) ?_
    exact hret _ _ _ _ _ hP hD hS rfl dX2_image_36
  · exact absurd c_1 (by decide)
set_option maxHeartbeats 4000000 in
set_option maxRecDepth 100000 in
theorem k_X2_restore_no (l : Launch) (E : EE) (a o b c : Nat → Nat) (g g1 g2 : Nat → Int32) (kp : Int32) (x : Int32) (hn : f_X2_isImage x = 0) : Ci l E yX2_restore wsX2_restore { frames := 4, cells := 0, slots := 0, locals := 84 } [.ref (o 0), .int x] (phw E a o b c g g1 g2 kp) (-2) (phw E a o b c g g1 g2 kp) := by
  refine Ci.of (cc := cX2_restore) (maxL := 2) (rt := .int) (by decide) rfl rfl (Nat.le_of_ble_eq_true rfl) ?_
  intro p e s m args below meth co A Q F hE hA hret hP hD ls hl
  obtain ⟨hx, hb, hml, hown, hts⟩ := id F
  have hS : va_S A s.heap s.heap [] := va_S.rf
  have hl : lv_has ls 2 [(0, .ref (o 0)), (1, .int x)] := hl
  have in2 : ∀ w ∈ wsX20, w ∈ wsX2_restore := fun w h => List.mem_cons_of_mem _ (List.mem_append_left _ (List.mem_append_left _ (List.mem_append_right _ h)))
  have K10 := hts (.fieldLink RX2 10 "PromiseHours" "house" "LPromiseHours$House;") (by decide +kernel)
  have K16 := hts (.fieldLink RX2 16 "PromiseHours" "images" "[LPromiseHours$House;") (by decide +kernel)
  have K20 := hts (.fieldLink RX2 20 "PromiseHours" "keptImages" "I") (by decide +kernel)
  refine lv_iload_n hx hb dX2_restore_0 rfl (lv_at hl 1 rfl) ?_
  refine ci_S F hE (k_X2_isImage l E x) (va_cwS 1 hts gX2_restore_X2_isImage rfl rfl rfl (by decide +kernel) ⟨Nat.le_of_ble_eq_true rfl, Nat.le_of_ble_eq_true rfl⟩) Fr.nil hP hD hS hA rfl hl.1 rfl (Nat.le_of_ble_eq_true rfl) dX2_restore_1 ⟨Nat.zero_le _, Nat.zero_le _⟩ (fun H locs hP hD hS => ?_)
  refine lv_if_ne (tgt := 10) hx hb dX2_restore_4 (by decide) (fun c_1 => ?_) (fun c_1 => ?_)
  · exact absurd hn c_1
  · refine lv_bipush (v := -2) hx hb dX2_restore_7 (by decide) ?_
    exact hret _ _ _ _ _ hP hD hS rfl dX2_restore_9
set_option maxHeartbeats 4000000 in
set_option maxRecDepth 100000 in
theorem k_X2_restore_un (l : Launch) (E : EE) (a o b c : Nat → Nat) (g g1 g2 : Nat → Int32) (kp : Int32) (x : Int32) (hm : ¬ f_X2_isImage x = 0) (hn : f_X2_isInSet kp x = 0) : Ci l E yX2_restore wsX2_restore { frames := 4, cells := 0, slots := 0, locals := 84 } [.ref (o 0), .int x] (phw E a o b c g g1 g2 kp) (-3) (phw E a o b c g g1 g2 kp) := by
  refine Ci.of (cc := cX2_restore) (maxL := 2) (rt := .int) (by decide) rfl rfl (Nat.le_of_ble_eq_true rfl) ?_
  intro p e s m args below meth co A Q F hE hA hret hP hD ls hl
  obtain ⟨hx, hb, hml, hown, hts⟩ := id F
  have hS : va_S A s.heap s.heap [] := va_S.rf
  have hl : lv_has ls 2 [(0, .ref (o 0)), (1, .int x)] := hl
  have in2 : ∀ w ∈ wsX20, w ∈ wsX2_restore := fun w h => List.mem_cons_of_mem _ (List.mem_append_left _ (List.mem_append_left _ (List.mem_append_right _ h)))
  have K10 := hts (.fieldLink RX2 10 "PromiseHours" "house" "LPromiseHours$House;") (by decide +kernel)
  have K16 := hts (.fieldLink RX2 16 "PromiseHours" "images" "[LPromiseHours$House;") (by decide +kernel)
  have K20 := hts (.fieldLink RX2 20 "PromiseHours" "keptImages" "I") (by decide +kernel)
  refine lv_iload_n hx hb dX2_restore_0 rfl (lv_at hl 1 rfl) ?_
  refine ci_S F hE (k_X2_isImage l E x) (va_cwS 1 hts gX2_restore_X2_isImage rfl rfl rfl (by decide +kernel) ⟨Nat.le_of_ble_eq_true rfl, Nat.le_of_ble_eq_true rfl⟩) Fr.nil hP hD hS hA rfl hl.1 rfl (Nat.le_of_ble_eq_true rfl) dX2_restore_1 ⟨Nat.zero_le _, Nat.zero_le _⟩ (fun H locs hP hD hS => ?_)
  refine lv_if_ne (tgt := 10) hx hb dX2_restore_4 (by decide) (fun c_1 => ?_) (fun c_1 => ?_)
  · refine lv_aload_n hx hb dX2_restore_10 rfl (lv_at hl 0 rfl) ?_
    refine va_get (D := E.1) (ci := 2) (v := .int kp) (C := RX2) (T := TX2) (N := 3) hx hb hts in2 hown hE.1 hP (38 + 0) (ap_h rfl) rfl 2 (by decide) K20 (fun _ h9 => h9) rfl dX2_restore_11 ?_
    refine lv_iload_n hx hb dX2_restore_14 rfl (lv_at hl 1 rfl) ?_
    refine ci_S F hE (k_X2_isInSet l E kp x) (va_cwS 2 hts gX2_restore_X2_isInSet rfl rfl rfl (by decide +kernel) ⟨Nat.le_of_ble_eq_true rfl, Nat.le_of_ble_eq_true rfl⟩) Fr.nil hP hD hS hA rfl hl.1 rfl (Nat.le_of_ble_eq_true rfl) dX2_restore_15 ⟨Nat.zero_le _, Nat.zero_le _⟩ (fun H locs hP hD hS => ?_)
    refine lv_if_ne (tgt := 24) hx hb dX2_restore_18 (by decide) (fun c_2 => ?_) (fun c_2 => ?_)
    · exact absurd hn c_2
    · refine lv_bipush (v := -3) hx hb dX2_restore_21 (by decide) ?_
      exact hret _ _ _ _ _ hP hD hS rfl dX2_restore_23
  · exact absurd c_1 hm
set_option maxHeartbeats 4000000 in
set_option maxRecDepth 100000 in
theorem k_X2_restore_0 (l : Launch) (E : EE) (a o b c : Nat → Nat) (g g1 g2 : Nat → Int32) (kp : Int32) (hn : ¬ f_X2_isInSet kp 0 = 0) (hB : ∀ r, r < 5 → g1 (42 + r) = 0 ∨ g1 (42 + r) = 1) : Ci l E yX2_restore wsX2_restore { frames := 4, cells := 0, slots := 0, locals := 84 } [.ref (o 0), .int 0] (phw E a o b c g g1 g2 kp) (1) (phw E a o b c g1 g1 g2 kp) := by
  refine Ci.of (cc := cX2_restore) (maxL := 2) (rt := .int) (by decide) rfl rfl (Nat.le_of_ble_eq_true rfl) ?_
  intro p e s m args below meth co A Q F hE hA hret hP hD ls hl
  obtain ⟨hx, hb, hml, hown, hts⟩ := id F
  have hS : va_S A s.heap s.heap [] := va_S.rf
  have hl : lv_has ls 2 [(0, .ref (o 0)), (1, .int 0)] := hl
  have in2 : ∀ w ∈ wsX20, w ∈ wsX2_restore := fun w h => List.mem_cons_of_mem _ (List.mem_append_left _ (List.mem_append_left _ (List.mem_append_right _ h)))
  have K10 := hts (.fieldLink RX2 10 "PromiseHours" "house" "LPromiseHours$House;") (by decide +kernel)
  have K16 := hts (.fieldLink RX2 16 "PromiseHours" "images" "[LPromiseHours$House;") (by decide +kernel)
  have K20 := hts (.fieldLink RX2 20 "PromiseHours" "keptImages" "I") (by decide +kernel)
  refine lv_iload_n hx hb dX2_restore_0 rfl (lv_at hl 1 rfl) ?_
  refine ci_S F hE (k_X2_isImage l E 0) (va_cwS 1 hts gX2_restore_X2_isImage rfl rfl rfl (by decide +kernel) ⟨Nat.le_of_ble_eq_true rfl, Nat.le_of_ble_eq_true rfl⟩) Fr.nil hP hD hS hA rfl hl.1 rfl (Nat.le_of_ble_eq_true rfl) dX2_restore_1 ⟨Nat.zero_le _, Nat.zero_le _⟩ (fun H locs hP hD hS => ?_)
  refine lv_if_ne (tgt := 10) hx hb dX2_restore_4 (by decide) (fun c_1 => ?_) (fun c_1 => ?_)
  · refine lv_aload_n hx hb dX2_restore_10 rfl (lv_at hl 0 rfl) ?_
    refine va_get (D := E.1) (ci := 2) (v := .int kp) (C := RX2) (T := TX2) (N := 3) hx hb hts in2 hown hE.1 hP (38 + 0) (ap_h rfl) rfl 2 (by decide) K20 (fun _ h9 => h9) rfl dX2_restore_11 ?_
    refine lv_iload_n hx hb dX2_restore_14 rfl (lv_at hl 1 rfl) ?_
    refine ci_S F hE (k_X2_isInSet l E kp 0) (va_cwS 2 hts gX2_restore_X2_isInSet rfl rfl rfl (by decide +kernel) ⟨Nat.le_of_ble_eq_true rfl, Nat.le_of_ble_eq_true rfl⟩) Fr.nil hP hD hS hA rfl hl.1 rfl (Nat.le_of_ble_eq_true rfl) dX2_restore_15 ⟨Nat.zero_le _, Nat.zero_le _⟩ (fun H locs hP hD hS => ?_)
    refine lv_if_ne (tgt := 24) hx hb dX2_restore_18 (by decide) (fun c_2 => ?_) (fun c_2 => ?_)
    · refine lv_aload_n hx hb dX2_restore_24 rfl (lv_at hl 0 rfl) ?_
      refine va_get (D := E.1) (ci := 2) (v := .ref (a 0)) (C := RX2) (T := TX2) (N := 3) hx hb hts in2 hown hE.1 hP (38 + 0) (ap_h rfl) rfl 0 (by decide) K10 (fun _ h9 => h9) rfl dX2_restore_25 ?_
      refine lv_aload_n hx hb dX2_restore_28 rfl (lv_at hl 0 rfl) ?_
      refine va_get (D := E.1) (ci := 2) (v := .ref (o 1)) (C := RX2) (T := TX2) (N := 3) hx hb hts in2 hown hE.1 hP (38 + 0) (ap_h rfl) rfl 1 (by decide) K16 (fun _ h9 => h9) rfl dX2_restore_29 ?_
      refine lv_iload_n hx hb dX2_restore_32 rfl (lv_at hl 1 rfl) ?_
      refine q_aald hx hb hE hP (38 + 1) 2 (ap_h rfl) rfl (j := 0) rfl (by omega) (by decide) (v := b 0) rfl dX2_restore_33 ?_
      refine cv_VNp F hE (k_X0_becomeLike l E a b g g1 hB) ⟨va_cnB 1 hts gX2_restore_X0_becomeLike_n177 rfl rfl rfl (ev_link hE nk_X2_177 rfl) (hts (.initialized RX0) (by decide +kernel)) (by decide +kernel) ⟨Nat.le_of_ble_eq_true rfl, Nat.le_of_ble_eq_true rfl⟩, hts (.instanceMethod yX0_becomeLike) (by decide +kernel), hts (.selects RX0 yX0_becomeLike yX0_becomeLike) (by decide +kernel)⟩ Fp.rs0 0 0 (ap_l (hs_lo 0 (by decide) rfl)) rfl rfl hP hD hS hA rfl hl.1 rfl (Nat.le_of_ble_eq_true rfl) dX2_restore_34 ⟨Nat.zero_le _, Nat.zero_le _⟩ (fun H locs hP hD hS => ?_)
      refine lv_iconst (v := 1) hx hb dX2_restore_37 (by decide) ?_
      exact hret _ _ _ _ _ hP hD hS rfl dX2_restore_38
    · exact absurd c_2 hn
  · exact absurd c_1 (by decide)
set_option maxHeartbeats 4000000 in
set_option maxRecDepth 100000 in
theorem k_X2_restore_1 (l : Launch) (E : EE) (a o b c : Nat → Nat) (g g1 g2 : Nat → Int32) (kp : Int32) (hn : ¬ f_X2_isInSet kp 1 = 0) (hB : ∀ r, r < 5 → g2 (42 + r) = 0 ∨ g2 (42 + r) = 1) : Ci l E yX2_restore wsX2_restore { frames := 4, cells := 0, slots := 0, locals := 84 } [.ref (o 0), .int 1] (phw E a o b c g g1 g2 kp) (1) (phw E a o b c g2 g1 g2 kp) := by
  refine Ci.of (cc := cX2_restore) (maxL := 2) (rt := .int) (by decide) rfl rfl (Nat.le_of_ble_eq_true rfl) ?_
  intro p e s m args below meth co A Q F hE hA hret hP hD ls hl
  obtain ⟨hx, hb, hml, hown, hts⟩ := id F
  have hS : va_S A s.heap s.heap [] := va_S.rf
  have hl : lv_has ls 2 [(0, .ref (o 0)), (1, .int 1)] := hl
  have in2 : ∀ w ∈ wsX20, w ∈ wsX2_restore := fun w h => List.mem_cons_of_mem _ (List.mem_append_left _ (List.mem_append_left _ (List.mem_append_right _ h)))
  have K10 := hts (.fieldLink RX2 10 "PromiseHours" "house" "LPromiseHours$House;") (by decide +kernel)
  have K16 := hts (.fieldLink RX2 16 "PromiseHours" "images" "[LPromiseHours$House;") (by decide +kernel)
  have K20 := hts (.fieldLink RX2 20 "PromiseHours" "keptImages" "I") (by decide +kernel)
  refine lv_iload_n hx hb dX2_restore_0 rfl (lv_at hl 1 rfl) ?_
  refine ci_S F hE (k_X2_isImage l E 1) (va_cwS 1 hts gX2_restore_X2_isImage rfl rfl rfl (by decide +kernel) ⟨Nat.le_of_ble_eq_true rfl, Nat.le_of_ble_eq_true rfl⟩) Fr.nil hP hD hS hA rfl hl.1 rfl (Nat.le_of_ble_eq_true rfl) dX2_restore_1 ⟨Nat.zero_le _, Nat.zero_le _⟩ (fun H locs hP hD hS => ?_)
  refine lv_if_ne (tgt := 10) hx hb dX2_restore_4 (by decide) (fun c_1 => ?_) (fun c_1 => ?_)
  · refine lv_aload_n hx hb dX2_restore_10 rfl (lv_at hl 0 rfl) ?_
    refine va_get (D := E.1) (ci := 2) (v := .int kp) (C := RX2) (T := TX2) (N := 3) hx hb hts in2 hown hE.1 hP (38 + 0) (ap_h rfl) rfl 2 (by decide) K20 (fun _ h9 => h9) rfl dX2_restore_11 ?_
    refine lv_iload_n hx hb dX2_restore_14 rfl (lv_at hl 1 rfl) ?_
    refine ci_S F hE (k_X2_isInSet l E kp 1) (va_cwS 2 hts gX2_restore_X2_isInSet rfl rfl rfl (by decide +kernel) ⟨Nat.le_of_ble_eq_true rfl, Nat.le_of_ble_eq_true rfl⟩) Fr.nil hP hD hS hA rfl hl.1 rfl (Nat.le_of_ble_eq_true rfl) dX2_restore_15 ⟨Nat.zero_le _, Nat.zero_le _⟩ (fun H locs hP hD hS => ?_)
    refine lv_if_ne (tgt := 24) hx hb dX2_restore_18 (by decide) (fun c_2 => ?_) (fun c_2 => ?_)
    · refine lv_aload_n hx hb dX2_restore_24 rfl (lv_at hl 0 rfl) ?_
      refine va_get (D := E.1) (ci := 2) (v := .ref (a 0)) (C := RX2) (T := TX2) (N := 3) hx hb hts in2 hown hE.1 hP (38 + 0) (ap_h rfl) rfl 0 (by decide) K10 (fun _ h9 => h9) rfl dX2_restore_25 ?_
      refine lv_aload_n hx hb dX2_restore_28 rfl (lv_at hl 0 rfl) ?_
      refine va_get (D := E.1) (ci := 2) (v := .ref (o 1)) (C := RX2) (T := TX2) (N := 3) hx hb hts in2 hown hE.1 hP (38 + 0) (ap_h rfl) rfl 1 (by decide) K16 (fun _ h9 => h9) rfl dX2_restore_29 ?_
      refine lv_iload_n hx hb dX2_restore_32 rfl (lv_at hl 1 rfl) ?_
      refine q_aald hx hb hE hP (38 + 1) 2 (ap_h rfl) rfl (j := 1) rfl (by omega) (by decide) (v := c 0) rfl dX2_restore_33 ?_
      refine cv_VNp F hE (k_X0_becomeLike l E a c g g2 hB) ⟨va_cnB 1 hts gX2_restore_X0_becomeLike_n177 rfl rfl rfl (ev_link hE nk_X2_177 rfl) (hts (.initialized RX0) (by decide +kernel)) (by decide +kernel) ⟨Nat.le_of_ble_eq_true rfl, Nat.le_of_ble_eq_true rfl⟩, hts (.instanceMethod yX0_becomeLike) (by decide +kernel), hts (.selects RX0 yX0_becomeLike yX0_becomeLike) (by decide +kernel)⟩ Fp.rs1 0 0 (ap_l (hs_lo 0 (by decide) rfl)) rfl rfl hP hD hS hA rfl hl.1 rfl (Nat.le_of_ble_eq_true rfl) dX2_restore_34 ⟨Nat.zero_le _, Nat.zero_le _⟩ (fun H locs hP hD hS => ?_)
      refine lv_iconst (v := 1) hx hb dX2_restore_37 (by decide) ?_
      exact hret _ _ _ _ _ hP hD hS rfl dX2_restore_38
    · exact absurd c_2 hn
  · exact absurd c_1 (by decide)
