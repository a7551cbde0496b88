/-! PromiseHours.<init> -/
theorem P_ar1 {D : va_G} {cl : List vw_C} {H : Heap} {x0 : Nat × va_E} {q n : Nat} {cA : ClassId} {F F' : Nat → Option Nat} {z : va_W} (hP : va_P D cl ([x0, (q, .inl (cA, n, .inr (.inr (.inr (.inr F)))))] ++ z) H) (h : ∀ j, j < n → F j = F' j) : va_P D cl ([x0, (q, .inl (cA, n, .inr (.inr (.inr (.inr F')))))] ++ z) H
  | 0, p, hk => hP 0 p hk
  | 1, p, hk => by
    have e := hP 1 _ rfl
    cases hk
    show H[q]? = some (vp_cell cA (n, .inr (.inr (.inr (.inr F')))))
    have e : H[q]? = some (vp_cell cA (n, .inr (.inr (.inr (.inr F))))) := e
    rw [e]
    rw [vp_cell_q, vp_cell_q, arrV_same (fun j hj => by rw [h j hj])]
  | k + 2, p, hk => hP (k + 2) p hk
theorem D_ar1 {A : Nat → Prop} {x0 : Nat × va_E} {q : Nat} {e e' : va_E} {z : va_W} (hD : va_D A ([x0, (q, e)] ++ z)) : va_D A ([x0, (q, e')] ++ z) := hD.set (p := 1) (a := q) (e0 := e) (e := e') rfl
theorem hf00_ok : ∀ j, j < 17 → defaultValue (tyX0 j) = vp_V hf00 j := by
  intro j hj
  rcases (show j = 0 ∨ j = 1 ∨ j = 2 ∨ j = 3 ∨ j = 4 ∨ j = 5 ∨ j = 6 ∨ j = 7 ∨ j = 8 ∨ j = 9 ∨ j = 10 ∨ j = 11 ∨ j = 12 ∨ j = 13 ∨ j = 14 ∨ j = 15 ∨ j = 16 by omega) with rfl | rfl | rfl | rfl | rfl | rfl | rfl | rfl | rfl | rfl | rfl | rfl | rfl | rfl | rfl | rfl | rfl <;> rfl
def o2 (o q : Nat) : Nat → Nat
  | 0 => o
  | _ => q
theorem pm_3 {α : Type} (x : α) (T n : List α) : (([x] ++ T) ++ n).Perm ((x :: n) ++ T) := by
  show (x :: (T ++ n)).Perm (x :: (n ++ T))
  exact List.Perm.cons x List.perm_append_comm
theorem pm_4 {α : Type} (P A B C : List α) : (P ++ ((A ++ B) ++ C)).Perm (A ++ (P ++ (B ++ C))) := by
  rw [List.append_assoc]
  exact List.perm_append_comm_assoc P A (B ++ C)
abbrev AOBC : Type := (Nat → Nat) × (Nat → Nat) × (Nat → Nat) × (Nat → Nat)
set_option maxHeartbeats 4000000 in
set_option maxRecDepth 100000 in
theorem k_X2_init (t0 t1 t2 : Nat) (l : Launch) (E : EE) (o : Nat) : Cc t0 t1 t2 l E yX2_init wsX2_init { frames := 3, cells := 115, slots := 1040, locals := 63 } o [(o, .inr (2, [.null, .null, .int 0]))] (fun u : AOBC => u.2.1 0 = o) (fun u => phw E u.1 u.2.1 u.2.2.1 u.2.2.2 g0 g0 g0 0) 115 1040 := by
  refine Cc.of (cc := cX2_init) (maxL := 1) (by decide) rfl rfl (Nat.le_refl 1) ?_
  intro p e s m args below meth c A Q F hE hT hnm hA hret hP hD ls hl
  obtain ⟨hx, hb, hml, hown, hts⟩ := id F
  obtain ⟨-, -, -, -, hao⟩ := id hT
  have hS : va_S A s.heap s.heap [] := va_S.rf
  have in0 : ∀ w ∈ wsX00, w ∈ wsX2_init := fun w h => List.mem_cons_of_mem _ (List.mem_append_left _ (List.mem_append_left _ (List.mem_append_right _ h)))
  have in2 : ∀ w ∈ wsX20, w ∈ wsX2_init := fun w h => List.mem_cons_of_mem _ (List.mem_append_left _ (List.mem_append_right _ h))
  have hcl := hts (.classLink RX2 7 RX0) (by decide +kernel)
  have hns := hts (.instantiable RX0 17) (by decide +kernel)
  have hi0 := hts (.initialized RX0) (by decide +kernel)
  have K10 := hts (.fieldLink RX2 10 "PromiseHours" "house" "LPromiseHours$House;") (by decide +kernel)
  have K16 := hts (.fieldLink RX2 16 "PromiseHours" "images" "[LPromiseHours$House;") (by decide +kernel)
  have K20 := hts (.fieldLink RX2 20 "PromiseHours" "keptImages" "I") (by decide +kernel)
  refine lv_aload_n hx hb dX2_init_0 rfl (lv_at hl 0 rfl) ?_
  refine W.objInit hx hb hown (hts (.methodLink RX2 1 objectInit) (by decide +kernel)) (hts (.instanceMethod objectInit) (by decide +kernel)) (hts (.code objectInit ⟨#[0xb1]⟩ 1 none) (by decide +kernel)) rfl (by rw [hml]; exact hl.1) rfl dX2_init_1 (Nat.le_of_ble_eq_true rfl) (Nat.le_of_ble_eq_true rfl) ?_
  refine W.eq (g2 := F0 m 4 ls []) rfl ?_
  refine lv_aload_n hx hb dX2_init_4 rfl (lv_at hl 0 rfl) ?_
  refine va_new (ci := 0) (fs := hf00) (C := RX0) (T := TX0) (N := 17) hx hb hts in0 tyX0 tyX0_ok hown hcl hns hi0 hE.1 hP hD hS hA rfl hf00_ok (Nat.le_of_ble_eq_true rfl) (Nat.le_of_ble_eq_true rfl) dX2_init_5 (fun r0 H hP hD hS => ?_)
  refine lv_dup hx hb dX2_init_8 rfl ?_
  have hP : va_P E.1 vwCl (([(o, .inr (2, [.null, .null, .int 0]))] ++ []) ++ [(r0, .inr (0, hf00))]) H := hP
  have hD : va_D A (([(o, .inr (2, [.null, .null, .int 0]))] ++ []) ++ [(r0, .inr (0, hf00))]) := hD
  refine cc_IN F hE hT (k_X0_init t0 t1 t2 l E r0) ⟨va_cnB 0 hts gX2_init_X0_init_n9 rfl rfl rfl (ev_link hE nk_X2_9 rfl) hi0 (by decide +kernel) ⟨(Nat.le_of_ble_eq_true rfl), (Nat.le_of_ble_eq_true rfl)⟩, rfl, hts (.instanceMethod yX0_init) (by decide +kernel)⟩ (fun u => Fp.sn) (fun _ => 0) hP hD hS hA hl.1 rfl (Nat.le_of_ble_eq_true rfl) dX2_init_9 ⟨(Nat.le_of_ble_eq_true rfl), (Nat.le_of_ble_eq_true rfl)⟩ (fun a H locs hu hP hD hS => ?_)
  have hu : a 0 = r0 := hu
  rw [← hu]
  have hP : va_P E.1 vwCl ([(o, .inr (2, [.null, .null, .int 0]))] ++ hs E a g0) H := hP
  have hD : va_D A ([(o, .inr (2, [.null, .null, .int 0]))] ++ hs E a g0) := hD
  refine va_putF (D := E.1) (ci := 2) (v := .ref (a 0)) (ty := .object RX0) (C := RX2) (T := TX2) (N := 3) hx hb hts in2 tyX2 tyX2_ok nmX2 hown hE.1 hP hD hS 0 rfl rfl 0 (by decide) K10 (fun _ h9 => h9) rfl hnm rfl (by decide +kernel) rfl rfl (Nat.le_of_ble_eq_true rfl) dX2_init_12 (fun H locs hP hD hS => ?_)
  have hP : va_P E.1 vwCl ([(o, .inr (2, [.ref (a 0), .null, .int 0]))] ++ hs E a g0) H := hP
  have hD : va_D A ([(o, .inr (2, [.ref (a 0), .null, .int 0]))] ++ hs E a g0) := hD
  refine lv_aload_n hx hb dX2_init_15 rfl (lv_at hl 0 rfl) ?_
  refine lv_iconst (v := 2) hx hb dX2_init_16 (by decide) ?_
  refine q_newr hx hb hE hown hcl hao 2 rfl hP hD hS hA 2 rfl (by decide) (Nat.le_of_ble_eq_true rfl) (Nat.le_of_ble_eq_true rfl) dX2_init_17 (fun q H hP hD hS => ?_)
  have hP := Pp (pm_3 _ _ _) hP
  have hD := Dp (pm_3 _ _ _) hD
  have hP : va_P E.1 vwCl ([(o, .inr (2, [.ref (a 0), .null, .int 0])), (q, .inl (E.2 2, 2, .inr (.inr (.inr (.inr (fun _ => none))))))] ++ hs E a g0) H := hP
  have hD : va_D A ([(o, .inr (2, [.ref (a 0), .null, .int 0])), (q, .inl (E.2 2, 2, .inr (.inr (.inr (.inr (fun _ => none))))))] ++ hs E a g0) := hD
  refine lv_dup hx hb dX2_init_20 rfl ?_
  refine lv_iconst (v := 0) hx hb dX2_init_21 (by decide) ?_
  refine va_new (ci := 0) (fs := hf00) (C := RX0) (T := TX0) (N := 17) hx hb hts in0 tyX0 tyX0_ok hown hcl hns hi0 hE.1 hP hD hS hA rfl hf00_ok (Nat.le_of_ble_eq_true rfl) (Nat.le_of_ble_eq_true rfl) dX2_init_22 (fun r1 H hP hD hS => ?_)
  refine lv_dup hx hb dX2_init_25 rfl ?_
  have hP : va_P E.1 vwCl (([(o, .inr (2, [.ref (a 0), .null, .int 0])), (q, .inl (E.2 2, 2, .inr (.inr (.inr (.inr (fun _ => none))))))] ++ hs E a g0) ++ [(r1, .inr (0, hf00))]) H := hP
  have hD : va_D A (([(o, .inr (2, [.ref (a 0), .null, .int 0])), (q, .inl (E.2 2, 2, .inr (.inr (.inr (.inr (fun _ => none))))))] ++ hs E a g0) ++ [(r1, .inr (0, hf00))]) := hD
  refine cc_IN F hE hT (k_X0_init t0 t1 t2 l E r1) ⟨va_cnB 0 hts gX2_init_X0_init_n9 rfl rfl rfl (ev_link hE nk_X2_9 rfl) hi0 (by decide +kernel) ⟨(Nat.le_of_ble_eq_true rfl), (Nat.le_of_ble_eq_true rfl)⟩, rfl, hts (.instanceMethod yX0_init) (by decide +kernel)⟩ (fun u => Fp.sn) (fun _ => 0) hP hD hS hA hl.1 rfl (Nat.le_of_ble_eq_true rfl) dX2_init_26 ⟨(Nat.le_of_ble_eq_true rfl), (Nat.le_of_ble_eq_true rfl)⟩ (fun b1 H locs hu hP hD hS => ?_)
  have hu : b1 0 = r1 := hu
  rw [← hu]
  have hP : va_P E.1 vwCl ([(o, .inr (2, [.ref (a 0), .null, .int 0])), (q, .inl (E.2 2, 2, .inr (.inr (.inr (.inr (fun _ => none))))))] ++ (hs E a g0 ++ hs E b1 g0)) H := hP
  have hD : va_D A ([(o, .inr (2, [.ref (a 0), .null, .int 0])), (q, .inl (E.2 2, 2, .inr (.inr (.inr (.inr (fun _ => none))))))] ++ (hs E a g0 ++ hs E b1 g0)) := hD
  refine va_astq (r := (RX0, TX0, 17)) hx hb hE.1 hP hD hS 1 2 (2 + (38 + 0)) 0 rfl rfl (v := b1 0) (ap_r (x := [_, _]) (ap_h (hs_lo 0 (by decide) rfl))) rfl (vp_in_nI (n := 0) (N := 2) (by decide) (by decide)) dX2_init_29 (fun H locs hP hD hS => ?_)
  have hP : va_P E.1 vwCl ([(o, .inr (2, [.ref (a 0), .null, .int 0])), (q, .inl (E.2 2, 2, .inr (.inr (.inr (.inr (va_up (fun _ => none) 0 (some (b1 0))))))))] ++ (hs E a g0 ++ hs E b1 g0)) H := hP
  have hD : va_D A ([(o, .inr (2, [.ref (a 0), .null, .int 0])), (q, .inl (E.2 2, 2, .inr (.inr (.inr (.inr (va_up (fun _ => none) 0 (some (b1 0))))))))] ++ (hs E a g0 ++ hs E b1 g0)) := hD
  refine lv_dup hx hb dX2_init_30 rfl ?_
  refine lv_iconst (v := 1) hx hb dX2_init_31 (by decide) ?_
  refine va_new (ci := 0) (fs := hf00) (C := RX0) (T := TX0) (N := 17) hx hb hts in0 tyX0 tyX0_ok hown hcl hns hi0 hE.1 hP hD hS hA rfl hf00_ok (Nat.le_of_ble_eq_true rfl) (Nat.le_of_ble_eq_true rfl) dX2_init_32 (fun r2 H hP hD hS => ?_)
  refine lv_dup hx hb dX2_init_35 rfl ?_
  have hP : va_P E.1 vwCl (([(o, .inr (2, [.ref (a 0), .null, .int 0])), (q, .inl (E.2 2, 2, .inr (.inr (.inr (.inr (va_up (fun _ => none) 0 (some (b1 0))))))))] ++ (hs E a g0 ++ hs E b1 g0)) ++ [(r2, .inr (0, hf00))]) H := hP
  have hD : va_D A (([(o, .inr (2, [.ref (a 0), .null, .int 0])), (q, .inl (E.2 2, 2, .inr (.inr (.inr (.inr (va_up (fun _ => none) 0 (some (b1 0))))))))] ++ (hs E a g0 ++ hs E b1 g0)) ++ [(r2, .inr (0, hf00))]) := hD
  refine cc_IN F hE hT (k_X0_init t0 t1 t2 l E r2) ⟨va_cnB 0 hts gX2_init_X0_init_n9 rfl rfl rfl (ev_link hE nk_X2_9 rfl) hi0 (by decide +kernel) ⟨(Nat.le_of_ble_eq_true rfl), (Nat.le_of_ble_eq_true rfl)⟩, rfl, hts (.instanceMethod yX0_init) (by decide +kernel)⟩ (fun u => Fp.sn) (fun _ => 0) hP hD hS hA hl.1 rfl (Nat.le_of_ble_eq_true rfl) dX2_init_36 ⟨(Nat.le_of_ble_eq_true rfl), (Nat.le_of_ble_eq_true rfl)⟩ (fun b2 H locs hu hP hD hS => ?_)
  have hu : b2 0 = r2 := hu
  rw [← hu]
  have hP : va_P E.1 vwCl ([(o, .inr (2, [.ref (a 0), .null, .int 0])), (q, .inl (E.2 2, 2, .inr (.inr (.inr (.inr (va_up (fun _ => none) 0 (some (b1 0))))))))] ++ ((hs E a g0 ++ hs E b1 g0) ++ hs E b2 g0)) H := hP
  have hD : va_D A ([(o, .inr (2, [.ref (a 0), .null, .int 0])), (q, .inl (E.2 2, 2, .inr (.inr (.inr (.inr (va_up (fun _ => none) 0 (some (b1 0))))))))] ++ ((hs E a g0 ++ hs E b1 g0) ++ hs E b2 g0)) := hD
  refine va_astq (r := (RX0, TX0, 17)) hx hb hE.1 hP hD hS 1 2 (2 + ((hs E a g0 ++ hs E b1 g0).length + 0)) 0 rfl rfl (v := b2 0) (ap_r (x := [_, _]) (ap_r (x := hs E a g0 ++ hs E b1 g0) (hs_lo 0 (by decide) rfl))) rfl (vp_in_nI (n := 1) (N := 2) (by decide) (by decide)) dX2_init_39 (fun H locs hP hD hS => ?_)
  have hP : va_P E.1 vwCl ([(o, .inr (2, [.ref (a 0), .null, .int 0])), (q, .inl (E.2 2, 2, .inr (.inr (.inr (.inr (va_up (va_up (fun _ => none) 0 (some (b1 0))) 1 (some (b2 0))))))))] ++ ((hs E a g0 ++ hs E b1 g0) ++ hs E b2 g0)) H := hP
  have hD : va_D A ([(o, .inr (2, [.ref (a 0), .null, .int 0])), (q, .inl (E.2 2, 2, .inr (.inr (.inr (.inr (va_up (va_up (fun _ => none) 0 (some (b1 0))) 1 (some (b2 0))))))))] ++ ((hs E a g0 ++ hs E b1 g0) ++ hs E b2 g0)) := hD
  refine va_putF (D := E.1) (ci := 2) (v := .ref q) (ty := .array (.object RX0)) (C := RX2) (T := TX2) (N := 3) hx hb hts in2 tyX2 tyX2_ok nmX2 hown hE.1 hP hD hS 0 rfl rfl 1 (by decide) K16 (fun _ h9 => h9) rfl hnm rfl (by decide +kernel) rfl rfl (Nat.le_of_ble_eq_true rfl) dX2_init_40 (fun H locs hP hD hS => ?_)
  have hP : va_P E.1 vwCl ([(o, .inr (2, [.ref (a 0), .ref q, .int 0])), (q, .inl (E.2 2, 2, .inr (.inr (.inr (.inr (va_up (va_up (fun _ => none) 0 (some (b1 0))) 1 (some (b2 0))))))))] ++ ((hs E a g0 ++ hs E b1 g0) ++ hs E b2 g0)) H := hP
  have hD : va_D A ([(o, .inr (2, [.ref (a 0), .ref q, .int 0])), (q, .inl (E.2 2, 2, .inr (.inr (.inr (.inr (va_up (va_up (fun _ => none) 0 (some (b1 0))) 1 (some (b2 0))))))))] ++ ((hs E a g0 ++ hs E b1 g0) ++ hs E b2 g0)) := hD
  refine lv_aload_n hx hb dX2_init_43 rfl (lv_at hl 0 rfl) ?_
  refine lv_iconst (v := 0) hx hb dX2_init_44 (by decide) ?_
  refine va_put (D := E.1) (ci := 2) (v := .int 0) (ty := .int) (C := RX2) (T := TX2) (N := 3) hx hb hts in2 tyX2 tyX2_ok nmX2 hown hE.1 hP hD hS 0 rfl rfl 2 (by decide) K20 (fun _ h9 => h9) rfl (by decide +kernel) rfl rfl (Nat.le_of_ble_eq_true rfl) dX2_init_45 (fun H locs hP hD hS => ?_)
  have hP : va_P E.1 vwCl ([(o, .inr (2, [.ref (a 0), .ref q, .int 0])), (q, .inl (E.2 2, 2, .inr (.inr (.inr (.inr (va_up (va_up (fun _ => none) 0 (some (b1 0))) 1 (some (b2 0))))))))] ++ ((hs E a g0 ++ hs E b1 g0) ++ hs E b2 g0)) H := hP
  have hD : va_D A ([(o, .inr (2, [.ref (a 0), .ref q, .int 0])), (q, .inl (E.2 2, 2, .inr (.inr (.inr (.inr (va_up (va_up (fun _ => none) 0 (some (b1 0))) 1 (some (b2 0))))))))] ++ ((hs E a g0 ++ hs E b1 g0) ++ hs E b2 g0)) := hD
  have hP := P_ar1 (F' := fun j => some (if j = 0 then b1 0 else b2 0)) hP (fun j hj => by rcases (show j = 0 ∨ j = 1 by omega) with rfl | rfl <;> rfl)
  have hD := D_ar1 (e' := .inl (E.2 2, 2, .inr (.inr (.inr (.inr (fun j => some (if j = 0 then b1 0 else b2 0))))))) hD
  exact hret (a, o2 o q, b1, b2) _ _ _ _ rfl (Pp (pm_4 _ _ _ _) hP) (Dp (pm_4 _ _ _ _) hD) hS dX2_init_48
