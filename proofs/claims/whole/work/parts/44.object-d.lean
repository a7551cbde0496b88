/-! STATICS that nobody writes; contracts that look at them; rule -/
def rl0 (j : Nat) : Int32 := if j = 0 then 40 else if j = 1 then 10 else if j = 2 then 1 else 100
def rl1 (j : Nat) : Int32 := if j = 0 then 1 else if j = 1 then 1 else 0
def rl2 (j : Nat) : Int32 := if j = 0 then 200 else if j = 1 then 100 else if j = 2 then 9 else 500
def ST (t0 t1 t2 : Nat) (A : Nat → Prop) (U : State) : Prop :=
  (va_Z "PromiseHours" "FIRST_RULES" "[I" (.ref t0) A U U.heap ∧ va_T .int t0 4 (fun j => .int (rl0 j)) A U U.heap) ∧
  (va_Z "PromiseHours" "LEAST_RULES" "[I" (.ref t1) A U U.heap ∧ va_T .int t1 4 (fun j => .int (rl1 j)) A U U.heap) ∧
  (va_Z "PromiseHours" "GREATEST_RULES" "[I" (.ref t2) A U U.heap ∧ va_T .int t2 4 (fun j => .int (rl2 j)) A U U.heap) ∧ va_AO RX1 U ∧ va_AO RX0 U
theorem ST.go {t0 t1 t2 : Nat} {A B : Nat → Prop} {s U : State} {H : Heap} {locs : List Loc} (h : ST t0 t1 t2 A s) (hS : va_S A s.heap H locs) (hvm : s.vm.Alike U.vm) (hU : U.heap = H) (hB : ∀ q, B q → A q) : ST t0 t1 t2 B U := by
  obtain ⟨⟨a1, a2⟩, ⟨b1, b2⟩, ⟨c1, c2⟩, d1, d2⟩ := h
  subst hU
  exact ⟨⟨((a1.moved hvm).kept hS.2.1).narrow hB, ((a2.moved hvm).kept hS.2.1).narrow hB⟩, ⟨((b1.moved hvm).kept hS.2.1).narrow hB, ((b2.moved hvm).kept hS.2.1).narrow hB⟩, ⟨((c1.moved hvm).kept hS.2.1).narrow hB, ((c2.moved hvm).kept hS.2.1).narrow hB⟩, d1.moved hvm, d2.moved hvm⟩
theorem ST.call {t0 t1 t2 : Nat} {A : Nat → Prop} {s U : State} (h : ST t0 t1 t2 A s) (hvm : s.vm = U.vm) (hh : U.heap = s.heap) : ST t0 t1 t2 A U :=
  h.go (locs := []) va_S.rf (by rw [hvm]; exact Vm.Alike.refl U.vm) hh (fun _ q => q)
/-- what a method finds at its start: the world w, and the statics -/
def Ps (t0 t1 t2 : Nat) (E : EE) (w : va_W) (sz : Nat) (U : State) : Prop := Pw E w sz U ∧ ST t0 t1 t2 (va_A w sz) U
theorem Ps_blind {t0 t1 t2 : Nat} {E : EE} {av : List Value} {w : va_W} {sz : Nat} : FrameBlind (va_Pc av (Ps t0 t1 t2 E w sz)) := fun a U g mk q => by
  obtain ⟨q0, ⟨q1, qP, qE, qD⟩, qT⟩ := q
  exact ⟨q0, ⟨q1, qP, ev_same (s := U) (U := U.calling g mk a) qE rfl, qD⟩, qT.call rfl rfl⟩
theorem Ps_of {t0 t1 t2 : Nat} {E : EE} {s : State} {H : Heap} {A : Nat → Prop} {locs : List Loc} {w : va_W} (hE : ev E s) (hT : ST t0 t1 t2 A s) (hS : va_S A s.heap H locs) (hf : ∀ q, va_A w H.size q → A q) (hP : va_P E.1 vwCl w H) (hD : va_D A w) (av : List Value) : ∀ U : State, U.heap = H → s.WarmedH U.vm → va_Pc av (Ps t0 t1 t2 E w H.size) av.toArray U :=
  fun U hU hW => ⟨rfl, ⟨by rw [hU], by rw [hU]; exact hP, ev_warm hE hW, hD.weaken (fun _ _ _ _ => trivial)⟩, hT.go hS hW.alike hU hf⟩
def Cis (t0 t1 t2 : Nat) (l : Launch) (E : EE) (y : MethodName) (ws : List Cond) (rm : Room) (av : List Value) (w : va_W) (r : Int32) (w' : va_W) : Prop :=
  ∀ sz : Nat, Met l y ws rm (va_Pc av (Ps t0 t1 t2 E w sz)) (va_Qi (fun x (_ : Unit) => x = r) (Bw E w' (va_A w sz)) (va_A w sz)) 0 0 (va_A w sz)
theorem Cis.of {t0 t1 t2 : Nat} {l : Launch} {E : EE} {y : MethodName} {ws ws' : List Cond} {rm : Room} {av : List Value} {w w' : va_W} {r : Int32} {cc : ByteArray} {maxL : Nat} {rt : FieldType} (hy : plainName y.cls = true) (hw : ws = Cond.code y cc maxL (some rt) :: ws') (hn : narrow rt (.int r) = .int r) (hmx : (lg_sl av).length ≤ maxL)
    (body : ∀ (p : Program) (e : Env) (s : State) (m : MethodId) (args : Array Value) (below : List Frame) (meth : Method) (c : Code) (A : Nat → Prop) (Q : State → Prop), CallFix p m c cc maxL s args ws y.cls → ev E s → ST t0 t1 t2 A s → (∀ q, s.heap.size ≤ q → A q) →
      (∀ (H : Heap) (locs : List Loc) (pc : Nat) (ls : Array Slot) (v : Int32), va_P E.1 vwCl w' H → va_D A w' → va_S A s.heap H locs → v = r → decode cc pc = .ok (.ireturn, 1) → W p l e rm s m args below meth c H locs 0 0 Q (F0 m pc ls [.int v])) →
      va_P E.1 vwCl w s.heap → va_D A w → ∀ ls : Array Slot, lv_has ls maxL (lv_args 0 av) → W p l e rm s m args below meth c s.heap [] 0 0 Q (F0 m 0 ls [])) : Cis t0 t1 t2 l E y ws rm av w r w' := by
  intro sz
  refine Met.ofW (cc := cc) (maxL := maxL) (ret := some rt) hy hw ?_
  intro p e s m args below meth c s₁ B hml hv
  obtain ⟨rfl, ⟨hsz, hP, hE, hD0⟩, hT⟩ := hv
  subst hsz
  have hlocks := B.notSynchronized
  have hl := lv_entry av (n := maxL) hmx
  rw [lg_entry_eq]
  refine body p e s m _ below meth c (va_A w s.heap.size) _ ⟨B.exec, B.bytes, hml, findClass_of_methodNamed B.named, atoms_spec (ws := ws) B.pre⟩ hE hT (fun q h => Or.inr h) ?_ hP (hD0.self (sz := s.heap.size)) _ hl
  intro H locs pc ls v hP1 hD1 hS hvr hdg
  subst hvr
  exact W.zret B.exec B.bytes B.returns hn (fun t ht hW => ⟨⟨_, (), rfl, rfl, by rw [ht]; exact hP1, hD1⟩, hS.F ht⟩) hS.2.2 hdg
def s_X2_rule (g : Nat → Int32) (x n : Int32) : Nat → Int32 := if x < 0 then g else if x < 4 then (if n < rl1 (ix x) then g else if n ≤ rl2 (ix x) then upd g (1 + ix x) n else g) else g
def f_X2_rule (g : Nat → Int32) (x n : Int32) : Int32 := if x < 0 then -2 else if x < 4 then (if n < rl1 (ix x) then -2 else if n ≤ rl2 (ix x) then g (1 + ix x) else -2) else -2
set_option maxHeartbeats 4000000 in
set_option maxRecDepth 100000 in
theorem k_X2_rule (t0 t1 t2 : Nat) (l : Launch) (E : EE) (a o : Nat → Nat) (bA cA : Nat) (g : Nat → Int32) (kp : Int32) (rs : va_W) (x n : Int32) : Cis t0 t1 t2 l E yX2_rule wsX2_rule { frames := 0, cells := 0, slots := 0, locals := 0 } [.ref (o 0), .int x, .int n] (hs E a g ++ (phc E a o bA cA kp ++ rs)) (f_X2_rule g x n) (hs E a (s_X2_rule g x n) ++ (phc E a o bA cA kp ++ rs)) := by
  refine Cis.of (cc := cX2_rule) (maxL := 4) (rt := .int) (by decide) rfl rfl (Nat.le_of_ble_eq_true rfl) ?_
  intro p e s m args below meth c A Q F hE hT hA hret hP hD ls hl
  obtain ⟨hx, hb, hml, hown, hts⟩ := id F
  obtain ⟨-, ⟨hz1, ht1⟩, ⟨hz2, ht2⟩, -, -⟩ := hT
  have hS : va_S A s.heap s.heap [] := va_S.rf
  have hl : lv_has ls 4 [(0, .ref (o 0)), (1, .int x), (2, .int n)] := hl
  have in0 : ∀ w ∈ wsX00, w ∈ wsX2_rule := fun w h => List.mem_cons_of_mem _ (List.mem_append_right _ h)
  have in2 : ∀ w ∈ wsX20, w ∈ wsX2_rule := fun w h => List.mem_cons_of_mem _ (List.mem_append_left _ (List.mem_append_right _ h))
  have K10 := hts (.fieldLink RX2 10 "PromiseHours" "house" "LPromiseHours$House;") (by decide +kernel)
  have K24 := hts (.fieldLink RX2 24 "PromiseHours" "LEAST_RULES" "[I") (by decide +kernel)
  have K28 := hts (.fieldLink RX2 28 "PromiseHours" "GREATEST_RULES" "[I") (by decide +kernel)
  refine lv_iload_n hx hb dX2_rule_0 rfl (lv_at hl 1 rfl) ?_
  refine lv_if_lt (tgt := 9) hx hb dX2_rule_1 (by decide) (fun c_1 => ?_) (fun c_1 => ?_)
  · refine lv_bipush (v := -2) hx hb dX2_rule_9 (by decide) ?_
    have eg : g = s_X2_rule g x n := by unfold s_X2_rule; exact (if_pos c_1).symm
    exact hret _ _ _ _ _ (by rw [← eg]; exact hP) (by rw [← eg]; exact hD) hS (by unfold f_X2_rule; exact (if_pos c_1).symm) dX2_rule_11
  · refine lv_iload_n hx hb dX2_rule_4 rfl (lv_at hl 1 rfl) ?_
    refine lv_iconst (v := 4) hx hb dX2_rule_5 (by decide) ?_
    refine lv_icmp_lt (tgt := 12) hx hb dX2_rule_6 (by decide) (fun c_2 => ?_) (fun c_2 => ?_)
    · obtain ⟨b_x, e_x⟩ := rg_ix (n := 4) c_1 (fun q => Int32.lt_irrefl (Int32.lt_of_lt_of_le c_2 q)) rfl (by decide)
      refine lv_iload_n hx hb dX2_rule_12 rfl (lv_at hl 2 rfl) ?_
      refine va_gets hx hb hz1 hS hown K24 (fun _ h9 => h9) dX2_rule_13 ?_
      refine lv_iload_n hx hb dX2_rule_16 rfl (lv_at hl 1 rfl) ?_
      refine tpe e_x ?_
      refine va_ti hx hb ht1 hS (vp_in_nI b_x (by decide)) (v := .int (rl1 (ix x))) (by rw [nI_clamp (by omega)]) dX2_rule_17 ?_
      refine lv_icmp_lt (tgt := 30) hx hb dX2_rule_18 (by decide) (fun c_3 => ?_) (fun c_3 => ?_)
      · refine lv_bipush (v := -2) hx hb dX2_rule_30 (by decide) ?_
        have eg : g = s_X2_rule g x n := by unfold s_X2_rule; exact ((if_neg c_1).trans ((if_pos c_2).trans (if_pos c_3))).symm
        exact hret _ _ _ _ _ (by rw [← eg]; exact hP) (by rw [← eg]; exact hD) hS (by unfold f_X2_rule; exact ((if_neg c_1).trans ((if_pos c_2).trans (if_pos c_3))).symm) dX2_rule_32
      · refine lv_iload_n hx hb dX2_rule_21 rfl (lv_at hl 2 rfl) ?_
        refine va_gets hx hb hz2 hS hown K28 (fun _ h9 => h9) dX2_rule_22 ?_
        refine lv_iload_n hx hb dX2_rule_25 rfl (lv_at hl 1 rfl) ?_
        refine tpe e_x ?_
        refine va_ti hx hb ht2 hS (vp_in_nI b_x (by decide)) (v := .int (rl2 (ix x))) (by rw [nI_clamp (by omega)]) dX2_rule_26 ?_
        refine lv_icmp_le (tgt := 33) hx hb dX2_rule_27 (by decide) (fun c_4 => ?_) (fun c_4 => ?_)
        · refine lv_aload_n hx hb dX2_rule_33 rfl (lv_at hl 0 rfl) ?_
          refine va_get (D := E.1) (ci := 2) (v := .ref (a 0)) (C := RX2) (T := TX2) (N := 3) hx hb hts in2 hown hE.1 hP (38 + 0) (ap_h rfl) rfl 0 (by decide) K10 (fun _ h9 => h9) rfl dX2_rule_34 ?_
          refine va_getN (D := E.1) (ci := 0) (v := .ref (a 1)) (C := RX0) (T := TX0) (N := 17) hx hb hts in0 hown hE.1 hP 0 (ap_l (hs_lo 0 (by decide) rfl)) rfl 1 (by decide) (ev_use hE nk_X2_31 rfl) (fun _ h9 => h9) rfl dX2_rule_37 ?_
          refine lv_iload_n hx hb dX2_rule_40 rfl (lv_at hl 1 rfl) ?_
          refine tpe e_x ?_
          refine q_iald hx hb hE hP 1 (ap_l (hs_lo 1 (by decide) rfl)) (j := ix x) (v := g (1 + ix x)) rfl (by omega) (by decide) (seg_at (by omega)) dX2_rule_41 ?_
          refine lv_istore_n (lv' := [(3, .int (g (1 + ix x))), (0, .ref (o 0)), (1, .int x), (2, .int n)]) hx hb dX2_rule_42 rfl hl (by decide) rfl (fun ls hl => ?_)
          refine lv_aload_n hx hb dX2_rule_43 rfl (lv_at hl 1 rfl) ?_
          refine va_get (D := E.1) (ci := 2) (v := .ref (a 0)) (C := RX2) (T := TX2) (N := 3) hx hb hts in2 hown hE.1 hP (38 + 0) (ap_h rfl) rfl 0 (by decide) K10 (fun _ h9 => h9) rfl dX2_rule_44 ?_
          refine va_getN (D := E.1) (ci := 0) (v := .ref (a 1)) (C := RX0) (T := TX0) (N := 17) hx hb hts in0 hown hE.1 hP 0 (ap_l (hs_lo 0 (by decide) rfl)) rfl 1 (by decide) (ev_use hE nk_X2_31 rfl) (fun _ h9 => h9) rfl dX2_rule_47 ?_
          refine lv_iload_n hx hb dX2_rule_50 rfl (lv_at hl 2 rfl) ?_
          refine tpe e_x ?_
          refine lv_iload_n hx hb dX2_rule_51 rfl (lv_at hl 3 rfl) ?_
          refine q_iast hx hb hE hP hD hS 1 (ap_l (hs_lo 1 (by decide) rfl)) (j := ix x) rfl (by omega) (by decide) (set_h (by omega) (hs_w1 (by omega))) dX2_rule_52 (fun H locs hP hD hS => ?_)
          refine lv_iload_n hx hb dX2_rule_53 rfl (lv_at hl 0 rfl) ?_
          have eg : upd g (1 + ix x) n = s_X2_rule g x n := by unfold s_X2_rule; exact ((if_neg c_1).trans ((if_pos c_2).trans ((if_neg c_3).trans (if_pos c_4)))).symm
          exact hret _ _ _ _ _ (by rw [← eg]; exact hP) (by rw [← eg]; exact hD) hS (by unfold f_X2_rule; exact ((if_neg c_1).trans ((if_pos c_2).trans ((if_neg c_3).trans (if_pos c_4)))).symm) dX2_rule_54
        · refine lv_bipush (v := -2) hx hb dX2_rule_30 (by decide) ?_
          have eg : g = s_X2_rule g x n := by unfold s_X2_rule; exact ((if_neg c_1).trans ((if_pos c_2).trans ((if_neg c_3).trans (if_neg c_4)))).symm
          exact hret _ _ _ _ _ (by rw [← eg]; exact hP) (by rw [← eg]; exact hD) hS (by unfold f_X2_rule; exact ((if_neg c_1).trans ((if_pos c_2).trans ((if_neg c_3).trans (if_neg c_4)))).symm) dX2_rule_32
    · refine lv_bipush (v := -2) hx hb dX2_rule_9 (by decide) ?_
      have eg : g = s_X2_rule g x n := by unfold s_X2_rule; exact ((if_neg c_1).trans (if_neg c_2)).symm
      exact hret _ _ _ _ _ (by rw [← eg]; exact hP) (by rw [← eg]; exact hD) hS (by unfold f_X2_rule; exact ((if_neg c_1).trans (if_neg c_2)).symm) dX2_rule_11
