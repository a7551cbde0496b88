/-! FRAMES for cells at any places; rows that are filled and copied -/
theorem Pp {D : va_G} {cl : List vw_C} {x y : va_W} {H : Heap} (h : x.Perm y) (hP : va_P D cl x H) : va_P D cl y H := by
  intro k q hk
  obtain ⟨i, hi⟩ := List.getElem?_of_mem (h.mem_iff.mpr (List.mem_of_getElem? hk))
  exact hP i q hi
theorem Dp {A : Nat → Prop} {x y : va_W} (h : x.Perm y) (hD : va_D A x) : va_D A y := by
  have hp : x.Pairwise (fun p q => p.1 ≠ q.1) := List.pairwise_iff_getElem.mpr (fun i j hi hj hij e => by
    have := hD.1 i j _ _ (List.getElem?_eq_getElem hi) (List.getElem?_eq_getElem hj) e
    omega)
  have hq : y.Pairwise (fun p q => p.1 ≠ q.1) := (List.Perm.pairwise_iff (fun {_ _} hh => Ne.symm hh) h).mp hp
  refine ⟨fun i j p q hi hj e => ?_, fun k q hk => ?_⟩
  · obtain ⟨hi', ei⟩ := List.getElem?_eq_some_iff.mp hi
    obtain ⟨hj', ej⟩ := List.getElem?_eq_some_iff.mp hj
    rcases Nat.lt_trichotomy i j with c | c | c
    · have := List.pairwise_iff_getElem.mp hq i j hi' hj' c
      rw [ei, ej] at this
      exact absurd e this
    · exact c
    · have := List.pairwise_iff_getElem.mp hq j i hj' hi' c
      rw [ei, ej] at this
      exact absurd e.symm this
  · obtain ⟨i, hi⟩ := List.getElem?_of_mem (h.mem_iff.mpr (List.mem_of_getElem? hk))
    exact hD.2 i q hi
/-- wd holds wc, its cells anywhere; with w1 in their place it is wd' -/
def Fp (wd wc w1 wd' : va_W) : Prop := ∃ z : va_W, wd.Perm (wc ++ z) ∧ wd'.Perm (w1 ++ z)
theorem Fp.part {wd wc w1 wd' : va_W} (h : Fp wd wc w1 wd') {D : va_G} {cl : List vw_C} {A : Nat → Prop} {H : Heap} (hP : va_P D cl wd H) (hD : va_D A wd) : va_P D cl wc H ∧ va_D A wc := by
  obtain ⟨z, h1, -⟩ := h
  exact ⟨Pl (Pp h1 hP), Dl (Dp h1 hD)⟩
theorem Fp.free {wd wc w1 wd' : va_W} (h : Fp wd wc w1 wd') {A : Nat → Prop} {H0 H : Heap} {locs : List Loc} (hD : va_D A wd) (hS : va_S A H0 H locs) (hA : ∀ q, H0.size ≤ q → A q) : ∀ q, va_A wc H.size q → A q := by
  obtain ⟨z, h1, -⟩ := h
  exact (Fr.pre (w := wc) (w' := w1) (r := z)).free (Dp h1 hD) hS hA
theorem Fp.join {wd wc w1 wd' : va_W} (h : Fp wd wc w1 wd') {D : va_G} {cl : List vw_C} {A : Nat → Prop} {H H1 : Heap} (hP : va_P D cl wd H) (hD : va_D A wd) (hk : ∀ q : Nat, q < H.size → ¬ va_A wc H.size q → H1[q]? = H[q]?) (hF : ∀ q, va_A wc H.size q → A q) (hP1 : va_P D cl w1 H1) (hD1 : va_D (va_A wc H.size) w1) : va_P D cl wd' H1 ∧ va_D A wd' := by
  obtain ⟨z, h1, h2⟩ := h
  have := (Fr.pre (w := wc) (w' := w1) (r := z)).join (Pp h1 hP) (Dp h1 hD) hk hF hP1 hD1
  exact ⟨Pp h2.symm this.1, Dp h2.symm this.2⟩
theorem Fp.of {wd wc w1 wd' : va_W} (h : Fr wd wc w1 wd') : Fp wd wc w1 wd' := by
  obtain ⟨x, z, rfl, rfl⟩ := h
  exact ⟨x ++ z, List.perm_append_comm_assoc x wc z, List.perm_append_comm_assoc x w1 z⟩
theorem set_split {α : Type} : ∀ (l : List α) (i : Nat) (x y : α), l[i]? = some x → ∃ s t : List α, l = s ++ x :: t ∧ l.set i y = s ++ y :: t
  | [], i, x, y, h => by simp at h
  | a :: l, 0, x, y, h => by
    simp at h
    subst h
    exact ⟨[], l, rfl, rfl⟩
  | a :: l, i + 1, x, y, h => by
    obtain ⟨s, t, h1, h2⟩ := set_split l i x y (by simpa using h)
    refine ⟨a :: s, t, ?_, ?_⟩
    · rw [List.cons_append, ← h1]
    · show a :: l.set i y = _
      rw [List.cons_append, ← h2]
/-- one cell -/
theorem Fp.one {wd : va_W} {i : Nat} {x y : Nat × va_E} (h : wd[i]? = some x) : Fp wd [x] [y] (wd.set i y) := by
  obtain ⟨s, t, h1, h2⟩ := set_split wd i x y h
  refine ⟨s ++ t, ?_, ?_⟩
  · rw [h1]; exact List.perm_middle
  · rw [h2]; exact List.perm_middle
/-- two cells, the second is written -/
theorem Fp.two {wd : va_W} {i j : Nat} {z x y : Nat × va_E} (hz : wd[i]? = some z) (h : wd[j]? = some x) (hij : i ≠ j) : Fp wd [z, x] [z, y] (wd.set j y) := by
  obtain ⟨s, t, h1, h2⟩ := set_split wd j x y h
  have hm : z ∈ s ++ t := by
    have hz2 : (wd.set j y)[i]? = some z := by rw [List.getElem?_set_ne (fun e => hij e.symm)]; exact hz
    have hlen : s.length = j ∨ s.length ≠ j := by omega
    by_cases hl : j < s.length
    · have e1 : (s ++ x :: t)[j]? = some x := by rw [← h1]; exact h
      rcases Nat.lt_trichotomy i s.length with c | c | c
      · rw [h1, List.getElem?_append_left c] at hz
        exact List.mem_append_left _ (List.mem_of_getElem? hz)
      · have q1 : (s ++ y :: t)[j]? = some y := by
          rw [← h2, List.getElem?_set_self (by rw [h1]; simp; omega)]
        rw [List.getElem?_append_left hl] at q1 e1
        have : x = y := Option.some.inj (e1.symm.trans q1)
        rw [h1, c, List.getElem?_append_right (Nat.le_refl _), Nat.sub_self] at hz
        have hz' : x = z := by simpa using hz
        rw [← hz']
        exact List.mem_append_left _ (List.mem_of_getElem? e1)
      · rw [h1, List.getElem?_append_right (by omega)] at hz
        obtain ⟨k, hk⟩ : ∃ k, i - s.length = k + 1 := ⟨i - s.length - 1, by omega⟩
        rw [hk] at hz
        exact List.mem_append_right _ (List.mem_of_getElem? (by simpa using hz))
    · rcases Nat.lt_trichotomy i s.length with c | c | c
      · rw [h1, List.getElem?_append_left c] at hz
        exact List.mem_append_left _ (List.mem_of_getElem? hz)
      · have hj2 : s.length < j := by omega
        rw [h1, c, List.getElem?_append_right (Nat.le_refl _), Nat.sub_self] at hz
        have hz' : x = z := by simpa using hz
        rw [h1, List.getElem?_append_right (by omega)] at h
        obtain ⟨k, hk⟩ : ∃ k, j - s.length = k + 1 := ⟨j - s.length - 1, by omega⟩
        rw [hk] at h
        rw [← hz']
        exact List.mem_append_right _ (List.mem_of_getElem? (by simpa using h))
      · rw [h1, List.getElem?_append_right (by omega)] at hz
        obtain ⟨k, hk⟩ : ∃ k, i - s.length = k + 1 := ⟨i - s.length - 1, by omega⟩
        rw [hk] at hz
        exact List.mem_append_right _ (List.mem_of_getElem? (by simpa using hz))
  obtain ⟨s2, t2, e2⟩ := List.append_of_mem hm
  have pz : (s ++ t).Perm (z :: (s2 ++ t2)) := by rw [e2]; exact List.perm_middle
  refine ⟨s2 ++ t2, ?_, ?_⟩
  · rw [h1]
    exact (List.perm_middle.trans (List.Perm.cons x pz)).trans (List.Perm.swap z x _)
  · rw [h2]
    exact (List.perm_middle.trans (List.Perm.cons y pz)).trans (List.Perm.swap z y _)
section CLP
variable {p : Program} {l : Launch} {e : Env} {R : Room} {s : State} {m : MethodId} {args : Array Value} {below : List Frame} {meth : Method} {c : Code} {H H0 : Heap} {locs : List Loc} {Q : State → Prop} {cc : ByteArray} {pc : Nat} {ls : Array Slot} {rest st0 : List Value} {A : Nat → Prop} {E : EE} {wd wc w1 wd' : va_W} {aa : Array Value} {r : Int32} {cells slots : Nat}
theorem cl_ip (hr : va_Run p l e R s m args below meth c H locs cells slots 0 0 (F0 m pc ls st0) rest (va_Qi (fun x (_ : Unit) => x = r) (Bw E w1 (va_A wc H.size)) (va_A wc H.size) aa) (va_A wc H.size)) (hF : Fp wd wc w1 wd') (hP : va_P E.1 vwCl wd H) (hD : va_D A wd) (hS : va_S A H0 H locs) (hA : ∀ q, H0.size ≤ q → A q)
    (kk : ∀ (H1 : Heap) (locs1 : List Loc), va_P E.1 vwCl wd' H1 → va_D A wd' → va_S A H0 H1 locs1 → W p l e R s m args below meth c H1 locs1 cells slots Q (F0 m (pc + 3) ls (.int r :: rest))) : W p l e R s m args below meth c H locs cells slots Q (F0 m pc ls st0) := by
  have hf := hF.free hD hS hA
  refine va_calli hr hS (fun q _ h => hf q h) hf (fun x u t H1 locs1 ht hvm hw hB hz1 hk1 hS1 => ?_)
  subst hw
  obtain ⟨hP1, hD1⟩ := hB
  rw [ht] at hP1
  obtain ⟨hP2, hD2⟩ := hF.join hP hD hk1 hf hP1 hD1
  exact kk H1 locs1 hP2 hD2 hS1
theorem cl_vp (hr : va_Run p l e R s m args below meth c H locs cells slots 0 0 (F0 m pc ls st0) rest (va_Qv (fun (_ : Unit) => True) (Bw E w1 (va_A wc H.size)) (va_A wc H.size) aa) (va_A wc H.size)) (hF : Fp wd wc w1 wd') (hP : va_P E.1 vwCl wd H) (hD : va_D A wd) (hS : va_S A H0 H locs) (hA : ∀ q, H0.size ≤ q → A q)
    (kk : ∀ (H1 : Heap) (locs1 : List Loc), va_P E.1 vwCl wd' H1 → va_D A wd' → va_S A H0 H1 locs1 → W p l e R s m args below meth c H1 locs1 cells slots Q (F0 m (pc + 3) ls rest)) : W p l e R s m args below meth c H locs cells slots Q (F0 m pc ls st0) := by
  have hf := hF.free hD hS hA
  refine va_callv hr hS (fun q _ h => hf q h) hf (fun u t H1 locs1 ht hvm hw hB hz1 hk1 hS1 => ?_)
  obtain ⟨hP1, hD1⟩ := hB
  rw [ht] at hP1
  obtain ⟨hP2, hD2⟩ := hF.join hP hD hk1 hf hP1 hD1
  exact kk H1 locs1 hP2 hD2 hS1
variable {y : MethodName} {bytes : ByteArray} {maxL nL n index : Nat} {ret : Option FieldType} {ws : List Cond} {rm : Room} {Ts : List Cond} {own C host : String} {b : Addr} {As : List Value} {fs : List Value} {tq : vw_C}
theorem cv_Sp (S : CallFix p m c cc nL s args Ts own) (hE : ev E s) (hM : Cv l E y ws rm (As) wc w1) (cw : CallB R s args own index y bytes maxL ret ws rm 0 0 n ∧ (Cond.static y).before args s = true) (hF : Fp wd wc w1 wd') (hP : va_P E.1 vwCl wd H) (hD : va_D A wd) (hS : va_S A H0 H locs) (hA : ∀ q, H0.size ≤ q → A q)
    (hn : As.length = n) (hsize : ls.size = nL) (hstack : st0 = As.reverse ++ rest) (hW : (rest.map fun v => v.category).sum ≤ 8) (hdg : decode cc pc = .ok (.invokestatic index, 3)) (hf : cells ≤ R.cells ∧ slots ≤ R.slots)
    (kk : ∀ (H1 : Heap) (locs1 : List Loc), va_P E.1 vwCl wd' H1 → va_D A wd' → va_S A H0 H1 locs1 → W p l e R s m args below meth c H1 locs1 cells slots Q (F0 m (pc + 3) ls (rest))) : W p l e R s m args below meth c H locs cells slots Q (F0 m pc ls st0) := by
  obtain ⟨hPc, hDc⟩ := hF.part hP hD
  exact cl_vp (va_runS S (hM H.size) cw ⟨Pw_blind, Pw_of hE hPc hDc _⟩ rfl hn hsize hstack (lv_room hW) hdg hf) hF hP hD hS hA kk
theorem cv_SNp (S : CallFix p m c cc nL s args Ts own) (hE : ev E s) (hM : Cv l E y ws rm (As) wc w1) (cw : va_CN R s args own index y host bytes maxL ret ws rm 0 0 n ∧ (Cond.static y).before args s = true ∧ True) (hF : Fp wd wc w1 wd') (hP : va_P E.1 vwCl wd H) (hD : va_D A wd) (hS : va_S A H0 H locs) (hA : ∀ q, H0.size ≤ q → A q)
    (hn : As.length = n) (hsize : ls.size = nL) (hstack : st0 = As.reverse ++ rest) (hW : (rest.map fun v => v.category).sum ≤ 8) (hdg : decode cc pc = .ok (.invokestatic index, 3)) (hf : cells ≤ R.cells ∧ slots ≤ R.slots)
    (kk : ∀ (H1 : Heap) (locs1 : List Loc), va_P E.1 vwCl wd' H1 → va_D A wd' → va_S A H0 H1 locs1 → W p l e R s m args below meth c H1 locs1 cells slots Q (F0 m (pc + 3) ls (rest))) : W p l e R s m args below meth c H locs cells slots Q (F0 m pc ls st0) := by
  obtain ⟨hPc, hDc⟩ := hF.part hP hD
  exact cl_vp (va_runSN S (hM H.size) cw ⟨Pw_blind, Pw_of hE hPc hDc _⟩ rfl hn hsize hstack (lv_room hW) hdg hf) hF hP hD hS hA kk
theorem cv_VNp (S : CallFix p m c cc nL s args Ts own) (hE : ev E s) (hM : Cv l E y ws rm (.ref b :: As) wc w1) (cw : va_CN R s args own index y host bytes maxL ret ws rm 0 0 n ∧ (Cond.instanceMethod y).before args s = true ∧ (Cond.selects C y y).before args s = true) (hF : Fp wd wc w1 wd') (q0 ci : Nat) (he : wc[q0]? = some (b, .inr (ci, fs))) (hc : vwCl[ci]? = some tq) (hC : tq.1 = C) (hP : va_P E.1 vwCl wd H) (hD : va_D A wd) (hS : va_S A H0 H locs) (hA : ∀ q, H0.size ≤ q → A q)
    (hn : As.length = n) (hsize : ls.size = nL) (hstack : st0 = As.reverse ++ .ref b :: rest) (hW : (rest.map fun v => v.category).sum ≤ 8) (hdg : decode cc pc = .ok (.invokevirtual index, 3)) (hf : cells ≤ R.cells ∧ slots ≤ R.slots)
    (kk : ∀ (H1 : Heap) (locs1 : List Loc), va_P E.1 vwCl wd' H1 → va_D A wd' → va_S A H0 H1 locs1 → W p l e R s m args below meth c H1 locs1 cells slots Q (F0 m (pc + 3) ls (rest))) : W p l e R s m args below meth c H locs cells slots Q (F0 m pc ls st0) := by
  obtain ⟨hPc, hDc⟩ := hF.part hP hD
  have hrec : ∃ cellB : Cell, H[b]? = some cellB ∧ cellB.vm.isStatics = false ∧ s.vm.findClass C = some cellB.cls := by
    rw [← hC]
    exact va_recv hE.1 hPc hc he
  exact cl_vp (va_runVN S (hM H.size) cw ⟨Pw_blind, hrec, Pw_of hE hPc hDc _⟩ rfl hn hsize hstack (lv_room hW) hdg hf) hF hP hD hS hA kk
end CLP
/-- a row, filled -/
def flr (f : Nat → Int32) (v : Int32) (i : Nat) : Nat → Int32 := fun j => if j < i then v else f j
theorem flr_0 {f : Nat → Int32} {v : Int32} : flr f v 0 = f := by
  funext j
  unfold flr
  rw [if_neg (Nat.not_lt_zero j)]
theorem flr_s {f : Nat → Int32} {v : Int32} {i : Nat} : upd (flr f v i) i v = flr f v (i + 1) := by
  funext j
  unfold flr
  by_cases e : j = i
  · subst e; rw [up_s, if_pos (Nat.lt_succ_self j)]
  · rw [up_n e]
    by_cases c : j < i
    · rw [if_pos c, if_pos (by omega)]
    · rw [if_neg c, if_neg (by omega)]
set_option maxHeartbeats 4000000 in
set_option maxRecDepth 100000 in
theorem k_fill (l : Launch) (E : EE) (b n : Nat) (f : Nat → Int32) (v : Int32) (hn : n < 2 ^ 31) : Cv l E yJ7_fill_53178 wsJ7_fill_53178 { frames := 0, cells := 0, slots := 0, locals := 0 } [.ref b, .int v] [(b, rI E n f)] [(b, rI E n (flr f v n))] := by
  refine Cv.of (cc := cJ7_fill_53178) (maxL := 4) (by decide) rfl (Nat.le_of_ble_eq_true rfl) ?_
  intro p e s m args below meth c A Q F hE hA hret hP hD ls hl
  obtain ⟨hx, hb, hml, hown, hts⟩ := id F
  have hS : va_S A s.heap s.heap [] := va_S.rf
  have hl : lv_has ls 4 [(0, .ref b), (1, .int v)] := hl
  refine lv_iconst (v := 0) hx hb dJ7_fill_53178_0 (by decide) ?_
  refine lv_istore_n (lv' := [(2, .int 0), (0, .ref b), (1, .int v)]) hx hb dJ7_fill_53178_1 rfl hl (by decide) rfl (fun ls hl => ?_)
  refine lv_aload_n hx hb dJ7_fill_53178_2 rfl (lv_at hl 1 rfl) ?_
  refine va_alen hx hb hE.1 hP 0 0 rfl rfl (v := nI n) rfl dJ7_fill_53178_3 ?_
  refine lv_istore_n (lv' := [(3, .int (nI n)), (2, .int 0), (0, .ref b), (1, .int v)]) hx hb dJ7_fill_53178_4 rfl hl (by decide) rfl (fun ls hl => ?_)
  have lp : ∀ (fu i : Nat), i ≤ n → n + 1 ≤ i + fu → ∀ (H : Heap) (locs : List Loc), va_P E.1 vwCl [(b, rI E n (flr f v i))] H → va_D A [(b, rI E n (flr f v i))] → va_S A s.heap H locs → ∀ ls : Array Slot, lv_has ls 4 [(3, .int (nI n)), (2, .int (nI i)), (0, .ref b), (1, .int v)] → W p l e { frames := 0, cells := 0, slots := 0, locals := 0 } s m args below meth c H locs 0 0 Q (F0 m 5 ls []) := by
    intro fu
    induction fu with
    | zero => intro i h1 h2; exact absurd h2 (by omega)
    | succ fu ih =>
      intro i hi hin H locs hP hD hS ls hl
      refine lv_iload_n hx hb dJ7_fill_53178_5 rfl (lv_at hl 1 rfl) ?_
      refine lv_iload_n hx hb dJ7_fill_53178_6 rfl (lv_at hl 0 rfl) ?_
      refine lv_icmp_ge (tgt := 20) hx hb dJ7_fill_53178_7 (by decide) (fun c_1 => ?_) (fun c_1 => ?_)
      · have hiN : i = n := by have := (nI_leI (a := n) (b := i) (by omega) (by omega)).mp c_1; omega
        subst hiN
        exact hret _ _ _ _ hP hD hS dJ7_fill_53178_20
      · have hlt : i < n := Nat.lt_of_not_le (fun h => c_1 (nI_le (a := n) (b := i) (by omega) (by omega)))
        refine lv_aload_n hx hb dJ7_fill_53178_10 rfl (lv_at hl 2 rfl) ?_
        refine lv_iload_n hx hb dJ7_fill_53178_11 rfl (lv_at hl 1 rfl) ?_
        refine lv_iload_n hx hb dJ7_fill_53178_12 rfl (lv_at hl 3 rfl) ?_
        refine q_iast hx hb hE hP hD hS 0 rfl (j := i) rfl hlt hn (wd' := [(b, rI E n (flr f v (i + 1)))]) (by rw [flr_s]; rfl) dJ7_fill_53178_13 (fun H locs hP hD hS => ?_)
        refine lv_iinc (v := (nI (i + 1))) (lv' := [(2, .int (nI (i + 1))), (3, .int (nI n)), (0, .ref b), (1, .int v)]) hx hb dJ7_fill_53178_14 hl (k := 1) rfl (nI_1 i) (by decide) rfl (fun ls hl => ?_)
        refine lv_goto (tgt := 5) hx hb dJ7_fill_53178_17 (by decide) ?_
        exact ih (i + 1) (by omega) (by omega) H locs hP hD hS ls (lv_sub hl [1, 0, 2, 3] rfl)
  exact lp (n + 1) 0 (Nat.zero_le _) (by omega) s.heap [] (by rw [flr_0]; exact hP) (by rw [flr_0]; exact hD) hS ls hl
set_option maxHeartbeats 4000000 in
set_option maxRecDepth 100000 in
theorem k_copyRow (l : Launch) (E : EE) (b0 b1 n : Nat) (f h : Nat → Int32) (hn : n < 2 ^ 31) : Cv l E yX2_copyRow wsX2_copyRow { frames := 1, cells := 0, slots := 0, locals := 20 } [.ref b0, .ref b1] [(b0, rI E n f), (b1, rI E n h)] [(b0, rI E n f), (b1, rI E n (va_cpy f h 0 0 n))] := by
  refine Cv.of (cc := cX2_copyRow) (maxL := 2) (by decide) rfl (Nat.le_of_ble_eq_true rfl) ?_
  intro p e s m args below meth c A Q F hE hA hret hP hD ls hl
  obtain ⟨hx, hb, hml, hown, hts⟩ := id F
  have hS : va_S A s.heap s.heap [] := va_S.rf
  have hl : lv_has ls 2 [(0, .ref b0), (1, .ref b1)] := hl
  refine lv_aload_n hx hb dX2_copyRow_0 rfl (lv_at hl 0 rfl) ?_
  refine lv_iconst (v := 0) hx hb dX2_copyRow_1 (by decide) ?_
  refine lv_aload_n hx hb dX2_copyRow_2 rfl (lv_at hl 1 rfl) ?_
  refine lv_iconst (v := 0) hx hb dX2_copyRow_3 (by decide) ?_
  refine lv_aload_n hx hb dX2_copyRow_4 rfl (lv_at hl 0 rfl) ?_
  refine va_alen hx hb hE.1 hP 0 0 rfl rfl (v := nI n) rfl dX2_copyRow_5 ?_
  refine lv_aload_n hx hb dX2_copyRow_6 rfl (lv_at hl 1 rfl) ?_
  refine va_alen hx hb hE.1 hP 1 0 rfl rfl (v := nI n) rfl dX2_copyRow_7 ?_
  refine va_mmin hx hb (hml.trans hl.1.symm) hown (hts (.methodLink RX2 185 Lib.Math.min.name) (by decide +kernel)) (hts (.static Lib.Math.min.name) (by decide +kernel)) (hts (.initialized "java/lang/Math") (by decide +kernel)) (hts (.code Lib.Math.min.name Lib.Math.min.code 2 (some .int)) (by decide +kernel)) (Nat.le_of_ble_eq_true rfl) (Nat.le_of_ble_eq_true rfl) (Nat.zero_le _) (Nat.zero_le _) dX2_copyRow_8 ?_
  refine tpe (y := nI n) (by split <;> rfl) ?_
  refine va_copyi hx hb (hml.trans hl.1.symm) hown (hts (.methodLink RX2 190 arraycopyName) (by decide +kernel)) (hts (.native arraycopyName) (by decide +kernel)) (hts (.static arraycopyName) (by decide +kernel)) (hts (.initialized "java/lang/System") (by decide +kernel)) hE.1 hP hD hS 0 1 0 0 rfl rfl rfl rfl rfl (by decide) (by decide) (nI_pos hn) (by rw [nI_clamp hn]; show 0 + n ≤ n; omega) (by rw [nI_clamp hn]; show 0 + n ≤ n; omega) (fun _ _ => rfl) (Nat.le_of_ble_eq_true rfl) (Nat.le_of_ble_eq_true rfl) dX2_copyRow_11 (fun H locs hP hD hS => ?_)
  rw [nI_clamp hn] at hP hD
  exact hret _ _ _ _ hP hD hS dX2_copyRow_14
