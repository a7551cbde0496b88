/-! THE CLAIM OUT OF ONE WALK OF THE LAW'S BODY. Your part is whole_start (and what it stands on); all else here is the same for every law, but numbers. -/
def R_law : String := "PromiseHoursLaw"
def lw_P (b : Addr) (xs : List Int32) (args : Array Value) (s : State) : Prop := args = #[.ref b] ∧ s.IntsAt b xs ∧ xs.length ≤ 2048 ∧ (Jvm.Cond.and given_1 narrow_1).before args s = true
def lw_Q (_ : Array Value) (s : State) (o : Outcome) (t : State) : Prop := o = .returned (some (.int 1)) ∧ Framed s o t [] 120 1975
def lw_Z (below : List Frame) (a : Array Value) (s : State) : State → Prop := fun t => ∃ o, t.status = .running ∧ Ended t below o ∧ lw_Q a s o t
/-- the law's own end, with 1 on the stack, nothing written that was there before, its room as the claim has it -/
theorem lw_ret {p : Program} {l : Launch} {e : Env} {s : State} {m : MethodId} {below : List Frame} {meth : Method} {c : Code} {b : Nat} (hx : p.tables.exec = Jvm.exec) (hb : c.code = code) (hr : meth.sig.returnType = ret) (hlocks : meth.locks = false) {pc : Nat} {H : Heap} {ls : Array Slot} (hdg : decode code pc = .ok (.ireturn, 1)) : W p l e room_1 s m #[Value.ref b] below meth c H [] 120 1975 (lw_Z below #[Value.ref b] s) (F0 m pc ls [.int 1]) := by
  intro T hT X
  obtain ⟨fs, hret, hrun, hended, hW, hframe⟩ := X.leave (v := some (.int 1)) (hlocks := hlocks) (fun h => by rw [hr] at h; cases h)
  have hmeth' : T.vm.method? m = some meth := X.method'
  refine ⟨T.setFrames fs, ?_, .returned (some (.int 1)), hrun, hended, rfl, ⟨_, rfl⟩, hW, hframe⟩
  jvm_step X.here [X.here.top, hx, hb, hdg, hmeth', hr, ret, narrow_b1]
  (try refine ⟨rfl, ?_⟩); (try refine ⟨rfl, ?_⟩)
  first | (intro acts; rw [hret _ acts rfl rfl rfl]) | rw [hret _ _ rfl rfl rfl]
  exact Steps.refl _
/-- what holds at the law's entry: the machine, the code, the tables' words (any of lw_tbl by 'hts w (by decide +kernel)'), the script of L ints xs at the cell b, what the Statement gives of the start (any of its parts by flat_of_before) -/
def lw_At (p : Program) (s : State) (m : MethodId) (meth : Method) (c : Code) (b L : Nat) (xs : Nat → Int32) : Prop :=
  p.tables.exec = Jvm.exec ∧ c.code = code ∧ meth.sig.returnType = ret ∧ c.maxLocals = 4 ∧ s.vm.findClass R_law = some m.cls ∧ (∀ w ∈ lw_tbl, w.before #[Value.ref b] s = true) ∧ va_X b L xs s s.heap ∧ b < s.heap.size ∧ meth.locks = false ∧ (Jvm.Cond.and given_1 narrow_1).before #[Value.ref b] s = true
theorem and_15 (x : Int32) : ∃ k : Nat, k < 16 ∧ x &&& 15 = nI k := by
  have h : (x &&& 15).toBitVec.toNat < 16 := by
    rw [Int32.toBitVec_and]
    show (x.toBitVec &&& 15#32).toNat < 16
    rw [BitVec.toNat_and]
    exact Nat.lt_of_le_of_lt Nat.and_le_right (by decide)
  refine ⟨_, h, ?_⟩
  rw [← Int32.toBitVec_inj]
  show _ = BitVec.ofNat 32 _
  rw [BitVec.ofNat_toNat, BitVec.setWidth_eq]
theorem sub_4 {L n : Nat} (hL : L ≤ 2048) (hn : n ≤ 2048) : (nI L - 4 < nI n) ↔ L < n + 4 := by
  have e4 : (4 : Int32).toInt = 4 := rfl
  have e : (nI L - 4).toInt = (L : Int) - 4 := by
    rw [Int32.toInt_sub, nI_toInt (by omega), e4]
    exact Int.bmod_eq_of_le (by omega) (by omega)
  rw [Int32.lt_iff_toInt_lt, e, nI_toInt (by omega)]
  omega
theorem li_0 : LInv 0 g0 g0 g0 zr zr 0 := ⟨j_0, Or.inl rfl, Or.inl rfl, rfl, fun h => absurd rfl h, fun h => absurd rfl h⟩
set_option maxHeartbeats 4000000 in
set_option maxRecDepth 100000 in
theorem law_loop {p : Program} {l : Launch} {e : Env} {s : State} {m : MethodId} {below : List Frame} {meth : Method} {c : Code} {E : EE} {a o b1 b2 mm : Nat → Nat} {bs L t0 t1 t2 : Nat} {xs : Nat → Int32} (C0 : lw_At p s m meth c bs L xs) (F : CallFix p m c code 4 s #[Value.ref bs] wsL_law RL) (hE : ev E s) (hT : ST t0 t1 t2 (fun q : Nat => s.heap.size ≤ q) s) (hL : L ≤ 2048) :
    ∀ (fu n : Nat), 4 * n ≤ L → L + 4 ≤ 4 * n + 4 * fu → ∀ (g g1 g2 im kp : Nat → Int32) (kI : Int32) (H : Heap) (locs : List Loc), LInv n g g1 g2 im kp kI → va_P E.1 vwCl (lwd E a o b1 b2 mm g g1 g2 im kp kI) H → va_D (fun q : Nat => s.heap.size ≤ q) (lwd E a o b1 b2 mm g g1 g2 im kp kI) → va_S (fun q : Nat => s.heap.size ≤ q) s.heap H locs → ∀ ls : Array Slot, lv_has ls 4 [(3, .int (nI (4 * n))), (2, .ref (mm 0)), (1, .ref (o 0)), (0, .ref bs)] → W p l e room_1 s m #[Value.ref bs] below meth c H locs 120 1975 (lw_Z below #[Value.ref bs] s) (F0 m 18 ls []) := by
  obtain ⟨hx, hb, hr, hml, hown, hts, hX, hbl, hlocks, hgv⟩ := id C0
  intro fu
  induction fu with
  | zero => intro n h1 h2; exact absurd h2 (by omega)
  | succ fu ih =>
    intro n hn1 hn2 g g1 g2 im kp kI H locs HI hP hD hS ls hl
    refine lv_iload_n hx hb dL_law_18 rfl (lv_at hl 0 rfl) ?_
    refine lv_aload_n hx hb dL_law_19 rfl (lv_at hl 3 rfl) ?_
    refine va_slen hx hb hX hbl (Nat.not_le.mpr hbl) hS dL_law_20 ?_
    refine lv_iconst (v := 4) hx hb dL_law_21 (by decide) ?_
    refine lv_isub hx hb dL_law_22 ?_
    refine lv_icmp_gt (tgt := 596) hx hb dL_law_23 (by decide) (fun c_1 => ?_) (fun c_1 => ?_)
    · refine lv_iconst (v := 1) hx hb dL_law_596 (by decide) ?_
      exact va_forget hS.2.2 (lw_ret hx hb hr hlocks dL_law_597)
    · have hn : 4 * n + 4 ≤ L := by
        have h9 : ¬ L < 4 * n + 4 := fun q => c_1 ((sub_4 (L := L) (n := 4 * n) hL (by omega)).mpr q)
        omega
      have kn : LK p l e s m below meth c E a o b1 b2 mm bs n ls (lw_Z below #[Value.ref bs] s) := by
        intro g g1 g2 im kp kI H locs HI hP hD hS
        refine lv_iinc (v := nI (4 * (n + 1))) (lv' := [(3, .int (nI (4 * (n + 1)))), (2, .ref (mm 0)), (1, .ref (o 0)), (0, .ref bs)]) hx hb dL_law_590 hl (k := 0) rfl (nI_add (4 * n) 4) (by decide) rfl (fun ls hl => ?_)
        refine lv_goto (tgt := 18) hx hb dL_law_593 (by decide) ?_
        exact ih (n + 1) (by omega) (by omega) g g1 g2 im kp kI H locs HI hP hD hS ls hl
      refine lv_aload_n hx hb dL_law_26 rfl (lv_at hl 3 rfl) ?_
      refine lv_iload_n hx hb dL_law_27 rfl (lv_at hl 0 rfl) ?_
      refine va_sld hx hb hX hbl (Nat.not_le.mpr hbl) hS (vp_in_nI (by omega) (by omega)) dL_law_28 ?_
      refine lv_bipush (v := 15) hx hb dL_law_29 (by decide) ?_
      refine lv_iand hx hb dL_law_31 ?_
      obtain ⟨k, hk, ek⟩ := and_15 (xs (nI (4 * n)).toNatClampNeg)
      refine tpe ek ?_
      clear ek
      rcases (show k = 0 ∨ k = 1 ∨ k = 2 ∨ k = 3 ∨ k = 4 ∨ k = 5 ∨ k = 6 ∨ k = 7 ∨ k = 8 ∨ k = 9 ∨ k = 10 ∨ k = 11 ∨ k = 12 ∨ k = 13 ∨ k = 14 ∨ k = 15 by omega) with ez | ez | ez | ez | ez | ez | ez | ez | ez | ez | ez | ez | ez | ez | ez | ez <;> subst ez
      · exact lv_tableIn (tgt := 112) hx hb dL_law_32 (by decide) (by decide) rfl (by decide) (law_rule F hE hT hX hbl hl hn hL HI hP hD hS kn)
      · exact lv_tableIn (tgt := 145) hx hb dL_law_32 (by decide) (by decide) rfl (by decide) (law_skew F hE hT hX hbl hl hn hL HI hP hD hS kn)
      · exact lv_tableIn (tgt := 178) hx hb dL_law_32 (by decide) (by decide) rfl (by decide) (law_there F hE hT hX hbl hl hn hL HI hP hD hS kn)
      · exact lv_tableIn (tgt := 211) hx hb dL_law_32 (by decide) (by decide) rfl (by decide) (law_read F hE hT hX hbl hl hn hL HI hP hD hS kn)
      · exact lv_tableIn (tgt := 244) hx hb dL_law_32 (by decide) (by decide) rfl (by decide) (law_write F hE hT hX hbl hl hn hL HI hP hD hS kn)
      · exact lv_tableIn (tgt := 277) hx hb dL_law_32 (by decide) (by decide) rfl (by decide) (law_pass F hE hT hX hbl hl hn hL HI hP hD hS kn)
      · exact lv_tableIn (tgt := 300) hx hb dL_law_32 (by decide) (by decide) rfl (by decide) (law_cause F hE hT hX hbl hl hn hL HI hP hD hS kn)
      · exact lv_tableIn (tgt := 323) hx hb dL_law_32 (by decide) (by decide) rfl (by decide) (law_waited F hE hT hX hbl hl hn hL HI hP hD hS kn)
      · exact lv_tableIn (tgt := 346) hx hb dL_law_32 (by decide) (by decide) rfl (by decide) (law_thing F hE hT hX hbl hl hn hL HI hP hD hS kn)
      · exact lv_tableIn (tgt := 379) hx hb dL_law_32 (by decide) (by decide) rfl (by decide) (law_copy F hE hT hX hbl hl hn hL HI hP hD hS kn)
      · exact lv_tableIn (tgt := 422) hx hb dL_law_32 (by decide) (by decide) rfl (by decide) (law_volume F hE hT hX hbl hl hn hL HI hP hD hS kn)
      · exact lv_tableIn (tgt := 465) hx hb dL_law_32 (by decide) (by decide) rfl (by decide) (law_reader F hE hT hX hbl hl hn hL HI hP hD hS kn)
      · exact lv_tableIn (tgt := 498) hx hb dL_law_32 (by decide) (by decide) rfl (by decide) (law_waiting F hE hT hX hbl hl hn hL HI hP hD hS kn)
      · exact lv_tableIn (tgt := 521) hx hb dL_law_32 (by decide) (by decide) rfl (by decide) (law_count F hE hT hX hbl hl hn hL HI hP hD hS kn)
      · exact lv_tableIn (tgt := 544) hx hb dL_law_32 (by decide) (by decide) rfl (by decide) (law_image F hE hT hX hbl hl hn hL HI hP hD hS kn)
      · exact lv_tableIn (tgt := 567) hx hb dL_law_32 (by decide) (by decide) rfl (by decide) (law_restore F hE hT hX hbl hl hn hL HI hP hD hS kn)
set_option maxHeartbeats 4000000 in
set_option maxRecDepth 100000 in
/-- from the entry, for every script of at most 2048 ints, the law comes to its end with true -/
theorem whole_start {p : Program} {e : Env} {s : State} {m : MethodId} {below : List Frame} {meth : Method} {c : Code} (l : Launch) (hflags : l.flags = flags0) {b L : Nat} {xs : Nat → Int32} (hL : L ≤ 2048) (C0 : lw_At p s m meth c b L xs) : W p l e room_1 s m #[Value.ref b] below meth c s.heap [] 0 0 (lw_Z below #[Value.ref b] s) (entryFrame m ([Value.ref b] : List Value).toArray 4) := by
  obtain ⟨hx, hb, hr, hml, hown, hts, hX, hbl, hlocks, hgv⟩ := id C0
  have hA : ∀ q : Nat, s.heap.size ≤ q → (fun q : Nat => s.heap.size ≤ q) q := fun _ h => h
  obtain ⟨E, hE⟩ := law_env hts
  obtain ⟨t0, t1, t2, hT⟩ := law_st (A := fun q : Nat => s.heap.size ≤ q) hts hgv (fun a h => Nat.not_le.mpr h)
  have htl : ∀ w ∈ wsL_law, w.before #[Value.ref b] s = true := fun w h => hts w (wsL_law_in w h)
  have F : CallFix p m c code 4 s #[Value.ref b] wsL_law RL := ⟨hx, hb, hml, hown, htl⟩
  have hS : va_S (fun q : Nat => s.heap.size ≤ q) s.heap s.heap [] := va_S.rf
  have hP : va_P E.1 vwCl [] s.heap := fun k q h => by simp at h
  have hD : va_D (fun q : Nat => s.heap.size ≤ q) [] := ⟨fun i j p q h => by simp at h, fun k q h => by simp at h⟩
  have hl := lv_entry ([.ref b]) (n := 4) (Nat.le_of_ble_eq_true rfl)
  rw [lg_entry_eq]
  generalize (lg_sl ([.ref b]) ++ List.replicate (4 - (lg_sl ([.ref b])).length) Slot.unset).toArray = ls at hl ⊢
  have hl : lv_has ls 4 [(0, .ref b)] := hl
  refine va_new (ci := 2) (fs := [.null, .null, .int 0]) (C := RX2) (T := TX2) (N := 3) hx hb htl inlX2 tyX2 tyX2_ok hown (htl (.classLink RL 7 RX2) (by decide +kernel)) (htl (.instantiable RX2 3) (by decide +kernel)) (htl (.initialized RX2) (by decide +kernel)) hE.1 hP hD hS hA rfl (fun j hj => by rcases (show j = 0 ∨ j = 1 ∨ j = 2 by omega) with rfl | rfl | rfl <;> rfl) (Nat.le_of_ble_eq_true rfl) (Nat.le_of_ble_eq_true rfl) dL_law_0 (fun q0 H hP hD hS => ?_)
  have hP : va_P E.1 vwCl [(q0, .inr (2, [.null, .null, .int 0]))] H := hP
  have hD : va_D (fun q : Nat => s.heap.size ≤ q) [(q0, .inr (2, [.null, .null, .int 0]))] := hD
  refine lv_dup hx hb dL_law_3 rfl ?_
  refine cc_I F hE hT (k_X2_init t0 t1 t2 l E q0) (cwI 0 htl gL_law_X2_init rfl rfl rfl (htl (.initialized RX2) (by decide +kernel)) (htl (.methodLink RL 9 yX2_init) (by decide +kernel)) (htl (.instanceMethod yX2_init) (by decide +kernel)) rfl (by decide +kernel) ⟨(Nat.le_of_ble_eq_true rfl), (Nat.le_of_ble_eq_true rfl)⟩) (fun u => Fp.of Fr.all) (fun _ => 0, fun _ => 0, fun _ => 0, fun _ => 0) hP hD hS hA hl.1 rfl (Nat.le_of_ble_eq_true rfl) dL_law_4 ⟨(Nat.le_of_ble_eq_true rfl), (Nat.le_of_ble_eq_true rfl)⟩ (fun u H locs hu hP hD hS => ?_)
  obtain ⟨a, o, b1, b2⟩ := u
  have hu : o 0 = q0 := hu
  rw [← hu]
  have hP : va_P E.1 vwCl (phw E a o b1 b2 g0 g0 g0 0) H := hP
  have hD : va_D (fun q : Nat => s.heap.size ≤ q) (phw E a o b1 b2 g0 g0 g0 0) := hD
  refine lv_astore_n (lv' := [(1, .ref (o 0)), (0, .ref b)]) hx hb dL_law_7 rfl hl (by decide) rfl (fun ls hl => ?_)
  refine va_new (ci := 3) (fs := [.null, .null, .null]) (C := RX3) (T := TX3) (N := 3) hx hb htl inlX3 tyX3 tyX3_ok hown (htl (.classLink RL 10 RX3) (by decide +kernel)) (htl (.instantiable RX3 3) (by decide +kernel)) (htl (.initialized RX3) (by decide +kernel)) hE.1 hP hD hS hA rfl (fun j hj => by rcases (show j = 0 ∨ j = 1 ∨ j = 2 by omega) with rfl | rfl | rfl <;> rfl) (Nat.le_of_ble_eq_true rfl) (Nat.le_of_ble_eq_true rfl) dL_law_8 (fun q1 H hP hD hS => ?_)
  refine lv_dup hx hb dL_law_11 rfl ?_
  refine cc_I F hE hT (k_X3_init t0 t1 t2 l E q1) (cwI 0 htl gL_law_X3_init rfl rfl rfl (htl (.initialized RX3) (by decide +kernel)) (htl (.methodLink RL 12 yX3_init) (by decide +kernel)) (htl (.instanceMethod yX3_init) (by decide +kernel)) rfl (by decide +kernel) ⟨(Nat.le_of_ble_eq_true rfl), (Nat.le_of_ble_eq_true rfl)⟩) (fun u => Fp.of Fr.suf) (fun _ => 0) hP hD hS hA hl.1 rfl (Nat.le_of_ble_eq_true rfl) dL_law_12 ⟨(Nat.le_of_ble_eq_true rfl), (Nat.le_of_ble_eq_true rfl)⟩ (fun mm H locs hu hP hD hS => ?_)
  have hu : mm 0 = q1 := hu
  rw [← hu]
  refine lv_astore_n (lv' := [(2, .ref (mm 0)), (1, .ref (o 0)), (0, .ref b)]) hx hb dL_law_15 rfl hl (by decide) rfl (fun ls hl => ?_)
  refine lv_iconst (v := 0) hx hb dL_law_16 (by decide) ?_
  refine lv_istore_n (lv' := [(3, .int (nI (4 * 0))), (2, .ref (mm 0)), (1, .ref (o 0)), (0, .ref b)]) hx hb dL_law_17 rfl hl (by decide) rfl (fun ls hl => ?_)
  exact law_loop C0 F hE hT hL (L + 1) 0 (by omega) (by omega) g0 g0 g0 zr zr 0 H locs li_0 hP hD hS ls hl
set_option maxHeartbeats 4000000 in
theorem lw_walk (l : Launch) (hflags : l.flags = flags0) (b : Addr) (xs : List Int32) : MetFree l x (headSpec (Jvm.Cond.code x code maxLocals ret :: tables_1) room_1) (lw_P b xs) (fun _ _ _ _ _ => True) lw_Q := by
  refine MetFree.of_bodyS (code := code) (maxLocals := maxLocals) (ret := ret) (by decide) ?_ ?_
  · intro args s m h hn
    obtain ⟨meth, c, h1, h2, h3, h4, h5, h6, -, -⟩ := Cond.code_spec hn (atoms_spec (ws := Jvm.Cond.code x code maxLocals ret :: tables_1) h _ List.mem_cons_self)
    exact ⟨meth, c, h1, h2, h3, h4, h5, h6⟩
  · intro p e s m args below meth c s₁ B hml0 hP _
    obtain ⟨rfl, hx, hbd, hgv⟩ := hP
    obtain ⟨scr, harrAt, hlist, hof, hsmall⟩ := hx
    obtain ⟨hcb, hkn, -, -⟩ := State.arrayAt?_spec harrAt
    have hown : s.vm.findClass R_law = some m.cls := findClass_of_methodNamed B.named
    have hts0 : ∀ c ∈ (Jvm.Cond.code x code maxLocals ret :: tables_1), c.before #[Value.ref b] s = true := atoms_spec (ws := Jvm.Cond.code x code maxLocals ret :: tables_1) B.pre
    have hts : ∀ w ∈ lw_tbl, w.before #[Value.ref b] s = true := k2_hts_sels lw_privs (fun w hw => hts0 w (List.mem_cons_of_mem _ hw)) lw_privs_ok
    have hml : c.maxLocals = 4 := B.maxLocals_eq (hts0 _ List.mem_cons_self)
    have X₀ : Stand p l e room_1 s m #[Value.ref b] below meth c s₁ [] 0 0 := Stand.of_body B
    have hh0 : s₁.heap = s.heap := by rw [B.state]; rfl
    have hsz : scr.slots.size = xs.length := by rw [← Array.length_toList, hlist, List.length_map]
    have hval : ∀ j : Nat, j < xs.length → scr.slots[j]? = some (.int (xs.getD j 0)) := fun j hj => by
      rw [← Array.getElem?_toList, hlist]
      simp [hj]
    have hbl : b < s.heap.size := (Array.getElem?_eq_some_iff.mp hcb).1
    have hX : va_X b xs.length (fun j => xs.getD j 0) s s.heap := ⟨scr, hcb, hof, hkn, hsz, hval⟩
    have K : W p l e room_1 s m #[Value.ref b] below meth c s₁.heap [] 0 0 (lw_Z below #[Value.ref b] s) (entryFrame m ([Value.ref b] : List Value).toArray 4) := by
      rw [hh0]
      exact whole_start l hflags hbd ⟨B.exec, B.bytes, B.returns, hml, hown, hts, hX, hbl, B.notSynchronized, hgv⟩
    obtain ⟨t, a1, o, b1, b2, b3⟩ := K s₁ rfl X₀
    exact ⟨t, o, a1, b1, b2, b3⟩
theorem lw_pre_spec {args : Array Value} {s : State} (h : (Jvm.Cond.and given_1 narrow_1).before args s = true) (hr : rest_1_c.before args s = true) : ∃ (b : Addr) (xs : List Int32), lw_P b xs args s := by
  have hs := flat_of_before _ h
  have hq := flat_of_before _ hr
  have hc : (Cond.count 1).before args s = true := hs _ (by decide +kernel)
  have harr : (Cond.arrayOf (.arg 0) .int).before args s = true := hs _ (by decide +kernel)
  have hle : (Cond.le (.length (.arg 0)) (.int 2048)).before args s = true := hs _ (by decide +kernel)
  have hlen : (Cond.isInt (.length (.arg 0))).before args s = true := hq _ (by decide +kernel)
  have hall : (Cond.all (.arg 0) (.isInt (.elem (.arg 0) (.index 0)))).before args s = true := hq _ (by decide +kernel)
  obtain ⟨b, xs, hb, hx⟩ := State.ints_of_pre rfl harr hlen hall
  have hsm : xs.length < 2 ^ 31 := hx.choose_spec.2.2.2
  have hev : (Term.length (.arg 0)).eval args s none [] s = some (.int xs.length.toInt32) := hx.length_eval hb
  have hv := Cond.le_ints hev (show (Term.int 2048).eval args s none [] s = some (.int 2048) from rfl)
  have hd : xs.length.toInt32 ≤ 2048 := by
    simpa [Cond.before, Cond.holds, hv] using hle
  have hN : xs.length ≤ 2048 := (Int32.ofNat_le_ofNat hsm (by decide)).mp (show Int32.ofNat xs.length ≤ Int32.ofNat 2048 from hd)
  exact ⟨b, xs, Cond.one_arg hc (show args[0]? = some (.ref b) from hb), hx, hN, h⟩
theorem lw_comes (l : Launch) (hflags : l.flags = flags0) : Comes l x (Jvm.Cond.code x code maxLocals ret :: tables_1) room_1 (fun tb e args s => Calls_1 tb e args s ∧ rest_1 tb e args s ∧ Pre_1 tb e args s)
    (fun _ _ args s o t => lw_Q args s o t) := by
  intro p e ha hc hk s m args below hf hfit hheap happ hpre
  obtain ⟨b, xs, hP⟩ := lw_pre_spec hpre.2.2 hpre.2.1
  obtain ⟨k, o, h1, h2, h3, hQ⟩ := lw_walk l hflags b xs p e ha hc hk s m args below hf ((Spec.applies_iff_loose hf).mp happ).1 hP trivial
  exact ⟨k, o, h1, h2, h3, hQ⟩
theorem lw_frame {s t : State} {o : Outcome} {args : Array Value} (h : Framed s o t [] 120 1975) :
    Framed s o t (fieldLocs frame_1_writes args s ++ arrayLocs frame_1_arrays args s ++ staticLocs frame_1_statics s) 120 1975 := h
theorem lw_limb (L : Cond) (hL : ∀ (args : Array Value) (s t : State), L.after args s (.returned (some (.int 1))) t = true) :
    ArmFor flags0 classFile x code maxLocals ret World_1 tables_1 room_1 Calls_1 rest_1 Pre_1
      (fun tb e a s o t => postC L tb e a s o t ∧ Framed s o t (fieldLocs frame_1_writes a s ++ arrayLocs frame_1_arrays a s ++ staticLocs frame_1_statics s) 120 1975) := by
  intro l hflags _ _ p e ha hc hk s m args below hf hfit hheap happ hpre
  obtain ⟨k, o, h1, h2, h3, rfl, hF⟩ := lw_comes l hflags p e ha hc hk s m args below hf hfit hheap happ hpre
  exact ⟨k, _, h1, h2, h3, hL args s _, lw_frame hF⟩
theorem i_vc : Claimed_1_1 ∧ Claimed_1_2 := ⟨lw_limb limb_1_1 (fun args s t => by simp [limb_1_1, Cond.after, Cond.holds, Cond.value]), lw_limb limb_1_2 (fun args s t => Cond.after_iff.mpr (by
  first | (rw [show limb_1_2 = Cond.eq .result (.int 1) from rfl, Cond.eq_ints (x := 1) (y := 1) rfl rfl]; simp; done) | (simp [limb_1_2, Cond.value, Term.eval]; done)))⟩
