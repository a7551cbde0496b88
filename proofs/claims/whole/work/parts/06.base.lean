/-! BASE: the environment that rides along (classes, array classes, the nest mates' words), contracts of methods that make nothing, their begin and end, calls -/
abbrev EE : Type := va_G × (Nat → ClassId)
abbrev kt (E : EE) : List (ClassId × FieldType) := [(E.2 0, .int), (E.2 1, .object RX1), (E.2 2, .object RX0), (E.2 3, .boolean)]
def isNest : Cond → Bool
  | .fieldLinkNest _ _ _ _ _ _ => true
  | .methodLinkNest _ _ _ _ => true
  | _ => false
def nW : List Cond := lw_tbl.filter isNest
def ev (E : EE) (U : State) : Prop := va_K E.1 vwCl (kt E) U ∧ ∀ w ∈ nW, va_Nw w U
theorem nest_warm {w : Cond} (h : isNest w = true) {s U : State} (hW : s.WarmedH U.vm) (hZ : va_Nw w s) : va_Nw w U := by
  cases w <;> first | exact va_Nw.warmF hW hZ | exact va_Nw.warmM hW hZ | (simp [isNest] at h; done)
theorem nest_tab {w : Cond} (h : isNest w = true) : w.onTables = true := by
  cases w <;> first | (simp [isNest] at h; done) | rfl
theorem nW_nest {w : Cond} (h : w ∈ nW) : isNest w = true := (List.mem_filter.mp h).2
theorem ev_warm {E : EE} {s U : State} (h : ev E s) (hW : s.WarmedH U.vm) : ev E U := ⟨va_K.moved hW.alike h.1, fun w hw => nest_warm (nW_nest hw) hW (h.2 w hw)⟩
theorem ev_same {E : EE} {s U : State} (h : ev E s) (hvm : s.vm = U.vm) : ev E U := ⟨va_K.moved (by rw [hvm]; exact Vm.Alike.refl U.vm) h.1, fun w hw => va_Nw.same (nest_tab (nW_nest hw)) hvm (h.2 w hw)⟩
theorem ev_link {E : EE} {s : State} (h : ev E s) {w : Cond} (hw : w ∈ lw_tbl) (hn : isNest w = true) : va_Nw w s := h.2 w (List.mem_filter.mpr ⟨hw, hn⟩)
theorem ev_use {E : EE} {s : State} {args : Array Value} (h : ev E s) {w : Cond} (hw : w ∈ lw_tbl) (hn : isNest w = true) : w.before args s = true := va_Nw.use (nest_tab hn) (ev_link h hw hn)
/-- the start and the end of a method that holds the world w -/
def Pw (E : EE) (w : va_W) (sz : Nat) (U : State) : Prop := U.heap.size = sz ∧ va_P E.1 vwCl w U.heap ∧ ev E U ∧ va_D (fun _ => True) w
def Bw (E : EE) (w : va_W) (A : Nat → Prop) : Unit → State → Prop := fun _ t => va_P E.1 vwCl w t.heap ∧ va_D A w
/-- y, in the world w with arguments av, answers r; the world is w' then -/
def Ci (l : Launch) (E : EE) (y : MethodName) (ws : List Cond) (rm : Room) (av : List Value) (w : va_W) (r : Int32) (w' : va_W) : Prop :=
  ∀ sz : Nat, Met l y ws rm (va_Pc av (Pw E w sz)) (va_Qi (fun x (_ : Unit) => x = r) (Bw E w' (va_A w sz)) (va_A w sz)) 0 0 (va_A w sz)
def Cv (l : Launch) (E : EE) (y : MethodName) (ws : List Cond) (rm : Room) (av : List Value) (w w' : va_W) : Prop :=
  ∀ sz : Nat, Met l y ws rm (va_Pc av (Pw E w sz)) (va_Qv (fun (_ : Unit) => True) (Bw E w' (va_A w sz)) (va_A w sz)) 0 0 (va_A w sz)
theorem Ci.of {l : Launch} {E : EE} {y : MethodName} {ws ws' : List Cond} {rm : Room} {av : List Value} {w w' : va_W} {r : Int32} {cc : ByteArray} {maxL : Nat} {rt : FieldType} (hy : plainName y.cls = true) (hw : ws = Cond.code y cc maxL (some rt) :: ws') (hn : narrow rt (.int r) = .int r) (hmx : (lg_sl av).length ≤ maxL)
    (body : ∀ (p : Program) (e : Env) (s : State) (m : MethodId) (args : Array Value) (below : List Frame) (meth : Method) (c : Code) (A : Nat → Prop) (Q : State → Prop), CallFix p m c cc maxL s args ws y.cls → ev E s → (∀ q, s.heap.size ≤ q → A q) →
      (∀ (H : Heap) (locs : List Loc) (pc : Nat) (ls : Array Slot) (v : Int32), va_P E.1 vwCl w' H → va_D A w' → va_S A s.heap H locs → v = r → decode cc pc = .ok (.ireturn, 1) → W p l e rm s m args below meth c H locs 0 0 Q (F0 m pc ls [.int v])) →
      va_P E.1 vwCl w s.heap → va_D A w → ∀ ls : Array Slot, lv_has ls maxL (lv_args 0 av) → W p l e rm s m args below meth c s.heap [] 0 0 Q (F0 m 0 ls [])) : Ci l E y ws rm av w r w' := by
  intro sz
  refine Met.ofW (cc := cc) (maxL := maxL) (ret := some rt) hy hw ?_
  intro p e s m args below meth c s₁ B hml hv
  obtain ⟨rfl, hsz, hP, hE, hD0⟩ := hv
  subst hsz
  have hlocks := B.notSynchronized
  have hl := lv_entry av (n := maxL) hmx
  rw [lg_entry_eq]
  refine body p e s m _ below meth c (va_A w s.heap.size) _ ⟨B.exec, B.bytes, hml, findClass_of_methodNamed B.named, atoms_spec (ws := ws) B.pre⟩ hE (fun q h => Or.inr h) ?_ hP (hD0.self (sz := s.heap.size)) _ hl
  intro H locs pc ls v hP1 hD1 hS hvr hdg
  subst hvr
  exact W.zret B.exec B.bytes B.returns hn (fun t ht hW => ⟨⟨_, (), rfl, rfl, by rw [ht]; exact hP1, hD1⟩, hS.F ht⟩) hS.2.2 hdg
theorem Cv.of {l : Launch} {E : EE} {y : MethodName} {ws ws' : List Cond} {rm : Room} {av : List Value} {w w' : va_W} {cc : ByteArray} {maxL : Nat} (hy : plainName y.cls = true) (hw : ws = Cond.code y cc maxL none :: ws') (hmx : (lg_sl av).length ≤ maxL)
    (body : ∀ (p : Program) (e : Env) (s : State) (m : MethodId) (args : Array Value) (below : List Frame) (meth : Method) (c : Code) (A : Nat → Prop) (Q : State → Prop), CallFix p m c cc maxL s args ws y.cls → ev E s → (∀ q, s.heap.size ≤ q → A q) →
      (∀ (H : Heap) (locs : List Loc) (pc : Nat) (ls : Array Slot), va_P E.1 vwCl w' H → va_D A w' → va_S A s.heap H locs → decode cc pc = .ok (.return_, 1) → W p l e rm s m args below meth c H locs 0 0 Q (F0 m pc ls [])) →
      va_P E.1 vwCl w s.heap → va_D A w → ∀ ls : Array Slot, lv_has ls maxL (lv_args 0 av) → W p l e rm s m args below meth c s.heap [] 0 0 Q (F0 m 0 ls [])) : Cv l E y ws rm av w w' := by
  intro sz
  refine Met.ofW (cc := cc) (maxL := maxL) (ret := none) hy hw ?_
  intro p e s m args below meth c s₁ B hml hv
  obtain ⟨rfl, hsz, hP, hE, hD0⟩ := hv
  subst hsz
  have hlocks := B.notSynchronized
  have hl := lv_entry av (n := maxL) hmx
  rw [lg_entry_eq]
  refine body p e s m _ below meth c (va_A w s.heap.size) _ ⟨B.exec, B.bytes, hml, findClass_of_methodNamed B.named, atoms_spec (ws := ws) B.pre⟩ hE (fun q h => Or.inr h) ?_ hP (hD0.self (sz := s.heap.size)) _ hl
  intro H locs pc ls hP1 hD1 hS hdg
  exact W.vret B.exec B.bytes B.returns (fun t ht hW => ⟨⟨(), rfl, trivial, by rw [ht]; exact hP1, hD1⟩, hS.F ht⟩) hS.2.2 hdg
/-- wd holds wc; with w1 in its place it is wd' -/
def Fr (wd wc w1 wd' : va_W) : Prop := ∃ x z : va_W, wd = x ++ (wc ++ z) ∧ wd' = x ++ (w1 ++ z)
theorem Fr.all {w w' : va_W} : Fr w w w' w' := ⟨[], [], by simp, by simp⟩
theorem Fr.pre {w w' r : va_W} : Fr (w ++ r) w w' (w' ++ r) := ⟨[], r, by simp, by simp⟩
theorem Fr.suf {w w' r : va_W} : Fr (r ++ w) w w' (r ++ w') := ⟨r, [], by simp, by simp⟩
theorem ap_l {x z : va_W} {k : Nat} {q : Nat × va_E} (h : x[k]? = some q) : (x ++ z)[k]? = some q := by
  have hk : k < x.length := (List.getElem?_eq_some_iff.mp h).1
  rw [List.getElem?_append_left hk]; exact h
theorem ap_r {x z : va_W} {k : Nat} {q : Nat × va_E} (h : z[k]? = some q) : (x ++ z)[x.length + k]? = some q := by
  rw [List.getElem?_append_right (Nat.le_add_right _ _), Nat.add_sub_cancel_left]; exact h
theorem ap_or {x z : va_W} {k : Nat} {q : Nat × va_E} (h : (x ++ z)[k]? = some q) : x[k]? = some q ∨ (x.length ≤ k ∧ z[k - x.length]? = some q) := by
  by_cases hk : k < x.length
  · rw [List.getElem?_append_left hk] at h; exact Or.inl h
  · rw [List.getElem?_append_right (by omega)] at h; exact Or.inr ⟨by omega, h⟩
theorem Pl {D : va_G} {cl : List vw_C} {x z : va_W} {H : Heap} (h : va_P D cl (x ++ z) H) : va_P D cl x H := fun k q hk => h k q (ap_l hk)
theorem Pr {D : va_G} {cl : List vw_C} {x z : va_W} {H : Heap} (h : va_P D cl (x ++ z) H) : va_P D cl z H := fun k q hk => h (x.length + k) q (ap_r hk)
theorem Dl {A : Nat → Prop} {x z : va_W} (h : va_D A (x ++ z)) : va_D A x := ⟨fun i j p q hi hj e => h.1 i j p q (ap_l hi) (ap_l hj) e, fun k q hk => h.2 k q (ap_l hk)⟩
theorem Dr {A : Nat → Prop} {x z : va_W} (h : va_D A (x ++ z)) : va_D A z := ⟨fun i j p q hi hj e => by have := h.1 (x.length + i) (x.length + j) p q (ap_r hi) (ap_r hj) e; omega, fun k q hk => h.2 _ q (ap_r hk)⟩
theorem Dx {A : Nat → Prop} {x z : va_W} (h : va_D A (x ++ z)) (i j : Nat) (p q : Nat × va_E) (hi : x[i]? = some p) (hj : z[j]? = some q) : p.1 ≠ q.1 := fun e => by
  have := h.1 i (x.length + j) p q (ap_l hi) (ap_r hj) e
  have := (List.getElem?_eq_some_iff.mp hi).1
  omega
theorem Fr.part {wd wc w1 wd' : va_W} (h : Fr wd wc w1 wd') {D : va_G} {cl : List vw_C} {A : Nat → Prop} {H : Heap} (hP : va_P D cl wd H) (hD : va_D A wd) : va_P D cl wc H ∧ va_D A wc := by
  obtain ⟨x, z, rfl, -⟩ := h
  exact ⟨Pl (Pr hP), Dl (Dr hD)⟩
theorem Fr.free {wd wc w1 wd' : va_W} (h : Fr wd wc w1 wd') {A : Nat → Prop} {H0 H : Heap} {locs : List Loc} (hD : va_D A wd) (hS : va_S A H0 H locs) (hA : ∀ q, H0.size ≤ q → A q) : ∀ q, va_A wc H.size q → A q := by
  obtain ⟨x, z, rfl, -⟩ := h
  rintro q (⟨k, e, hk⟩ | hq)
  · exact hD.2 _ (q, e) (ap_r (ap_l hk))
  · exact hA q (Nat.le_trans hS.1 hq)
theorem Fr.join {wd wc w1 wd' : va_W} (h : Fr wd wc w1 wd') {D : va_G} {cl : List vw_C} {A : Nat → Prop} {H H1 : Heap} (hP : va_P D cl wd H) (hD : va_D A wd) (hk : ∀ q : Nat, q < H.size → ¬ va_A wc H.size q → H1[q]? = H[q]?) (hF : ∀ q, va_A wc H.size q → A q) (hP1 : va_P D cl w1 H1) (hD1 : va_D (va_A wc H.size) w1) : va_P D cl wd' H1 ∧ va_D A wd' := by
  obtain ⟨x, z, rfl, rfl⟩ := h
  have ax : ∀ (k : Nat) (q : Nat × va_E), x[k]? = some q → q.1 < H.size ∧ ¬ va_A wc H.size q.1 := by
    intro k q hq
    have hl := (hP k q (ap_l hq)).lt
    refine ⟨hl, ?_⟩
    rintro (⟨j, e, hj⟩ | hs)
    · exact Dx hD k j q (q.1, e) hq (ap_l hj) rfl
    · omega
  have az : ∀ (k : Nat) (q : Nat × va_E), z[k]? = some q → q.1 < H.size ∧ ¬ va_A wc H.size q.1 := by
    intro k q hq
    have hl := (Pr (Pr hP) k q hq).lt
    refine ⟨hl, ?_⟩
    rintro (⟨j, e, hj⟩ | hs)
    · exact Dx (Dr hD) j k (q.1, e) q hj hq rfl
    · omega
  have hx : va_P D cl x H1 := (Pl hP).kept (fun k q hq => hk q.1 (ax k q hq).1 (ax k q hq).2)
  have hz : va_P D cl z H1 := (Pr (Pr hP)).kept (fun k q hq => hk q.1 (az k q hq).1 (az k q hq).2)
  refine ⟨hx.app (hP1.app hz), (Dl hD).app ((hD1.weaken (fun k q _ h => hF q.1 h)).app (Dr (Dr hD)) ?_) ?_⟩
  · intro i j p q hi hj e
    exact (az j q hj).2 (by rw [← e]; exact hD1.2 i p hi)
  · intro i j p q hi hj e
    rcases ap_or hj with h | ⟨-, h⟩
    · exact (ax i p hi).2 (by rw [e]; exact hD1.2 j q h)
    · exact Dx hD i (wc.length + (j - w1.length)) p q hi (ap_r h) e
section CLB
variable {p : Program} {l : Launch} {e : Env} {R : Room} {s : State} {m : MethodId} {args : Array Value} {below : List Frame} {meth : Method} {c : Code} {H H0 : Heap} {locs : List Loc} {Q : State → Prop} {cc : ByteArray} {pc : Nat} {ls : Array Slot} {rest st0 : List Value} {A : Nat → Prop} {E : EE} {wd wc w1 wd' : va_W} {aa : Array Value} {r : Int32} {cells slots : Nat}
/-- behind a call that answers an int -/
theorem cl_i (hr : va_Run p l e R s m args below meth c H locs cells slots 0 0 (F0 m pc ls st0) rest (va_Qi (fun x (_ : Unit) => x = r) (Bw E w1 (va_A wc H.size)) (va_A wc H.size) aa) (va_A wc H.size)) (hF : Fr wd wc w1 wd') (hP : va_P E.1 vwCl wd H) (hD : va_D A wd) (hS : va_S A H0 H locs) (hA : ∀ q, H0.size ≤ q → A q)
    (kk : ∀ (H1 : Heap) (locs1 : List Loc), va_P E.1 vwCl wd' H1 → va_D A wd' → va_S A H0 H1 locs1 → W p l e R s m args below meth c H1 locs1 cells slots Q (F0 m (pc + 3) ls (.int r :: rest))) : W p l e R s m args below meth c H locs cells slots Q (F0 m pc ls st0) := by
  have hf := hF.free hD hS hA
  refine va_calli hr hS (fun q _ h => hf q h) hf (fun x u t H1 locs1 ht hvm hw hB hz1 hk1 hS1 => ?_)
  subst hw
  obtain ⟨hP1, hD1⟩ := hB
  rw [ht] at hP1
  obtain ⟨hP2, hD2⟩ := hF.join hP hD hk1 hf hP1 hD1
  exact kk H1 locs1 hP2 hD2 hS1
theorem cl_v (hr : va_Run p l e R s m args below meth c H locs cells slots 0 0 (F0 m pc ls st0) rest (va_Qv (fun (_ : Unit) => True) (Bw E w1 (va_A wc H.size)) (va_A wc H.size) aa) (va_A wc H.size)) (hF : Fr wd wc w1 wd') (hP : va_P E.1 vwCl wd H) (hD : va_D A wd) (hS : va_S A H0 H locs) (hA : ∀ q, H0.size ≤ q → A q)
    (kk : ∀ (H1 : Heap) (locs1 : List Loc), va_P E.1 vwCl wd' H1 → va_D A wd' → va_S A H0 H1 locs1 → W p l e R s m args below meth c H1 locs1 cells slots Q (F0 m (pc + 3) ls rest)) : W p l e R s m args below meth c H locs cells slots Q (F0 m pc ls st0) := by
  have hf := hF.free hD hS hA
  refine va_callv hr hS (fun q _ h => hf q h) hf (fun u t H1 locs1 ht hvm hw hB hz1 hk1 hS1 => ?_)
  obtain ⟨hP1, hD1⟩ := hB
  rw [ht] at hP1
  obtain ⟨hP2, hD2⟩ := hF.join hP hD hk1 hf hP1 hD1
  exact kk H1 locs1 hP2 hD2 hS1
theorem Pw_blind {av : List Value} {w : va_W} {sz : Nat} : FrameBlind (va_Pc av (Pw E w sz)) := fun a U g mk q => by
  obtain ⟨q0, q1, qP, qE, qD⟩ := q
  exact ⟨q0, q1, qP, ev_same (s := U) (U := U.calling g mk a) qE rfl, qD⟩
theorem Pw_of {w : va_W} (hE : ev E s) (hP : va_P E.1 vwCl w H) (hD : va_D A w) (av : List Value) : ∀ U : State, U.heap = H → s.WarmedH U.vm → va_Pc av (Pw E w H.size) av.toArray U := fun U hU hW => ⟨rfl, by rw [hU], by rw [hU]; exact hP, ev_warm hE hW, hD.weaken (fun _ _ _ _ => trivial)⟩
variable {y : MethodName} {bytes : ByteArray} {maxL nL n index : Nat} {ret : Option FieldType} {ws : List Cond} {rm : Room} {Qc : Array Value → State → Outcome → State → Prop} {free : Addr → Prop} {Ts : List Cond} {own C host : String} {b : Addr} {As : List Value} {fs : List Value} {tq : vw_C}
theorem ci_V (S : CallFix p m c cc nL s args Ts own) (hE : ev E s) (hM : Ci l E y ws rm (.ref b :: As) wc r w1) (cw : CallW R s args own C index y bytes maxL ret ws rm 0 0 n) (hF : Fr wd wc w1 wd') (q0 ci : Nat) (he : wc[q0]? = some (b, .inr (ci, fs))) (hc : vwCl[ci]? = some tq) (hC : tq.1 = C) (hP : va_P E.1 vwCl wd H) (hD : va_D A wd) (hS : va_S A H0 H locs) (hA : ∀ q, H0.size ≤ q → A q)
    (hn : As.length = n) (hsize : ls.size = nL) (hstack : st0 = As.reverse ++ .ref b :: rest) (hW : (rest.map fun v => v.category).sum ≤ 8) (hdg : decode cc pc = .ok (.invokevirtual index, 3)) (hf : cells ≤ R.cells ∧ slots ≤ R.slots)
    (kk : ∀ (H1 : Heap) (locs1 : List Loc), va_P E.1 vwCl wd' H1 → va_D A wd' → va_S A H0 H1 locs1 → W p l e R s m args below meth c H1 locs1 cells slots Q (F0 m (pc + 3) ls (.int r :: rest))) : W p l e R s m args below meth c H locs cells slots Q (F0 m pc ls st0) := by
  obtain ⟨hPc, hDc⟩ := hF.part hP hD
  have hrec : ∃ cellB : Cell, H[b]? = some cellB ∧ cellB.vm.isStatics = false ∧ s.vm.findClass C = some cellB.cls := by
    rw [← hC]
    exact va_recv hE.1 hPc hc he
  exact cl_i (va_runV S (hM H.size) cw ⟨Pw_blind, hrec, Pw_of hE hPc hDc _⟩ rfl hn hsize hstack (lv_room hW) hdg hf) hF hP hD hS hA kk
theorem cv_V (S : CallFix p m c cc nL s args Ts own) (hE : ev E s) (hM : Cv l E y ws rm (.ref b :: As) wc w1) (cw : CallW R s args own C index y bytes maxL ret ws rm 0 0 n) (hF : Fr wd wc w1 wd') (q0 ci : Nat) (he : wc[q0]? = some (b, .inr (ci, fs))) (hc : vwCl[ci]? = some tq) (hC : tq.1 = C) (hP : va_P E.1 vwCl wd H) (hD : va_D A wd) (hS : va_S A H0 H locs) (hA : ∀ q, H0.size ≤ q → A q)
    (hn : As.length = n) (hsize : ls.size = nL) (hstack : st0 = As.reverse ++ .ref b :: rest) (hW : (rest.map fun v => v.category).sum ≤ 8) (hdg : decode cc pc = .ok (.invokevirtual index, 3)) (hf : cells ≤ R.cells ∧ slots ≤ R.slots)
    (kk : ∀ (H1 : Heap) (locs1 : List Loc), va_P E.1 vwCl wd' H1 → va_D A wd' → va_S A H0 H1 locs1 → W p l e R s m args below meth c H1 locs1 cells slots Q (F0 m (pc + 3) ls (rest))) : W p l e R s m args below meth c H locs cells slots Q (F0 m pc ls st0) := by
  obtain ⟨hPc, hDc⟩ := hF.part hP hD
  have hrec : ∃ cellB : Cell, H[b]? = some cellB ∧ cellB.vm.isStatics = false ∧ s.vm.findClass C = some cellB.cls := by
    rw [← hC]
    exact va_recv hE.1 hPc hc he
  exact cl_v (va_runV S (hM H.size) cw ⟨Pw_blind, hrec, Pw_of hE hPc hDc _⟩ rfl hn hsize hstack (lv_room hW) hdg hf) hF hP hD hS hA kk
theorem ci_VN (S : CallFix p m c cc nL s args Ts own) (hE : ev E s) (hM : Ci l E y ws rm (.ref b :: As) wc r w1) (cw : va_CN R s args own index y host bytes maxL ret ws rm 0 0 n ∧ (Cond.instanceMethod y).before args s = true ∧ (Cond.selects C y y).before args s = true) (hF : Fr wd wc w1 wd') (q0 ci : Nat) (he : wc[q0]? = some (b, .inr (ci, fs))) (hc : vwCl[ci]? = some tq) (hC : tq.1 = C) (hP : va_P E.1 vwCl wd H) (hD : va_D A wd) (hS : va_S A H0 H locs) (hA : ∀ q, H0.size ≤ q → A q)
    (hn : As.length = n) (hsize : ls.size = nL) (hstack : st0 = As.reverse ++ .ref b :: rest) (hW : (rest.map fun v => v.category).sum ≤ 8) (hdg : decode cc pc = .ok (.invokevirtual index, 3)) (hf : cells ≤ R.cells ∧ slots ≤ R.slots)
    (kk : ∀ (H1 : Heap) (locs1 : List Loc), va_P E.1 vwCl wd' H1 → va_D A wd' → va_S A H0 H1 locs1 → W p l e R s m args below meth c H1 locs1 cells slots Q (F0 m (pc + 3) ls (.int r :: rest))) : W p l e R s m args below meth c H locs cells slots Q (F0 m pc ls st0) := by
  obtain ⟨hPc, hDc⟩ := hF.part hP hD
  have hrec : ∃ cellB : Cell, H[b]? = some cellB ∧ cellB.vm.isStatics = false ∧ s.vm.findClass C = some cellB.cls := by
    rw [← hC]
    exact va_recv hE.1 hPc hc he
  exact cl_i (va_runVN S (hM H.size) cw ⟨Pw_blind, hrec, Pw_of hE hPc hDc _⟩ rfl hn hsize hstack (lv_room hW) hdg hf) hF hP hD hS hA kk
theorem cv_VN (S : CallFix p m c cc nL s args Ts own) (hE : ev E s) (hM : Cv l E y ws rm (.ref b :: As) wc w1) (cw : va_CN R s args own index y host bytes maxL ret ws rm 0 0 n ∧ (Cond.instanceMethod y).before args s = true ∧ (Cond.selects C y y).before args s = true) (hF : Fr wd wc w1 wd') (q0 ci : Nat) (he : wc[q0]? = some (b, .inr (ci, fs))) (hc : vwCl[ci]? = some tq) (hC : tq.1 = C) (hP : va_P E.1 vwCl wd H) (hD : va_D A wd) (hS : va_S A H0 H locs) (hA : ∀ q, H0.size ≤ q → A q)
    (hn : As.length = n) (hsize : ls.size = nL) (hstack : st0 = As.reverse ++ .ref b :: rest) (hW : (rest.map fun v => v.category).sum ≤ 8) (hdg : decode cc pc = .ok (.invokevirtual index, 3)) (hf : cells ≤ R.cells ∧ slots ≤ R.slots)
    (kk : ∀ (H1 : Heap) (locs1 : List Loc), va_P E.1 vwCl wd' H1 → va_D A wd' → va_S A H0 H1 locs1 → W p l e R s m args below meth c H1 locs1 cells slots Q (F0 m (pc + 3) ls (rest))) : W p l e R s m args below meth c H locs cells slots Q (F0 m pc ls st0) := by
  obtain ⟨hPc, hDc⟩ := hF.part hP hD
  have hrec : ∃ cellB : Cell, H[b]? = some cellB ∧ cellB.vm.isStatics = false ∧ s.vm.findClass C = some cellB.cls := by
    rw [← hC]
    exact va_recv hE.1 hPc hc he
  exact cl_v (va_runVN S (hM H.size) cw ⟨Pw_blind, hrec, Pw_of hE hPc hDc _⟩ rfl hn hsize hstack (lv_room hW) hdg hf) hF hP hD hS hA kk
theorem ci_S (S : CallFix p m c cc nL s args Ts own) (hE : ev E s) (hM : Ci l E y ws rm (As) wc r w1) (cw : CallB R s args own index y bytes maxL ret ws rm 0 0 n ∧ (Cond.static y).before args s = true) (hF : Fr wd wc w1 wd') (hP : va_P E.1 vwCl wd H) (hD : va_D A wd) (hS : va_S A H0 H locs) (hA : ∀ q, H0.size ≤ q → A q)
    (hn : As.length = n) (hsize : ls.size = nL) (hstack : st0 = As.reverse ++ rest) (hW : (rest.map fun v => v.category).sum ≤ 8) (hdg : decode cc pc = .ok (.invokestatic index, 3)) (hf : cells ≤ R.cells ∧ slots ≤ R.slots)
    (kk : ∀ (H1 : Heap) (locs1 : List Loc), va_P E.1 vwCl wd' H1 → va_D A wd' → va_S A H0 H1 locs1 → W p l e R s m args below meth c H1 locs1 cells slots Q (F0 m (pc + 3) ls (.int r :: rest))) : W p l e R s m args below meth c H locs cells slots Q (F0 m pc ls st0) := by
  obtain ⟨hPc, hDc⟩ := hF.part hP hD
  exact cl_i (va_runS S (hM H.size) cw ⟨Pw_blind, Pw_of hE hPc hDc _⟩ rfl hn hsize hstack (lv_room hW) hdg hf) hF hP hD hS hA kk
theorem cv_S (S : CallFix p m c cc nL s args Ts own) (hE : ev E s) (hM : Cv l E y ws rm (As) wc w1) (cw : CallB R s args own index y bytes maxL ret ws rm 0 0 n ∧ (Cond.static y).before args s = true) (hF : Fr wd wc w1 wd') (hP : va_P E.1 vwCl wd H) (hD : va_D A wd) (hS : va_S A H0 H locs) (hA : ∀ q, H0.size ≤ q → A q)
    (hn : As.length = n) (hsize : ls.size = nL) (hstack : st0 = As.reverse ++ rest) (hW : (rest.map fun v => v.category).sum ≤ 8) (hdg : decode cc pc = .ok (.invokestatic index, 3)) (hf : cells ≤ R.cells ∧ slots ≤ R.slots)
    (kk : ∀ (H1 : Heap) (locs1 : List Loc), va_P E.1 vwCl wd' H1 → va_D A wd' → va_S A H0 H1 locs1 → W p l e R s m args below meth c H1 locs1 cells slots Q (F0 m (pc + 3) ls (rest))) : W p l e R s m args below meth c H locs cells slots Q (F0 m pc ls st0) := by
  obtain ⟨hPc, hDc⟩ := hF.part hP hD
  exact cl_v (va_runS S (hM H.size) cw ⟨Pw_blind, Pw_of hE hPc hDc _⟩ rfl hn hsize hstack (lv_room hW) hdg hf) hF hP hD hS hA kk
theorem ci_SN (S : CallFix p m c cc nL s args Ts own) (hE : ev E s) (hM : Ci l E y ws rm (As) wc r w1) (cw : va_CN R s args own index y host bytes maxL ret ws rm 0 0 n ∧ (Cond.static y).before args s = true ∧ True) (hF : Fr wd wc w1 wd') (hP : va_P E.1 vwCl wd H) (hD : va_D A wd) (hS : va_S A H0 H locs) (hA : ∀ q, H0.size ≤ q → A q)
    (hn : As.length = n) (hsize : ls.size = nL) (hstack : st0 = As.reverse ++ rest) (hW : (rest.map fun v => v.category).sum ≤ 8) (hdg : decode cc pc = .ok (.invokestatic index, 3)) (hf : cells ≤ R.cells ∧ slots ≤ R.slots)
    (kk : ∀ (H1 : Heap) (locs1 : List Loc), va_P E.1 vwCl wd' H1 → va_D A wd' → va_S A H0 H1 locs1 → W p l e R s m args below meth c H1 locs1 cells slots Q (F0 m (pc + 3) ls (.int r :: rest))) : W p l e R s m args below meth c H locs cells slots Q (F0 m pc ls st0) := by
  obtain ⟨hPc, hDc⟩ := hF.part hP hD
  exact cl_i (va_runSN S (hM H.size) cw ⟨Pw_blind, Pw_of hE hPc hDc _⟩ rfl hn hsize hstack (lv_room hW) hdg hf) hF hP hD hS hA kk
theorem cv_SN (S : CallFix p m c cc nL s args Ts own) (hE : ev E s) (hM : Cv l E y ws rm (As) wc w1) (cw : va_CN R s args own index y host bytes maxL ret ws rm 0 0 n ∧ (Cond.static y).before args s = true ∧ True) (hF : Fr wd wc w1 wd') (hP : va_P E.1 vwCl wd H) (hD : va_D A wd) (hS : va_S A H0 H locs) (hA : ∀ q, H0.size ≤ q → A q)
    (hn : As.length = n) (hsize : ls.size = nL) (hstack : st0 = As.reverse ++ rest) (hW : (rest.map fun v => v.category).sum ≤ 8) (hdg : decode cc pc = .ok (.invokestatic index, 3)) (hf : cells ≤ R.cells ∧ slots ≤ R.slots)
    (kk : ∀ (H1 : Heap) (locs1 : List Loc), va_P E.1 vwCl wd' H1 → va_D A wd' → va_S A H0 H1 locs1 → W p l e R s m args below meth c H1 locs1 cells slots Q (F0 m (pc + 3) ls (rest))) : W p l e R s m args below meth c H locs cells slots Q (F0 m pc ls st0) := by
  obtain ⟨hPc, hDc⟩ := hF.part hP hD
  exact cl_v (va_runSN S (hM H.size) cw ⟨Pw_blind, Pw_of hE hPc hDc _⟩ rfl hn hsize hstack (lv_room hW) hdg hf) hF hP hD hS hA kk
/-- the top of the stack, by another name -/
theorem tpe {x y : Int32} (h : x = y) (k : W p l e R s m args below meth c H locs cells slots Q (F0 m pc ls (.int y :: rest))) : W p l e R s m args below meth c H locs cells slots Q (F0 m pc ls (.int x :: rest)) := by rw [h]; exact k
variable {tys : List (ClassId × FieldType)} {a N : Nat} {cA : ClassId}
/-- an element of a row of ints, at a number -/
theorem q_iald (hx : p.tables.exec = Jvm.exec) (hb : c.code = cc) (hE : ev E s) (hP : va_P E.1 vwCl wd H) (q0 : Nat) {f : Nat → Int32} (ha : wd[q0]? = some (a, .inl (E.2 0, N, .inl f))) {i v : Int32} {j : Nat} (hi : i = nI j) (hj : j < N) (hN : N < 2 ^ 31) (hv : f j = v) (hdg : decode cc pc = .ok (.iaload, 1))
    (kk : W p l e R s m args below meth c H locs cells slots Q (F0 m (pc + 1) ls (.int v :: rest))) : W p l e R s m args below meth c H locs cells slots Q (F0 m pc ls (.int i :: .ref a :: rest)) := by
  subst hi
  refine va_iald hx hb hE.1 hP q0 0 ha rfl (vp_in_nI hj hN) hdg ?_
  rw [nI_clamp (Nat.lt_trans hj hN), hv]
  exact kk
theorem q_iast (hx : p.tables.exec = Jvm.exec) (hb : c.code = cc) (hE : ev E s) (hP : va_P E.1 vwCl wd H) (hD : va_D A wd) (hS : va_S A H0 H locs) (q0 : Nat) {f : Nat → Int32} (ha : wd[q0]? = some (a, .inl (E.2 0, N, .inl f))) {i v : Int32} {j : Nat} (hi : i = nI j) (hj : j < N) (hN : N < 2 ^ 31) (hs : wd.set q0 (a, .inl (E.2 0, N, .inl (upd f j v))) = wd') (hdg : decode cc pc = .ok (.iastore, 1))
    (kk : ∀ (H1 : Heap) (locs1 : List Loc), va_P E.1 vwCl wd' H1 → va_D A wd' → va_S A H0 H1 locs1 → W p l e R s m args below meth c H1 locs1 cells slots Q (F0 m (pc + 1) ls rest)) : W p l e R s m args below meth c H locs cells slots Q (F0 m pc ls (.int v :: .int i :: .ref a :: rest)) := by
  subst hi
  subst hs
  refine va_iast hx hb hE.1 hP hD hS q0 0 ha rfl (vp_in_nI hj hN) hdg ?_
  rw [nI_clamp (Nat.lt_trans hj hN)]
  exact kk
theorem q_zald (hx : p.tables.exec = Jvm.exec) (hb : c.code = cc) (hE : ev E s) (hP : va_P E.1 vwCl wd H) (q0 : Nat) {f : Nat → Int32} (ha : wd[q0]? = some (a, .inl (E.2 3, N, .inl f))) {i v : Int32} {j : Nat} (hi : i = nI j) (hj : j < N) (hN : N < 2 ^ 31) (hv : f j = v) (hdg : decode cc pc = .ok (.baload, 1))
    (kk : W p l e R s m args below meth c H locs cells slots Q (F0 m (pc + 1) ls (.int v :: rest))) : W p l e R s m args below meth c H locs cells slots Q (F0 m pc ls (.int i :: .ref a :: rest)) := by
  subst hi
  refine va_zald hx hb hE.1 hP q0 3 ha rfl (vp_in_nI hj hN) hdg ?_
  rw [nI_clamp (Nat.lt_trans hj hN), hv]
  exact kk
theorem q_zast (hx : p.tables.exec = Jvm.exec) (hb : c.code = cc) (hE : ev E s) (hP : va_P E.1 vwCl wd H) (hD : va_D A wd) (hS : va_S A H0 H locs) (q0 : Nat) {f : Nat → Int32} (ha : wd[q0]? = some (a, .inl (E.2 3, N, .inl f))) {i v : Int32} {j : Nat} (hi : i = nI j) (hj : j < N) (hN : N < 2 ^ 31) (hnar : vp_nar .boolean v = v) (hs : wd.set q0 (a, .inl (E.2 3, N, .inl (upd f j v))) = wd') (hdg : decode cc pc = .ok (.bastore, 1))
    (kk : ∀ (H1 : Heap) (locs1 : List Loc), va_P E.1 vwCl wd' H1 → va_D A wd' → va_S A H0 H1 locs1 → W p l e R s m args below meth c H1 locs1 cells slots Q (F0 m (pc + 1) ls rest)) : W p l e R s m args below meth c H locs cells slots Q (F0 m pc ls (.int v :: .int i :: .ref a :: rest)) := by
  subst hi
  subst hs
  refine va_zast hx hb hE.1 hP hD hS q0 3 ha rfl (vp_in_nI hj hN) hdg ?_
  rw [nI_clamp (Nat.lt_trans hj hN), hnar]
  exact kk
theorem q_aald (hx : p.tables.exec = Jvm.exec) (hb : c.code = cc) (hE : ev E s) (hP : va_P E.1 vwCl wd H) (q0 t0 : Nat) {f : Nat → Option Nat} (ha : wd[q0]? = some (a, .inl (cA, N, .inr (.inr (.inr (.inr f)))))) {C0 : String} (ht : (kt E)[t0]? = some (cA, .object C0)) {i : Int32} {j v : Nat} (hi : i = nI j) (hj : j < N) (hN : N < 2 ^ 31) (hv : f j = some v) (hdg : decode cc pc = .ok (.aaload, 1))
    (kk : W p l e R s m args below meth c H locs cells slots Q (F0 m (pc + 1) ls (.ref v :: rest))) : W p l e R s m args below meth c H locs cells slots Q (F0 m pc ls (.int i :: .ref a :: rest)) := by
  subst hi
  refine va_aldq hx hb hE.1 hP q0 t0 ha ht (vp_in_nI hj hN) hdg ?_
  rw [nI_clamp (Nat.lt_trans hj hN), hv]
  exact kk
end CLB
