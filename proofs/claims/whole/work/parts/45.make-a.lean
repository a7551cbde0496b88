/-! MAKING: rows that are new, a row copied out of a static row, contracts of constructors -/
abbrev zr : Nat → Int32 := fun _ => 0
section MKA
variable {p : Program} {l : Launch} {e : Env} {R : Room} {s : State} {m : MethodId} {args : Array Value} {below : List Frame} {meth : Method} {c : Code} {H H0 : Heap} {locs : List Loc} {Q : State → Prop} {cc : ByteArray} {pc : Nat} {ls : Array Slot} {rest : List Value} {A : Nat → Prop} {E : EE} {wd : va_W} {cells slots : Nat}
theorem q_newi (hx : p.tables.exec = Jvm.exec) (hb : c.code = cc) (hE : ev E s) (harr : (Cond.arrayClass .int).before args s = true) (hP : va_P E.1 vwCl wd H) (hD : va_D A wd) (hS : va_S A H0 H locs) (hA : ∀ q, H0.size ≤ q → A q) {n : Int32} (N : Nat) (hn : n = nI N) (hN : N ≤ 1000) (hcells : cells + 1 ≤ R.cells) (hslots : slots + N ≤ R.slots) (hdg : decode cc pc = .ok (.newarray .int, 2))
    (kk : ∀ (q : Nat) (H1 : Heap), va_P E.1 vwCl (wd ++ [(q, rI E N zr)]) H1 → va_D A (wd ++ [(q, rI E N zr)]) → va_S A H0 H1 locs → W p l e R s m args below meth c H1 locs (cells + 1) (slots + N) Q (F0 m (pc + 2) ls (.ref q :: rest))) : W p l e R s m args below meth c H locs cells slots Q (F0 m pc ls (.int n :: rest)) := by
  subst hn
  refine va_newa (atype := .int) (ty := .int) (a0 := (N, .inl zr)) hx hb harr rfl hE.1 hP hD hS hA (fun cA => rfl) (nI_pos (by omega)) (nI_clamp (by omega)) (by show N * 4 ≤ 536870912; omega) hcells hslots hdg (fun q cA H1 hK hP hD hS => ?_)
  have e1 : s.vm.findClass ("[" ++ FieldType.int.toString) = some cA := (hK.2 4 (cA, .int) rfl).2
  have e0 : s.vm.findClass ("[" ++ FieldType.int.toString) = some (E.2 0) := (hE.1.2 0 (E.2 0, .int) rfl).2
  have ec : cA = E.2 0 := Option.some.inj (e1.symm.trans e0)
  subst ec
  exact kk q H1 hP hD hS
theorem q_newz (hx : p.tables.exec = Jvm.exec) (hb : c.code = cc) (hE : ev E s) (harr : (Cond.arrayClass .boolean).before args s = true) (hP : va_P E.1 vwCl wd H) (hD : va_D A wd) (hS : va_S A H0 H locs) (hA : ∀ q, H0.size ≤ q → A q) {n : Int32} (N : Nat) (hn : n = nI N) (hN : N ≤ 1000) (hcells : cells + 1 ≤ R.cells) (hslots : slots + N ≤ R.slots) (hdg : decode cc pc = .ok (.newarray .boolean, 2))
    (kk : ∀ (q : Nat) (H1 : Heap), va_P E.1 vwCl (wd ++ [(q, .inl (E.2 3, N, .inl zr))]) H1 → va_D A (wd ++ [(q, .inl (E.2 3, N, .inl zr))]) → va_S A H0 H1 locs → W p l e R s m args below meth c H1 locs (cells + 1) (slots + N) Q (F0 m (pc + 2) ls (.ref q :: rest))) : W p l e R s m args below meth c H locs cells slots Q (F0 m pc ls (.int n :: rest)) := by
  subst hn
  refine va_newa (atype := .boolean) (ty := .boolean) (a0 := (N, .inl zr)) hx hb harr rfl hE.1 hP hD hS hA (fun cA => rfl) (nI_pos (by omega)) (nI_clamp (by omega)) (by show N * 1 ≤ 536870912; omega) hcells hslots hdg (fun q cA H1 hK hP hD hS => ?_)
  have e1 : s.vm.findClass ("[" ++ FieldType.boolean.toString) = some cA := (hK.2 4 (cA, .boolean) rfl).2
  have e0 : s.vm.findClass ("[" ++ FieldType.boolean.toString) = some (E.2 3) := (hE.1.2 3 (E.2 3, .boolean) rfl).2
  have ec : cA = E.2 3 := Option.some.inj (e1.symm.trans e0)
  subst ec
  exact kk q H1 hP hD hS
/-- a row of references -/
theorem q_newr (hx : p.tables.exec = Jvm.exec) (hb : c.code = cc) (hE : ev E s) {own C : String} {index : Nat} (hown : s.vm.findClass own = some m.cls) (hcl : (Cond.classLink own index C).before args s = true) (hover : va_AO C s) (i : Nat) (hi : (kt E)[i]? = some (E.2 i, .object C)) (hP : va_P E.1 vwCl wd H) (hD : va_D A wd) (hS : va_S A H0 H locs) (hA : ∀ q, H0.size ≤ q → A q) {n : Int32} (N : Nat) (hn : n = nI N) (hN : N ≤ 1000) (hcells : cells + 1 ≤ R.cells) (hslots : slots + N ≤ R.slots) (hdg : decode cc pc = .ok (.anewarray index, 3))
    (kk : ∀ (q : Nat) (H1 : Heap), va_P E.1 vwCl (wd ++ [(q, .inl (E.2 i, N, .inr (.inr (.inr (.inr (fun _ => none))))))]) H1 → va_D A (wd ++ [(q, .inl (E.2 i, N, .inr (.inr (.inr (.inr (fun _ => none))))))]) → va_S A H0 H1 locs → W p l e R s m args below meth c H1 locs (cells + 1) (slots + N) Q (F0 m (pc + 3) ls (.ref q :: rest))) : W p l e R s m args below meth c H locs cells slots Q (F0 m pc ls (.int n :: rest)) := by
  subst hn
  refine va_newq hx hb hown hcl hover hE.1 hP hD hS hA (nI_pos (by omega)) (nI_clamp (by omega)) (by omega) hcells hslots hdg (fun q cA H1 hK hP hD hS => ?_)
  obtain ⟨_, _, _, _, _, e1⟩ := (hK.2 4 (cA, .object C) rfl).2
  obtain ⟨_, _, _, _, _, e0⟩ := (hE.1.2 i (E.2 i, .object C) hi).2
  have ec : cA = E.2 i := Option.some.inj (e1.symm.trans e0)
  subst ec
  exact kk q H1 hP hD hS
theorem copied_t {cell : Cell} {c1 : ClassId} {n1 n : Nat} {f h : Nat → Int32} (hv : ∀ j : Nat, j < n → cell.slots[j]? = some (.int (f j))) : (arrV c1 n1 (fun j => .int (h j))).storeRun 0 (cell.stretch 0 n) = arrV c1 n1 (fun j => .int (va_cpy f h 0 0 n j)) := by
  have e : cell.stretch 0 n = (List.range n).map (fun i => .int (f (0 + i))) := by
    unfold Cell.stretch
    apply List.map_congr_left
    intro i hi
    have hi' := List.mem_range.mp hi
    rw [Array.getD_eq_getD_getElem?, hv (0 + i) (by omega)]
    rfl
  rw [e, Cell.storeRun, va_pairs]
  congr 1
  funext k
  simp only [va_cpy, List.length_map, List.length_range, Nat.add_zero]
  by_cases h : 0 ≤ k ∧ k < 0 + n
  · rw [if_pos h, if_pos h, List.getD_eq_getElem?_getD, List.getElem?_map, List.getElem?_range (by omega)]
    rfl
  · rw [if_neg h, if_neg h]
theorem va_copyT (hexec : p.tables.exec = Jvm.exec) (hb : c.code = cc) (hml : c.maxLocals = ls.size) {own : String} {index : Nat} (hown : s.vm.findClass own = some m.cls) (hlink : (Cond.methodLink own index arraycopyName).before args s = true) (hnat : (Cond.native arraycopyName).before args s = true) (hstat : (Cond.static arraycopyName).before args s = true) (hini : (Cond.initialized "java/lang/System").before args s = true)
    (hE : ev E s) (hP : va_P E.1 vwCl wd H) (hD : va_D A wd) {t N : Nat} {f : Nat → Int32} (hT : va_T .int t N (fun j => .int (f j)) A s s.heap) (hS : va_S A s.heap H locs) (q1 : Nat) {a n1 : Nat} {g : Nat → Int32} (ha1 : wd[q1]? = some (a, rI E n1 g)) {n : Int32} (h3 : ¬ n < 0) (h4 : n.toNatClampNeg ≤ N) (h5 : n.toNatClampNeg ≤ n1)
    (hframes : 1 ≤ R.frames) (hlocals : (rest.map fun v => v.category).sum + (nativeFrameWords "java/lang/System" "arraycopy" 5 + 11) ≤ R.locals) (hdg : decode cc pc = .ok (.invokestatic index, 3))
    (kk : ∀ (H1 : Heap) (locs1 : List Loc), va_P E.1 vwCl (wd.set q1 (a, rI E n1 (va_cpy f g 0 0 n.toNatClampNeg))) H1 → va_D A (wd.set q1 (a, rI E n1 (va_cpy f g 0 0 n.toNatClampNeg))) → va_S A s.heap H1 locs1 → W p l e R s m args below meth c H1 locs1 cells slots Q (F0 m (pc + 3) ls rest)) : W p l e R s m args below meth c H locs cells slots Q (F0 m pc ls (.int n :: .int 0 :: .ref a :: .int 0 :: .ref t :: rest)) := by
  intro T hT' X
  obtain ⟨cell, e1, ⟨hns, k0, hk0, cm0, hkk0⟩, e3, e4, e5, e6, e7⟩ := hT
  have hc0 : H[t]? = some cell := by rw [hS.2.1 t (Array.getElem?_eq_some_iff.mp e1).1 e7]; exact e1
  have hc1 : H[a]? = some (vp_cell (E.2 0) (n1, .inl g)) := hP q1 _ ha1
  obtain ⟨-, k1, hk1, cm1, hkk1⟩ := (hE.1.2 0 (E.2 0, .int) rfl).1 n1 (fun j => .int (g j))
  have nn : n.toInt = (n.toNatClampNeg : Int) := by
    have hz0 : (0 : Int) ≤ n.toInt := by
      have := Int32.not_lt.mp h3
      simpa using Int32.le_iff_toInt_le.mp this
    show n.toInt = ((n.toInt.toNat : Nat) : Int)
    omega
  have z0 : (0 : Int32).toInt = 0 := rfl
  have z1 : (0 : Int32).toNatClampNeg = 0 := rfl
  obtain ⟨vm', X', step⟩ := X.arraycopy hexec hown hlink hnat hstat hini (src := t) (dst := a) (cs := cell) (cd := vp_cell (E.2 0) (n1, .inl g)) (srcPos := 0) (destPos := 0) (n := n) (by rw [hT']; exact hc0) (by rw [hT']; exact hc1)
    hns (fun _ h => by cases h) e3 (fun h => by cases h) hk0 hk1 hkk0 hkk1 rfl (by decide) (by decide) h3
    (by rw [nn, z0]; omega)
    (by rw [nn, z0]; show ¬ _ > ((arrV (E.2 0) n1 (fun j => .int (g j))).slots.size : Int); rw [arrV_size]; omega)
    (fun vm₁ _ i hi => by
      have ei : cell.slots.getD ((0 : Int32).toNatClampNeg + i) .null = .int (f i) := by
        rw [z1, Nat.zero_add, Array.getD_eq_getD_getElem?, e6 i (by omega)]
        rfl
      refine ⟨?_, ?_⟩
      · rw [ei]; rfl
      · rw [ei]; exact trivial)
    (g := F0 m pc ls (.int n :: .int 0 :: .ref a :: .int 0 :: .ref t :: rest)) rfl (by rw [hml]) (rest := rest) rfl (by rw [hb]; exact hdg) hframes (by show 2 * 0 + _ + _ ≤ _; omega)
  have ec : copied cell (vp_cell (E.2 0) (n1, .inl g)) 0 0 n = vp_cell (E.2 0) (n1, .inl (va_cpy f g 0 0 n.toNatClampNeg)) := copied_t (fun j hj => e6 j (by omega))
  rw [ec] at X' step
  have hl : a < H.size := (Array.getElem?_eq_some_iff.mp hc1).1
  have hheap : ((T.setVm vm').setCell a (vp_cell (E.2 0) (n1, .inl (va_cpy f g 0 0 n.toNatClampNeg)))).heap = H.setIfInBounds a (vp_cell (E.2 0) (n1, .inl (va_cpy f g 0 0 n.toNatClampNeg))) := by rw [← hT']; rfl
  have oq : ∀ q : Nat, q ≠ a → (H.setIfInBounds a (vp_cell (E.2 0) (n1, .inl (va_cpy f g 0 0 n.toNatClampNeg))))[q]? = H[q]? := fun q hq => by simp [Array.getElem?_setIfInBounds, Ne.symm hq]
  obtain ⟨t', a1, b1⟩ := kk _ _ (hP.set hD ha1 (show (H.setIfInBounds a _)[a]? = some _ by simp [Array.getElem?_setIfInBounds, hl]) oq) (hD.set ha1) ⟨by simp; exact hS.1, fun q g1 g2 => by
      rw [oq q (fun e => g2 (by rw [e]; exact hD.2 q1 _ ha1))]
      exact hS.2.1 q g1 g2, fun q hq => by
      rcases List.mem_append.mp hq with h | h
      · exact hS.2.2 q h
      · obtain ⟨z, -, hz⟩ := List.mem_map.mp h
        rw [← hz]
        exact hD.2 q1 _ ha1⟩ _ hheap X'
  exact ⟨t', step t' a1, b1⟩
end MKA
set_option maxHeartbeats 4000000 in
set_option maxRecDepth 100000 in
/-- copyRow out of FIRST_RULES -/
theorem k_copyRowT (t0 t1 t2 : Nat) (l : Launch) (E : EE) (b1 : Nat) (h : Nat → Int32) (sz : Nat) : Met l yX2_copyRow wsX2_copyRow { frames := 1, cells := 0, slots := 0, locals := 20 } (va_Pc [.ref t0, .ref b1] (Ps t0 t1 t2 E [(b1, rI E 4 h)] sz)) (va_Qv (fun (_ : Unit) => True) (Bw E [(b1, rI E 4 (va_cpy rl0 h 0 0 4))] (va_A [(b1, rI E 4 h)] sz)) (va_A [(b1, rI E 4 h)] sz)) 0 0 (va_A [(b1, rI E 4 h)] sz) := by
  refine Met.ofW (cc := cX2_copyRow) (maxL := 2) (ret := none) (by decide) rfl ?_
  intro p e s m args below meth c s₁ B hml hv
  obtain ⟨rfl, ⟨hsz, hP, hE, hD0⟩, ⟨-, hT⟩, -⟩ := hv
  subst hsz
  have hx := B.exec
  have hb := B.bytes
  have hown := findClass_of_methodNamed B.named
  have hts := atoms_spec (ws := wsX2_copyRow) B.pre
  have hl := lv_entry [.ref t0, .ref b1] (n := 2) (Nat.le_of_ble_eq_true rfl)
  rw [lg_entry_eq]
  have hD := hD0.self (sz := s.heap.size)
  generalize hAe : va_A [(b1, rI E 4 h)] s.heap.size = A at hD hT ⊢
  have hS : va_S A s.heap s.heap [] := va_S.rf
  generalize (lg_sl ([.ref t0, .ref b1]) ++ List.replicate (2 - (lg_sl ([.ref t0, .ref b1])).length) Slot.unset).toArray = ls at hl ⊢
  have hl : lv_has ls 2 [(0, .ref t0), (1, .ref b1)] := hl
  obtain ⟨cell, e1, e2, e3, e4, e5, e6, e7⟩ := id hT
  refine lv_aload_n hx hb dX2_copyRow_0 rfl (lv_at hl 0 rfl) ?_
  refine lv_iconst (v := 0) hx hb dX2_copyRow_1 (by decide) ?_
  refine lv_aload_n hx hb dX2_copyRow_2 rfl (lv_at hl 1 rfl) ?_
  refine lv_iconst (v := 0) hx hb dX2_copyRow_3 (by decide) ?_
  refine lv_aload_n hx hb dX2_copyRow_4 rfl (lv_at hl 0 rfl) ?_
  refine W.alen (n := nI 4) hx hb e1 e2 e5 rfl rfl dX2_copyRow_5 ?_
  refine W.eq (g2 := F0 m 6 ls [.int (nI 4), .int 0, .ref b1, .int 0, .ref t0]) rfl ?_
  refine lv_aload_n hx hb dX2_copyRow_6 rfl (lv_at hl 1 rfl) ?_
  refine va_alen hx hb hE.1 hP 0 0 rfl rfl (v := nI 4) rfl dX2_copyRow_7 ?_
  refine va_mmin hx hb (hml.trans hl.1.symm) hown (hts (.methodLink RX2 185 Lib.Math.min.name) (by decide +kernel)) (hts (.static Lib.Math.min.name) (by decide +kernel)) (hts (.initialized "java/lang/Math") (by decide +kernel)) (hts (.code Lib.Math.min.name Lib.Math.min.code 2 (some .int)) (by decide +kernel)) (Nat.le_of_ble_eq_true rfl) (Nat.le_of_ble_eq_true rfl) (Nat.zero_le _) (Nat.zero_le _) dX2_copyRow_8 ?_
  refine tpe (y := nI 4) (by split <;> rfl) ?_
  refine va_copyT hx hb (hml.trans hl.1.symm) hown (hts (.methodLink RX2 190 arraycopyName) (by decide +kernel)) (hts (.native arraycopyName) (by decide +kernel)) (hts (.static arraycopyName) (by decide +kernel)) (hts (.initialized "java/lang/System") (by decide +kernel)) hE hP hD hT hS 0 rfl (nI_pos (by decide)) (by rw [nI_clamp (by decide)]; decide) (by rw [nI_clamp (by decide)]; decide) (Nat.le_of_ble_eq_true rfl) (Nat.le_of_ble_eq_true rfl) dX2_copyRow_11 (fun H locs hP hD hS => ?_)
  rw [nI_clamp (by decide)] at hP hD
  exact W.vret hx hb B.returns (fun t ht hW => ⟨⟨(), rfl, trivial, by rw [ht]; exact hP, hD⟩, hS.F ht⟩) hS.2.2 dX2_copyRow_14
/-- a constructor: the cell b, new, becomes the world w1 u -/
def Cc (t0 t1 t2 : Nat) (l : Launch) (E : EE) (y : MethodName) (ws : List Cond) (rm : Room) (b : Nat) (w : va_W) {S : Type} (post : S → Prop) (w1 : S → va_W) (mc ms : Nat) : Prop :=
  ∀ sz : Nat, Met l y ws rm (va_Pc [.ref b] (Ps t0 t1 t2 E w sz)) (va_Qv post (fun u t => va_P E.1 vwCl (w1 u) t.heap ∧ va_D (va_A w sz) (w1 u)) (va_A w sz)) mc ms (va_A w sz)
theorem Cc.of {t0 t1 t2 : Nat} {l : Launch} {E : EE} {y : MethodName} {ws ws' : List Cond} {rm : Room} {b : Nat} {w : va_W} {S : Type} {post : S → Prop} {w1 : S → va_W} {mc ms : Nat} {cc : ByteArray} {maxL : Nat} (hy : plainName y.cls = true) (hw : ws = Cond.code y cc maxL none :: ws') (hyn : y.name = "<init>") (hmx : 1 ≤ maxL)
    (body : ∀ (p : Program) (e : Env) (s : State) (m : MethodId) (args : Array Value) (below : List Frame) (meth : Method) (c : Code) (A : Nat → Prop) (Q : State → Prop), CallFix p m c cc maxL s args ws y.cls → ev E s → ST t0 t1 t2 A s → meth.name = "<init>" → (∀ q, s.heap.size ≤ q → A q) →
      (∀ (u : S) (H : Heap) (locs : List Loc) (pc : Nat) (ls : Array Slot), post u → va_P E.1 vwCl (w1 u) H → va_D A (w1 u) → va_S A s.heap H locs → decode cc pc = .ok (.return_, 1) → W p l e rm s m args below meth c H locs mc ms Q (F0 m pc ls [])) →
      va_P E.1 vwCl w s.heap → va_D A w → ∀ ls : Array Slot, lv_has ls maxL [(0, .ref b)] → W p l e rm s m args below meth c s.heap [] 0 0 Q (F0 m 0 ls [])) : Cc t0 t1 t2 l E y ws rm b w post w1 mc ms := by
  intro sz
  refine Met.ofW (cc := cc) (maxL := maxL) (ret := none) hy hw ?_
  intro p e s m args below meth c s₁ B hml hv
  obtain ⟨rfl, ⟨hsz, hP, hE, hD0⟩, hT⟩ := hv
  subst hsz
  have hlocks := B.notSynchronized
  have hin : meth.name = "<init>" := (name_of_methodNamed B.named B.method).1.trans hyn
  have hl := lv_entry [.ref b] (n := maxL) hmx
  rw [lg_entry_eq]
  refine body p e s m _ below meth c (va_A w s.heap.size) _ ⟨B.exec, B.bytes, hml, findClass_of_methodNamed B.named, atoms_spec (ws := ws) B.pre⟩ hE hT hin (fun q h => Or.inr h) ?_ hP (hD0.self (sz := s.heap.size)) _ hl
  intro u H locs pc ls hu hP1 hD1 hS hdg
  exact W.vret B.exec B.bytes B.returns (fun t ht hW => ⟨⟨u, rfl, hu, by rw [ht]; exact hP1, hD1⟩, hS.F ht⟩) hS.2.2 hdg
