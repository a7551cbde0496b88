/-! THE LAW, first part: what the start gives; what holds between two calls -/
theorem law_env {s : State} {args : Array Value} (hts : ∀ w ∈ lw_tbl, w.before args s = true) : ∃ E : EE, ev E s := by
  obtain ⟨c0, iS0, hKn0⟩ := u_known (C := RX0) (T := TX0) (N := 17) (n := 17) hts inX0 (hts (.instantiable RX0 17) (List.mem_of_getElem? (i := 60) (by decide +kernel)))
  obtain ⟨c1, iS1, hKn1⟩ := u_known (C := RX1) (T := TX1) (N := 13) (n := 13) hts inX1 (hts (.instantiable RX1 13) (List.mem_of_getElem? (i := 67) (by decide +kernel)))
  obtain ⟨c2, iS2, hKn2⟩ := u_known (C := RX2) (T := TX2) (N := 3) (n := 3) hts inX2 (hts (.instantiable RX2 3) (List.mem_of_getElem? (i := 52) (by decide +kernel)))
  obtain ⟨c3, iS3, hKn3⟩ := u_known (C := RX3) (T := TX3) (N := 3) (n := 3) hts inX3 (hts (.instantiable RX3 3) (List.mem_of_getElem? (i := 467) (by decide +kernel)))
  obtain ⟨d0, k0, m0, x1, x2, x3⟩ := Cond.arrayClass_spec (hts (.arrayClass .int) (List.mem_of_getElem? (i := 141) (by decide +kernel)))
  obtain ⟨d3, k3, m3, y1, y2, y3⟩ := Cond.arrayClass_spec (hts (.arrayClass .boolean) (List.mem_of_getElem? (i := 485) (by decide +kernel)))
  obtain ⟨m1, d1, k1, z1, -, z2, z3, z4⟩ := Cond.arrayOver_spec (hts (.arrayOver (.object RX1)) (List.mem_of_getElem? (i := 66) (by decide +kernel)))
  obtain ⟨m2, d2, k2, w1, -, w2, w3, w4⟩ := Cond.arrayOver_spec (hts (.arrayOver (.object RX0)) (List.mem_of_getElem? (i := 223) (by decide +kernel)))
  refine ⟨((fun k => if k = 0 then c0 else if k = 1 then c1 else if k = 2 then c2 else c3, fun k => if k = 0 then iS0 else if k = 1 then iS1 else if k = 2 then iS2 else iS3), fun k => if k = 0 then d0 else if k = 1 then d1 else if k = 2 then d2 else d3), ⟨?_, ?_⟩, ?_⟩
  · intro k q hq
    match k, hq with
    | 0, hq => cases hq; exact hKn0
    | 1, hq => cases hq; exact hKn1
    | 2, hq => cases hq; exact hKn2
    | 3, hq => cases hq; exact hKn3
    | k + 4, hq => simp [vwCl] at hq
  · intro k q hq
    match k, hq with
    | 0, hq => cases hq; exact ⟨fun n z => ⟨fun k h => (by cases h), k0, x2, m0, x3⟩, x1⟩
    | 1, hq => cases hq; exact ⟨fun n z => ⟨fun k h => (by cases h), k1, z2, m1, z3⟩, ⟨k1, m1, z2, z3, z1, z4⟩⟩
    | 2, hq => cases hq; exact ⟨fun n z => ⟨fun k h => (by cases h), k2, w2, m2, w3⟩, ⟨k2, m2, w2, w3, w1, w4⟩⟩
    | 3, hq => cases hq; exact ⟨fun n z => ⟨fun k h => (by cases h), k3, y2, m3, y3⟩, y1⟩
    | k + 4, hq => simp [kt] at hq
  · intro w hw
    exact va_Nw.of (nest_tab (nW_nest hw)) (hts w (List.mem_filter.mp hw).1)
theorem all4 {P : Nat → Prop} (h0 : P 0) (h1 : P 1) (h2 : P 2) (h3 : P 3) : ∀ j, j < 4 → P j
  | 0, _ => h0
  | 1, _ => h1
  | 2, _ => h2
  | 3, _ => h3
  | j + 4, hj => absurd hj (by omega)
theorem law_st {s : State} {args : Array Value} {A : Nat → Prop} (hts : ∀ w ∈ lw_tbl, w.before args s = true) (hgv : (Jvm.Cond.and given_1 narrow_1).before args s = true) (hA : ∀ a : Nat, a < s.heap.size → ¬ A a) : ∃ t0 t1 t2 : Nat, ST t0 t1 t2 A s := by
  have hs := flat_of_before _ hgv
  have hini := hts (.initialized "PromiseHours") (List.mem_of_getElem? (i := 44) (by decide +kernel))
  obtain ⟨t0, e0, hT0⟩ := va_Tof (tm := .static "PromiseHours" "FIRST_RULES" "[I") (ty := .int) (N := 4) (f := fun j => .int (rl0 j)) (A := A) (by decide) (hs (Cond.arrayOf (.static "PromiseHours" "FIRST_RULES" "[I") .int) (by decide +kernel)) (va_eqt (hs (Cond.eq (.length (.static "PromiseHours" "FIRST_RULES" "[I")) (.int 4)) (by decide +kernel)))
    (all4 (va_eqt (hs (Cond.eq (.elem (.static "PromiseHours" "FIRST_RULES" "[I") (.int 0)) (.int 40)) (by decide +kernel))) (va_eqt (hs (Cond.eq (.elem (.static "PromiseHours" "FIRST_RULES" "[I") (.int 1)) (.int 10)) (by decide +kernel))) (va_eqt (hs (Cond.eq (.elem (.static "PromiseHours" "FIRST_RULES" "[I") (.int 2)) (.int 1)) (by decide +kernel))) (va_eqt (hs (Cond.eq (.elem (.static "PromiseHours" "FIRST_RULES" "[I") (.int 3)) (.int 100)) (by decide +kernel)))) hA
  obtain ⟨t1, e1, hT1⟩ := va_Tof (tm := .static "PromiseHours" "LEAST_RULES" "[I") (ty := .int) (N := 4) (f := fun j => .int (rl1 j)) (A := A) (by decide) (hs (Cond.arrayOf (.static "PromiseHours" "LEAST_RULES" "[I") .int) (by decide +kernel)) (va_eqt (hs (Cond.eq (.length (.static "PromiseHours" "LEAST_RULES" "[I")) (.int 4)) (by decide +kernel)))
    (all4 (va_eqt (hs (Cond.eq (.elem (.static "PromiseHours" "LEAST_RULES" "[I") (.int 0)) (.int 1)) (by decide +kernel))) (va_eqt (hs (Cond.eq (.elem (.static "PromiseHours" "LEAST_RULES" "[I") (.int 1)) (.int 1)) (by decide +kernel))) (va_eqt (hs (Cond.eq (.elem (.static "PromiseHours" "LEAST_RULES" "[I") (.int 2)) (.int 0)) (by decide +kernel))) (va_eqt (hs (Cond.eq (.elem (.static "PromiseHours" "LEAST_RULES" "[I") (.int 3)) (.int 0)) (by decide +kernel)))) hA
  obtain ⟨t2, e2, hT2⟩ := va_Tof (tm := .static "PromiseHours" "GREATEST_RULES" "[I") (ty := .int) (N := 4) (f := fun j => .int (rl2 j)) (A := A) (by decide) (hs (Cond.arrayOf (.static "PromiseHours" "GREATEST_RULES" "[I") .int) (by decide +kernel)) (va_eqt (hs (Cond.eq (.length (.static "PromiseHours" "GREATEST_RULES" "[I")) (.int 4)) (by decide +kernel)))
    (all4 (va_eqt (hs (Cond.eq (.elem (.static "PromiseHours" "GREATEST_RULES" "[I") (.int 0)) (.int 200)) (by decide +kernel))) (va_eqt (hs (Cond.eq (.elem (.static "PromiseHours" "GREATEST_RULES" "[I") (.int 1)) (.int 100)) (by decide +kernel))) (va_eqt (hs (Cond.eq (.elem (.static "PromiseHours" "GREATEST_RULES" "[I") (.int 2)) (.int 9)) (by decide +kernel))) (va_eqt (hs (Cond.eq (.elem (.static "PromiseHours" "GREATEST_RULES" "[I") (.int 3)) (.int 500)) (by decide +kernel)))) hA
  exact ⟨t0, t1, t2, ⟨va_Zref (hts (.laysStatic "PromiseHours" "FIRST_RULES" "[I") (List.mem_of_getElem? (i := 143) (by decide +kernel))) hini e0 hA, hT0⟩, ⟨va_Zref (hts (.laysStatic "PromiseHours" "LEAST_RULES" "[I") (List.mem_of_getElem? (i := 239) (by decide +kernel))) hini e1 hA, hT1⟩, ⟨va_Zref (hts (.laysStatic "PromiseHours" "GREATEST_RULES" "[I") (List.mem_of_getElem? (i := 241) (by decide +kernel))) hini e2 hA, hT2⟩, va_AO.of (hts (.arrayOver (.object RX1)) (List.mem_of_getElem? (i := 66) (by decide +kernel))), va_AO.of (hts (.arrayOver (.object RX0)) (List.mem_of_getElem? (i := 223) (by decide +kernel)))⟩
/-- between two calls: n calls have been -/
def LInv (n : Nat) (g g1 g2 im kp : Nat → Int32) (kI : Int32) : Prop :=
  Jv (100 * n) (1200 * n) g ∧ (kp 0 = 0 ∨ kp 0 = 1) ∧ (kp 1 = 0 ∨ kp 1 = 1) ∧ kI = (if kp 0 = 0 then 0 else 1 : Int32) + (if kp 1 = 0 then 0 else 2 : Int32) ∧
  (¬ kp 0 = 0 → (∀ i, i < 309 → g1 i = im i) ∧ Jv (100 * n) (1200 * n) g1) ∧ (¬ kp 1 = 0 → (∀ i, i < 309 → g2 i = im (309 + i)) ∧ Jv (100 * n) (1200 * n) g2)
theorem li_go {n : Nat} {g g' g1 g2 im kp : Nat → Int32} {kI : Int32} (hj : Jv (100 * (n + 1)) (1200 * (n + 1)) g') (H : LInv n g g1 g2 im kp kI) : LInv (n + 1) g' g1 g2 im kp kI := by
  obtain ⟨a1, a2, a3, a4, a5, a6⟩ := H
  exact ⟨hj, a2, a3, a4, fun q => ⟨(a5 q).1, j_mono (by omega) (by omega) (a5 q).2⟩, fun q => ⟨(a6 q).1, j_mono (by omega) (by omega) (a6 q).2⟩⟩
theorem li_same {n : Nat} {g g1 g2 im kp : Nat → Int32} {kI : Int32} (H : LInv n g g1 g2 im kp kI) : LInv (n + 1) g g1 g2 im kp kI := li_go (j_mono (by omega) (by omega) H.1) H
theorem im_q {g im kp S : Nat → Int32} {x : Int32} : ∀ n, q_X3_image_14 g x im kp S n = fun j => if 309 * ix x ≤ j ∧ j < 309 * ix x + n then g (j - 309 * ix x) else S j
  | 0 => by
    funext j
    rw [if_neg (by omega)]
    rfl
  | n + 1 => by
    show p_X3_image_14 g x im kp (q_X3_image_14 g x im kp S n) n = _
    rw [im_q n]
    unfold p_X3_image_14
    funext j
    by_cases e : j = 309 * ix x + n
    · subst e
      rw [up_s, if_pos (by omega), show 309 * ix x + n - 309 * ix x = n by omega]
    · rw [up_n e]
      by_cases c : 309 * ix x ≤ j ∧ j < 309 * ix x + n
      · rw [if_pos c, if_pos (by omega)]
      · rw [if_neg c, if_neg (by omega)]
theorem rs_q {g im kp S : Nat → Int32} {x : Int32} : ∀ n, q_X3_restore_26 g x im kp S n = fun j => if j < n then im (309 * ix x + j) else S j
  | 0 => by
    funext j
    rw [if_neg (Nat.not_lt_zero j)]
    rfl
  | n + 1 => by
    show p_X3_restore_26 g x im kp (q_X3_restore_26 g x im kp S n) n = _
    rw [rs_q n]
    unfold p_X3_restore_26
    funext j
    by_cases e : j = n
    · subst e
      rw [up_s, if_pos (by omega)]
    · rw [up_n e]
      by_cases c : j < n
      · rw [if_pos c, if_pos (by omega)]
      · rw [if_neg c, if_neg (by omega)]
theorem ki_0 {k0 k1 kI : Int32} (h0 : k0 = 0 ∨ k0 = 1) (h1 : k1 = 0 ∨ k1 = 1) (h : kI = (if k0 = 0 then 0 else 1 : Int32) + (if k1 = 0 then 0 else 2 : Int32)) : (kI ||| ((1 : Int32) <<< ((0 : Int32) &&& 31)) = (if (1 : Int32) = 0 then 0 else 1 : Int32) + (if k1 = 0 then 0 else 2 : Int32)) ∧ (kI ||| ((1 : Int32) <<< ((1 : Int32) &&& 31)) = (if k0 = 0 then 0 else 1 : Int32) + (if (1 : Int32) = 0 then 0 else 2 : Int32)) ∧ (f_X2_isInSet kI 0 = 0 ↔ k0 = 0) ∧ (f_X2_isInSet kI 1 = 0 ↔ k1 = 0) := by
  subst h
  rcases h0 with rfl | rfl <;> rcases h1 with rfl | rfl <;> decide
theorem im_in (x : Int32) : f_X2_isImage x = f_X3_in x 0 1 := by
  unfold f_X2_isImage f_X3_in
  by_cases h : x < 0
  · rw [if_pos h, if_pos h]
  · rw [if_neg h, if_neg h]
    by_cases h2 : 2 ≤ x
    · rw [if_pos h2, if_pos (Int32.lt_of_lt_of_le (by decide) h2)]
    · rw [if_neg h2, if_neg (fun q => h2 ?_)]
      rw [Int32.lt_iff_toInt_lt] at q
      rw [Int32.le_iff_toInt_le]
      have e4 : (1 : Int32).toInt = 1 := rfl
      have e5 : (2 : Int32).toInt = 2 := rfl
      omega
/-- images -/
theorem li_im0 {n : Nat} {g g1 g2 im kp : Nat → Int32} {kI : Int32} (H : LInv n g g1 g2 im kp kI) : LInv (n + 1) g g g2 (i_X3_image g 0 im kp) (j_X3_image g 0 im kp) (kI ||| ((1 : Int32) <<< ((0 : Int32) &&& 31))) := by
  obtain ⟨a1, a2, a3, a4, a5, a6⟩ := H
  have ej : j_X3_image g 0 im kp = upd kp 0 1 := rfl
  have ei : i_X3_image g 0 im kp = fun j => if 309 * 0 ≤ j ∧ j < 309 * 0 + 309 then g (j - 309 * 0) else im j := (im_q (g := g) (im := im) (kp := kp) (S := im) (x := 0) 309)
  have a1' := j_mono (T' := 100 * (n + 1)) (B' := 1200 * (n + 1)) (by omega) (by omega) a1
  rw [ej, ei]
  refine ⟨a1', Or.inr rfl, a3, (ki_0 a2 a3 a4).1, fun _ => ⟨fun i hi => ?_, a1'⟩, fun q => ⟨fun i hi => ?_, j_mono (by omega) (by omega) (a6 q).2⟩⟩
  · show g i = if 309 * 0 ≤ i ∧ i < 309 * 0 + 309 then g (i - 309 * 0) else im i
    rw [if_pos (by omega), show i - 309 * 0 = i by omega]
  · show g2 i = if 309 * 0 ≤ 309 + i ∧ 309 + i < 309 * 0 + 309 then g (309 + i - 309 * 0) else im (309 + i)
    rw [if_neg (by omega)]
    exact (a6 q).1 i hi
theorem li_im1 {n : Nat} {g g1 g2 im kp : Nat → Int32} {kI : Int32} (H : LInv n g g1 g2 im kp kI) : LInv (n + 1) g g1 g (i_X3_image g 1 im kp) (j_X3_image g 1 im kp) (kI ||| ((1 : Int32) <<< ((1 : Int32) &&& 31))) := by
  obtain ⟨a1, a2, a3, a4, a5, a6⟩ := H
  have ej : j_X3_image g 1 im kp = upd kp 1 1 := rfl
  have ei : i_X3_image g 1 im kp = fun j => if 309 * 1 ≤ j ∧ j < 309 * 1 + 309 then g (j - 309 * 1) else im j := (im_q (g := g) (im := im) (kp := kp) (S := im) (x := 1) 309)
  have a1' := j_mono (T' := 100 * (n + 1)) (B' := 1200 * (n + 1)) (by omega) (by omega) a1
  rw [ej, ei]
  refine ⟨a1', a2, Or.inr rfl, (ki_0 a2 a3 a4).2.1, fun q => ⟨fun i hi => ?_, j_mono (by omega) (by omega) (a5 q).2⟩, fun _ => ⟨fun i hi => ?_, a1'⟩⟩
  · show g1 i = if 309 * 1 ≤ i ∧ i < 309 * 1 + 309 then g (i - 309 * 1) else im i
    rw [if_neg (by omega)]
    exact (a5 q).1 i hi
  · show g i = if 309 * 1 ≤ 309 + i ∧ 309 + i < 309 * 1 + 309 then g (309 + i - 309 * 1) else im (309 + i)
    rw [if_pos (by omega), show 309 + i - 309 * 1 = i by omega]
theorem rs_0 {g im kp : Nat → Int32} (h : ¬ kp 0 = 0) : s_X3_restore g 0 im kp = fun j => if j < 309 then im j else g j := by
  have e : s_X3_restore g 0 im kp = q_X3_restore_26 g 0 im kp g 309 := by
    unfold s_X3_restore
    rw [if_neg (by decide)]
    exact if_neg h
  rw [e, rs_q]
  funext j
  show (if j < 309 then im (309 * 0 + j) else g j) = _
  rw [show 309 * 0 + j = j by omega]
theorem rs_1 {g im kp : Nat → Int32} (h : ¬ kp 1 = 0) : s_X3_restore g 1 im kp = fun j => if j < 309 then im (309 + j) else g j := by
  have e : s_X3_restore g 1 im kp = q_X3_restore_26 g 1 im kp g 309 := by
    unfold s_X3_restore
    rw [if_neg (by decide)]
    exact if_neg h
  rw [e, rs_q]
  funext j
  show (if j < 309 then im (309 * 1 + j) else g j) = _
  rw [show 309 * 1 + j = 309 + j by omega]
theorem li_rs0 {n : Nat} {g g1 g2 im kp : Nat → Int32} {kI : Int32} (h : ¬ kp 0 = 0) (H : LInv n g g1 g2 im kp kI) : LInv (n + 1) (s_X3_restore g 0 im kp) g1 g2 im kp kI ∧ ∀ i, i < 309 → g1 i = s_X3_restore g 0 im kp i := by
  obtain ⟨b1, b2⟩ := H.2.2.2.2.1 h
  have e : ∀ i, i < 309 → g1 i = s_X3_restore g 0 im kp i := fun i hi => by
    rw [rs_0 h]
    show g1 i = if i < 309 then im i else g i
    rw [if_pos hi]
    exact b1 i hi
  exact ⟨li_go (j_mono (by omega) (by omega) (e_J (fun j hj => (e j (by unfold OFF at hj; omega)).symm) b2)) H, e⟩
theorem li_rs1 {n : Nat} {g g1 g2 im kp : Nat → Int32} {kI : Int32} (h : ¬ kp 1 = 0) (H : LInv n g g1 g2 im kp kI) : LInv (n + 1) (s_X3_restore g 1 im kp) g1 g2 im kp kI ∧ ∀ i, i < 309 → g2 i = s_X3_restore g 1 im kp i := by
  obtain ⟨b1, b2⟩ := H.2.2.2.2.2 h
  have e : ∀ i, i < 309 → g2 i = s_X3_restore g 1 im kp i := fun i hi => by
    rw [rs_1 h]
    show g2 i = if i < 309 then im (309 + i) else g i
    rw [if_pos hi]
    exact b1 i hi
  exact ⟨li_go (j_mono (by omega) (by omega) (e_J (fun j hj => (e j (by unfold OFF at hj; omega)).symm) b2)) H, e⟩
