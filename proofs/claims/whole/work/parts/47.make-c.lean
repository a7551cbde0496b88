/-! the first row of numbers; a house out of its pieces -/
def g0 (i : Nat) : Int32 := if i = 1 then 40 else if i = 2 then 10 else if i = 3 then 1 else if i = 4 then 100 else if 17 ≤ i ∧ i < 29 then -6 else if 42 ≤ i ∧ i < 47 then 1 else if 82 ≤ i ∧ i < 142 then -6 else if 262 ≤ i ∧ i < 292 ∧ (i - 262) % 6 = 0 then -6 else 0
theorem seg_fl {g : Nat → Int32} {o n : Nat} {v : Int32} (h : ∀ j, j < n → g (o + j) = v) : seg g o n = flr zr v n := by
  funext j
  unfold seg flr
  by_cases c : j < n
  · rw [if_pos c, if_pos c, h j c]
  · rw [if_neg c, if_neg c]
theorem seg_zr {g : Nat → Int32} {o n : Nat} (h : ∀ j, j < n → g (o + j) = 0) : seg g o n = zr := by
  funext j
  unfold seg
  by_cases c : j < n
  · rw [if_pos c, h j c]
  · rw [if_neg c]
theorem g0_82 : ∀ r, r < 5 → ∀ j, j < 12 → g0 (82 + 12 * r + j) = -6 := by decide +kernel
theorem g0_142 : ∀ r, r < 5 → ∀ j, j < 12 → g0 (142 + 12 * r + j) = 0 := by decide +kernel
theorem g0_202 : ∀ r, r < 5 → ∀ j, j < 12 → g0 (202 + 12 * r + j) = 0 := by decide +kernel
theorem g0_52 : ∀ r, r < 5 → ∀ j, j < 3 → g0 (52 + 3 * r + j) = 0 := by decide +kernel
theorem g0_67 : ∀ r, r < 5 → ∀ j, j < 3 → g0 (67 + 3 * r + j) = 0 := by decide +kernel
theorem g0_rd : ∀ r, r < 5 → g0 (42 + r) = 1 ∧ g0 (47 + r) = 0 ∧ g0 (262 + 6 * r + 0) = -6 ∧ g0 (262 + 6 * r + 1) = 0 ∧ g0 (262 + 6 * r + 2) = 0 ∧ g0 (262 + 6 * r + 3) = 0 ∧ g0 (262 + 6 * r + 4) = 0 ∧ g0 (262 + 6 * r + 5) = 0 := by decide +kernel
def rdr (E : EE) (a : Nat → Nat) (g : Nat → Int32) (r : Nat) : va_W := [(a (8 + 6 * r + 0), hc1 E a g r 0), (a (8 + 6 * r + 1), hc1 E a g r 1), (a (8 + 6 * r + 2), hc1 E a g r 2), (a (8 + 6 * r + 3), hc1 E a g r 3), (a (8 + 6 * r + 4), hc1 E a g r 4), (a (8 + 6 * r + 5), hc1 E a g r 5)]
theorem hs_cut (E : EE) (a : Nat → Nat) (g : Nat → Int32) : hs E a g = [(a 0, hc0 E a g 0), (a 1, hc0 E a g 1), (a 2, hc0 E a g 2)] ++ ([(a 3, hc0 E a g 3), (a 4, hc0 E a g 4), (a 5, hc0 E a g 5), (a 6, hc0 E a g 6), (a 7, hc0 E a g 7)] ++ ((((rdr E a g 0 ++ rdr E a g 1) ++ rdr E a g 2) ++ rdr E a g 3) ++ rdr E a g 4)) := rfl
theorem rd6_eq {E : EE} {a u : Nat → Nat} {r : Nat} (hr : r < 5) (h : ∀ j, j < 6 → a (8 + 6 * r + j) = u j) : rdr E a g0 r = rd6 E u := by
  obtain ⟨e1, e2, e3, e4, e5, e6, e7, e8⟩ := g0_rd r hr
  show [(a (8 + 6 * r + 0), (.inr (1, rf a g0 r) : va_E)), (a (8 + 6 * r + 1), rI E 12 (seg g0 (82 + 12 * r) 12)), (a (8 + 6 * r + 2), rI E 12 (seg g0 (142 + 12 * r) 12)), (a (8 + 6 * r + 3), rI E 12 (seg g0 (202 + 12 * r) 12)), (a (8 + 6 * r + 4), rI E 3 (seg g0 (52 + 3 * r) 3)), (a (8 + 6 * r + 5), rI E 3 (seg g0 (67 + 3 * r) 3))] = _
  unfold rf rd6
  rw [e1, e2, e3, e4, e5, e6, e7, e8, seg_fl (g0_82 r hr), seg_zr (g0_142 r hr), seg_zr (g0_202 r hr), seg_zr (g0_52 r hr), seg_zr (g0_67 r hr), h 0 (by decide), h 1 (by decide), h 2 (by decide), h 3 (by decide), h 4 (by decide), h 5 (by decide)]
def aH (b q1 q2 q3 q4 q5 q6 q7 : Nat) (u0 u1 u2 u3 u4 : Nat → Nat) : Nat → Nat
  | 0 => b
  | 1 => q1
  | 2 => q2
  | 3 => q3
  | 4 => q4
  | 5 => q5
  | 6 => q6
  | 7 => q7
  | k + 8 => if k < 6 then u0 k else if k < 12 then u1 (k - 6) else if k < 18 then u2 (k - 12) else if k < 24 then u3 (k - 18) else u4 (k - 24)
theorem all6 {P : Nat → Prop} (h0 : P 0) (h1 : P 1) (h2 : P 2) (h3 : P 3) (h4 : P 4) (h5 : P 5) : ∀ j, j < 6 → P j
  | 0, _ => h0
  | 1, _ => h1
  | 2, _ => h2
  | 3, _ => h3
  | 4, _ => h4
  | 5, _ => h5
  | j + 6, hj => absurd hj (by omega)
theorem rl0_eq : va_cpy rl0 zr 0 0 4 = seg g0 1 4 := by
  funext k
  show (if 0 ≤ k ∧ k < 0 + 4 then rl0 (0 + (k - 0)) else 0) = if k < 4 then g0 (1 + k) else 0
  by_cases c : k < 4
  · rw [if_pos ⟨Nat.zero_le _, by omega⟩, if_pos c, show 0 + (k - 0) = k by omega]
    rcases (show k = 0 ∨ k = 1 ∨ k = 2 ∨ k = 3 by omega) with rfl | rfl | rfl | rfl <;> rfl
  · rw [if_neg (fun q => c (by omega)), if_neg c]
abbrev hdF (E : EE) (b q1 q2 q3 q4 q5 q6 q7 : Nat) (F : Nat → Option Nat) : va_W := [(b, .inr (0, [.int 0, .ref q1, .ref q2, .ref q3, .ref q4, .ref q5, .int 0, .ref q6, .int 0, .ref q7, .int 0, .int 0, .int 0, .int 0, .int 0, .int 0, .int 0])), (q1, rI E 4 (va_cpy rl0 zr 0 0 4)), (q2, .inl (E.2 1, 5, .inr (.inr (.inr (.inr F)))))]
abbrev vvF (E : EE) (q3 q4 q5 q6 q7 : Nat) : va_W := [(q3, rI E 12 zr), (q4, rI E 12 (flr zr (-6) 12)), (q5, rI E 12 zr), (q6, rI E 4 zr), (q7, rI E 5 zr)]
abbrev rdT (E : EE) (u0 u1 u2 u3 u4 : Nat → Nat) : va_W := (((rd6 E u0 ++ rd6 E u1) ++ rd6 E u2) ++ rd6 E u3) ++ rd6 E u4
theorem hs_0 (E : EE) (b q1 q2 q3 q4 q5 q6 q7 : Nat) (u0 u1 u2 u3 u4 : Nat → Nat) : hs E (aH b q1 q2 q3 q4 q5 q6 q7 u0 u1 u2 u3 u4) g0 = hdF E b q1 q2 q3 q4 q5 q6 q7 (rdA (aH b q1 q2 q3 q4 q5 q6 q7 u0 u1 u2 u3 u4)) ++ (vvF E q3 q4 q5 q6 q7 ++ rdT E u0 u1 u2 u3 u4) := by
  generalize ha : aH b q1 q2 q3 q4 q5 q6 q7 u0 u1 u2 u3 u4 = a
  rw [hs_cut, rd6_eq (r := 0) (u := u0) (by decide) (all6 (by rw [← ha]; rfl) (by rw [← ha]; rfl) (by rw [← ha]; rfl) (by rw [← ha]; rfl) (by rw [← ha]; rfl) (by rw [← ha]; rfl)),
    rd6_eq (r := 1) (u := u1) (by decide) (all6 (by rw [← ha]; rfl) (by rw [← ha]; rfl) (by rw [← ha]; rfl) (by rw [← ha]; rfl) (by rw [← ha]; rfl) (by rw [← ha]; rfl)),
    rd6_eq (r := 2) (u := u2) (by decide) (all6 (by rw [← ha]; rfl) (by rw [← ha]; rfl) (by rw [← ha]; rfl) (by rw [← ha]; rfl) (by rw [← ha]; rfl) (by rw [← ha]; rfl)),
    rd6_eq (r := 3) (u := u3) (by decide) (all6 (by rw [← ha]; rfl) (by rw [← ha]; rfl) (by rw [← ha]; rfl) (by rw [← ha]; rfl) (by rw [← ha]; rfl) (by rw [← ha]; rfl)),
    rd6_eq (r := 4) (u := u4) (by decide) (all6 (by rw [← ha]; rfl) (by rw [← ha]; rfl) (by rw [← ha]; rfl) (by rw [← ha]; rfl) (by rw [← ha]; rfl) (by rw [← ha]; rfl))]
  have a0 : a 0 = b := by rw [← ha]; rfl
  have a1 : a 1 = q1 := by rw [← ha]; rfl
  have a2 : a 2 = q2 := by rw [← ha]; rfl
  have a3 : a 3 = q3 := by rw [← ha]; rfl
  have a4 : a 4 = q4 := by rw [← ha]; rfl
  have a5 : a 5 = q5 := by rw [← ha]; rfl
  have a6 : a 6 = q6 := by rw [← ha]; rfl
  have a7 : a 7 = q7 := by rw [← ha]; rfl
  show [(a 0, (.inr (0, hf a g0) : va_E)), (a 1, rI E 4 (seg g0 1 4)), (a 2, .inl (E.2 1, 5, .inr (.inr (.inr (.inr (rdA a))))))] ++ ([(a 3, rI E 12 (seg g0 5 12)), (a 4, rI E 12 (seg g0 17 12)), (a 5, rI E 12 (seg g0 29 12)), (a 6, rI E 4 (seg g0 292 4)), (a 7, rI E 5 (seg g0 297 5))] ++ rdT E u0 u1 u2 u3 u4) = _
  rw [seg_zr (g := g0) (o := 5) (n := 12) (by decide +kernel), seg_fl (g := g0) (o := 17) (n := 12) (v := -6) (by decide +kernel), seg_zr (g := g0) (o := 29) (n := 12) (by decide +kernel), seg_zr (g := g0) (o := 292) (n := 4) (by decide +kernel), seg_zr (g := g0) (o := 297) (n := 5) (by decide +kernel), ← rl0_eq]
  unfold hf
  rw [a0, a1, a2, a3, a4, a5, a6, a7]
  rfl
/-- a row of references is what its places hold -/
theorem arrV_same {cA : ClassId} {n : Nat} {f f' : Nat → Value} (h : ∀ j, j < n → f j = f' j) : arrV cA n f = arrV cA n f' := by
  unfold arrV
  congr 1
  apply Array.ext
  · simp
  · intro i h1 h2
    simp at h1
    simp [h i h1]
theorem P_arr {D : va_G} {cl : List vw_C} {H : Heap} {x0 x1 : Nat × va_E} {q n : Nat} {cA : ClassId} {F F' : Nat → Option Nat} {z : va_W} (hP : va_P D cl ([x0, x1, (q, .inl (cA, n, .inr (.inr (.inr (.inr F)))))] ++ z) H) (h : ∀ j, j < n → F j = F' j) : va_P D cl ([x0, x1, (q, .inl (cA, n, .inr (.inr (.inr (.inr F')))))] ++ z) H
  | 0, p, hk => hP 0 p hk
  | 1, p, hk => hP 1 p hk
  | 2, p, hk => by
    have e := hP 2 _ rfl
    cases hk
    show H[q]? = some (vp_cell cA (n, .inr (.inr (.inr (.inr F')))))
    have e : H[q]? = some (vp_cell cA (n, .inr (.inr (.inr (.inr F))))) := e
    rw [e]
    rw [vp_cell_q, vp_cell_q, arrV_same (fun j hj => by rw [h j hj])]
  | k + 3, p, hk => hP (k + 3) p hk
theorem D_arr {A : Nat → Prop} {x0 x1 : Nat × va_E} {q : Nat} {e e' : va_E} {z : va_W} (hD : va_D A ([x0, x1, (q, e)] ++ z)) : va_D A ([x0, x1, (q, e')] ++ z) := hD.set (p := 2) (a := q) (e0 := e) (e := e') rfl
