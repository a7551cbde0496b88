/-! WORLDS. One row g of 309 numbers is the state of a house, laid out as the reference lays it:
0 TICK, 1-4 rules, 5+t versions, 17+t ways, 29+k line, 41 its length, 42+r there, 47+r skew, 52+3r+v terms of volumes, 67+3r+v lists, 82+12r+t copies, 142+12r+t terms, 202+12r+t promises, 262+6r+k what a reader is told, 292+i causes, 296 how many, 297+i waited, 302 how many, 303-308 counts -/
def ix (x : Int32) : Nat := x.toNatClampNeg
def seg (g : Nat → Int32) (o n : Nat) : Nat → Int32 := fun j => if j < n then g (o + j) else 0
theorem seg_at {g : Nat → Int32} {o n j : Nat} (h : j < n) : seg g o n j = g (o + j) := by simp only [seg, if_pos h]
theorem seg_in {g : Nat → Int32} {o n j : Nat} {v : Int32} (h : j < n) : upd (seg g o n) j v = seg (upd g (o + j) v) o n := by
  funext k
  unfold seg upd
  by_cases hk : k = j
  · subst hk; simp [h]
  · have : ¬ o + k = o + j := by omega
    simp [hk, this]
theorem seg_out {g : Nat → Int32} {o n i : Nat} {v : Int32} (h : i < o ∨ o + n ≤ i) : seg (upd g i v) o n = seg g o n := by
  funext k
  unfold seg upd
  by_cases hk : k < n
  · have : ¬ o + k = i := by omega
    simp [hk, this]
  · simp [hk]
theorem seg_eq {g g' : Nat → Int32} {o n : Nat} (h : ∀ k, k < n → g (o + k) = g' (o + k)) : seg g o n = seg g' o n := by
  funext k
  unfold seg
  by_cases hk : k < n
  · rw [if_pos hk, if_pos hk, h k hk]
  · rw [if_neg hk, if_neg hk]
theorem up_n {g : Nat → Int32} {i j : Nat} {v : Int32} (h : j ≠ i) : upd g i v j = g j := pk_un h
theorem up_s {g : Nat → Int32} {i : Nat} {v : Int32} : upd g i v i = v := pk_us
abbrev rI (E : EE) (n : Nat) (f : Nat → Int32) : va_E := .inl (E.2 0, n, .inl f)
def hf (a : Nat → Nat) (g : Nat → Int32) : List Value := [.int (g 0), .ref (a 1), .ref (a 2), .ref (a 3), .ref (a 4), .ref (a 5), .int (g 41), .ref (a 6), .int (g 296), .ref (a 7), .int (g 302), .int (g 303), .int (g 304), .int (g 305), .int (g 306), .int (g 307), .int (g 308)]
def rf (a : Nat → Nat) (g : Nat → Int32) (r : Nat) : List Value := [.int (g (42 + r)), .int (g (47 + r)), .ref (a (8 + 6 * r + 1)), .ref (a (8 + 6 * r + 2)), .ref (a (8 + 6 * r + 3)), .ref (a (8 + 6 * r + 4)), .ref (a (8 + 6 * r + 5)), .int (g (262 + 6 * r + 0)), .int (g (262 + 6 * r + 1)), .int (g (262 + 6 * r + 2)), .int (g (262 + 6 * r + 3)), .int (g (262 + 6 * r + 4)), .int (g (262 + 6 * r + 5))]
def rdA (a : Nat → Nat) : Nat → Option Nat := fun j => some (a (8 + 6 * j))
def hc0 (E : EE) (a : Nat → Nat) (g : Nat → Int32) : Nat → va_E
  | 0 => .inr (0, hf a g)
  | 1 => rI E 4 (seg g 1 4)
  | 2 => .inl (E.2 1, 5, .inr (.inr (.inr (.inr (rdA a)))))
  | 3 => rI E 12 (seg g 5 12)
  | 4 => rI E 12 (seg g 17 12)
  | 5 => rI E 12 (seg g 29 12)
  | 6 => rI E 4 (seg g 292 4)
  | _ => rI E 5 (seg g 297 5)
def hc1 (E : EE) (a : Nat → Nat) (g : Nat → Int32) (r : Nat) : Nat → va_E
  | 0 => .inr (1, rf a g r)
  | 1 => rI E 12 (seg g (82 + 12 * r) 12)
  | 2 => rI E 12 (seg g (142 + 12 * r) 12)
  | 3 => rI E 12 (seg g (202 + 12 * r) 12)
  | 4 => rI E 3 (seg g (52 + 3 * r) 3)
  | _ => rI E 3 (seg g (67 + 3 * r) 3)
def hc (E : EE) (a : Nat → Nat) (g : Nat → Int32) (k : Nat) : va_E := if k < 8 then hc0 E a g k else hc1 E a g ((k - 8) / 6) ((k - 8) % 6)
def hs (E : EE) (a : Nat → Nat) (g : Nat → Int32) : va_W := (List.range 38).map (fun k => (a k, hc E a g k))
theorem hs_len {E : EE} {a : Nat → Nat} {g : Nat → Int32} : (hs E a g).length = 38 := by simp [hs]
theorem hs_at {E : EE} {a : Nat → Nat} {g : Nat → Int32} {k : Nat} (h : k < 38) : (hs E a g)[k]? = some (a k, hc E a g k) := by
  unfold hs
  rw [List.getElem?_map, List.getElem?_range h]
  rfl
theorem hc_lo {E : EE} {a : Nat → Nat} {g : Nat → Int32} {k : Nat} (h : k < 8) : hc E a g k = hc0 E a g k := by simp only [hc, if_pos h]
theorem hc_hi {E : EE} {a : Nat → Nat} {g : Nat → Int32} {r j : Nat} (h : j < 6) : hc E a g (8 + 6 * r + j) = hc1 E a g r j := by
  have h1 : ¬ 8 + 6 * r + j < 8 := by omega
  have h2 : (8 + 6 * r + j - 8) / 6 = r := by omega
  have h3 : (8 + 6 * r + j - 8) % 6 = j := by omega
  simp only [hc, if_neg h1, h2, h3]
theorem hs_lo {E : EE} {a : Nat → Nat} {g : Nat → Int32} (k : Nat) (h : k < 8) {e : va_E} (he : hc0 E a g k = e) : (hs E a g)[k]? = some (a k, e) := by
  rw [hs_at (by omega), hc_lo h, he]
theorem hs_hi {E : EE} {a : Nat → Nat} {g : Nat → Int32} (j : Nat) {r : Nat} (hr : r < 5) (h : j < 6) {e : va_E} (he : hc1 E a g r j = e) : (hs E a g)[8 + 6 * r + j]? = some (a (8 + 6 * r + j), e) := by
  rw [hs_at (by omega), hc_hi h, he]
theorem hs_hi0 {E : EE} {a : Nat → Nat} {g : Nat → Int32} {r : Nat} (hr : r < 5) : (hs E a g)[8 + 6 * r]? = some (a (8 + 6 * r), .inr (1, rf a g r)) := hs_hi 0 hr (by decide) rfl
/-- which cell a number of the row lies in -/
def dep0 : Nat → Nat → Prop
  | 0, i => i = 0 ∨ i = 41 ∨ i = 296 ∨ 302 ≤ i
  | 1, i => 1 ≤ i ∧ i < 1 + 4
  | 3, i => 5 ≤ i ∧ i < 5 + 12
  | 4, i => 17 ≤ i ∧ i < 17 + 12
  | 5, i => 29 ≤ i ∧ i < 29 + 12
  | 6, i => 292 ≤ i ∧ i < 292 + 4
  | 7, i => 297 ≤ i ∧ i < 297 + 5
  | _, _ => False
def dep1 (r : Nat) : Nat → Nat → Prop
  | 0, i => i = 42 + r ∨ i = 47 + r ∨ (262 + 6 * r ≤ i ∧ i < 262 + 6 * r + 6)
  | 1, i => 82 + 12 * r ≤ i ∧ i < 82 + 12 * r + 12
  | 2, i => 142 + 12 * r ≤ i ∧ i < 142 + 12 * r + 12
  | 3, i => 202 + 12 * r ≤ i ∧ i < 202 + 12 * r + 12
  | 4, i => 52 + 3 * r ≤ i ∧ i < 52 + 3 * r + 3
  | 5, i => 67 + 3 * r ≤ i ∧ i < 67 + 3 * r + 3
  | _, _ => False
theorem hf_eq {a : Nat → Nat} {g g' : Nat → Int32} (h : g 0 = g' 0 ∧ g 41 = g' 41 ∧ g 296 = g' 296 ∧ g 302 = g' 302 ∧ g 303 = g' 303 ∧ g 304 = g' 304 ∧ g 305 = g' 305 ∧ g 306 = g' 306 ∧ g 307 = g' 307 ∧ g 308 = g' 308) : hf a g = hf a g' := by
  obtain ⟨h0, h41, h296, h302, h303, h304, h305, h306, h307, h308⟩ := h
  unfold hf
  rw [h0, h41, h296, h302, h303, h304, h305, h306, h307, h308]
theorem rf_eq {a : Nat → Nat} {g g' : Nat → Int32} {r : Nat} (h : g (42 + r) = g' (42 + r) ∧ g (47 + r) = g' (47 + r) ∧ g (262 + 6 * r + 0) = g' (262 + 6 * r + 0) ∧ g (262 + 6 * r + 1) = g' (262 + 6 * r + 1) ∧ g (262 + 6 * r + 2) = g' (262 + 6 * r + 2) ∧ g (262 + 6 * r + 3) = g' (262 + 6 * r + 3) ∧ g (262 + 6 * r + 4) = g' (262 + 6 * r + 4) ∧ g (262 + 6 * r + 5) = g' (262 + 6 * r + 5)) : rf a g r = rf a g' r := by
  obtain ⟨h0, h1, h2, h3, h4, h5, h6, h7⟩ := h
  unfold rf
  rw [h0, h1, h2, h3, h4, h5, h6, h7]
theorem hc0_off {E : EE} {a : Nat → Nat} {g : Nat → Int32} {i : Nat} {v : Int32} : ∀ k : Nat, k < 8 → ¬ dep0 k i → hc0 E a (upd g i v) k = hc0 E a g k
  | 0, _, h => by
    have h : ¬ (i = 0 ∨ i = 41 ∨ i = 296 ∨ 302 ≤ i) := h
    exact congrArg (fun f => (.inr (0, f) : va_E)) (hf_eq ⟨up_n (by omega), up_n (by omega), up_n (by omega), up_n (by omega), up_n (by omega), up_n (by omega), up_n (by omega), up_n (by omega), up_n (by omega), up_n (by omega)⟩)
  | 2, _, _ => rfl
  | 1, _, h => by
    have h : ¬ (1 ≤ i ∧ i < 1 + 4) := h
    exact congrArg (rI E 4) (seg_out (by omega))
  | 3, _, h => by
    have h : ¬ (5 ≤ i ∧ i < 5 + 12) := h
    exact congrArg (rI E 12) (seg_out (by omega))
  | 4, _, h => by
    have h : ¬ (17 ≤ i ∧ i < 17 + 12) := h
    exact congrArg (rI E 12) (seg_out (by omega))
  | 5, _, h => by
    have h : ¬ (29 ≤ i ∧ i < 29 + 12) := h
    exact congrArg (rI E 12) (seg_out (by omega))
  | 6, _, h => by
    have h : ¬ (292 ≤ i ∧ i < 292 + 4) := h
    exact congrArg (rI E 4) (seg_out (by omega))
  | 7, _, h => by
    have h : ¬ (297 ≤ i ∧ i < 297 + 5) := h
    exact congrArg (rI E 5) (seg_out (by omega))
  | k + 8, hk, _ => absurd hk (by omega)
theorem hc1_off {E : EE} {a : Nat → Nat} {g : Nat → Int32} {i r : Nat} {v : Int32} : ∀ j : Nat, j < 6 → ¬ dep1 r j i → hc1 E a (upd g i v) r j = hc1 E a g r j
  | 0, _, h => by
    have h : ¬ (i = 42 + r ∨ i = 47 + r ∨ (262 + 6 * r ≤ i ∧ i < 262 + 6 * r + 6)) := h
    exact congrArg (fun f => (.inr (1, f) : va_E)) (rf_eq ⟨up_n (by omega), up_n (by omega), up_n (by omega), up_n (by omega), up_n (by omega), up_n (by omega), up_n (by omega), up_n (by omega)⟩)
  | 1, _, h => by
    have h : ¬ (82 + 12 * r ≤ i ∧ i < 82 + 12 * r + 12) := h
    exact congrArg (rI E 12) (seg_out (by omega))
  | 2, _, h => by
    have h : ¬ (142 + 12 * r ≤ i ∧ i < 142 + 12 * r + 12) := h
    exact congrArg (rI E 12) (seg_out (by omega))
  | 3, _, h => by
    have h : ¬ (202 + 12 * r ≤ i ∧ i < 202 + 12 * r + 12) := h
    exact congrArg (rI E 12) (seg_out (by omega))
  | 4, _, h => by
    have h : ¬ (52 + 3 * r ≤ i ∧ i < 52 + 3 * r + 3) := h
    exact congrArg (rI E 3) (seg_out (by omega))
  | 5, _, h => by
    have h : ¬ (67 + 3 * r ≤ i ∧ i < 67 + 3 * r + 3) := h
    exact congrArg (rI E 3) (seg_out (by omega))
  | j + 6, hj, _ => absurd hj (by omega)
theorem hs_put {E : EE} {a : Nat → Nat} {g : Nat → Int32} {i q : Nat} {v : Int32} {e : va_E} (hq : q < 38) (h0 : ∀ k, k < 8 → k ≠ q → ¬ dep0 k i) (h1 : ∀ r j, r < 5 → j < 6 → 8 + 6 * r + j ≠ q → ¬ dep1 r j i) (he : e = hc E a (upd g i v) q) : (hs E a g).set q (a q, e) = hs E a (upd g i v) := by
  apply List.ext_getElem?
  intro k
  by_cases hk : k < 38
  · rw [hs_at hk]
    by_cases hkq : k = q
    · subst hkq
      rw [List.getElem?_set_self (by rw [hs_len]; exact hk), he]
    · rw [List.getElem?_set_ne (fun z => hkq z.symm), hs_at hk]
      by_cases h8 : k < 8
      · rw [hc_lo h8, hc_lo h8, hc0_off k h8 (h0 k h8 hkq)]
      · have e : k = 8 + 6 * ((k - 8) / 6) + (k - 8) % 6 := by omega
        have hn := h1 ((k - 8) / 6) ((k - 8) % 6) (by omega) (by omega) (by omega)
        have hj : (k - 8) % 6 < 6 := by omega
        generalize (k - 8) / 6 = r at *
        generalize (k - 8) % 6 = j at *
        subst e
        rw [hc_hi hj, hc_hi hj, hc1_off j hj hn]
  · rw [List.getElem?_eq_none (by rw [List.length_set, hs_len]; omega), List.getElem?_eq_none (by rw [hs_len]; omega)]
theorem hc0_same {E : EE} {a : Nat → Nat} {g g' : Nat → Int32} (h : ∀ i, i < 309 → g i = g' i) : ∀ k : Nat, k < 8 → hc0 E a g k = hc0 E a g' k
  | 0, _ => congrArg (fun f => (.inr (0, f) : va_E)) (hf_eq ⟨h _ (by omega), h _ (by omega), h _ (by omega), h _ (by omega), h _ (by omega), h _ (by omega), h _ (by omega), h _ (by omega), h _ (by omega), h _ (by omega)⟩)
  | 2, _ => rfl
  | 1, _ => congrArg (rI E 4) (seg_eq (fun j hj => h _ (by omega)))
  | 3, _ => congrArg (rI E 12) (seg_eq (fun j hj => h _ (by omega)))
  | 4, _ => congrArg (rI E 12) (seg_eq (fun j hj => h _ (by omega)))
  | 5, _ => congrArg (rI E 12) (seg_eq (fun j hj => h _ (by omega)))
  | 6, _ => congrArg (rI E 4) (seg_eq (fun j hj => h _ (by omega)))
  | 7, _ => congrArg (rI E 5) (seg_eq (fun j hj => h _ (by omega)))
  | k + 8, hk => absurd hk (by omega)
theorem hc1_same {E : EE} {a : Nat → Nat} {g g' : Nat → Int32} (h : ∀ i, i < 309 → g i = g' i) {r : Nat} (hr : r < 5) : ∀ j : Nat, j < 6 → hc1 E a g r j = hc1 E a g' r j
  | 0, _ => congrArg (fun f => (.inr (1, f) : va_E)) (rf_eq ⟨h _ (by omega), h _ (by omega), h _ (by omega), h _ (by omega), h _ (by omega), h _ (by omega), h _ (by omega), h _ (by omega)⟩)
  | 1, _ => congrArg (rI E 12) (seg_eq (fun j hj => h _ (by omega)))
  | 2, _ => congrArg (rI E 12) (seg_eq (fun j hj => h _ (by omega)))
  | 3, _ => congrArg (rI E 12) (seg_eq (fun j hj => h _ (by omega)))
  | 4, _ => congrArg (rI E 3) (seg_eq (fun j hj => h _ (by omega)))
  | 5, _ => congrArg (rI E 3) (seg_eq (fun j hj => h _ (by omega)))
  | j + 6, hj => absurd hj (by omega)
theorem hs_same {E : EE} {a : Nat → Nat} {g g' : Nat → Int32} (h : ∀ i, i < 309 → g i = g' i) : hs E a g = hs E a g' := by
  unfold hs
  refine List.map_congr_left fun k hk => ?_
  have hk : k < 38 := List.mem_range.mp hk
  refine congrArg (fun x => (a k, x)) ?_
  by_cases h8 : k < 8
  · rw [hc_lo h8, hc_lo h8, hc0_same h k h8]
  · have e : k = 8 + 6 * ((k - 8) / 6) + (k - 8) % 6 := by omega
    have hr : (k - 8) / 6 < 5 := by omega
    have hj : (k - 8) % 6 < 6 := by omega
    generalize (k - 8) / 6 = r at *
    generalize (k - 8) % 6 = j at *
    subst e
    rw [hc_hi hj, hc_hi hj, hc1_same h hr j hj]
theorem hs_w1 {E : EE} {a : Nat → Nat} {g : Nat → Int32} {j : Nat} {v : Int32} (hj : j < 4) : (hs E a g).set 1 (a 1, rI E 4 (upd (seg g 1 4) j v)) = hs E a (upd g (1 + j) v) := hs_put (by decide)
  (fun k hk hq => match k, hk, hq with
    | 0, _, hq => by show ¬ (1 + j = 0 ∨ 1 + j = 41 ∨ 1 + j = 296 ∨ 302 ≤ 1 + j); omega
    | 2, _, _ => fun h => h
    | 1, _, hq => by show ¬ (1 ≤ 1 + j ∧ 1 + j < 1 + 4); omega
    | 3, _, hq => by show ¬ (5 ≤ 1 + j ∧ 1 + j < 5 + 12); omega
    | 4, _, hq => by show ¬ (17 ≤ 1 + j ∧ 1 + j < 17 + 12); omega
    | 5, _, hq => by show ¬ (29 ≤ 1 + j ∧ 1 + j < 29 + 12); omega
    | 6, _, hq => by show ¬ (292 ≤ 1 + j ∧ 1 + j < 292 + 4); omega
    | 7, _, hq => by show ¬ (297 ≤ 1 + j ∧ 1 + j < 297 + 5); omega
    | k + 8, hk, _ => absurd hk (by omega))
  (fun r0 j0 hr0 hj0 hq0 => match r0, j0, hr0, hj0, hq0 with
    | r', 0, hr', _, hq => by show ¬ (1 + j = 42 + r' ∨ 1 + j = 47 + r' ∨ (262 + 6 * r' ≤ 1 + j ∧ 1 + j < 262 + 6 * r' + 6)); omega
    | r', 1, hr', _, hq => by show ¬ (82 + 12 * r' ≤ 1 + j ∧ 1 + j < 82 + 12 * r' + 12); omega
    | r', 2, hr', _, hq => by show ¬ (142 + 12 * r' ≤ 1 + j ∧ 1 + j < 142 + 12 * r' + 12); omega
    | r', 3, hr', _, hq => by show ¬ (202 + 12 * r' ≤ 1 + j ∧ 1 + j < 202 + 12 * r' + 12); omega
    | r', 4, hr', _, hq => by show ¬ (52 + 3 * r' ≤ 1 + j ∧ 1 + j < 52 + 3 * r' + 3); omega
    | r', 5, hr', _, hq => by show ¬ (67 + 3 * r' ≤ 1 + j ∧ 1 + j < 67 + 3 * r' + 3); omega
    | _, j + 6, _, hj, _ => absurd hj (by omega))
  (by rw [hc_lo (by decide), seg_in hj]; rfl)
theorem hs_w3 {E : EE} {a : Nat → Nat} {g : Nat → Int32} {j : Nat} {v : Int32} (hj : j < 12) : (hs E a g).set 3 (a 3, rI E 12 (upd (seg g 5 12) j v)) = hs E a (upd g (5 + j) v) := hs_put (by decide)
  (fun k hk hq => match k, hk, hq with
    | 0, _, hq => by show ¬ (5 + j = 0 ∨ 5 + j = 41 ∨ 5 + j = 296 ∨ 302 ≤ 5 + j); omega
    | 2, _, _ => fun h => h
    | 1, _, hq => by show ¬ (1 ≤ 5 + j ∧ 5 + j < 1 + 4); omega
    | 3, _, hq => by show ¬ (5 ≤ 5 + j ∧ 5 + j < 5 + 12); omega
    | 4, _, hq => by show ¬ (17 ≤ 5 + j ∧ 5 + j < 17 + 12); omega
    | 5, _, hq => by show ¬ (29 ≤ 5 + j ∧ 5 + j < 29 + 12); omega
    | 6, _, hq => by show ¬ (292 ≤ 5 + j ∧ 5 + j < 292 + 4); omega
    | 7, _, hq => by show ¬ (297 ≤ 5 + j ∧ 5 + j < 297 + 5); omega
    | k + 8, hk, _ => absurd hk (by omega))
  (fun r0 j0 hr0 hj0 hq0 => match r0, j0, hr0, hj0, hq0 with
    | r', 0, hr', _, hq => by show ¬ (5 + j = 42 + r' ∨ 5 + j = 47 + r' ∨ (262 + 6 * r' ≤ 5 + j ∧ 5 + j < 262 + 6 * r' + 6)); omega
    | r', 1, hr', _, hq => by show ¬ (82 + 12 * r' ≤ 5 + j ∧ 5 + j < 82 + 12 * r' + 12); omega
    | r', 2, hr', _, hq => by show ¬ (142 + 12 * r' ≤ 5 + j ∧ 5 + j < 142 + 12 * r' + 12); omega
    | r', 3, hr', _, hq => by show ¬ (202 + 12 * r' ≤ 5 + j ∧ 5 + j < 202 + 12 * r' + 12); omega
    | r', 4, hr', _, hq => by show ¬ (52 + 3 * r' ≤ 5 + j ∧ 5 + j < 52 + 3 * r' + 3); omega
    | r', 5, hr', _, hq => by show ¬ (67 + 3 * r' ≤ 5 + j ∧ 5 + j < 67 + 3 * r' + 3); omega
    | _, j + 6, _, hj, _ => absurd hj (by omega))
  (by rw [hc_lo (by decide), seg_in hj]; rfl)
theorem hs_w4 {E : EE} {a : Nat → Nat} {g : Nat → Int32} {j : Nat} {v : Int32} (hj : j < 12) : (hs E a g).set 4 (a 4, rI E 12 (upd (seg g 17 12) j v)) = hs E a (upd g (17 + j) v) := hs_put (by decide)
  (fun k hk hq => match k, hk, hq with
    | 0, _, hq => by show ¬ (17 + j = 0 ∨ 17 + j = 41 ∨ 17 + j = 296 ∨ 302 ≤ 17 + j); omega
    | 2, _, _ => fun h => h
    | 1, _, hq => by show ¬ (1 ≤ 17 + j ∧ 17 + j < 1 + 4); omega
    | 3, _, hq => by show ¬ (5 ≤ 17 + j ∧ 17 + j < 5 + 12); omega
    | 4, _, hq => by show ¬ (17 ≤ 17 + j ∧ 17 + j < 17 + 12); omega
    | 5, _, hq => by show ¬ (29 ≤ 17 + j ∧ 17 + j < 29 + 12); omega
    | 6, _, hq => by show ¬ (292 ≤ 17 + j ∧ 17 + j < 292 + 4); omega
    | 7, _, hq => by show ¬ (297 ≤ 17 + j ∧ 17 + j < 297 + 5); omega
    | k + 8, hk, _ => absurd hk (by omega))
  (fun r0 j0 hr0 hj0 hq0 => match r0, j0, hr0, hj0, hq0 with
    | r', 0, hr', _, hq => by show ¬ (17 + j = 42 + r' ∨ 17 + j = 47 + r' ∨ (262 + 6 * r' ≤ 17 + j ∧ 17 + j < 262 + 6 * r' + 6)); omega
    | r', 1, hr', _, hq => by show ¬ (82 + 12 * r' ≤ 17 + j ∧ 17 + j < 82 + 12 * r' + 12); omega
    | r', 2, hr', _, hq => by show ¬ (142 + 12 * r' ≤ 17 + j ∧ 17 + j < 142 + 12 * r' + 12); omega
    | r', 3, hr', _, hq => by show ¬ (202 + 12 * r' ≤ 17 + j ∧ 17 + j < 202 + 12 * r' + 12); omega
    | r', 4, hr', _, hq => by show ¬ (52 + 3 * r' ≤ 17 + j ∧ 17 + j < 52 + 3 * r' + 3); omega
    | r', 5, hr', _, hq => by show ¬ (67 + 3 * r' ≤ 17 + j ∧ 17 + j < 67 + 3 * r' + 3); omega
    | _, j + 6, _, hj, _ => absurd hj (by omega))
  (by rw [hc_lo (by decide), seg_in hj]; rfl)
theorem hs_w5 {E : EE} {a : Nat → Nat} {g : Nat → Int32} {j : Nat} {v : Int32} (hj : j < 12) : (hs E a g).set 5 (a 5, rI E 12 (upd (seg g 29 12) j v)) = hs E a (upd g (29 + j) v) := hs_put (by decide)
  (fun k hk hq => match k, hk, hq with
    | 0, _, hq => by show ¬ (29 + j = 0 ∨ 29 + j = 41 ∨ 29 + j = 296 ∨ 302 ≤ 29 + j); omega
    | 2, _, _ => fun h => h
    | 1, _, hq => by show ¬ (1 ≤ 29 + j ∧ 29 + j < 1 + 4); omega
    | 3, _, hq => by show ¬ (5 ≤ 29 + j ∧ 29 + j < 5 + 12); omega
    | 4, _, hq => by show ¬ (17 ≤ 29 + j ∧ 29 + j < 17 + 12); omega
    | 5, _, hq => by show ¬ (29 ≤ 29 + j ∧ 29 + j < 29 + 12); omega
    | 6, _, hq => by show ¬ (292 ≤ 29 + j ∧ 29 + j < 292 + 4); omega
    | 7, _, hq => by show ¬ (297 ≤ 29 + j ∧ 29 + j < 297 + 5); omega
    | k + 8, hk, _ => absurd hk (by omega))
  (fun r0 j0 hr0 hj0 hq0 => match r0, j0, hr0, hj0, hq0 with
    | r', 0, hr', _, hq => by show ¬ (29 + j = 42 + r' ∨ 29 + j = 47 + r' ∨ (262 + 6 * r' ≤ 29 + j ∧ 29 + j < 262 + 6 * r' + 6)); omega
    | r', 1, hr', _, hq => by show ¬ (82 + 12 * r' ≤ 29 + j ∧ 29 + j < 82 + 12 * r' + 12); omega
    | r', 2, hr', _, hq => by show ¬ (142 + 12 * r' ≤ 29 + j ∧ 29 + j < 142 + 12 * r' + 12); omega
    | r', 3, hr', _, hq => by show ¬ (202 + 12 * r' ≤ 29 + j ∧ 29 + j < 202 + 12 * r' + 12); omega
    | r', 4, hr', _, hq => by show ¬ (52 + 3 * r' ≤ 29 + j ∧ 29 + j < 52 + 3 * r' + 3); omega
    | r', 5, hr', _, hq => by show ¬ (67 + 3 * r' ≤ 29 + j ∧ 29 + j < 67 + 3 * r' + 3); omega
    | _, j + 6, _, hj, _ => absurd hj (by omega))
  (by rw [hc_lo (by decide), seg_in hj]; rfl)
theorem hs_w6 {E : EE} {a : Nat → Nat} {g : Nat → Int32} {j : Nat} {v : Int32} (hj : j < 4) : (hs E a g).set 6 (a 6, rI E 4 (upd (seg g 292 4) j v)) = hs E a (upd g (292 + j) v) := hs_put (by decide)
  (fun k hk hq => match k, hk, hq with
    | 0, _, hq => by show ¬ (292 + j = 0 ∨ 292 + j = 41 ∨ 292 + j = 296 ∨ 302 ≤ 292 + j); omega
    | 2, _, _ => fun h => h
    | 1, _, hq => by show ¬ (1 ≤ 292 + j ∧ 292 + j < 1 + 4); omega
    | 3, _, hq => by show ¬ (5 ≤ 292 + j ∧ 292 + j < 5 + 12); omega
    | 4, _, hq => by show ¬ (17 ≤ 292 + j ∧ 292 + j < 17 + 12); omega
    | 5, _, hq => by show ¬ (29 ≤ 292 + j ∧ 292 + j < 29 + 12); omega
    | 6, _, hq => by show ¬ (292 ≤ 292 + j ∧ 292 + j < 292 + 4); omega
    | 7, _, hq => by show ¬ (297 ≤ 292 + j ∧ 292 + j < 297 + 5); omega
    | k + 8, hk, _ => absurd hk (by omega))
  (fun r0 j0 hr0 hj0 hq0 => match r0, j0, hr0, hj0, hq0 with
    | r', 0, hr', _, hq => by show ¬ (292 + j = 42 + r' ∨ 292 + j = 47 + r' ∨ (262 + 6 * r' ≤ 292 + j ∧ 292 + j < 262 + 6 * r' + 6)); omega
    | r', 1, hr', _, hq => by show ¬ (82 + 12 * r' ≤ 292 + j ∧ 292 + j < 82 + 12 * r' + 12); omega
    | r', 2, hr', _, hq => by show ¬ (142 + 12 * r' ≤ 292 + j ∧ 292 + j < 142 + 12 * r' + 12); omega
    | r', 3, hr', _, hq => by show ¬ (202 + 12 * r' ≤ 292 + j ∧ 292 + j < 202 + 12 * r' + 12); omega
    | r', 4, hr', _, hq => by show ¬ (52 + 3 * r' ≤ 292 + j ∧ 292 + j < 52 + 3 * r' + 3); omega
    | r', 5, hr', _, hq => by show ¬ (67 + 3 * r' ≤ 292 + j ∧ 292 + j < 67 + 3 * r' + 3); omega
    | _, j + 6, _, hj, _ => absurd hj (by omega))
  (by rw [hc_lo (by decide), seg_in hj]; rfl)
theorem hs_w7 {E : EE} {a : Nat → Nat} {g : Nat → Int32} {j : Nat} {v : Int32} (hj : j < 5) : (hs E a g).set 7 (a 7, rI E 5 (upd (seg g 297 5) j v)) = hs E a (upd g (297 + j) v) := hs_put (by decide)
  (fun k hk hq => match k, hk, hq with
    | 0, _, hq => by show ¬ (297 + j = 0 ∨ 297 + j = 41 ∨ 297 + j = 296 ∨ 302 ≤ 297 + j); omega
    | 2, _, _ => fun h => h
    | 1, _, hq => by show ¬ (1 ≤ 297 + j ∧ 297 + j < 1 + 4); omega
    | 3, _, hq => by show ¬ (5 ≤ 297 + j ∧ 297 + j < 5 + 12); omega
    | 4, _, hq => by show ¬ (17 ≤ 297 + j ∧ 297 + j < 17 + 12); omega
    | 5, _, hq => by show ¬ (29 ≤ 297 + j ∧ 297 + j < 29 + 12); omega
    | 6, _, hq => by show ¬ (292 ≤ 297 + j ∧ 297 + j < 292 + 4); omega
    | 7, _, hq => by show ¬ (297 ≤ 297 + j ∧ 297 + j < 297 + 5); omega
    | k + 8, hk, _ => absurd hk (by omega))
  (fun r0 j0 hr0 hj0 hq0 => match r0, j0, hr0, hj0, hq0 with
    | r', 0, hr', _, hq => by show ¬ (297 + j = 42 + r' ∨ 297 + j = 47 + r' ∨ (262 + 6 * r' ≤ 297 + j ∧ 297 + j < 262 + 6 * r' + 6)); omega
    | r', 1, hr', _, hq => by show ¬ (82 + 12 * r' ≤ 297 + j ∧ 297 + j < 82 + 12 * r' + 12); omega
    | r', 2, hr', _, hq => by show ¬ (142 + 12 * r' ≤ 297 + j ∧ 297 + j < 142 + 12 * r' + 12); omega
    | r', 3, hr', _, hq => by show ¬ (202 + 12 * r' ≤ 297 + j ∧ 297 + j < 202 + 12 * r' + 12); omega
    | r', 4, hr', _, hq => by show ¬ (52 + 3 * r' ≤ 297 + j ∧ 297 + j < 52 + 3 * r' + 3); omega
    | r', 5, hr', _, hq => by show ¬ (67 + 3 * r' ≤ 297 + j ∧ 297 + j < 67 + 3 * r' + 3); omega
    | _, j + 6, _, hj, _ => absurd hj (by omega))
  (by rw [hc_lo (by decide), seg_in hj]; rfl)
theorem hs_u1 {E : EE} {a : Nat → Nat} {g : Nat → Int32} {r j : Nat} {v : Int32} (hr : r < 5) (hj : j < 12) : (hs E a g).set (8 + 6 * r + 1) (a (8 + 6 * r + 1), rI E 12 (upd (seg g (82 + 12 * r) 12) j v)) = hs E a (upd g (82 + 12 * r + j) v) := hs_put (by omega)
  (fun k hk hq => match k, hk, hq with
    | 0, _, hq => by show ¬ (82 + 12 * r + j = 0 ∨ 82 + 12 * r + j = 41 ∨ 82 + 12 * r + j = 296 ∨ 302 ≤ 82 + 12 * r + j); omega
    | 2, _, _ => fun h => h
    | 1, _, hq => by show ¬ (1 ≤ 82 + 12 * r + j ∧ 82 + 12 * r + j < 1 + 4); omega
    | 3, _, hq => by show ¬ (5 ≤ 82 + 12 * r + j ∧ 82 + 12 * r + j < 5 + 12); omega
    | 4, _, hq => by show ¬ (17 ≤ 82 + 12 * r + j ∧ 82 + 12 * r + j < 17 + 12); omega
    | 5, _, hq => by show ¬ (29 ≤ 82 + 12 * r + j ∧ 82 + 12 * r + j < 29 + 12); omega
    | 6, _, hq => by show ¬ (292 ≤ 82 + 12 * r + j ∧ 82 + 12 * r + j < 292 + 4); omega
    | 7, _, hq => by show ¬ (297 ≤ 82 + 12 * r + j ∧ 82 + 12 * r + j < 297 + 5); omega
    | k + 8, hk, _ => absurd hk (by omega))
  (fun r0 j0 hr0 hj0 hq0 => match r0, j0, hr0, hj0, hq0 with
    | r', 0, hr', _, hq => by show ¬ (82 + 12 * r + j = 42 + r' ∨ 82 + 12 * r + j = 47 + r' ∨ (262 + 6 * r' ≤ 82 + 12 * r + j ∧ 82 + 12 * r + j < 262 + 6 * r' + 6)); omega
    | r', 1, hr', _, hq => by show ¬ (82 + 12 * r' ≤ 82 + 12 * r + j ∧ 82 + 12 * r + j < 82 + 12 * r' + 12); omega
    | r', 2, hr', _, hq => by show ¬ (142 + 12 * r' ≤ 82 + 12 * r + j ∧ 82 + 12 * r + j < 142 + 12 * r' + 12); omega
    | r', 3, hr', _, hq => by show ¬ (202 + 12 * r' ≤ 82 + 12 * r + j ∧ 82 + 12 * r + j < 202 + 12 * r' + 12); omega
    | r', 4, hr', _, hq => by show ¬ (52 + 3 * r' ≤ 82 + 12 * r + j ∧ 82 + 12 * r + j < 52 + 3 * r' + 3); omega
    | r', 5, hr', _, hq => by show ¬ (67 + 3 * r' ≤ 82 + 12 * r + j ∧ 82 + 12 * r + j < 67 + 3 * r' + 3); omega
    | _, j + 6, _, hj, _ => absurd hj (by omega))
  (by rw [hc_hi (by decide), seg_in hj]; rfl)
theorem hs_u2 {E : EE} {a : Nat → Nat} {g : Nat → Int32} {r j : Nat} {v : Int32} (hr : r < 5) (hj : j < 12) : (hs E a g).set (8 + 6 * r + 2) (a (8 + 6 * r + 2), rI E 12 (upd (seg g (142 + 12 * r) 12) j v)) = hs E a (upd g (142 + 12 * r + j) v) := hs_put (by omega)
  (fun k hk hq => match k, hk, hq with
    | 0, _, hq => by show ¬ (142 + 12 * r + j = 0 ∨ 142 + 12 * r + j = 41 ∨ 142 + 12 * r + j = 296 ∨ 302 ≤ 142 + 12 * r + j); omega
    | 2, _, _ => fun h => h
    | 1, _, hq => by show ¬ (1 ≤ 142 + 12 * r + j ∧ 142 + 12 * r + j < 1 + 4); omega
    | 3, _, hq => by show ¬ (5 ≤ 142 + 12 * r + j ∧ 142 + 12 * r + j < 5 + 12); omega
    | 4, _, hq => by show ¬ (17 ≤ 142 + 12 * r + j ∧ 142 + 12 * r + j < 17 + 12); omega
    | 5, _, hq => by show ¬ (29 ≤ 142 + 12 * r + j ∧ 142 + 12 * r + j < 29 + 12); omega
    | 6, _, hq => by show ¬ (292 ≤ 142 + 12 * r + j ∧ 142 + 12 * r + j < 292 + 4); omega
    | 7, _, hq => by show ¬ (297 ≤ 142 + 12 * r + j ∧ 142 + 12 * r + j < 297 + 5); omega
    | k + 8, hk, _ => absurd hk (by omega))
  (fun r0 j0 hr0 hj0 hq0 => match r0, j0, hr0, hj0, hq0 with
    | r', 0, hr', _, hq => by show ¬ (142 + 12 * r + j = 42 + r' ∨ 142 + 12 * r + j = 47 + r' ∨ (262 + 6 * r' ≤ 142 + 12 * r + j ∧ 142 + 12 * r + j < 262 + 6 * r' + 6)); omega
    | r', 1, hr', _, hq => by show ¬ (82 + 12 * r' ≤ 142 + 12 * r + j ∧ 142 + 12 * r + j < 82 + 12 * r' + 12); omega
    | r', 2, hr', _, hq => by show ¬ (142 + 12 * r' ≤ 142 + 12 * r + j ∧ 142 + 12 * r + j < 142 + 12 * r' + 12); omega
    | r', 3, hr', _, hq => by show ¬ (202 + 12 * r' ≤ 142 + 12 * r + j ∧ 142 + 12 * r + j < 202 + 12 * r' + 12); omega
    | r', 4, hr', _, hq => by show ¬ (52 + 3 * r' ≤ 142 + 12 * r + j ∧ 142 + 12 * r + j < 52 + 3 * r' + 3); omega
    | r', 5, hr', _, hq => by show ¬ (67 + 3 * r' ≤ 142 + 12 * r + j ∧ 142 + 12 * r + j < 67 + 3 * r' + 3); omega
    | _, j + 6, _, hj, _ => absurd hj (by omega))
  (by rw [hc_hi (by decide), seg_in hj]; rfl)
theorem hs_u3 {E : EE} {a : Nat → Nat} {g : Nat → Int32} {r j : Nat} {v : Int32} (hr : r < 5) (hj : j < 12) : (hs E a g).set (8 + 6 * r + 3) (a (8 + 6 * r + 3), rI E 12 (upd (seg g (202 + 12 * r) 12) j v)) = hs E a (upd g (202 + 12 * r + j) v) := hs_put (by omega)
  (fun k hk hq => match k, hk, hq with
    | 0, _, hq => by show ¬ (202 + 12 * r + j = 0 ∨ 202 + 12 * r + j = 41 ∨ 202 + 12 * r + j = 296 ∨ 302 ≤ 202 + 12 * r + j); omega
    | 2, _, _ => fun h => h
    | 1, _, hq => by show ¬ (1 ≤ 202 + 12 * r + j ∧ 202 + 12 * r + j < 1 + 4); omega
    | 3, _, hq => by show ¬ (5 ≤ 202 + 12 * r + j ∧ 202 + 12 * r + j < 5 + 12); omega
    | 4, _, hq => by show ¬ (17 ≤ 202 + 12 * r + j ∧ 202 + 12 * r + j < 17 + 12); omega
    | 5, _, hq => by show ¬ (29 ≤ 202 + 12 * r + j ∧ 202 + 12 * r + j < 29 + 12); omega
    | 6, _, hq => by show ¬ (292 ≤ 202 + 12 * r + j ∧ 202 + 12 * r + j < 292 + 4); omega
    | 7, _, hq => by show ¬ (297 ≤ 202 + 12 * r + j ∧ 202 + 12 * r + j < 297 + 5); omega
    | k + 8, hk, _ => absurd hk (by omega))
  (fun r0 j0 hr0 hj0 hq0 => match r0, j0, hr0, hj0, hq0 with
    | r', 0, hr', _, hq => by show ¬ (202 + 12 * r + j = 42 + r' ∨ 202 + 12 * r + j = 47 + r' ∨ (262 + 6 * r' ≤ 202 + 12 * r + j ∧ 202 + 12 * r + j < 262 + 6 * r' + 6)); omega
    | r', 1, hr', _, hq => by show ¬ (82 + 12 * r' ≤ 202 + 12 * r + j ∧ 202 + 12 * r + j < 82 + 12 * r' + 12); omega
    | r', 2, hr', _, hq => by show ¬ (142 + 12 * r' ≤ 202 + 12 * r + j ∧ 202 + 12 * r + j < 142 + 12 * r' + 12); omega
    | r', 3, hr', _, hq => by show ¬ (202 + 12 * r' ≤ 202 + 12 * r + j ∧ 202 + 12 * r + j < 202 + 12 * r' + 12); omega
    | r', 4, hr', _, hq => by show ¬ (52 + 3 * r' ≤ 202 + 12 * r + j ∧ 202 + 12 * r + j < 52 + 3 * r' + 3); omega
    | r', 5, hr', _, hq => by show ¬ (67 + 3 * r' ≤ 202 + 12 * r + j ∧ 202 + 12 * r + j < 67 + 3 * r' + 3); omega
    | _, j + 6, _, hj, _ => absurd hj (by omega))
  (by rw [hc_hi (by decide), seg_in hj]; rfl)
theorem hs_u4 {E : EE} {a : Nat → Nat} {g : Nat → Int32} {r j : Nat} {v : Int32} (hr : r < 5) (hj : j < 3) : (hs E a g).set (8 + 6 * r + 4) (a (8 + 6 * r + 4), rI E 3 (upd (seg g (52 + 3 * r) 3) j v)) = hs E a (upd g (52 + 3 * r + j) v) := hs_put (by omega)
  (fun k hk hq => match k, hk, hq with
    | 0, _, hq => by show ¬ (52 + 3 * r + j = 0 ∨ 52 + 3 * r + j = 41 ∨ 52 + 3 * r + j = 296 ∨ 302 ≤ 52 + 3 * r + j); omega
    | 2, _, _ => fun h => h
    | 1, _, hq => by show ¬ (1 ≤ 52 + 3 * r + j ∧ 52 + 3 * r + j < 1 + 4); omega
    | 3, _, hq => by show ¬ (5 ≤ 52 + 3 * r + j ∧ 52 + 3 * r + j < 5 + 12); omega
    | 4, _, hq => by show ¬ (17 ≤ 52 + 3 * r + j ∧ 52 + 3 * r + j < 17 + 12); omega
    | 5, _, hq => by show ¬ (29 ≤ 52 + 3 * r + j ∧ 52 + 3 * r + j < 29 + 12); omega
    | 6, _, hq => by show ¬ (292 ≤ 52 + 3 * r + j ∧ 52 + 3 * r + j < 292 + 4); omega
    | 7, _, hq => by show ¬ (297 ≤ 52 + 3 * r + j ∧ 52 + 3 * r + j < 297 + 5); omega
    | k + 8, hk, _ => absurd hk (by omega))
  (fun r0 j0 hr0 hj0 hq0 => match r0, j0, hr0, hj0, hq0 with
    | r', 0, hr', _, hq => by show ¬ (52 + 3 * r + j = 42 + r' ∨ 52 + 3 * r + j = 47 + r' ∨ (262 + 6 * r' ≤ 52 + 3 * r + j ∧ 52 + 3 * r + j < 262 + 6 * r' + 6)); omega
    | r', 1, hr', _, hq => by show ¬ (82 + 12 * r' ≤ 52 + 3 * r + j ∧ 52 + 3 * r + j < 82 + 12 * r' + 12); omega
    | r', 2, hr', _, hq => by show ¬ (142 + 12 * r' ≤ 52 + 3 * r + j ∧ 52 + 3 * r + j < 142 + 12 * r' + 12); omega
    | r', 3, hr', _, hq => by show ¬ (202 + 12 * r' ≤ 52 + 3 * r + j ∧ 52 + 3 * r + j < 202 + 12 * r' + 12); omega
    | r', 4, hr', _, hq => by show ¬ (52 + 3 * r' ≤ 52 + 3 * r + j ∧ 52 + 3 * r + j < 52 + 3 * r' + 3); omega
    | r', 5, hr', _, hq => by show ¬ (67 + 3 * r' ≤ 52 + 3 * r + j ∧ 52 + 3 * r + j < 67 + 3 * r' + 3); omega
    | _, j + 6, _, hj, _ => absurd hj (by omega))
  (by rw [hc_hi (by decide), seg_in hj]; rfl)
theorem hs_u5 {E : EE} {a : Nat → Nat} {g : Nat → Int32} {r j : Nat} {v : Int32} (hr : r < 5) (hj : j < 3) : (hs E a g).set (8 + 6 * r + 5) (a (8 + 6 * r + 5), rI E 3 (upd (seg g (67 + 3 * r) 3) j v)) = hs E a (upd g (67 + 3 * r + j) v) := hs_put (by omega)
  (fun k hk hq => match k, hk, hq with
    | 0, _, hq => by show ¬ (67 + 3 * r + j = 0 ∨ 67 + 3 * r + j = 41 ∨ 67 + 3 * r + j = 296 ∨ 302 ≤ 67 + 3 * r + j); omega
    | 2, _, _ => fun h => h
    | 1, _, hq => by show ¬ (1 ≤ 67 + 3 * r + j ∧ 67 + 3 * r + j < 1 + 4); omega
    | 3, _, hq => by show ¬ (5 ≤ 67 + 3 * r + j ∧ 67 + 3 * r + j < 5 + 12); omega
    | 4, _, hq => by show ¬ (17 ≤ 67 + 3 * r + j ∧ 67 + 3 * r + j < 17 + 12); omega
    | 5, _, hq => by show ¬ (29 ≤ 67 + 3 * r + j ∧ 67 + 3 * r + j < 29 + 12); omega
    | 6, _, hq => by show ¬ (292 ≤ 67 + 3 * r + j ∧ 67 + 3 * r + j < 292 + 4); omega
    | 7, _, hq => by show ¬ (297 ≤ 67 + 3 * r + j ∧ 67 + 3 * r + j < 297 + 5); omega
    | k + 8, hk, _ => absurd hk (by omega))
  (fun r0 j0 hr0 hj0 hq0 => match r0, j0, hr0, hj0, hq0 with
    | r', 0, hr', _, hq => by show ¬ (67 + 3 * r + j = 42 + r' ∨ 67 + 3 * r + j = 47 + r' ∨ (262 + 6 * r' ≤ 67 + 3 * r + j ∧ 67 + 3 * r + j < 262 + 6 * r' + 6)); omega
    | r', 1, hr', _, hq => by show ¬ (82 + 12 * r' ≤ 67 + 3 * r + j ∧ 67 + 3 * r + j < 82 + 12 * r' + 12); omega
    | r', 2, hr', _, hq => by show ¬ (142 + 12 * r' ≤ 67 + 3 * r + j ∧ 67 + 3 * r + j < 142 + 12 * r' + 12); omega
    | r', 3, hr', _, hq => by show ¬ (202 + 12 * r' ≤ 67 + 3 * r + j ∧ 67 + 3 * r + j < 202 + 12 * r' + 12); omega
    | r', 4, hr', _, hq => by show ¬ (52 + 3 * r' ≤ 67 + 3 * r + j ∧ 67 + 3 * r + j < 52 + 3 * r' + 3); omega
    | r', 5, hr', _, hq => by show ¬ (67 + 3 * r' ≤ 67 + 3 * r + j ∧ 67 + 3 * r + j < 67 + 3 * r' + 3); omega
    | _, j + 6, _, hj, _ => absurd hj (by omega))
  (by rw [hc_hi (by decide), seg_in hj]; rfl)
theorem hs_f0 {E : EE} {a : Nat → Nat} {g : Nat → Int32} {v : Int32} : (hs E a g).set 0 (a 0, .inr (0, (hf a g).set 0 (.int v))) = hs E a (upd g 0 v) := hs_put (by decide)
  (fun k hk hq => match k, hk, hq with
    | 0, _, hq => by show ¬ (0 = 0 ∨ 0 = 41 ∨ 0 = 296 ∨ 302 ≤ 0); omega
    | 2, _, _ => fun h => h
    | 1, _, hq => by show ¬ (1 ≤ 0 ∧ 0 < 1 + 4); omega
    | 3, _, hq => by show ¬ (5 ≤ 0 ∧ 0 < 5 + 12); omega
    | 4, _, hq => by show ¬ (17 ≤ 0 ∧ 0 < 17 + 12); omega
    | 5, _, hq => by show ¬ (29 ≤ 0 ∧ 0 < 29 + 12); omega
    | 6, _, hq => by show ¬ (292 ≤ 0 ∧ 0 < 292 + 4); omega
    | 7, _, hq => by show ¬ (297 ≤ 0 ∧ 0 < 297 + 5); omega
    | k + 8, hk, _ => absurd hk (by omega))
  (fun r0 j0 hr0 hj0 hq0 => match r0, j0, hr0, hj0, hq0 with
    | r', 0, hr', _, hq => by show ¬ (0 = 42 + r' ∨ 0 = 47 + r' ∨ (262 + 6 * r' ≤ 0 ∧ 0 < 262 + 6 * r' + 6)); omega
    | r', 1, hr', _, hq => by show ¬ (82 + 12 * r' ≤ 0 ∧ 0 < 82 + 12 * r' + 12); omega
    | r', 2, hr', _, hq => by show ¬ (142 + 12 * r' ≤ 0 ∧ 0 < 142 + 12 * r' + 12); omega
    | r', 3, hr', _, hq => by show ¬ (202 + 12 * r' ≤ 0 ∧ 0 < 202 + 12 * r' + 12); omega
    | r', 4, hr', _, hq => by show ¬ (52 + 3 * r' ≤ 0 ∧ 0 < 52 + 3 * r' + 3); omega
    | r', 5, hr', _, hq => by show ¬ (67 + 3 * r' ≤ 0 ∧ 0 < 67 + 3 * r' + 3); omega
    | _, j + 6, _, hj, _ => absurd hj (by omega))
  (by
    rw [hc_lo (by decide)]
    show (.inr (0, (hf a g).set 0 (.int v)) : va_E) = .inr (0, hf a (upd g 0 v))
    unfold hf
    rw [up_s, up_n (show 41 ≠ 0 by decide), up_n (show 296 ≠ 0 by decide), up_n (show 302 ≠ 0 by decide), up_n (show 303 ≠ 0 by decide), up_n (show 304 ≠ 0 by decide), up_n (show 305 ≠ 0 by decide), up_n (show 306 ≠ 0 by decide), up_n (show 307 ≠ 0 by decide), up_n (show 308 ≠ 0 by decide)]
    rfl)
theorem hs_f6 {E : EE} {a : Nat → Nat} {g : Nat → Int32} {v : Int32} : (hs E a g).set 0 (a 0, .inr (0, (hf a g).set 6 (.int v))) = hs E a (upd g 41 v) := hs_put (by decide)
  (fun k hk hq => match k, hk, hq with
    | 0, _, hq => by show ¬ (41 = 0 ∨ 41 = 41 ∨ 41 = 296 ∨ 302 ≤ 41); omega
    | 2, _, _ => fun h => h
    | 1, _, hq => by show ¬ (1 ≤ 41 ∧ 41 < 1 + 4); omega
    | 3, _, hq => by show ¬ (5 ≤ 41 ∧ 41 < 5 + 12); omega
    | 4, _, hq => by show ¬ (17 ≤ 41 ∧ 41 < 17 + 12); omega
    | 5, _, hq => by show ¬ (29 ≤ 41 ∧ 41 < 29 + 12); omega
    | 6, _, hq => by show ¬ (292 ≤ 41 ∧ 41 < 292 + 4); omega
    | 7, _, hq => by show ¬ (297 ≤ 41 ∧ 41 < 297 + 5); omega
    | k + 8, hk, _ => absurd hk (by omega))
  (fun r0 j0 hr0 hj0 hq0 => match r0, j0, hr0, hj0, hq0 with
    | r', 0, hr', _, hq => by show ¬ (41 = 42 + r' ∨ 41 = 47 + r' ∨ (262 + 6 * r' ≤ 41 ∧ 41 < 262 + 6 * r' + 6)); omega
    | r', 1, hr', _, hq => by show ¬ (82 + 12 * r' ≤ 41 ∧ 41 < 82 + 12 * r' + 12); omega
    | r', 2, hr', _, hq => by show ¬ (142 + 12 * r' ≤ 41 ∧ 41 < 142 + 12 * r' + 12); omega
    | r', 3, hr', _, hq => by show ¬ (202 + 12 * r' ≤ 41 ∧ 41 < 202 + 12 * r' + 12); omega
    | r', 4, hr', _, hq => by show ¬ (52 + 3 * r' ≤ 41 ∧ 41 < 52 + 3 * r' + 3); omega
    | r', 5, hr', _, hq => by show ¬ (67 + 3 * r' ≤ 41 ∧ 41 < 67 + 3 * r' + 3); omega
    | _, j + 6, _, hj, _ => absurd hj (by omega))
  (by
    rw [hc_lo (by decide)]
    show (.inr (0, (hf a g).set 6 (.int v)) : va_E) = .inr (0, hf a (upd g 41 v))
    unfold hf
    rw [up_n (show 0 ≠ 41 by decide), up_s, up_n (show 296 ≠ 41 by decide), up_n (show 302 ≠ 41 by decide), up_n (show 303 ≠ 41 by decide), up_n (show 304 ≠ 41 by decide), up_n (show 305 ≠ 41 by decide), up_n (show 306 ≠ 41 by decide), up_n (show 307 ≠ 41 by decide), up_n (show 308 ≠ 41 by decide)]
    rfl)
theorem hs_f8 {E : EE} {a : Nat → Nat} {g : Nat → Int32} {v : Int32} : (hs E a g).set 0 (a 0, .inr (0, (hf a g).set 8 (.int v))) = hs E a (upd g 296 v) := hs_put (by decide)
  (fun k hk hq => match k, hk, hq with
    | 0, _, hq => by show ¬ (296 = 0 ∨ 296 = 41 ∨ 296 = 296 ∨ 302 ≤ 296); omega
    | 2, _, _ => fun h => h
    | 1, _, hq => by show ¬ (1 ≤ 296 ∧ 296 < 1 + 4); omega
    | 3, _, hq => by show ¬ (5 ≤ 296 ∧ 296 < 5 + 12); omega
    | 4, _, hq => by show ¬ (17 ≤ 296 ∧ 296 < 17 + 12); omega
    | 5, _, hq => by show ¬ (29 ≤ 296 ∧ 296 < 29 + 12); omega
    | 6, _, hq => by show ¬ (292 ≤ 296 ∧ 296 < 292 + 4); omega
    | 7, _, hq => by show ¬ (297 ≤ 296 ∧ 296 < 297 + 5); omega
    | k + 8, hk, _ => absurd hk (by omega))
  (fun r0 j0 hr0 hj0 hq0 => match r0, j0, hr0, hj0, hq0 with
    | r', 0, hr', _, hq => by show ¬ (296 = 42 + r' ∨ 296 = 47 + r' ∨ (262 + 6 * r' ≤ 296 ∧ 296 < 262 + 6 * r' + 6)); omega
    | r', 1, hr', _, hq => by show ¬ (82 + 12 * r' ≤ 296 ∧ 296 < 82 + 12 * r' + 12); omega
    | r', 2, hr', _, hq => by show ¬ (142 + 12 * r' ≤ 296 ∧ 296 < 142 + 12 * r' + 12); omega
    | r', 3, hr', _, hq => by show ¬ (202 + 12 * r' ≤ 296 ∧ 296 < 202 + 12 * r' + 12); omega
    | r', 4, hr', _, hq => by show ¬ (52 + 3 * r' ≤ 296 ∧ 296 < 52 + 3 * r' + 3); omega
    | r', 5, hr', _, hq => by show ¬ (67 + 3 * r' ≤ 296 ∧ 296 < 67 + 3 * r' + 3); omega
    | _, j + 6, _, hj, _ => absurd hj (by omega))
  (by
    rw [hc_lo (by decide)]
    show (.inr (0, (hf a g).set 8 (.int v)) : va_E) = .inr (0, hf a (upd g 296 v))
    unfold hf
    rw [up_n (show 0 ≠ 296 by decide), up_n (show 41 ≠ 296 by decide), up_s, up_n (show 302 ≠ 296 by decide), up_n (show 303 ≠ 296 by decide), up_n (show 304 ≠ 296 by decide), up_n (show 305 ≠ 296 by decide), up_n (show 306 ≠ 296 by decide), up_n (show 307 ≠ 296 by decide), up_n (show 308 ≠ 296 by decide)]
    rfl)
theorem hs_f10 {E : EE} {a : Nat → Nat} {g : Nat → Int32} {v : Int32} : (hs E a g).set 0 (a 0, .inr (0, (hf a g).set 10 (.int v))) = hs E a (upd g 302 v) := hs_put (by decide)
  (fun k hk hq => match k, hk, hq with
    | 0, _, hq => by show ¬ (302 = 0 ∨ 302 = 41 ∨ 302 = 296 ∨ 302 ≤ 302); omega
    | 2, _, _ => fun h => h
    | 1, _, hq => by show ¬ (1 ≤ 302 ∧ 302 < 1 + 4); omega
    | 3, _, hq => by show ¬ (5 ≤ 302 ∧ 302 < 5 + 12); omega
    | 4, _, hq => by show ¬ (17 ≤ 302 ∧ 302 < 17 + 12); omega
    | 5, _, hq => by show ¬ (29 ≤ 302 ∧ 302 < 29 + 12); omega
    | 6, _, hq => by show ¬ (292 ≤ 302 ∧ 302 < 292 + 4); omega
    | 7, _, hq => by show ¬ (297 ≤ 302 ∧ 302 < 297 + 5); omega
    | k + 8, hk, _ => absurd hk (by omega))
  (fun r0 j0 hr0 hj0 hq0 => match r0, j0, hr0, hj0, hq0 with
    | r', 0, hr', _, hq => by show ¬ (302 = 42 + r' ∨ 302 = 47 + r' ∨ (262 + 6 * r' ≤ 302 ∧ 302 < 262 + 6 * r' + 6)); omega
    | r', 1, hr', _, hq => by show ¬ (82 + 12 * r' ≤ 302 ∧ 302 < 82 + 12 * r' + 12); omega
    | r', 2, hr', _, hq => by show ¬ (142 + 12 * r' ≤ 302 ∧ 302 < 142 + 12 * r' + 12); omega
    | r', 3, hr', _, hq => by show ¬ (202 + 12 * r' ≤ 302 ∧ 302 < 202 + 12 * r' + 12); omega
    | r', 4, hr', _, hq => by show ¬ (52 + 3 * r' ≤ 302 ∧ 302 < 52 + 3 * r' + 3); omega
    | r', 5, hr', _, hq => by show ¬ (67 + 3 * r' ≤ 302 ∧ 302 < 67 + 3 * r' + 3); omega
    | _, j + 6, _, hj, _ => absurd hj (by omega))
  (by
    rw [hc_lo (by decide)]
    show (.inr (0, (hf a g).set 10 (.int v)) : va_E) = .inr (0, hf a (upd g 302 v))
    unfold hf
    rw [up_n (show 0 ≠ 302 by decide), up_n (show 41 ≠ 302 by decide), up_n (show 296 ≠ 302 by decide), up_s, up_n (show 303 ≠ 302 by decide), up_n (show 304 ≠ 302 by decide), up_n (show 305 ≠ 302 by decide), up_n (show 306 ≠ 302 by decide), up_n (show 307 ≠ 302 by decide), up_n (show 308 ≠ 302 by decide)]
    rfl)
theorem hs_f11 {E : EE} {a : Nat → Nat} {g : Nat → Int32} {v : Int32} : (hs E a g).set 0 (a 0, .inr (0, (hf a g).set 11 (.int v))) = hs E a (upd g 303 v) := hs_put (by decide)
  (fun k hk hq => match k, hk, hq with
    | 0, _, hq => by show ¬ (303 = 0 ∨ 303 = 41 ∨ 303 = 296 ∨ 302 ≤ 303); omega
    | 2, _, _ => fun h => h
    | 1, _, hq => by show ¬ (1 ≤ 303 ∧ 303 < 1 + 4); omega
    | 3, _, hq => by show ¬ (5 ≤ 303 ∧ 303 < 5 + 12); omega
    | 4, _, hq => by show ¬ (17 ≤ 303 ∧ 303 < 17 + 12); omega
    | 5, _, hq => by show ¬ (29 ≤ 303 ∧ 303 < 29 + 12); omega
    | 6, _, hq => by show ¬ (292 ≤ 303 ∧ 303 < 292 + 4); omega
    | 7, _, hq => by show ¬ (297 ≤ 303 ∧ 303 < 297 + 5); omega
    | k + 8, hk, _ => absurd hk (by omega))
  (fun r0 j0 hr0 hj0 hq0 => match r0, j0, hr0, hj0, hq0 with
    | r', 0, hr', _, hq => by show ¬ (303 = 42 + r' ∨ 303 = 47 + r' ∨ (262 + 6 * r' ≤ 303 ∧ 303 < 262 + 6 * r' + 6)); omega
    | r', 1, hr', _, hq => by show ¬ (82 + 12 * r' ≤ 303 ∧ 303 < 82 + 12 * r' + 12); omega
    | r', 2, hr', _, hq => by show ¬ (142 + 12 * r' ≤ 303 ∧ 303 < 142 + 12 * r' + 12); omega
    | r', 3, hr', _, hq => by show ¬ (202 + 12 * r' ≤ 303 ∧ 303 < 202 + 12 * r' + 12); omega
    | r', 4, hr', _, hq => by show ¬ (52 + 3 * r' ≤ 303 ∧ 303 < 52 + 3 * r' + 3); omega
    | r', 5, hr', _, hq => by show ¬ (67 + 3 * r' ≤ 303 ∧ 303 < 67 + 3 * r' + 3); omega
    | _, j + 6, _, hj, _ => absurd hj (by omega))
  (by
    rw [hc_lo (by decide)]
    show (.inr (0, (hf a g).set 11 (.int v)) : va_E) = .inr (0, hf a (upd g 303 v))
    unfold hf
    rw [up_n (show 0 ≠ 303 by decide), up_n (show 41 ≠ 303 by decide), up_n (show 296 ≠ 303 by decide), up_n (show 302 ≠ 303 by decide), up_s, up_n (show 304 ≠ 303 by decide), up_n (show 305 ≠ 303 by decide), up_n (show 306 ≠ 303 by decide), up_n (show 307 ≠ 303 by decide), up_n (show 308 ≠ 303 by decide)]
    rfl)
theorem hs_f12 {E : EE} {a : Nat → Nat} {g : Nat → Int32} {v : Int32} : (hs E a g).set 0 (a 0, .inr (0, (hf a g).set 12 (.int v))) = hs E a (upd g 304 v) := hs_put (by decide)
  (fun k hk hq => match k, hk, hq with
    | 0, _, hq => by show ¬ (304 = 0 ∨ 304 = 41 ∨ 304 = 296 ∨ 302 ≤ 304); omega
    | 2, _, _ => fun h => h
    | 1, _, hq => by show ¬ (1 ≤ 304 ∧ 304 < 1 + 4); omega
    | 3, _, hq => by show ¬ (5 ≤ 304 ∧ 304 < 5 + 12); omega
    | 4, _, hq => by show ¬ (17 ≤ 304 ∧ 304 < 17 + 12); omega
    | 5, _, hq => by show ¬ (29 ≤ 304 ∧ 304 < 29 + 12); omega
    | 6, _, hq => by show ¬ (292 ≤ 304 ∧ 304 < 292 + 4); omega
    | 7, _, hq => by show ¬ (297 ≤ 304 ∧ 304 < 297 + 5); omega
    | k + 8, hk, _ => absurd hk (by omega))
  (fun r0 j0 hr0 hj0 hq0 => match r0, j0, hr0, hj0, hq0 with
    | r', 0, hr', _, hq => by show ¬ (304 = 42 + r' ∨ 304 = 47 + r' ∨ (262 + 6 * r' ≤ 304 ∧ 304 < 262 + 6 * r' + 6)); omega
    | r', 1, hr', _, hq => by show ¬ (82 + 12 * r' ≤ 304 ∧ 304 < 82 + 12 * r' + 12); omega
    | r', 2, hr', _, hq => by show ¬ (142 + 12 * r' ≤ 304 ∧ 304 < 142 + 12 * r' + 12); omega
    | r', 3, hr', _, hq => by show ¬ (202 + 12 * r' ≤ 304 ∧ 304 < 202 + 12 * r' + 12); omega
    | r', 4, hr', _, hq => by show ¬ (52 + 3 * r' ≤ 304 ∧ 304 < 52 + 3 * r' + 3); omega
    | r', 5, hr', _, hq => by show ¬ (67 + 3 * r' ≤ 304 ∧ 304 < 67 + 3 * r' + 3); omega
    | _, j + 6, _, hj, _ => absurd hj (by omega))
  (by
    rw [hc_lo (by decide)]
    show (.inr (0, (hf a g).set 12 (.int v)) : va_E) = .inr (0, hf a (upd g 304 v))
    unfold hf
    rw [up_n (show 0 ≠ 304 by decide), up_n (show 41 ≠ 304 by decide), up_n (show 296 ≠ 304 by decide), up_n (show 302 ≠ 304 by decide), up_n (show 303 ≠ 304 by decide), up_s, up_n (show 305 ≠ 304 by decide), up_n (show 306 ≠ 304 by decide), up_n (show 307 ≠ 304 by decide), up_n (show 308 ≠ 304 by decide)]
    rfl)
theorem hs_f13 {E : EE} {a : Nat → Nat} {g : Nat → Int32} {v : Int32} : (hs E a g).set 0 (a 0, .inr (0, (hf a g).set 13 (.int v))) = hs E a (upd g 305 v) := hs_put (by decide)
  (fun k hk hq => match k, hk, hq with
    | 0, _, hq => by show ¬ (305 = 0 ∨ 305 = 41 ∨ 305 = 296 ∨ 302 ≤ 305); omega
    | 2, _, _ => fun h => h
    | 1, _, hq => by show ¬ (1 ≤ 305 ∧ 305 < 1 + 4); omega
    | 3, _, hq => by show ¬ (5 ≤ 305 ∧ 305 < 5 + 12); omega
    | 4, _, hq => by show ¬ (17 ≤ 305 ∧ 305 < 17 + 12); omega
    | 5, _, hq => by show ¬ (29 ≤ 305 ∧ 305 < 29 + 12); omega
    | 6, _, hq => by show ¬ (292 ≤ 305 ∧ 305 < 292 + 4); omega
    | 7, _, hq => by show ¬ (297 ≤ 305 ∧ 305 < 297 + 5); omega
    | k + 8, hk, _ => absurd hk (by omega))
  (fun r0 j0 hr0 hj0 hq0 => match r0, j0, hr0, hj0, hq0 with
    | r', 0, hr', _, hq => by show ¬ (305 = 42 + r' ∨ 305 = 47 + r' ∨ (262 + 6 * r' ≤ 305 ∧ 305 < 262 + 6 * r' + 6)); omega
    | r', 1, hr', _, hq => by show ¬ (82 + 12 * r' ≤ 305 ∧ 305 < 82 + 12 * r' + 12); omega
    | r', 2, hr', _, hq => by show ¬ (142 + 12 * r' ≤ 305 ∧ 305 < 142 + 12 * r' + 12); omega
    | r', 3, hr', _, hq => by show ¬ (202 + 12 * r' ≤ 305 ∧ 305 < 202 + 12 * r' + 12); omega
    | r', 4, hr', _, hq => by show ¬ (52 + 3 * r' ≤ 305 ∧ 305 < 52 + 3 * r' + 3); omega
    | r', 5, hr', _, hq => by show ¬ (67 + 3 * r' ≤ 305 ∧ 305 < 67 + 3 * r' + 3); omega
    | _, j + 6, _, hj, _ => absurd hj (by omega))
  (by
    rw [hc_lo (by decide)]
    show (.inr (0, (hf a g).set 13 (.int v)) : va_E) = .inr (0, hf a (upd g 305 v))
    unfold hf
    rw [up_n (show 0 ≠ 305 by decide), up_n (show 41 ≠ 305 by decide), up_n (show 296 ≠ 305 by decide), up_n (show 302 ≠ 305 by decide), up_n (show 303 ≠ 305 by decide), up_n (show 304 ≠ 305 by decide), up_s, up_n (show 306 ≠ 305 by decide), up_n (show 307 ≠ 305 by decide), up_n (show 308 ≠ 305 by decide)]
    rfl)
theorem hs_f14 {E : EE} {a : Nat → Nat} {g : Nat → Int32} {v : Int32} : (hs E a g).set 0 (a 0, .inr (0, (hf a g).set 14 (.int v))) = hs E a (upd g 306 v) := hs_put (by decide)
  (fun k hk hq => match k, hk, hq with
    | 0, _, hq => by show ¬ (306 = 0 ∨ 306 = 41 ∨ 306 = 296 ∨ 302 ≤ 306); omega
    | 2, _, _ => fun h => h
    | 1, _, hq => by show ¬ (1 ≤ 306 ∧ 306 < 1 + 4); omega
    | 3, _, hq => by show ¬ (5 ≤ 306 ∧ 306 < 5 + 12); omega
    | 4, _, hq => by show ¬ (17 ≤ 306 ∧ 306 < 17 + 12); omega
    | 5, _, hq => by show ¬ (29 ≤ 306 ∧ 306 < 29 + 12); omega
    | 6, _, hq => by show ¬ (292 ≤ 306 ∧ 306 < 292 + 4); omega
    | 7, _, hq => by show ¬ (297 ≤ 306 ∧ 306 < 297 + 5); omega
    | k + 8, hk, _ => absurd hk (by omega))
  (fun r0 j0 hr0 hj0 hq0 => match r0, j0, hr0, hj0, hq0 with
    | r', 0, hr', _, hq => by show ¬ (306 = 42 + r' ∨ 306 = 47 + r' ∨ (262 + 6 * r' ≤ 306 ∧ 306 < 262 + 6 * r' + 6)); omega
    | r', 1, hr', _, hq => by show ¬ (82 + 12 * r' ≤ 306 ∧ 306 < 82 + 12 * r' + 12); omega
    | r', 2, hr', _, hq => by show ¬ (142 + 12 * r' ≤ 306 ∧ 306 < 142 + 12 * r' + 12); omega
    | r', 3, hr', _, hq => by show ¬ (202 + 12 * r' ≤ 306 ∧ 306 < 202 + 12 * r' + 12); omega
    | r', 4, hr', _, hq => by show ¬ (52 + 3 * r' ≤ 306 ∧ 306 < 52 + 3 * r' + 3); omega
    | r', 5, hr', _, hq => by show ¬ (67 + 3 * r' ≤ 306 ∧ 306 < 67 + 3 * r' + 3); omega
    | _, j + 6, _, hj, _ => absurd hj (by omega))
  (by
    rw [hc_lo (by decide)]
    show (.inr (0, (hf a g).set 14 (.int v)) : va_E) = .inr (0, hf a (upd g 306 v))
    unfold hf
    rw [up_n (show 0 ≠ 306 by decide), up_n (show 41 ≠ 306 by decide), up_n (show 296 ≠ 306 by decide), up_n (show 302 ≠ 306 by decide), up_n (show 303 ≠ 306 by decide), up_n (show 304 ≠ 306 by decide), up_n (show 305 ≠ 306 by decide), up_s, up_n (show 307 ≠ 306 by decide), up_n (show 308 ≠ 306 by decide)]
    rfl)
theorem hs_f15 {E : EE} {a : Nat → Nat} {g : Nat → Int32} {v : Int32} : (hs E a g).set 0 (a 0, .inr (0, (hf a g).set 15 (.int v))) = hs E a (upd g 307 v) := hs_put (by decide)
  (fun k hk hq => match k, hk, hq with
    | 0, _, hq => by show ¬ (307 = 0 ∨ 307 = 41 ∨ 307 = 296 ∨ 302 ≤ 307); omega
    | 2, _, _ => fun h => h
    | 1, _, hq => by show ¬ (1 ≤ 307 ∧ 307 < 1 + 4); omega
    | 3, _, hq => by show ¬ (5 ≤ 307 ∧ 307 < 5 + 12); omega
    | 4, _, hq => by show ¬ (17 ≤ 307 ∧ 307 < 17 + 12); omega
    | 5, _, hq => by show ¬ (29 ≤ 307 ∧ 307 < 29 + 12); omega
    | 6, _, hq => by show ¬ (292 ≤ 307 ∧ 307 < 292 + 4); omega
    | 7, _, hq => by show ¬ (297 ≤ 307 ∧ 307 < 297 + 5); omega
    | k + 8, hk, _ => absurd hk (by omega))
  (fun r0 j0 hr0 hj0 hq0 => match r0, j0, hr0, hj0, hq0 with
    | r', 0, hr', _, hq => by show ¬ (307 = 42 + r' ∨ 307 = 47 + r' ∨ (262 + 6 * r' ≤ 307 ∧ 307 < 262 + 6 * r' + 6)); omega
    | r', 1, hr', _, hq => by show ¬ (82 + 12 * r' ≤ 307 ∧ 307 < 82 + 12 * r' + 12); omega
    | r', 2, hr', _, hq => by show ¬ (142 + 12 * r' ≤ 307 ∧ 307 < 142 + 12 * r' + 12); omega
    | r', 3, hr', _, hq => by show ¬ (202 + 12 * r' ≤ 307 ∧ 307 < 202 + 12 * r' + 12); omega
    | r', 4, hr', _, hq => by show ¬ (52 + 3 * r' ≤ 307 ∧ 307 < 52 + 3 * r' + 3); omega
    | r', 5, hr', _, hq => by show ¬ (67 + 3 * r' ≤ 307 ∧ 307 < 67 + 3 * r' + 3); omega
    | _, j + 6, _, hj, _ => absurd hj (by omega))
  (by
    rw [hc_lo (by decide)]
    show (.inr (0, (hf a g).set 15 (.int v)) : va_E) = .inr (0, hf a (upd g 307 v))
    unfold hf
    rw [up_n (show 0 ≠ 307 by decide), up_n (show 41 ≠ 307 by decide), up_n (show 296 ≠ 307 by decide), up_n (show 302 ≠ 307 by decide), up_n (show 303 ≠ 307 by decide), up_n (show 304 ≠ 307 by decide), up_n (show 305 ≠ 307 by decide), up_n (show 306 ≠ 307 by decide), up_s, up_n (show 308 ≠ 307 by decide)]
    rfl)
theorem hs_f16 {E : EE} {a : Nat → Nat} {g : Nat → Int32} {v : Int32} : (hs E a g).set 0 (a 0, .inr (0, (hf a g).set 16 (.int v))) = hs E a (upd g 308 v) := hs_put (by decide)
  (fun k hk hq => match k, hk, hq with
    | 0, _, hq => by show ¬ (308 = 0 ∨ 308 = 41 ∨ 308 = 296 ∨ 302 ≤ 308); omega
    | 2, _, _ => fun h => h
    | 1, _, hq => by show ¬ (1 ≤ 308 ∧ 308 < 1 + 4); omega
    | 3, _, hq => by show ¬ (5 ≤ 308 ∧ 308 < 5 + 12); omega
    | 4, _, hq => by show ¬ (17 ≤ 308 ∧ 308 < 17 + 12); omega
    | 5, _, hq => by show ¬ (29 ≤ 308 ∧ 308 < 29 + 12); omega
    | 6, _, hq => by show ¬ (292 ≤ 308 ∧ 308 < 292 + 4); omega
    | 7, _, hq => by show ¬ (297 ≤ 308 ∧ 308 < 297 + 5); omega
    | k + 8, hk, _ => absurd hk (by omega))
  (fun r0 j0 hr0 hj0 hq0 => match r0, j0, hr0, hj0, hq0 with
    | r', 0, hr', _, hq => by show ¬ (308 = 42 + r' ∨ 308 = 47 + r' ∨ (262 + 6 * r' ≤ 308 ∧ 308 < 262 + 6 * r' + 6)); omega
    | r', 1, hr', _, hq => by show ¬ (82 + 12 * r' ≤ 308 ∧ 308 < 82 + 12 * r' + 12); omega
    | r', 2, hr', _, hq => by show ¬ (142 + 12 * r' ≤ 308 ∧ 308 < 142 + 12 * r' + 12); omega
    | r', 3, hr', _, hq => by show ¬ (202 + 12 * r' ≤ 308 ∧ 308 < 202 + 12 * r' + 12); omega
    | r', 4, hr', _, hq => by show ¬ (52 + 3 * r' ≤ 308 ∧ 308 < 52 + 3 * r' + 3); omega
    | r', 5, hr', _, hq => by show ¬ (67 + 3 * r' ≤ 308 ∧ 308 < 67 + 3 * r' + 3); omega
    | _, j + 6, _, hj, _ => absurd hj (by omega))
  (by
    rw [hc_lo (by decide)]
    show (.inr (0, (hf a g).set 16 (.int v)) : va_E) = .inr (0, hf a (upd g 308 v))
    unfold hf
    rw [up_n (show 0 ≠ 308 by decide), up_n (show 41 ≠ 308 by decide), up_n (show 296 ≠ 308 by decide), up_n (show 302 ≠ 308 by decide), up_n (show 303 ≠ 308 by decide), up_n (show 304 ≠ 308 by decide), up_n (show 305 ≠ 308 by decide), up_n (show 306 ≠ 308 by decide), up_n (show 307 ≠ 308 by decide), up_s]
    rfl)
theorem hs_r0 {E : EE} {a : Nat → Nat} {g : Nat → Int32} {r : Nat} {v : Int32} (hr : r < 5) : (hs E a g).set (8 + 6 * r) (a (8 + 6 * r), .inr (1, (rf a g r).set 0 (.int v))) = hs E a (upd g (42 + r) v) := hs_put (by omega)
  (fun k hk hq => match k, hk, hq with
    | 0, _, hq => by show ¬ (42 + r = 0 ∨ 42 + r = 41 ∨ 42 + r = 296 ∨ 302 ≤ 42 + r); omega
    | 2, _, _ => fun h => h
    | 1, _, hq => by show ¬ (1 ≤ 42 + r ∧ 42 + r < 1 + 4); omega
    | 3, _, hq => by show ¬ (5 ≤ 42 + r ∧ 42 + r < 5 + 12); omega
    | 4, _, hq => by show ¬ (17 ≤ 42 + r ∧ 42 + r < 17 + 12); omega
    | 5, _, hq => by show ¬ (29 ≤ 42 + r ∧ 42 + r < 29 + 12); omega
    | 6, _, hq => by show ¬ (292 ≤ 42 + r ∧ 42 + r < 292 + 4); omega
    | 7, _, hq => by show ¬ (297 ≤ 42 + r ∧ 42 + r < 297 + 5); omega
    | k + 8, hk, _ => absurd hk (by omega))
  (fun r0 j0 hr0 hj0 hq0 => match r0, j0, hr0, hj0, hq0 with
    | r', 0, hr', _, hq => by show ¬ (42 + r = 42 + r' ∨ 42 + r = 47 + r' ∨ (262 + 6 * r' ≤ 42 + r ∧ 42 + r < 262 + 6 * r' + 6)); omega
    | r', 1, hr', _, hq => by show ¬ (82 + 12 * r' ≤ 42 + r ∧ 42 + r < 82 + 12 * r' + 12); omega
    | r', 2, hr', _, hq => by show ¬ (142 + 12 * r' ≤ 42 + r ∧ 42 + r < 142 + 12 * r' + 12); omega
    | r', 3, hr', _, hq => by show ¬ (202 + 12 * r' ≤ 42 + r ∧ 42 + r < 202 + 12 * r' + 12); omega
    | r', 4, hr', _, hq => by show ¬ (52 + 3 * r' ≤ 42 + r ∧ 42 + r < 52 + 3 * r' + 3); omega
    | r', 5, hr', _, hq => by show ¬ (67 + 3 * r' ≤ 42 + r ∧ 42 + r < 67 + 3 * r' + 3); omega
    | _, j + 6, _, hj, _ => absurd hj (by omega))
  (by
    rw [show hc E a (upd g (42 + r) v) (8 + 6 * r) = hc1 E a (upd g (42 + r) v) r 0 from hc_hi (j := 0) (by decide)]
    show (.inr (1, (rf a g r).set 0 (.int v)) : va_E) = .inr (1, rf a (upd g (42 + r) v) r)
    unfold rf
    rw [up_s, up_n (show 47 + r ≠ 42 + r by omega), up_n (show 262 + 6 * r + 0 ≠ 42 + r by omega), up_n (show 262 + 6 * r + 1 ≠ 42 + r by omega), up_n (show 262 + 6 * r + 2 ≠ 42 + r by omega), up_n (show 262 + 6 * r + 3 ≠ 42 + r by omega), up_n (show 262 + 6 * r + 4 ≠ 42 + r by omega), up_n (show 262 + 6 * r + 5 ≠ 42 + r by omega)]
    rfl)
theorem hs_r1 {E : EE} {a : Nat → Nat} {g : Nat → Int32} {r : Nat} {v : Int32} (hr : r < 5) : (hs E a g).set (8 + 6 * r) (a (8 + 6 * r), .inr (1, (rf a g r).set 1 (.int v))) = hs E a (upd g (47 + r) v) := hs_put (by omega)
  (fun k hk hq => match k, hk, hq with
    | 0, _, hq => by show ¬ (47 + r = 0 ∨ 47 + r = 41 ∨ 47 + r = 296 ∨ 302 ≤ 47 + r); omega
    | 2, _, _ => fun h => h
    | 1, _, hq => by show ¬ (1 ≤ 47 + r ∧ 47 + r < 1 + 4); omega
    | 3, _, hq => by show ¬ (5 ≤ 47 + r ∧ 47 + r < 5 + 12); omega
    | 4, _, hq => by show ¬ (17 ≤ 47 + r ∧ 47 + r < 17 + 12); omega
    | 5, _, hq => by show ¬ (29 ≤ 47 + r ∧ 47 + r < 29 + 12); omega
    | 6, _, hq => by show ¬ (292 ≤ 47 + r ∧ 47 + r < 292 + 4); omega
    | 7, _, hq => by show ¬ (297 ≤ 47 + r ∧ 47 + r < 297 + 5); omega
    | k + 8, hk, _ => absurd hk (by omega))
  (fun r0 j0 hr0 hj0 hq0 => match r0, j0, hr0, hj0, hq0 with
    | r', 0, hr', _, hq => by show ¬ (47 + r = 42 + r' ∨ 47 + r = 47 + r' ∨ (262 + 6 * r' ≤ 47 + r ∧ 47 + r < 262 + 6 * r' + 6)); omega
    | r', 1, hr', _, hq => by show ¬ (82 + 12 * r' ≤ 47 + r ∧ 47 + r < 82 + 12 * r' + 12); omega
    | r', 2, hr', _, hq => by show ¬ (142 + 12 * r' ≤ 47 + r ∧ 47 + r < 142 + 12 * r' + 12); omega
    | r', 3, hr', _, hq => by show ¬ (202 + 12 * r' ≤ 47 + r ∧ 47 + r < 202 + 12 * r' + 12); omega
    | r', 4, hr', _, hq => by show ¬ (52 + 3 * r' ≤ 47 + r ∧ 47 + r < 52 + 3 * r' + 3); omega
    | r', 5, hr', _, hq => by show ¬ (67 + 3 * r' ≤ 47 + r ∧ 47 + r < 67 + 3 * r' + 3); omega
    | _, j + 6, _, hj, _ => absurd hj (by omega))
  (by
    rw [show hc E a (upd g (47 + r) v) (8 + 6 * r) = hc1 E a (upd g (47 + r) v) r 0 from hc_hi (j := 0) (by decide)]
    show (.inr (1, (rf a g r).set 1 (.int v)) : va_E) = .inr (1, rf a (upd g (47 + r) v) r)
    unfold rf
    rw [up_n (show 42 + r ≠ 47 + r by omega), up_s, up_n (show 262 + 6 * r + 0 ≠ 47 + r by omega), up_n (show 262 + 6 * r + 1 ≠ 47 + r by omega), up_n (show 262 + 6 * r + 2 ≠ 47 + r by omega), up_n (show 262 + 6 * r + 3 ≠ 47 + r by omega), up_n (show 262 + 6 * r + 4 ≠ 47 + r by omega), up_n (show 262 + 6 * r + 5 ≠ 47 + r by omega)]
    rfl)
theorem hs_r7 {E : EE} {a : Nat → Nat} {g : Nat → Int32} {r : Nat} {v : Int32} (hr : r < 5) : (hs E a g).set (8 + 6 * r) (a (8 + 6 * r), .inr (1, (rf a g r).set 7 (.int v))) = hs E a (upd g (262 + 6 * r + 0) v) := hs_put (by omega)
  (fun k hk hq => match k, hk, hq with
    | 0, _, hq => by show ¬ (262 + 6 * r + 0 = 0 ∨ 262 + 6 * r + 0 = 41 ∨ 262 + 6 * r + 0 = 296 ∨ 302 ≤ 262 + 6 * r + 0); omega
    | 2, _, _ => fun h => h
    | 1, _, hq => by show ¬ (1 ≤ 262 + 6 * r + 0 ∧ 262 + 6 * r + 0 < 1 + 4); omega
    | 3, _, hq => by show ¬ (5 ≤ 262 + 6 * r + 0 ∧ 262 + 6 * r + 0 < 5 + 12); omega
    | 4, _, hq => by show ¬ (17 ≤ 262 + 6 * r + 0 ∧ 262 + 6 * r + 0 < 17 + 12); omega
    | 5, _, hq => by show ¬ (29 ≤ 262 + 6 * r + 0 ∧ 262 + 6 * r + 0 < 29 + 12); omega
    | 6, _, hq => by show ¬ (292 ≤ 262 + 6 * r + 0 ∧ 262 + 6 * r + 0 < 292 + 4); omega
    | 7, _, hq => by show ¬ (297 ≤ 262 + 6 * r + 0 ∧ 262 + 6 * r + 0 < 297 + 5); omega
    | k + 8, hk, _ => absurd hk (by omega))
  (fun r0 j0 hr0 hj0 hq0 => match r0, j0, hr0, hj0, hq0 with
    | r', 0, hr', _, hq => by show ¬ (262 + 6 * r + 0 = 42 + r' ∨ 262 + 6 * r + 0 = 47 + r' ∨ (262 + 6 * r' ≤ 262 + 6 * r + 0 ∧ 262 + 6 * r + 0 < 262 + 6 * r' + 6)); omega
    | r', 1, hr', _, hq => by show ¬ (82 + 12 * r' ≤ 262 + 6 * r + 0 ∧ 262 + 6 * r + 0 < 82 + 12 * r' + 12); omega
    | r', 2, hr', _, hq => by show ¬ (142 + 12 * r' ≤ 262 + 6 * r + 0 ∧ 262 + 6 * r + 0 < 142 + 12 * r' + 12); omega
    | r', 3, hr', _, hq => by show ¬ (202 + 12 * r' ≤ 262 + 6 * r + 0 ∧ 262 + 6 * r + 0 < 202 + 12 * r' + 12); omega
    | r', 4, hr', _, hq => by show ¬ (52 + 3 * r' ≤ 262 + 6 * r + 0 ∧ 262 + 6 * r + 0 < 52 + 3 * r' + 3); omega
    | r', 5, hr', _, hq => by show ¬ (67 + 3 * r' ≤ 262 + 6 * r + 0 ∧ 262 + 6 * r + 0 < 67 + 3 * r' + 3); omega
    | _, j + 6, _, hj, _ => absurd hj (by omega))
  (by
    rw [show hc E a (upd g (262 + 6 * r + 0) v) (8 + 6 * r) = hc1 E a (upd g (262 + 6 * r + 0) v) r 0 from hc_hi (j := 0) (by decide)]
    show (.inr (1, (rf a g r).set 7 (.int v)) : va_E) = .inr (1, rf a (upd g (262 + 6 * r + 0) v) r)
    unfold rf
    rw [up_n (show 42 + r ≠ 262 + 6 * r + 0 by omega), up_n (show 47 + r ≠ 262 + 6 * r + 0 by omega), up_s, up_n (show 262 + 6 * r + 1 ≠ 262 + 6 * r + 0 by omega), up_n (show 262 + 6 * r + 2 ≠ 262 + 6 * r + 0 by omega), up_n (show 262 + 6 * r + 3 ≠ 262 + 6 * r + 0 by omega), up_n (show 262 + 6 * r + 4 ≠ 262 + 6 * r + 0 by omega), up_n (show 262 + 6 * r + 5 ≠ 262 + 6 * r + 0 by omega)]
    rfl)
theorem hs_r8 {E : EE} {a : Nat → Nat} {g : Nat → Int32} {r : Nat} {v : Int32} (hr : r < 5) : (hs E a g).set (8 + 6 * r) (a (8 + 6 * r), .inr (1, (rf a g r).set 8 (.int v))) = hs E a (upd g (262 + 6 * r + 1) v) := hs_put (by omega)
  (fun k hk hq => match k, hk, hq with
    | 0, _, hq => by show ¬ (262 + 6 * r + 1 = 0 ∨ 262 + 6 * r + 1 = 41 ∨ 262 + 6 * r + 1 = 296 ∨ 302 ≤ 262 + 6 * r + 1); omega
    | 2, _, _ => fun h => h
    | 1, _, hq => by show ¬ (1 ≤ 262 + 6 * r + 1 ∧ 262 + 6 * r + 1 < 1 + 4); omega
    | 3, _, hq => by show ¬ (5 ≤ 262 + 6 * r + 1 ∧ 262 + 6 * r + 1 < 5 + 12); omega
    | 4, _, hq => by show ¬ (17 ≤ 262 + 6 * r + 1 ∧ 262 + 6 * r + 1 < 17 + 12); omega
    | 5, _, hq => by show ¬ (29 ≤ 262 + 6 * r + 1 ∧ 262 + 6 * r + 1 < 29 + 12); omega
    | 6, _, hq => by show ¬ (292 ≤ 262 + 6 * r + 1 ∧ 262 + 6 * r + 1 < 292 + 4); omega
    | 7, _, hq => by show ¬ (297 ≤ 262 + 6 * r + 1 ∧ 262 + 6 * r + 1 < 297 + 5); omega
    | k + 8, hk, _ => absurd hk (by omega))
  (fun r0 j0 hr0 hj0 hq0 => match r0, j0, hr0, hj0, hq0 with
    | r', 0, hr', _, hq => by show ¬ (262 + 6 * r + 1 = 42 + r' ∨ 262 + 6 * r + 1 = 47 + r' ∨ (262 + 6 * r' ≤ 262 + 6 * r + 1 ∧ 262 + 6 * r + 1 < 262 + 6 * r' + 6)); omega
    | r', 1, hr', _, hq => by show ¬ (82 + 12 * r' ≤ 262 + 6 * r + 1 ∧ 262 + 6 * r + 1 < 82 + 12 * r' + 12); omega
    | r', 2, hr', _, hq => by show ¬ (142 + 12 * r' ≤ 262 + 6 * r + 1 ∧ 262 + 6 * r + 1 < 142 + 12 * r' + 12); omega
    | r', 3, hr', _, hq => by show ¬ (202 + 12 * r' ≤ 262 + 6 * r + 1 ∧ 262 + 6 * r + 1 < 202 + 12 * r' + 12); omega
    | r', 4, hr', _, hq => by show ¬ (52 + 3 * r' ≤ 262 + 6 * r + 1 ∧ 262 + 6 * r + 1 < 52 + 3 * r' + 3); omega
    | r', 5, hr', _, hq => by show ¬ (67 + 3 * r' ≤ 262 + 6 * r + 1 ∧ 262 + 6 * r + 1 < 67 + 3 * r' + 3); omega
    | _, j + 6, _, hj, _ => absurd hj (by omega))
  (by
    rw [show hc E a (upd g (262 + 6 * r + 1) v) (8 + 6 * r) = hc1 E a (upd g (262 + 6 * r + 1) v) r 0 from hc_hi (j := 0) (by decide)]
    show (.inr (1, (rf a g r).set 8 (.int v)) : va_E) = .inr (1, rf a (upd g (262 + 6 * r + 1) v) r)
    unfold rf
    rw [up_n (show 42 + r ≠ 262 + 6 * r + 1 by omega), up_n (show 47 + r ≠ 262 + 6 * r + 1 by omega), up_n (show 262 + 6 * r + 0 ≠ 262 + 6 * r + 1 by omega), up_s, up_n (show 262 + 6 * r + 2 ≠ 262 + 6 * r + 1 by omega), up_n (show 262 + 6 * r + 3 ≠ 262 + 6 * r + 1 by omega), up_n (show 262 + 6 * r + 4 ≠ 262 + 6 * r + 1 by omega), up_n (show 262 + 6 * r + 5 ≠ 262 + 6 * r + 1 by omega)]
    rfl)
theorem hs_r9 {E : EE} {a : Nat → Nat} {g : Nat → Int32} {r : Nat} {v : Int32} (hr : r < 5) : (hs E a g).set (8 + 6 * r) (a (8 + 6 * r), .inr (1, (rf a g r).set 9 (.int v))) = hs E a (upd g (262 + 6 * r + 2) v) := hs_put (by omega)
  (fun k hk hq => match k, hk, hq with
    | 0, _, hq => by show ¬ (262 + 6 * r + 2 = 0 ∨ 262 + 6 * r + 2 = 41 ∨ 262 + 6 * r + 2 = 296 ∨ 302 ≤ 262 + 6 * r + 2); omega
    | 2, _, _ => fun h => h
    | 1, _, hq => by show ¬ (1 ≤ 262 + 6 * r + 2 ∧ 262 + 6 * r + 2 < 1 + 4); omega
    | 3, _, hq => by show ¬ (5 ≤ 262 + 6 * r + 2 ∧ 262 + 6 * r + 2 < 5 + 12); omega
    | 4, _, hq => by show ¬ (17 ≤ 262 + 6 * r + 2 ∧ 262 + 6 * r + 2 < 17 + 12); omega
    | 5, _, hq => by show ¬ (29 ≤ 262 + 6 * r + 2 ∧ 262 + 6 * r + 2 < 29 + 12); omega
    | 6, _, hq => by show ¬ (292 ≤ 262 + 6 * r + 2 ∧ 262 + 6 * r + 2 < 292 + 4); omega
    | 7, _, hq => by show ¬ (297 ≤ 262 + 6 * r + 2 ∧ 262 + 6 * r + 2 < 297 + 5); omega
    | k + 8, hk, _ => absurd hk (by omega))
  (fun r0 j0 hr0 hj0 hq0 => match r0, j0, hr0, hj0, hq0 with
    | r', 0, hr', _, hq => by show ¬ (262 + 6 * r + 2 = 42 + r' ∨ 262 + 6 * r + 2 = 47 + r' ∨ (262 + 6 * r' ≤ 262 + 6 * r + 2 ∧ 262 + 6 * r + 2 < 262 + 6 * r' + 6)); omega
    | r', 1, hr', _, hq => by show ¬ (82 + 12 * r' ≤ 262 + 6 * r + 2 ∧ 262 + 6 * r + 2 < 82 + 12 * r' + 12); omega
    | r', 2, hr', _, hq => by show ¬ (142 + 12 * r' ≤ 262 + 6 * r + 2 ∧ 262 + 6 * r + 2 < 142 + 12 * r' + 12); omega
    | r', 3, hr', _, hq => by show ¬ (202 + 12 * r' ≤ 262 + 6 * r + 2 ∧ 262 + 6 * r + 2 < 202 + 12 * r' + 12); omega
    | r', 4, hr', _, hq => by show ¬ (52 + 3 * r' ≤ 262 + 6 * r + 2 ∧ 262 + 6 * r + 2 < 52 + 3 * r' + 3); omega
    | r', 5, hr', _, hq => by show ¬ (67 + 3 * r' ≤ 262 + 6 * r + 2 ∧ 262 + 6 * r + 2 < 67 + 3 * r' + 3); omega
    | _, j + 6, _, hj, _ => absurd hj (by omega))
  (by
    rw [show hc E a (upd g (262 + 6 * r + 2) v) (8 + 6 * r) = hc1 E a (upd g (262 + 6 * r + 2) v) r 0 from hc_hi (j := 0) (by decide)]
    show (.inr (1, (rf a g r).set 9 (.int v)) : va_E) = .inr (1, rf a (upd g (262 + 6 * r + 2) v) r)
    unfold rf
    rw [up_n (show 42 + r ≠ 262 + 6 * r + 2 by omega), up_n (show 47 + r ≠ 262 + 6 * r + 2 by omega), up_n (show 262 + 6 * r + 0 ≠ 262 + 6 * r + 2 by omega), up_n (show 262 + 6 * r + 1 ≠ 262 + 6 * r + 2 by omega), up_s, up_n (show 262 + 6 * r + 3 ≠ 262 + 6 * r + 2 by omega), up_n (show 262 + 6 * r + 4 ≠ 262 + 6 * r + 2 by omega), up_n (show 262 + 6 * r + 5 ≠ 262 + 6 * r + 2 by omega)]
    rfl)
theorem hs_r10 {E : EE} {a : Nat → Nat} {g : Nat → Int32} {r : Nat} {v : Int32} (hr : r < 5) : (hs E a g).set (8 + 6 * r) (a (8 + 6 * r), .inr (1, (rf a g r).set 10 (.int v))) = hs E a (upd g (262 + 6 * r + 3) v) := hs_put (by omega)
  (fun k hk hq => match k, hk, hq with
    | 0, _, hq => by show ¬ (262 + 6 * r + 3 = 0 ∨ 262 + 6 * r + 3 = 41 ∨ 262 + 6 * r + 3 = 296 ∨ 302 ≤ 262 + 6 * r + 3); omega
    | 2, _, _ => fun h => h
    | 1, _, hq => by show ¬ (1 ≤ 262 + 6 * r + 3 ∧ 262 + 6 * r + 3 < 1 + 4); omega
    | 3, _, hq => by show ¬ (5 ≤ 262 + 6 * r + 3 ∧ 262 + 6 * r + 3 < 5 + 12); omega
    | 4, _, hq => by show ¬ (17 ≤ 262 + 6 * r + 3 ∧ 262 + 6 * r + 3 < 17 + 12); omega
    | 5, _, hq => by show ¬ (29 ≤ 262 + 6 * r + 3 ∧ 262 + 6 * r + 3 < 29 + 12); omega
    | 6, _, hq => by show ¬ (292 ≤ 262 + 6 * r + 3 ∧ 262 + 6 * r + 3 < 292 + 4); omega
    | 7, _, hq => by show ¬ (297 ≤ 262 + 6 * r + 3 ∧ 262 + 6 * r + 3 < 297 + 5); omega
    | k + 8, hk, _ => absurd hk (by omega))
  (fun r0 j0 hr0 hj0 hq0 => match r0, j0, hr0, hj0, hq0 with
    | r', 0, hr', _, hq => by show ¬ (262 + 6 * r + 3 = 42 + r' ∨ 262 + 6 * r + 3 = 47 + r' ∨ (262 + 6 * r' ≤ 262 + 6 * r + 3 ∧ 262 + 6 * r + 3 < 262 + 6 * r' + 6)); omega
    | r', 1, hr', _, hq => by show ¬ (82 + 12 * r' ≤ 262 + 6 * r + 3 ∧ 262 + 6 * r + 3 < 82 + 12 * r' + 12); omega
    | r', 2, hr', _, hq => by show ¬ (142 + 12 * r' ≤ 262 + 6 * r + 3 ∧ 262 + 6 * r + 3 < 142 + 12 * r' + 12); omega
    | r', 3, hr', _, hq => by show ¬ (202 + 12 * r' ≤ 262 + 6 * r + 3 ∧ 262 + 6 * r + 3 < 202 + 12 * r' + 12); omega
    | r', 4, hr', _, hq => by show ¬ (52 + 3 * r' ≤ 262 + 6 * r + 3 ∧ 262 + 6 * r + 3 < 52 + 3 * r' + 3); omega
    | r', 5, hr', _, hq => by show ¬ (67 + 3 * r' ≤ 262 + 6 * r + 3 ∧ 262 + 6 * r + 3 < 67 + 3 * r' + 3); omega
    | _, j + 6, _, hj, _ => absurd hj (by omega))
  (by
    rw [show hc E a (upd g (262 + 6 * r + 3) v) (8 + 6 * r) = hc1 E a (upd g (262 + 6 * r + 3) v) r 0 from hc_hi (j := 0) (by decide)]
    show (.inr (1, (rf a g r).set 10 (.int v)) : va_E) = .inr (1, rf a (upd g (262 + 6 * r + 3) v) r)
    unfold rf
    rw [up_n (show 42 + r ≠ 262 + 6 * r + 3 by omega), up_n (show 47 + r ≠ 262 + 6 * r + 3 by omega), up_n (show 262 + 6 * r + 0 ≠ 262 + 6 * r + 3 by omega), up_n (show 262 + 6 * r + 1 ≠ 262 + 6 * r + 3 by omega), up_n (show 262 + 6 * r + 2 ≠ 262 + 6 * r + 3 by omega), up_s, up_n (show 262 + 6 * r + 4 ≠ 262 + 6 * r + 3 by omega), up_n (show 262 + 6 * r + 5 ≠ 262 + 6 * r + 3 by omega)]
    rfl)
theorem hs_r11 {E : EE} {a : Nat → Nat} {g : Nat → Int32} {r : Nat} {v : Int32} (hr : r < 5) : (hs E a g).set (8 + 6 * r) (a (8 + 6 * r), .inr (1, (rf a g r).set 11 (.int v))) = hs E a (upd g (262 + 6 * r + 4) v) := hs_put (by omega)
  (fun k hk hq => match k, hk, hq with
    | 0, _, hq => by show ¬ (262 + 6 * r + 4 = 0 ∨ 262 + 6 * r + 4 = 41 ∨ 262 + 6 * r + 4 = 296 ∨ 302 ≤ 262 + 6 * r + 4); omega
    | 2, _, _ => fun h => h
    | 1, _, hq => by show ¬ (1 ≤ 262 + 6 * r + 4 ∧ 262 + 6 * r + 4 < 1 + 4); omega
    | 3, _, hq => by show ¬ (5 ≤ 262 + 6 * r + 4 ∧ 262 + 6 * r + 4 < 5 + 12); omega
    | 4, _, hq => by show ¬ (17 ≤ 262 + 6 * r + 4 ∧ 262 + 6 * r + 4 < 17 + 12); omega
    | 5, _, hq => by show ¬ (29 ≤ 262 + 6 * r + 4 ∧ 262 + 6 * r + 4 < 29 + 12); omega
    | 6, _, hq => by show ¬ (292 ≤ 262 + 6 * r + 4 ∧ 262 + 6 * r + 4 < 292 + 4); omega
    | 7, _, hq => by show ¬ (297 ≤ 262 + 6 * r + 4 ∧ 262 + 6 * r + 4 < 297 + 5); omega
    | k + 8, hk, _ => absurd hk (by omega))
  (fun r0 j0 hr0 hj0 hq0 => match r0, j0, hr0, hj0, hq0 with
    | r', 0, hr', _, hq => by show ¬ (262 + 6 * r + 4 = 42 + r' ∨ 262 + 6 * r + 4 = 47 + r' ∨ (262 + 6 * r' ≤ 262 + 6 * r + 4 ∧ 262 + 6 * r + 4 < 262 + 6 * r' + 6)); omega
    | r', 1, hr', _, hq => by show ¬ (82 + 12 * r' ≤ 262 + 6 * r + 4 ∧ 262 + 6 * r + 4 < 82 + 12 * r' + 12); omega
    | r', 2, hr', _, hq => by show ¬ (142 + 12 * r' ≤ 262 + 6 * r + 4 ∧ 262 + 6 * r + 4 < 142 + 12 * r' + 12); omega
    | r', 3, hr', _, hq => by show ¬ (202 + 12 * r' ≤ 262 + 6 * r + 4 ∧ 262 + 6 * r + 4 < 202 + 12 * r' + 12); omega
    | r', 4, hr', _, hq => by show ¬ (52 + 3 * r' ≤ 262 + 6 * r + 4 ∧ 262 + 6 * r + 4 < 52 + 3 * r' + 3); omega
    | r', 5, hr', _, hq => by show ¬ (67 + 3 * r' ≤ 262 + 6 * r + 4 ∧ 262 + 6 * r + 4 < 67 + 3 * r' + 3); omega
    | _, j + 6, _, hj, _ => absurd hj (by omega))
  (by
    rw [show hc E a (upd g (262 + 6 * r + 4) v) (8 + 6 * r) = hc1 E a (upd g (262 + 6 * r + 4) v) r 0 from hc_hi (j := 0) (by decide)]
    show (.inr (1, (rf a g r).set 11 (.int v)) : va_E) = .inr (1, rf a (upd g (262 + 6 * r + 4) v) r)
    unfold rf
    rw [up_n (show 42 + r ≠ 262 + 6 * r + 4 by omega), up_n (show 47 + r ≠ 262 + 6 * r + 4 by omega), up_n (show 262 + 6 * r + 0 ≠ 262 + 6 * r + 4 by omega), up_n (show 262 + 6 * r + 1 ≠ 262 + 6 * r + 4 by omega), up_n (show 262 + 6 * r + 2 ≠ 262 + 6 * r + 4 by omega), up_n (show 262 + 6 * r + 3 ≠ 262 + 6 * r + 4 by omega), up_s, up_n (show 262 + 6 * r + 5 ≠ 262 + 6 * r + 4 by omega)]
    rfl)
theorem hs_r12 {E : EE} {a : Nat → Nat} {g : Nat → Int32} {r : Nat} {v : Int32} (hr : r < 5) : (hs E a g).set (8 + 6 * r) (a (8 + 6 * r), .inr (1, (rf a g r).set 12 (.int v))) = hs E a (upd g (262 + 6 * r + 5) v) := hs_put (by omega)
  (fun k hk hq => match k, hk, hq with
    | 0, _, hq => by show ¬ (262 + 6 * r + 5 = 0 ∨ 262 + 6 * r + 5 = 41 ∨ 262 + 6 * r + 5 = 296 ∨ 302 ≤ 262 + 6 * r + 5); omega
    | 2, _, _ => fun h => h
    | 1, _, hq => by show ¬ (1 ≤ 262 + 6 * r + 5 ∧ 262 + 6 * r + 5 < 1 + 4); omega
    | 3, _, hq => by show ¬ (5 ≤ 262 + 6 * r + 5 ∧ 262 + 6 * r + 5 < 5 + 12); omega
    | 4, _, hq => by show ¬ (17 ≤ 262 + 6 * r + 5 ∧ 262 + 6 * r + 5 < 17 + 12); omega
    | 5, _, hq => by show ¬ (29 ≤ 262 + 6 * r + 5 ∧ 262 + 6 * r + 5 < 29 + 12); omega
    | 6, _, hq => by show ¬ (292 ≤ 262 + 6 * r + 5 ∧ 262 + 6 * r + 5 < 292 + 4); omega
    | 7, _, hq => by show ¬ (297 ≤ 262 + 6 * r + 5 ∧ 262 + 6 * r + 5 < 297 + 5); omega
    | k + 8, hk, _ => absurd hk (by omega))
  (fun r0 j0 hr0 hj0 hq0 => match r0, j0, hr0, hj0, hq0 with
    | r', 0, hr', _, hq => by show ¬ (262 + 6 * r + 5 = 42 + r' ∨ 262 + 6 * r + 5 = 47 + r' ∨ (262 + 6 * r' ≤ 262 + 6 * r + 5 ∧ 262 + 6 * r + 5 < 262 + 6 * r' + 6)); omega
    | r', 1, hr', _, hq => by show ¬ (82 + 12 * r' ≤ 262 + 6 * r + 5 ∧ 262 + 6 * r + 5 < 82 + 12 * r' + 12); omega
    | r', 2, hr', _, hq => by show ¬ (142 + 12 * r' ≤ 262 + 6 * r + 5 ∧ 262 + 6 * r + 5 < 142 + 12 * r' + 12); omega
    | r', 3, hr', _, hq => by show ¬ (202 + 12 * r' ≤ 262 + 6 * r + 5 ∧ 262 + 6 * r + 5 < 202 + 12 * r' + 12); omega
    | r', 4, hr', _, hq => by show ¬ (52 + 3 * r' ≤ 262 + 6 * r + 5 ∧ 262 + 6 * r + 5 < 52 + 3 * r' + 3); omega
    | r', 5, hr', _, hq => by show ¬ (67 + 3 * r' ≤ 262 + 6 * r + 5 ∧ 262 + 6 * r + 5 < 67 + 3 * r' + 3); omega
    | _, j + 6, _, hj, _ => absurd hj (by omega))
  (by
    rw [show hc E a (upd g (262 + 6 * r + 5) v) (8 + 6 * r) = hc1 E a (upd g (262 + 6 * r + 5) v) r 0 from hc_hi (j := 0) (by decide)]
    show (.inr (1, (rf a g r).set 12 (.int v)) : va_E) = .inr (1, rf a (upd g (262 + 6 * r + 5) v) r)
    unfold rf
    rw [up_n (show 42 + r ≠ 262 + 6 * r + 5 by omega), up_n (show 47 + r ≠ 262 + 6 * r + 5 by omega), up_n (show 262 + 6 * r + 0 ≠ 262 + 6 * r + 5 by omega), up_n (show 262 + 6 * r + 1 ≠ 262 + 6 * r + 5 by omega), up_n (show 262 + 6 * r + 2 ≠ 262 + 6 * r + 5 by omega), up_n (show 262 + 6 * r + 3 ≠ 262 + 6 * r + 5 by omega), up_n (show 262 + 6 * r + 4 ≠ 262 + 6 * r + 5 by omega), up_s]
    rfl)
theorem set_l {x x' z : va_W} {q : Nat} {e : Nat × va_E} (hq : q < x.length) (h : x.set q e = x') : (x ++ z).set q e = x' ++ z := by
  rw [List.set_append_left _ _ hq, h]
theorem set_h {E : EE} {a : Nat → Nat} {g : Nat → Int32} {x' z : va_W} {q : Nat} {e : Nat × va_E} (hq : q < 38) (h : (hs E a g).set q e = x') : (hs E a g ++ z).set q e = x' ++ z := set_l (by rw [hs_len]; exact hq) h
/-- the reference's cells: itself, its row, its images, which are kept -/
def ms (E : EE) (a : Nat → Nat) (g im kp : Nat → Int32) : va_W := [(a 0, .inr (3, [.ref (a 1), .ref (a 2), .ref (a 3)])), (a 1, rI E 309 g), (a 2, rI E 618 im), (a 3, .inl (E.2 3, 2, .inl kp))]
theorem Fr.nil {w : va_W} : Fr w [] [] w := ⟨[], w, by simp, by simp⟩
