/-! WORLDS. One row g of 309 numbers is the state of a house, laid out as the reference lays it:
0 TICK, 1-4 rules, 5+t versions, 17+t ways, 29+k line, 41 its length, 42+r there, 47+r skew, 52+3r+v terms of volumes, 67+3r+v lists, 82+12r+t copies, 142+12r+t terms, 202+12r+t promises, 262+6r+k what a reader is told, 292+i causes, 296 how many, 297+i waited, 302 how many, 303-308 counts -/
def ix (x : Int32) : Nat := x.toNatClampNeg
def seg (g : Nat → Int32) (o n : Nat) : Nat → Int32 := fun j => if j < n then g (o + j) else 0
theorem seg_at {g : Nat → Int32} {o n j : Nat} (h : j < n) : seg g o n j = g (o + j) := by simp only [seg, if_pos h]
theorem seg_in {g : Nat → Int32} {o n j : Nat} {v : Int32} (h : j < n) : upd (seg g o n) j v = seg (upd g (o + j) v) o n := by
  funext k
  unfold seg upd
  by_cases hk : k = j
  · subst hk; simp [h]
  · have : ¬ o + k = o + j := by omega
    simp [hk, this]
theorem seg_out {g : Nat → Int32} {o n i : Nat} {v : Int32} (h : i < o ∨ o + n ≤ i) : seg (upd g i v) o n = seg g o n := by
  funext k
  unfold seg upd
  by_cases hk : k < n
  · have : ¬ o + k = i := by omega
    simp [hk, this]
  · simp [hk]
theorem seg_eq {g g' : Nat → Int32} {o n : Nat} (h : ∀ k, k < n → g (o + k) = g' (o + k)) : seg g o n = seg g' o n := by
  funext k
  unfold seg
  by_cases hk : k < n
  · rw [if_pos hk, if_pos hk, h k hk]
  · rw [if_neg hk, if_neg hk]
theorem up_n {g : Nat → Int32} {i j : Nat} {v : Int32} (h : j ≠ i) : upd g i v j = g j := pk_un h
theorem up_s {g : Nat → Int32} {i : Nat} {v : Int32} : upd g i v i = v := pk_us
abbrev rI (E : EE) (n : Nat) (f : Nat → Int32) : va_E := .inl (E.2 0, n, .inl f)
def hf (a : Nat → Nat) (g : Nat → Int32) : List Value := [.int (g 0), .ref (a 1), .ref (a 2), .ref (a 3), .ref (a 4), .ref (a 5), .int (g 41), .ref (a 6), .int (g 296), .ref (a 7), .int (g 302), .int (g 303), .int (g 304), .int (g 305), .int (g 306), .int (g 307), .int (g 308)]
def rf (a : Nat → Nat) (g : Nat → Int32) (r : Nat) : List Value := [.int (g (42 + r)), .int (g (47 + r)), .ref (a (8 + 6 * r + 1)), .ref (a (8 + 6 * r + 2)), .ref (a (8 + 6 * r + 3)), .ref (a (8 + 6 * r + 4)), .ref (a (8 + 6 * r + 5)), .int (g (262 + 6 * r + 0)), .int (g (262 + 6 * r + 1)), .int (g (262 + 6 * r + 2)), .int (g (262 + 6 * r + 3)), .int (g (262 + 6 * r + 4)), .int (g (262 + 6 * r + 5))]
def rdA (a : Nat → Nat) : Nat → Option Nat := fun j => some (a (8 + 6 * j))
def hc0 (E : EE) (a : Nat → Nat) (g : Nat → Int32) : Nat → va_E
  | 0 => .inr (0, hf a g)
  | 1 => rI E 4 (seg g 1 4)
  | 2 => .inl (E.2 1, 5, .inr (.inr (.inr (.inr (rdA a)))))
  | 3 => rI E 12 (seg g 5 12)
  | 4 => rI E 12 (seg g 17 12)
  | 5 => rI E 12 (seg g 29 12)
  | 6 => rI E 4 (seg g 292 4)
  | _ => rI E 5 (seg g 297 5)
def hc1 (E : EE) (a : Nat → Nat) (g : Nat → Int32) (r : Nat) : Nat → va_E
  | 0 => .inr (1, rf a g r)
  | 1 => rI E 12 (seg g (82 + 12 * r) 12)
  | 2 => rI E 12 (seg g (142 + 12 * r) 12)
  | 3 => rI E 12 (seg g (202 + 12 * r) 12)
  | 4 => rI E 3 (seg g (52 + 3 * r) 3)
  | _ => rI E 3 (seg g (67 + 3 * r) 3)
def hc (E : EE) (a : Nat → Nat) (g : Nat → Int32) (k : Nat) : va_E := if k < 8 then hc0 E a g k else hc1 E a g ((k - 8) / 6) ((k - 8) % 6)
def hs (E : EE) (a : Nat → Nat) (g : Nat → Int32) : va_W := (List.range 38).map (fun k => (a k, hc E a g k))
theorem hs_len {E : EE} {a : Nat → Nat} {g : Nat → Int32} : (hs E a g).length = 38 := by simp [hs]
theorem hs_at {E : EE} {a : Nat → Nat} {g : Nat → Int32} {k : Nat} (h : k < 38) : (hs E a g)[k]? = some (a k, hc E a g k) := by
  unfold hs
  rw [List.getElem?_map, List.getElem?_range h]
  rfl
theorem hc_lo {E : EE} {a : Nat → Nat} {g : Nat → Int32} {k : Nat} (h : k < 8) : hc E a g k = hc0 E a g k := by simp only [hc, if_pos h]
theorem hc_hi {E : EE} {a : Nat → Nat} {g : Nat → Int32} {r j : Nat} (h : j < 6) : hc E a g (8 + 6 * r + j) = hc1 E a g r j := by
  have h1 : ¬ 8 + 6 * r + j < 8 := by omega
  have h2 : (8 + 6 * r + j - 8) / 6 = r := by omega
  have h3 : (8 + 6 * r + j - 8) % 6 = j := by omega
  simp only [hc, if_neg h1, h2, h3]
theorem hs_lo {E : EE} {a : Nat → Nat} {g : Nat → Int32} (k : Nat) (h : k < 8) {e : va_E} (he : hc0 E a g k = e) : (hs E a g)[k]? = some (a k, e) := by
  rw [hs_at (by omega), hc_lo h, he]
theorem hs_hi {E : EE} {a : Nat → Nat} {g : Nat → Int32} (j : Nat) {r : Nat} (hr : r < 5) (h : j < 6) {e : va_E} (he : hc1 E a g r j = e) : (hs E a g)[8 + 6 * r + j]? = some (a (8 + 6 * r + j), e) := by
  rw [hs_at (by omega), hc_hi h, he]
theorem hs_hi0 {E : EE} {a : Nat → Nat} {g : Nat → Int32} {r : Nat} (hr : r < 5) : (hs E a g)[8 + 6 * r]? = some (a (8 + 6 * r), .inr (1, rf a g r)) := hs_hi 0 hr (by decide) rfl
/-- which cell a number of the row lies in -/
def dep (k i : Nat) : Prop :=
  (k = 0 ∧ (i = 0 ∨ i = 41 ∨ i = 296 ∨ 302 ≤ i)) ∨ (k = 1 ∧ 1 ≤ i ∧ i < 5) ∨ (k = 3 ∧ 5 ≤ i ∧ i < 17) ∨ (k = 4 ∧ 17 ≤ i ∧ i < 29) ∨ (k = 5 ∧ 29 ≤ i ∧ i < 41) ∨ (k = 6 ∧ 292 ≤ i ∧ i < 296) ∨ (k = 7 ∧ 297 ≤ i ∧ i < 302) ∨
  (8 ≤ k ∧ (k - 8) % 6 = 0 ∧ (i = 42 + (k - 8) / 6 ∨ i = 47 + (k - 8) / 6 ∨ (262 + 6 * ((k - 8) / 6) ≤ i ∧ i < 262 + 6 * ((k - 8) / 6) + 6))) ∨
  (8 ≤ k ∧ (k - 8) % 6 = 1 ∧ 82 + 12 * ((k - 8) / 6) ≤ i ∧ i < 82 + 12 * ((k - 8) / 6) + 12) ∨ (8 ≤ k ∧ (k - 8) % 6 = 2 ∧ 142 + 12 * ((k - 8) / 6) ≤ i ∧ i < 142 + 12 * ((k - 8) / 6) + 12) ∨ (8 ≤ k ∧ (k - 8) % 6 = 3 ∧ 202 + 12 * ((k - 8) / 6) ≤ i ∧ i < 202 + 12 * ((k - 8) / 6) + 12) ∨
  (8 ≤ k ∧ (k - 8) % 6 = 4 ∧ 52 + 3 * ((k - 8) / 6) ≤ i ∧ i < 52 + 3 * ((k - 8) / 6) + 3) ∨ (8 ≤ k ∧ (k - 8) % 6 = 5 ∧ 67 + 3 * ((k - 8) / 6) ≤ i ∧ i < 67 + 3 * ((k - 8) / 6) + 3)
theorem hf_out {a : Nat → Nat} {g : Nat → Int32} {i : Nat} {v : Int32} (h : ¬ (i = 0 ∨ i = 41 ∨ i = 296 ∨ 302 ≤ i)) : hf a (upd g i v) = hf a g := by
  unfold hf
  rw [up_n (show 0 ≠ i by omega), up_n (show 41 ≠ i by omega), up_n (show 296 ≠ i by omega), up_n (show 302 ≠ i by omega), up_n (show 303 ≠ i by omega), up_n (show 304 ≠ i by omega), up_n (show 305 ≠ i by omega), up_n (show 306 ≠ i by omega), up_n (show 307 ≠ i by omega), up_n (show 308 ≠ i by omega)]
theorem rf_out {a : Nat → Nat} {g : Nat → Int32} {i r : Nat} {v : Int32} (h : ¬ (i = 42 + r ∨ i = 47 + r ∨ (262 + 6 * r ≤ i ∧ i < 262 + 6 * r + 6))) : rf a (upd g i v) r = rf a g r := by
  unfold rf
  rw [up_n (show 42 + r ≠ i by omega), up_n (show 47 + r ≠ i by omega), up_n (show 262 + 6 * r + 0 ≠ i by omega), up_n (show 262 + 6 * r + 1 ≠ i by omega), up_n (show 262 + 6 * r + 2 ≠ i by omega), up_n (show 262 + 6 * r + 3 ≠ i by omega), up_n (show 262 + 6 * r + 4 ≠ i by omega), up_n (show 262 + 6 * r + 5 ≠ i by omega)]
theorem hc0_off {E : EE} {a : Nat → Nat} {g : Nat → Int32} {i : Nat} {v : Int32} : ∀ k : Nat, k < 8 → ¬ dep k i → hc0 E a (upd g i v) k = hc0 E a g k
  | 0, _, h => by unfold hc0; rw [hf_out (fun q => h (by unfold dep; omega))]
  | 1, _, h => by unfold hc0; rw [seg_out (by unfold dep at h; omega)]
  | 2, _, _ => rfl
  | 3, _, h => by unfold hc0; rw [seg_out (by unfold dep at h; omega)]
  | 4, _, h => by unfold hc0; rw [seg_out (by unfold dep at h; omega)]
  | 5, _, h => by unfold hc0; rw [seg_out (by unfold dep at h; omega)]
  | 6, _, h => by unfold hc0; rw [seg_out (by unfold dep at h; omega)]
  | 7, _, h => by unfold hc0; rw [seg_out (by unfold dep at h; omega)]
  | k + 8, hk, _ => absurd hk (by omega)
theorem hc1_off {E : EE} {a : Nat → Nat} {g : Nat → Int32} {i r : Nat} {v : Int32} : ∀ j : Nat, j < 6 → ¬ dep (8 + 6 * r + j) i → hc1 E a (upd g i v) r j = hc1 E a g r j
  | 0, _, h => by unfold hc1; rw [rf_out (fun q => h (by unfold dep; omega))]
  | 1, _, h => by unfold hc1; rw [seg_out (by unfold dep at h; omega)]
  | 2, _, h => by unfold hc1; rw [seg_out (by unfold dep at h; omega)]
  | 3, _, h => by unfold hc1; rw [seg_out (by unfold dep at h; omega)]
  | 4, _, h => by unfold hc1; rw [seg_out (by unfold dep at h; omega)]
  | 5, _, h => by unfold hc1; rw [seg_out (by unfold dep at h; omega)]
  | j + 6, hj, _ => absurd hj (by omega)
theorem hc_off {E : EE} {a : Nat → Nat} {g : Nat → Int32} {i k : Nat} {v : Int32} (h : ¬ dep k i) : hc E a (upd g i v) k = hc E a g k := by
  by_cases hk : k < 8
  · rw [hc_lo hk, hc_lo hk, hc0_off k hk h]
  · have e : k = 8 + 6 * ((k - 8) / 6) + (k - 8) % 6 := by omega
    rw [e]
    rw [e] at h
    rw [hc_hi (by omega), hc_hi (by omega), hc1_off _ (by omega) h]
theorem hs_put {E : EE} {a : Nat → Nat} {g : Nat → Int32} {i q : Nat} {v : Int32} {e : va_E} (hq : q < 38) (h : ∀ k, k < 38 → k ≠ q → ¬ dep k i) (he : e = hc E a (upd g i v) q) : (hs E a g).set q (a q, e) = hs E a (upd g i v) := by
  apply List.ext_getElem?
  intro k
  by_cases hk : k < 38
  · rw [hs_at hk]
    by_cases hkq : k = q
    · subst hkq
      rw [List.getElem?_set_self (by rw [hs_len]; exact hk), he]
    · rw [List.getElem?_set_ne (fun z => hkq z.symm), hs_at hk, hc_off (h k hk hkq)]
  · rw [List.getElem?_eq_none (by rw [List.length_set, hs_len]; omega), List.getElem?_eq_none (by rw [hs_len]; omega)]
theorem hs_same {E : EE} {a : Nat → Nat} {g g' : Nat → Int32} (h : ∀ i, i < 309 → g i = g' i) : hs E a g = hs E a g' := by
  unfold hs
  refine List.map_congr_left fun k hk => ?_
  have hk : k < 38 := List.mem_range.mp hk
  congr 1
  by_cases h8 : k < 8
  · rw [hc_lo h8, hc_lo h8]
    match k, h8 with
    | 0, _ => unfold hc0 hf; rw [h 0 (by decide), h 41 (by decide), h 296 (by decide), h 302 (by decide), h 303 (by decide), h 304 (by decide), h 305 (by decide), h 306 (by decide), h 307 (by decide), h 308 (by decide)]
    | 1, _ => unfold hc0; rw [seg_eq (fun j hj => h _ (by omega))]
    | 2, _ => rfl
    | 3, _ => unfold hc0; rw [seg_eq (fun j hj => h _ (by omega))]
    | 4, _ => unfold hc0; rw [seg_eq (fun j hj => h _ (by omega))]
    | 5, _ => unfold hc0; rw [seg_eq (fun j hj => h _ (by omega))]
    | 6, _ => unfold hc0; rw [seg_eq (fun j hj => h _ (by omega))]
    | 7, _ => unfold hc0; rw [seg_eq (fun j hj => h _ (by omega))]
  · have e : k = 8 + 6 * ((k - 8) / 6) + (k - 8) % 6 := by omega
    have hr : (k - 8) / 6 < 5 := by omega
    have hj : (k - 8) % 6 < 6 := by omega
    rw [e, hc_hi hj, hc_hi hj]
    generalize (k - 8) / 6 = r at hr
    generalize (k - 8) % 6 = j at hj
    match j, hj with
    | 0, _ => unfold hc1 rf; rw [h (42 + r) (by omega), h (47 + r) (by omega), h (262 + 6 * r + 0) (by omega), h (262 + 6 * r + 1) (by omega), h (262 + 6 * r + 2) (by omega), h (262 + 6 * r + 3) (by omega), h (262 + 6 * r + 4) (by omega), h (262 + 6 * r + 5) (by omega)]
    | 1, _ => unfold hc1; rw [seg_eq (fun j hj => h _ (by omega))]
    | 2, _ => unfold hc1; rw [seg_eq (fun j hj => h _ (by omega))]
    | 3, _ => unfold hc1; rw [seg_eq (fun j hj => h _ (by omega))]
    | 4, _ => unfold hc1; rw [seg_eq (fun j hj => h _ (by omega))]
    | 5, _ => unfold hc1; rw [seg_eq (fun j hj => h _ (by omega))]
-- writes: a field of the house, a row of it, a field of a reader, a row of a reader
theorem hs_w1 {E : EE} {a : Nat → Nat} {g : Nat → Int32} {j : Nat} {v : Int32} (hj : j < 4) : (hs E a g).set 1 (a 1, rI E 4 (upd (seg g 1 4) j v)) = hs E a (upd g (1 + j) v) := hs_put (by decide) (fun k h1 h2 => by unfold dep; omega) (by rw [hc_lo (by decide), seg_in hj]; rfl)
theorem hs_w3 {E : EE} {a : Nat → Nat} {g : Nat → Int32} {j : Nat} {v : Int32} (hj : j < 12) : (hs E a g).set 3 (a 3, rI E 12 (upd (seg g 5 12) j v)) = hs E a (upd g (5 + j) v) := hs_put (by decide) (fun k h1 h2 => by unfold dep; omega) (by rw [hc_lo (by decide), seg_in hj]; rfl)
theorem hs_w4 {E : EE} {a : Nat → Nat} {g : Nat → Int32} {j : Nat} {v : Int32} (hj : j < 12) : (hs E a g).set 4 (a 4, rI E 12 (upd (seg g 17 12) j v)) = hs E a (upd g (17 + j) v) := hs_put (by decide) (fun k h1 h2 => by unfold dep; omega) (by rw [hc_lo (by decide), seg_in hj]; rfl)
theorem hs_w5 {E : EE} {a : Nat → Nat} {g : Nat → Int32} {j : Nat} {v : Int32} (hj : j < 12) : (hs E a g).set 5 (a 5, rI E 12 (upd (seg g 29 12) j v)) = hs E a (upd g (29 + j) v) := hs_put (by decide) (fun k h1 h2 => by unfold dep; omega) (by rw [hc_lo (by decide), seg_in hj]; rfl)
theorem hs_w6 {E : EE} {a : Nat → Nat} {g : Nat → Int32} {j : Nat} {v : Int32} (hj : j < 4) : (hs E a g).set 6 (a 6, rI E 4 (upd (seg g 292 4) j v)) = hs E a (upd g (292 + j) v) := hs_put (by decide) (fun k h1 h2 => by unfold dep; omega) (by rw [hc_lo (by decide), seg_in hj]; rfl)
theorem hs_w7 {E : EE} {a : Nat → Nat} {g : Nat → Int32} {j : Nat} {v : Int32} (hj : j < 5) : (hs E a g).set 7 (a 7, rI E 5 (upd (seg g 297 5) j v)) = hs E a (upd g (297 + j) v) := hs_put (by decide) (fun k h1 h2 => by unfold dep; omega) (by rw [hc_lo (by decide), seg_in hj]; rfl)
theorem hs_u1 {E : EE} {a : Nat → Nat} {g : Nat → Int32} {r j : Nat} {v : Int32} (hr : r < 5) (hj : j < 12) : (hs E a g).set (8 + 6 * r + 1) (a (8 + 6 * r + 1), rI E 12 (upd (seg g (82 + 12 * r) 12) j v)) = hs E a (upd g (82 + 12 * r + j) v) := hs_put (by omega) (fun k h1 h2 => by unfold dep; omega) (by rw [hc_hi (by decide), seg_in hj]; rfl)
theorem hs_u2 {E : EE} {a : Nat → Nat} {g : Nat → Int32} {r j : Nat} {v : Int32} (hr : r < 5) (hj : j < 12) : (hs E a g).set (8 + 6 * r + 2) (a (8 + 6 * r + 2), rI E 12 (upd (seg g (142 + 12 * r) 12) j v)) = hs E a (upd g (142 + 12 * r + j) v) := hs_put (by omega) (fun k h1 h2 => by unfold dep; omega) (by rw [hc_hi (by decide), seg_in hj]; rfl)
theorem hs_u3 {E : EE} {a : Nat → Nat} {g : Nat → Int32} {r j : Nat} {v : Int32} (hr : r < 5) (hj : j < 12) : (hs E a g).set (8 + 6 * r + 3) (a (8 + 6 * r + 3), rI E 12 (upd (seg g (202 + 12 * r) 12) j v)) = hs E a (upd g (202 + 12 * r + j) v) := hs_put (by omega) (fun k h1 h2 => by unfold dep; omega) (by rw [hc_hi (by decide), seg_in hj]; rfl)
theorem hs_u4 {E : EE} {a : Nat → Nat} {g : Nat → Int32} {r j : Nat} {v : Int32} (hr : r < 5) (hj : j < 3) : (hs E a g).set (8 + 6 * r + 4) (a (8 + 6 * r + 4), rI E 3 (upd (seg g (52 + 3 * r) 3) j v)) = hs E a (upd g (52 + 3 * r + j) v) := hs_put (by omega) (fun k h1 h2 => by unfold dep; omega) (by rw [hc_hi (by decide), seg_in hj]; rfl)
theorem hs_u5 {E : EE} {a : Nat → Nat} {g : Nat → Int32} {r j : Nat} {v : Int32} (hr : r < 5) (hj : j < 3) : (hs E a g).set (8 + 6 * r + 5) (a (8 + 6 * r + 5), rI E 3 (upd (seg g (67 + 3 * r) 3) j v)) = hs E a (upd g (67 + 3 * r + j) v) := hs_put (by omega) (fun k h1 h2 => by unfold dep; omega) (by rw [hc_hi (by decide), seg_in hj]; rfl)
theorem hs_f0 {E : EE} {a : Nat → Nat} {g : Nat → Int32} {v : Int32} : (hs E a g).set 0 (a 0, .inr (0, (hf a g).set 0 (.int v))) = hs E a (upd g 0 v) := hs_put (by decide) (fun k h1 h2 => by unfold dep; omega) (by rw [hc_lo (by decide)]; unfold hc0 hf; rw [up_s, up_n (show 41 ≠ 0 by decide), up_n (show 296 ≠ 0 by decide), up_n (show 302 ≠ 0 by decide), up_n (show 303 ≠ 0 by decide), up_n (show 304 ≠ 0 by decide), up_n (show 305 ≠ 0 by decide), up_n (show 306 ≠ 0 by decide), up_n (show 307 ≠ 0 by decide), up_n (show 308 ≠ 0 by decide)]; rfl)
theorem hs_f6 {E : EE} {a : Nat → Nat} {g : Nat → Int32} {v : Int32} : (hs E a g).set 0 (a 0, .inr (0, (hf a g).set 6 (.int v))) = hs E a (upd g 41 v) := hs_put (by decide) (fun k h1 h2 => by unfold dep; omega) (by rw [hc_lo (by decide)]; unfold hc0 hf; rw [up_n (show 0 ≠ 41 by decide), up_s, up_n (show 296 ≠ 41 by decide), up_n (show 302 ≠ 41 by decide), up_n (show 303 ≠ 41 by decide), up_n (show 304 ≠ 41 by decide), up_n (show 305 ≠ 41 by decide), up_n (show 306 ≠ 41 by decide), up_n (show 307 ≠ 41 by decide), up_n (show 308 ≠ 41 by decide)]; rfl)
theorem hs_f8 {E : EE} {a : Nat → Nat} {g : Nat → Int32} {v : Int32} : (hs E a g).set 0 (a 0, .inr (0, (hf a g).set 8 (.int v))) = hs E a (upd g 296 v) := hs_put (by decide) (fun k h1 h2 => by unfold dep; omega) (by rw [hc_lo (by decide)]; unfold hc0 hf; rw [up_n (show 0 ≠ 296 by decide), up_n (show 41 ≠ 296 by decide), up_s, up_n (show 302 ≠ 296 by decide), up_n (show 303 ≠ 296 by decide), up_n (show 304 ≠ 296 by decide), up_n (show 305 ≠ 296 by decide), up_n (show 306 ≠ 296 by decide), up_n (show 307 ≠ 296 by decide), up_n (show 308 ≠ 296 by decide)]; rfl)
theorem hs_f10 {E : EE} {a : Nat → Nat} {g : Nat → Int32} {v : Int32} : (hs E a g).set 0 (a 0, .inr (0, (hf a g).set 10 (.int v))) = hs E a (upd g 302 v) := hs_put (by decide) (fun k h1 h2 => by unfold dep; omega) (by rw [hc_lo (by decide)]; unfold hc0 hf; rw [up_n (show 0 ≠ 302 by decide), up_n (show 41 ≠ 302 by decide), up_n (show 296 ≠ 302 by decide), up_s, up_n (show 303 ≠ 302 by decide), up_n (show 304 ≠ 302 by decide), up_n (show 305 ≠ 302 by decide), up_n (show 306 ≠ 302 by decide), up_n (show 307 ≠ 302 by decide), up_n (show 308 ≠ 302 by decide)]; rfl)
theorem hs_f11 {E : EE} {a : Nat → Nat} {g : Nat → Int32} {v : Int32} : (hs E a g).set 0 (a 0, .inr (0, (hf a g).set 11 (.int v))) = hs E a (upd g 303 v) := hs_put (by decide) (fun k h1 h2 => by unfold dep; omega) (by rw [hc_lo (by decide)]; unfold hc0 hf; rw [up_n (show 0 ≠ 303 by decide), up_n (show 41 ≠ 303 by decide), up_n (show 296 ≠ 303 by decide), up_n (show 302 ≠ 303 by decide), up_s, up_n (show 304 ≠ 303 by decide), up_n (show 305 ≠ 303 by decide), up_n (show 306 ≠ 303 by decide), up_n (show 307 ≠ 303 by decide), up_n (show 308 ≠ 303 by decide)]; rfl)
theorem hs_f12 {E : EE} {a : Nat → Nat} {g : Nat → Int32} {v : Int32} : (hs E a g).set 0 (a 0, .inr (0, (hf a g).set 12 (.int v))) = hs E a (upd g 304 v) := hs_put (by decide) (fun k h1 h2 => by unfold dep; omega) (by rw [hc_lo (by decide)]; unfold hc0 hf; rw [up_n (show 0 ≠ 304 by decide), up_n (show 41 ≠ 304 by decide), up_n (show 296 ≠ 304 by decide), up_n (show 302 ≠ 304 by decide), up_n (show 303 ≠ 304 by decide), up_s, up_n (show 305 ≠ 304 by decide), up_n (show 306 ≠ 304 by decide), up_n (show 307 ≠ 304 by decide), up_n (show 308 ≠ 304 by decide)]; rfl)
theorem hs_f13 {E : EE} {a : Nat → Nat} {g : Nat → Int32} {v : Int32} : (hs E a g).set 0 (a 0, .inr (0, (hf a g).set 13 (.int v))) = hs E a (upd g 305 v) := hs_put (by decide) (fun k h1 h2 => by unfold dep; omega) (by rw [hc_lo (by decide)]; unfold hc0 hf; rw [up_n (show 0 ≠ 305 by decide), up_n (show 41 ≠ 305 by decide), up_n (show 296 ≠ 305 by decide), up_n (show 302 ≠ 305 by decide), up_n (show 303 ≠ 305 by decide), up_n (show 304 ≠ 305 by decide), up_s, up_n (show 306 ≠ 305 by decide), up_n (show 307 ≠ 305 by decide), up_n (show 308 ≠ 305 by decide)]; rfl)
theorem hs_f14 {E : EE} {a : Nat → Nat} {g : Nat → Int32} {v : Int32} : (hs E a g).set 0 (a 0, .inr (0, (hf a g).set 14 (.int v))) = hs E a (upd g 306 v) := hs_put (by decide) (fun k h1 h2 => by unfold dep; omega) (by rw [hc_lo (by decide)]; unfold hc0 hf; rw [up_n (show 0 ≠ 306 by decide), up_n (show 41 ≠ 306 by decide), up_n (show 296 ≠ 306 by decide), up_n (show 302 ≠ 306 by decide), up_n (show 303 ≠ 306 by decide), up_n (show 304 ≠ 306 by decide), up_n (show 305 ≠ 306 by decide), up_s, up_n (show 307 ≠ 306 by decide), up_n (show 308 ≠ 306 by decide)]; rfl)
theorem hs_f15 {E : EE} {a : Nat → Nat} {g : Nat → Int32} {v : Int32} : (hs E a g).set 0 (a 0, .inr (0, (hf a g).set 15 (.int v))) = hs E a (upd g 307 v) := hs_put (by decide) (fun k h1 h2 => by unfold dep; omega) (by rw [hc_lo (by decide)]; unfold hc0 hf; rw [up_n (show 0 ≠ 307 by decide), up_n (show 41 ≠ 307 by decide), up_n (show 296 ≠ 307 by decide), up_n (show 302 ≠ 307 by decide), up_n (show 303 ≠ 307 by decide), up_n (show 304 ≠ 307 by decide), up_n (show 305 ≠ 307 by decide), up_n (show 306 ≠ 307 by decide), up_s, up_n (show 308 ≠ 307 by decide)]; rfl)
theorem hs_f16 {E : EE} {a : Nat → Nat} {g : Nat → Int32} {v : Int32} : (hs E a g).set 0 (a 0, .inr (0, (hf a g).set 16 (.int v))) = hs E a (upd g 308 v) := hs_put (by decide) (fun k h1 h2 => by unfold dep; omega) (by rw [hc_lo (by decide)]; unfold hc0 hf; rw [up_n (show 0 ≠ 308 by decide), up_n (show 41 ≠ 308 by decide), up_n (show 296 ≠ 308 by decide), up_n (show 302 ≠ 308 by decide), up_n (show 303 ≠ 308 by decide), up_n (show 304 ≠ 308 by decide), up_n (show 305 ≠ 308 by decide), up_n (show 306 ≠ 308 by decide), up_n (show 307 ≠ 308 by decide), up_s]; rfl)
theorem hs_r0 {E : EE} {a : Nat → Nat} {g : Nat → Int32} {r : Nat} {v : Int32} (hr : r < 5) : (hs E a g).set (8 + 6 * r) (a (8 + 6 * r), .inr (1, (rf a g r).set 0 (.int v))) = hs E a (upd g (42 + r) v) := hs_put (by omega) (fun k h1 h2 => by unfold dep; omega) (by rw [show hc E a (upd g (42 + r) v) (8 + 6 * r) = hc1 E a (upd g (42 + r) v) r 0 from hc_hi (j := 0) (by decide)]; unfold hc1 rf; rw [up_s, up_n (show 47 + r ≠ 42 + r by omega), up_n (show 262 + 6 * r + 0 ≠ 42 + r by omega), up_n (show 262 + 6 * r + 1 ≠ 42 + r by omega), up_n (show 262 + 6 * r + 2 ≠ 42 + r by omega), up_n (show 262 + 6 * r + 3 ≠ 42 + r by omega), up_n (show 262 + 6 * r + 4 ≠ 42 + r by omega), up_n (show 262 + 6 * r + 5 ≠ 42 + r by omega)]; rfl)
theorem hs_r1 {E : EE} {a : Nat → Nat} {g : Nat → Int32} {r : Nat} {v : Int32} (hr : r < 5) : (hs E a g).set (8 + 6 * r) (a (8 + 6 * r), .inr (1, (rf a g r).set 1 (.int v))) = hs E a (upd g (47 + r) v) := hs_put (by omega) (fun k h1 h2 => by unfold dep; omega) (by rw [show hc E a (upd g (47 + r) v) (8 + 6 * r) = hc1 E a (upd g (47 + r) v) r 0 from hc_hi (j := 0) (by decide)]; unfold hc1 rf; rw [up_n (show 42 + r ≠ 47 + r by omega), up_s, up_n (show 262 + 6 * r + 0 ≠ 47 + r by omega), up_n (show 262 + 6 * r + 1 ≠ 47 + r by omega), up_n (show 262 + 6 * r + 2 ≠ 47 + r by omega), up_n (show 262 + 6 * r + 3 ≠ 47 + r by omega), up_n (show 262 + 6 * r + 4 ≠ 47 + r by omega), up_n (show 262 + 6 * r + 5 ≠ 47 + r by omega)]; rfl)
theorem hs_r7 {E : EE} {a : Nat → Nat} {g : Nat → Int32} {r : Nat} {v : Int32} (hr : r < 5) : (hs E a g).set (8 + 6 * r) (a (8 + 6 * r), .inr (1, (rf a g r).set 7 (.int v))) = hs E a (upd g (262 + 6 * r + 0) v) := hs_put (by omega) (fun k h1 h2 => by unfold dep; omega) (by rw [show hc E a (upd g (262 + 6 * r + 0) v) (8 + 6 * r) = hc1 E a (upd g (262 + 6 * r + 0) v) r 0 from hc_hi (j := 0) (by decide)]; unfold hc1 rf; rw [up_n (show 42 + r ≠ 262 + 6 * r + 0 by omega), up_n (show 47 + r ≠ 262 + 6 * r + 0 by omega), up_s, up_n (show 262 + 6 * r + 1 ≠ 262 + 6 * r + 0 by omega), up_n (show 262 + 6 * r + 2 ≠ 262 + 6 * r + 0 by omega), up_n (show 262 + 6 * r + 3 ≠ 262 + 6 * r + 0 by omega), up_n (show 262 + 6 * r + 4 ≠ 262 + 6 * r + 0 by omega), up_n (show 262 + 6 * r + 5 ≠ 262 + 6 * r + 0 by omega)]; rfl)
theorem hs_r8 {E : EE} {a : Nat → Nat} {g : Nat → Int32} {r : Nat} {v : Int32} (hr : r < 5) : (hs E a g).set (8 + 6 * r) (a (8 + 6 * r), .inr (1, (rf a g r).set 8 (.int v))) = hs E a (upd g (262 + 6 * r + 1) v) := hs_put (by omega) (fun k h1 h2 => by unfold dep; omega) (by rw [show hc E a (upd g (262 + 6 * r + 1) v) (8 + 6 * r) = hc1 E a (upd g (262 + 6 * r + 1) v) r 0 from hc_hi (j := 0) (by decide)]; unfold hc1 rf; rw [up_n (show 42 + r ≠ 262 + 6 * r + 1 by omega), up_n (show 47 + r ≠ 262 + 6 * r + 1 by omega), up_n (show 262 + 6 * r + 0 ≠ 262 + 6 * r + 1 by omega), up_s, up_n (show 262 + 6 * r + 2 ≠ 262 + 6 * r + 1 by omega), up_n (show 262 + 6 * r + 3 ≠ 262 + 6 * r + 1 by omega), up_n (show 262 + 6 * r + 4 ≠ 262 + 6 * r + 1 by omega), up_n (show 262 + 6 * r + 5 ≠ 262 + 6 * r + 1 by omega)]; rfl)
theorem hs_r9 {E : EE} {a : Nat → Nat} {g : Nat → Int32} {r : Nat} {v : Int32} (hr : r < 5) : (hs E a g).set (8 + 6 * r) (a (8 + 6 * r), .inr (1, (rf a g r).set 9 (.int v))) = hs E a (upd g (262 + 6 * r + 2) v) := hs_put (by omega) (fun k h1 h2 => by unfold dep; omega) (by rw [show hc E a (upd g (262 + 6 * r + 2) v) (8 + 6 * r) = hc1 E a (upd g (262 + 6 * r + 2) v) r 0 from hc_hi (j := 0) (by decide)]; unfold hc1 rf; rw [up_n (show 42 + r ≠ 262 + 6 * r + 2 by omega), up_n (show 47 + r ≠ 262 + 6 * r + 2 by omega), up_n (show 262 + 6 * r + 0 ≠ 262 + 6 * r + 2 by omega), up_n (show 262 + 6 * r + 1 ≠ 262 + 6 * r + 2 by omega), up_s, up_n (show 262 + 6 * r + 3 ≠ 262 + 6 * r + 2 by omega), up_n (show 262 + 6 * r + 4 ≠ 262 + 6 * r + 2 by omega), up_n (show 262 + 6 * r + 5 ≠ 262 + 6 * r + 2 by omega)]; rfl)
theorem hs_r10 {E : EE} {a : Nat → Nat} {g : Nat → Int32} {r : Nat} {v : Int32} (hr : r < 5) : (hs E a g).set (8 + 6 * r) (a (8 + 6 * r), .inr (1, (rf a g r).set 10 (.int v))) = hs E a (upd g (262 + 6 * r + 3) v) := hs_put (by omega) (fun k h1 h2 => by unfold dep; omega) (by rw [show hc E a (upd g (262 + 6 * r + 3) v) (8 + 6 * r) = hc1 E a (upd g (262 + 6 * r + 3) v) r 0 from hc_hi (j := 0) (by decide)]; unfold hc1 rf; rw [up_n (show 42 + r ≠ 262 + 6 * r + 3 by omega), up_n (show 47 + r ≠ 262 + 6 * r + 3 by omega), up_n (show 262 + 6 * r + 0 ≠ 262 + 6 * r + 3 by omega), up_n (show 262 + 6 * r + 1 ≠ 262 + 6 * r + 3 by omega), up_n (show 262 + 6 * r + 2 ≠ 262 + 6 * r + 3 by omega), up_s, up_n (show 262 + 6 * r + 4 ≠ 262 + 6 * r + 3 by omega), up_n (show 262 + 6 * r + 5 ≠ 262 + 6 * r + 3 by omega)]; rfl)
theorem hs_r11 {E : EE} {a : Nat → Nat} {g : Nat → Int32} {r : Nat} {v : Int32} (hr : r < 5) : (hs E a g).set (8 + 6 * r) (a (8 + 6 * r), .inr (1, (rf a g r).set 11 (.int v))) = hs E a (upd g (262 + 6 * r + 4) v) := hs_put (by omega) (fun k h1 h2 => by unfold dep; omega) (by rw [show hc E a (upd g (262 + 6 * r + 4) v) (8 + 6 * r) = hc1 E a (upd g (262 + 6 * r + 4) v) r 0 from hc_hi (j := 0) (by decide)]; unfold hc1 rf; rw [up_n (show 42 + r ≠ 262 + 6 * r + 4 by omega), up_n (show 47 + r ≠ 262 + 6 * r + 4 by omega), up_n (show 262 + 6 * r + 0 ≠ 262 + 6 * r + 4 by omega), up_n (show 262 + 6 * r + 1 ≠ 262 + 6 * r + 4 by omega), up_n (show 262 + 6 * r + 2 ≠ 262 + 6 * r + 4 by omega), up_n (show 262 + 6 * r + 3 ≠ 262 + 6 * r + 4 by omega), up_s, up_n (show 262 + 6 * r + 5 ≠ 262 + 6 * r + 4 by omega)]; rfl)
theorem hs_r12 {E : EE} {a : Nat → Nat} {g : Nat → Int32} {r : Nat} {v : Int32} (hr : r < 5) : (hs E a g).set (8 + 6 * r) (a (8 + 6 * r), .inr (1, (rf a g r).set 12 (.int v))) = hs E a (upd g (262 + 6 * r + 5) v) := hs_put (by omega) (fun k h1 h2 => by unfold dep; omega) (by rw [show hc E a (upd g (262 + 6 * r + 5) v) (8 + 6 * r) = hc1 E a (upd g (262 + 6 * r + 5) v) r 0 from hc_hi (j := 0) (by decide)]; unfold hc1 rf; rw [up_n (show 42 + r ≠ 262 + 6 * r + 5 by omega), up_n (show 47 + r ≠ 262 + 6 * r + 5 by omega), up_n (show 262 + 6 * r + 0 ≠ 262 + 6 * r + 5 by omega), up_n (show 262 + 6 * r + 1 ≠ 262 + 6 * r + 5 by omega), up_n (show 262 + 6 * r + 2 ≠ 262 + 6 * r + 5 by omega), up_n (show 262 + 6 * r + 3 ≠ 262 + 6 * r + 5 by omega), up_n (show 262 + 6 * r + 4 ≠ 262 + 6 * r + 5 by omega), up_s]; rfl)
theorem set_l {x x' z : va_W} {q : Nat} {e : Nat × va_E} (hq : q < x.length) (h : x.set q e = x') : (x ++ z).set q e = x' ++ z := by
  rw [List.set_append_left _ _ hq, h]
theorem set_h {E : EE} {a : Nat → Nat} {g : Nat → Int32} {x' z : va_W} {q : Nat} {e : Nat × va_E} (hq : q < 38) (h : (hs E a g).set q e = x') : (hs E a g ++ z).set q e = x' ++ z := set_l (by rw [hs_len]; exact hq) h
/-- the reference's cells: itself, its row, its images, which are kept -/
def ms (E : EE) (a : Nat → Nat) (g im kp : Nat → Int32) : va_W := [(a 0, .inr (3, [.ref (a 1), .ref (a 2), .ref (a 3)])), (a 1, rI E 309 g), (a 2, rI E 618 im), (a 3, .inl (E.2 3, 2, .inl kp))]
theorem Fr.nil {w : va_W} : Fr w [] [] w := ⟨[], w, by simp, by simp⟩
