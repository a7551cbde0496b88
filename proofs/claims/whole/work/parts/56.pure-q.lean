/-! PURE: a read keeps the invariant -/
theorem e_J3 {T B : Nat} {g g' : Nat → Int32} (h : ∀ j, ¬ OFF j → j ≠ 296 → j ≠ 302 → g' j = g j) (hc : CNv g') (H : Jv T B g) : Jv T B g' := by
  have k : ∀ j, j ≠ 4 → ¬ (67 ≤ j ∧ j < 82) → ¬ (142 ≤ j ∧ j < 202) → ¬ 262 ≤ j → g' j = g j := fun j a1 a2 a3 a4 => h j (fun q => by unfold OFF at q; omega) (by omega) (by omega)
  obtain ⟨⟨b1, b2, b3, b4, b5, b6, b7, b8, b9, b10, b11⟩, b12⟩ := H
  exact ⟨⟨e_LI (fun j _ _ => k j (by omega) (by omega) (by omega) (by omega)) b1, e_LD b1 (fun j _ _ => k j (by omega) (by omega) (by omega) (by omega)) b2, e_TH (fun j _ _ => k j (by omega) (by omega) (by omega) (by omega)) b3, e_WY (fun j _ _ => k j (by omega) (by omega) (by omega) (by omega)) b4, e_CC (fun j _ _ => k j (by omega) (by omega) (by omega) (by omega)) b5, e_VB (fun j _ _ => k j (by omega) (by omega) (by omega) (by omega)) b6, e_PB (k 0 (by omega) (by omega) (by omega) (by omega)) (fun j _ _ => k j (by omega) (by omega) (by omega) (by omega)) b7, e_RU (fun j _ _ => k j (by omega) (by omega) (by omega) (by omega)) b8, e_SK (fun j _ _ => k j (by omega) (by omega) (by omega) (by omega)) b9, hc, by rw [k 0 (by omega) (by omega) (by omega) (by omega)]; exact b11⟩,
    e_HD (k 0 (by omega) (by omega) (by omega) (by omega)) (fun j _ _ => k j (by omega) (by omega) (by omega) (by omega)) (fun j _ _ => k j (by omega) (by omega) (by omega) (by omega)) (fun j _ _ => k j (by omega) (by omega) (by omega) (by omega)) (fun j _ _ => k j (by omega) (by omega) (by omega) (by omega)) b12⟩
theorem rn_pf {g S : Nat → Int32} {r t i j : Nat} (h1 : j ≠ 262 + 6 * r + 5) (h2 : j ≠ 82 + 12 * r + (t / 4 * 4 + i)) (h3 : j ≠ 142 + 12 * r + (t / 4 * 4 + i)) (h4 : j ≠ 202 + 12 * r + (t / 4 * 4 + i)) : p_X3_renew_63 g r t S i j = S j := by
  unfold p_X3_renew_63
  (repeat' split) <;> first | (rw [up_n h4, up_n h3, up_n h2, up_n h1]; done) | rfl
theorem qs_X3_renew (g : Nat → Int32) (r t i : Nat) : q_X3_renew_63 g r t g (i + 1) = p_X3_renew_63 g r t (q_X3_renew_63 g r t g i) i := rfl
theorem rn_qf {g : Nat → Int32} {r t j : Nat} (hr : r < 5) (ht : t < 12) (hj : j < 82 ∨ 292 ≤ j) : ∀ i, i ≤ 4 → q_X3_renew_63 g r t g i j = g j
  | 0, _ => rfl
  | i + 1, hi => by
    rw [qs_X3_renew, rn_pf (by omega) (by omega) (by omega) (by omega)]
    exact rn_qf hr ht hj i (by omega)
theorem rn_qp {g : Nat → Int32} {r t j : Nat} (hr : r < 5) (ht : t < 12) (h1 : 202 ≤ j) (h2 : j < 262) : ∀ i, i ≤ 4 → q_X3_renew_63 g r t g i j = g j ∨ q_X3_renew_63 g r t g i j = 0
  | 0, _ => Or.inl rfl
  | i + 1, hi => by
    have ih := rn_qp (g := g) hr ht h1 h2 i (by omega)
    rw [qs_X3_renew]
    generalize q_X3_renew_63 g r t g i = S at ih ⊢
    by_cases e : j = 202 + 12 * r + (t / 4 * 4 + i)
    · have : p_X3_renew_63 g r t S i j = S j ∨ p_X3_renew_63 g r t S i j = 0 := by
        rw [e]
        unfold p_X3_renew_63
        (repeat' split) <;> first | exact Or.inl rfl | exact Or.inr up_s
      rcases this with q | q
      · rw [q]; exact ih
      · exact Or.inr q
    · rw [rn_pf (by omega) (by omega) (by omega) e]; exact ih
theorem ti_a {x y : Int32} (h0 : 0 ≤ x.toInt) (h1 : x.toInt ≤ 1000000) (h2 : 0 ≤ y.toInt) (h3 : y.toInt ≤ 1000000) : (x + y).toInt = x.toInt + y.toInt := by
  rw [Int32.toInt_add]
  exact Int.bmod_eq_of_le (by omega) (by omega)
theorem rn_v {g : Nat → Int32} {r t : Nat} (hr : r < 5) (ht : t < 12) : s_X3_renew g r t (52 + 3 * r + t / 4) = g 0 + g 2 := by
  have e0 := rn_qf (g := g) (j := 0) hr ht (by omega) 4 (Nat.le_refl 4)
  have e2 := rn_qf (g := g) (j := 2) hr ht (by omega) 4 (Nat.le_refl 4)
  unfold s_X3_renew
  generalize q_X3_renew_63 g r t g 4 = S at e0 e2 ⊢
  split
  · rw [up_n (by omega), up_s]
  · rw [up_n (by omega), up_s, e0, e2]
theorem rn_o {g : Nat → Int32} {r t j : Nat} (hr : r < 5) (ht : t < 12) (hj : j < 67 ∨ (292 ≤ j ∧ j < 308)) (hn : j ≠ 52 + 3 * r + t / 4) : s_X3_renew g r t j = g j := by
  have e := rn_qf (g := g) (j := j) hr ht (by omega) 4 (Nat.le_refl 4)
  unfold s_X3_renew
  generalize q_X3_renew_63 g r t g 4 = S at e ⊢
  split
  · rw [up_n (by omega), up_n hn]
  · rw [up_n (by omega), up_n hn, up_n (by omega), e]
theorem rn_p2 {g : Nat → Int32} {r t j : Nat} (hr : r < 5) (ht : t < 12) (h1 : 202 ≤ j) (h2 : j < 262) : s_X3_renew g r t j = g j ∨ s_X3_renew g r t j = 0 := by
  have e := rn_qp (g := g) hr ht h1 h2 4 (Nat.le_refl 4)
  unfold s_X3_renew
  generalize q_X3_renew_63 g r t g 4 = S at e ⊢
  split
  · rw [up_n (by omega), up_n (by omega)]; exact Or.inl rfl
  · rw [up_n (by omega), up_n (by omega), up_n (by omega)]; exact e
theorem rn_cc {g : Nat → Int32} {r t : Nat} (hr : r < 5) (ht : t < 12) (h : CC g) : CC (s_X3_renew g r t) := by
  have e := rn_cq (t := t) h hr 4
  unfold s_X3_renew
  generalize q_X3_renew_63 g r t g 4 = S at e ⊢
  split
  · exact cc_upd (cc_upd h (by omega)) (by omega)
  · exact cc_upd (cc_upd (cc_upd e (by omega)) (by omega)) (by omega)
theorem j_renew {T B : Nat} {g : Nat → Int32} {r t : Nat} (hr : r < 5) (ht : t < 12) (H : Jv T B g) : Jv T B (s_X3_renew g r t) := by
  obtain ⟨⟨b1, b2, b3, b4, b5, b6, b7, b8, b9, b10, b11⟩, b12⟩ := H
  have k : ∀ j, j < 52 → s_X3_renew g r t j = g j := fun j hj => rn_o hr ht (by omega) (by omega)
  obtain ⟨p1, p2, p3⟩ := id b7
  obtain ⟨-, ⟨u1, u2⟩, -⟩ := id b8
  refine ⟨⟨e_LI (fun j _ _ => k j (by omega)) b1, e_LD b1 (fun j _ _ => k j (by omega)) b2, e_TH (fun j _ _ => k j (by omega)) b3, e_WY (fun j _ _ => k j (by omega)) b4, rn_cc hr ht b5, e_VB (fun j _ _ => k j (by omega)) b6, ⟨by rw [k 0 (by omega)]; exact p1, by rw [k 0 (by omega)]; exact p2, fun r' hr' t' ht' => ?_⟩, e_RU (fun j _ _ => k j (by omega)) b8, e_SK (fun j _ _ => k j (by omega)) b9, e_CN (rn_o hr ht (by omega) (by omega)) (rn_o hr ht (by omega) (by omega)) b10, by rw [k 0 (by omega)]; exact b11⟩, ?_⟩
  · rw [k 0 (by omega)]
    rcases rn_p2 (g := g) (j := 202 + 12 * r' + t') hr ht (by omega) (by omega) with e | e
    · rw [e]; exact p3 r' hr' t' ht'
    · rw [e]
      have : (0 : Int32).toInt = 0 := rfl
      omega
  · intro t' ht' q r' hr' z
    rw [k _ (by omega)] at q
    rw [k 0 (by omega)] at z ⊢
    rw [k (17 + t') (by omega), k (42 + r') (by omega)]
    have z' : g 0 < g (202 + 12 * r' + t') := by
      rcases rn_p2 (g := g) (j := 202 + 12 * r' + t') hr ht (by omega) (by omega) with e | e
      · rw [e] at z; exact z
      · rw [e] at z
        exact absurd (Int32.lt_of_lt_of_le z (pb_0 b7)) Int32.lt_irrefl
    obtain ⟨a1, a2⟩ := b12 t' ht' q r' hr' z'
    refine ⟨?_, a2⟩
    by_cases e : 52 + 3 * r' + t' / 4 = 52 + 3 * r + t / 4
    · rw [e, rn_v hr ht, Int32.lt_iff_toInt_lt, ti_a p1 (by omega) (by omega) (by omega)]
      omega
    · rw [rn_o hr ht (by omega) e]; exact a1
theorem j_take {T B : Nat} {g : Nat → Int32} {r t : Nat} {v u u' : Int32} (hr : r < 5) (ht : t < 12) (hw : g (17 + t) < 0) (hv : 0 ≤ v) (hu : u.toInt ≤ (g 0).toInt + 200) (H : Jv T B g) : Jv T B (upd (upd (upd g (82 + 12 * r + t) v) (142 + 12 * r + t) u') (202 + 12 * r + t) u) := by
  obtain ⟨⟨b1, b2, b3, b4, b5, b6, b7, b8, b9, b10, b11⟩, b12⟩ := H
  have k : ∀ j, j < 82 ∨ 262 ≤ j → upd (upd (upd g (82 + 12 * r + t) v) (142 + 12 * r + t) u') (202 + 12 * r + t) u j = g j := fun j hj => by rw [up_n (by omega), up_n (by omega), up_n (by omega)]
  obtain ⟨p1, p2, p3⟩ := id b7
  refine ⟨⟨e_LI (fun j _ _ => k j (by omega)) b1, e_LD b1 (fun j _ _ => k j (by omega)) b2, e_TH (fun j _ _ => k j (by omega)) b3, e_WY (fun j _ _ => k j (by omega)) b4, cc_upd (cc_upd (cc_upd b5 (Or.inr (Or.inr (Or.inr hv)))) (by omega)) (by omega), e_VB (fun j _ _ => k j (by omega)) b6, ⟨by rw [k 0 (by omega)]; exact p1, by rw [k 0 (by omega)]; exact p2, fun r' hr' t' ht' => ?_⟩, e_RU (fun j _ _ => k j (by omega)) b8, e_SK (fun j _ _ => k j (by omega)) b9, e_CN (k _ (by omega)) (k _ (by omega)) b10, by rw [k 0 (by omega)]; exact b11⟩, ?_⟩
  · rw [k 0 (by omega)]
    by_cases e : 202 + 12 * r' + t' = 202 + 12 * r + t
    · rw [e, up_s]; exact hu
    · rw [up_n e, up_n (by omega), up_n (by omega)]; exact p3 r' hr' t' ht'
  · intro t' ht' q
    rw [k _ (by omega)] at q
    have hne : t' ≠ t := fun e => by rw [e] at q; exact q hw
    exact hd_eq ht' (k 0 (by omega)) (k _ (by omega)) (fun r' hr' => k _ (by omega)) (fun r' hr' => k _ (by omega)) (fun r' hr' => by rw [up_n (by omega), up_n (by omega), up_n (by omega)]) (b12 t' ht' q)
theorem j_ver {T B : Nat} {g : Nat → Int32} {t : Nat} (ht : t < 12) (H : Jv T B g) : 0 ≤ g (5 + t) := by
  rw [Int32.le_iff_toInt_le]
  exact (H.1.2.2.2.2.2.1 t ht).1
theorem j_lng {T B : Nat} {g : Nat → Int32} (H : Jv T B g) : (g 0 + g 1).toInt ≤ (g 0).toInt + 200 := by
  obtain ⟨⟨b1, b2, b3, b4, b5, b6, ⟨p1, p2, p3⟩, ⟨⟨u1, u2⟩, -⟩, -⟩, -⟩ := H
  rw [ti_a p1 (by omega) (by omega) (by omega)]
  omega
theorem j_ask {T B : Nat} {G : Nat → Int32} {r t : Nat} {vt : Int32} (hr : r < 5) (ht : t < 12) (H : Jv T B G) : Jv T B (ask G r t vt) := by
  unfold ask
  have HX : Jv T B (upd G (262 + 6 * r + 2) (G (262 + 6 * r + 2) + 1)) := j_off (by unfold OFF; omega) H
  have eX : ∀ j, j < 262 → upd G (262 + 6 * r + 2) (G (262 + 6 * r + 2) + 1) j = G j := fun j hj => up_n (by omega)
  have HR : Jv T B (s_X3_renew (upd G (262 + 6 * r + 2) (G (262 + 6 * r + 2) + 1)) r t) := j_renew hr ht HX
  generalize s_X3_renew (upd G (262 + 6 * r + 2) (G (262 + 6 * r + 2) + 1)) r t = R at HR ⊢
  generalize upd G (262 + 6 * r + 2) (G (262 + 6 * r + 2) + 1) = X at HX eX ⊢
  have c2 : Jv T B (if R (17 + t) < 0 then upd (upd (upd (upd R (262 + 6 * r + 0) (R (5 + t))) (82 + 12 * r + t) (R (5 + t))) (142 + 12 * r + t) (R 0 + R 1)) (202 + 12 * r + t) (R 0 + R 1) else upd R (262 + 6 * r + 0) (R (5 + t))) := by
    have HY : Jv T B (upd R (262 + 6 * r + 0) (R (5 + t))) := j_off (by unfold OFF; omega) HR
    by_cases c : R (17 + t) < 0
    · rw [if_pos c]
      exact j_take hr ht (by rw [up_n (by omega)]; exact c) (j_ver ht HR) (by rw [up_n (by omega)]; exact j_lng HR) HY
    · rw [if_neg c]; exact HY
  have c1 : Jv T B (if G (17 + t) < 0 then upd (upd (upd (upd X (262 + 6 * r + 0) (G (5 + t))) (82 + 12 * r + t) (G (5 + t))) (142 + 12 * r + t) (G 0 + G 1)) (202 + 12 * r + t) (G 0 + G 1) else upd X (262 + 6 * r + 0) (G (5 + t))) := by
    have HY : Jv T B (upd X (262 + 6 * r + 0) (G (5 + t))) := j_off (by unfold OFF; omega) HX
    by_cases c : G (17 + t) < 0
    · rw [if_pos c]
      exact j_take hr ht (by rw [up_n (by omega), eX _ (by omega)]; exact c) (j_ver ht H) (by rw [up_n (by omega), eX _ (by omega)]; exact j_lng H) HY
    · rw [if_neg c]; exact HY
  split
  · split
    · exact c1
    · exact c2
  · exact c2
theorem j_read {T B : Nat} {g : Nat → Int32} {x y : Int32} (H : Jv T B g) : Jv T B (s_X3_read g x y) := by
  unfold s_X3_read
  by_cases c1 : f_X3_in x 0 4 = 0
  · rw [if_pos c1]; exact H
  rw [if_neg c1]
  by_cases c2 : f_X3_in y 0 11 = 0
  · rw [if_pos c2]; exact H
  rw [if_neg c2]
  obtain ⟨hx, -⟩ := in_ix (n := 4) c1 rfl (by decide)
  obtain ⟨hy, -⟩ := in_ix (n := 11) c2 rfl (by decide)
  by_cases c3 : f_X3_canUse g (ix x) (ix y) = 0
  · rw [if_pos c3]
    obtain ⟨-, h2, h3⟩ := nc_4 g x y hx hy H.1.2.2.2.2.1
    have HG : Jv T B (t4_X3_read g x y) := e_J3 (fun j hj h6 h7 => h3 j (by unfold OFF at hj; omega)) ⟨h2, by rw [h3 302 (by omega)]; exact H.1.2.2.2.2.2.2.2.2.2.1.2⟩ H
    unfold t5_X3_read t6_X3_read
    generalize t4_X3_read g x y = G at HG ⊢
    by_cases c4 : G (42 + ix x) = 0
    · rw [if_pos c4]
      exact j_off (by unfold OFF; omega) HG
    · rw [if_neg c4]
      exact j_ask (vt := g (52 + 3 * ix x + ix y / 4)) hx hy HG
  · rw [if_neg c3]
    exact j_off (by unfold OFF; omega) (j_off (by unfold OFF; omega) (j_off (by unfold OFF; omega) H))
