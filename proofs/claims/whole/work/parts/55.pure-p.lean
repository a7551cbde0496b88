/-! PURE: the invariant; rule, skew, there, pass keep it -/
def RU (g : Nat → Int32) : Prop := (1 ≤ (g 1).toInt ∧ (g 1).toInt ≤ 200) ∧ (1 ≤ (g 2).toInt ∧ (g 2).toInt ≤ 100) ∧ ∃ m, m < 10 ∧ g 3 = nI m
def SKv (g : Nat → Int32) : Prop := ∀ r, r < 5 → KV (g (47 + r))
def CNv (g : Nat → Int32) : Prop := (ix (g 296) ≤ 4 ∧ g 296 = nI (ix (g 296))) ∧ (ix (g 302) ≤ 5 ∧ g 302 = nI (ix (g 302)))
def Jw (T B : Nat) (g : Nat → Int32) : Prop := LI g ∧ LD g ∧ TH g ∧ WYc g ∧ CC g ∧ VB B g ∧ PB g ∧ RU g ∧ SKv g ∧ CNv g ∧ (g 0).toInt ≤ T
def Jv (T B : Nat) (g : Nat → Int32) : Prop := Jw T B g ∧ HDa g
theorem e_LI {g g' : Nat → Int32} (h : ∀ j, 29 ≤ j → j < 42 → g' j = g j) (H : LI g) : LI g' := by
  obtain ⟨h1, h2⟩ := H
  have e := h 41 (by omega) (by omega)
  refine ⟨by rw [e]; exact h1, fun k hk => ?_⟩
  rw [e] at hk
  have := h1.1
  rw [h (29 + k) (by omega) (by omega)]
  exact h2 k hk
theorem e_LD {g g' : Nat → Int32} (hL : LI g) (h : ∀ j, 17 ≤ j → j < 42 → g' j = g j) (H : LD g) : LD g' := by
  obtain ⟨h1, h2⟩ := H
  have hm := hL.1.1
  have e := h 41 (by omega) (by omega)
  refine ⟨fun k k' hk hk' q => ?_, fun t ht => ?_⟩
  · rw [e] at hk hk'
    rw [h (29 + k) (by omega) (by omega), h (29 + k') (by omega) (by omega)] at q
    exact h1 k k' hk hk' q
  · rw [h (17 + t) (by omega) (by omega), h2 t ht, e]
    constructor
    · rintro ⟨k, hk, q⟩; exact ⟨k, hk, by rw [h (29 + k) (by omega) (by omega)]; exact q⟩
    · rintro ⟨k, hk, q⟩; exact ⟨k, hk, by rw [← h (29 + k) (by omega) (by omega)]; exact q⟩
theorem e_TH {g g' : Nat → Int32} (h : ∀ j, 42 ≤ j → j < 47 → g' j = g j) (H : TH g) : TH g' := fun r hr => by rw [h _ (by omega) (by omega)]; exact H r hr
theorem e_WY {g g' : Nat → Int32} (h : ∀ j, 17 ≤ j → j < 29 → g' j = g j) (H : WYc g) : WYc g' := fun t ht => by rw [h _ (by omega) (by omega)]; exact H t ht
theorem e_CC {g g' : Nat → Int32} (h : ∀ j, 82 ≤ j → j < 142 → g' j = g j) (H : CC g) : CC g' := fun r hr t ht => by rw [h _ (by omega) (by omega)]; exact H r hr t ht
theorem e_VB {g g' : Nat → Int32} {B : Nat} (h : ∀ j, 5 ≤ j → j < 17 → g' j = g j) (H : VB B g) : VB B g' := fun t ht => by rw [h _ (by omega) (by omega)]; exact H t ht
theorem e_PB {g g' : Nat → Int32} (h0 : g' 0 = g 0) (h : ∀ j, 202 ≤ j → j < 262 → g' j = g j) (H : PB g) : PB g' := by
  obtain ⟨a, b, c⟩ := H
  refine ⟨by rw [h0]; exact a, by rw [h0]; exact b, fun r hr t ht => ?_⟩
  rw [h0, h _ (by omega) (by omega)]
  exact c r hr t ht
theorem e_RU {g g' : Nat → Int32} (h : ∀ j, 1 ≤ j → j < 4 → g' j = g j) (H : RU g) : RU g' := by
  unfold RU
  rw [h 1 (by omega) (by omega), h 2 (by omega) (by omega), h 3 (by omega) (by omega)]
  exact H
theorem e_SK {g g' : Nat → Int32} (h : ∀ j, 47 ≤ j → j < 52 → g' j = g j) (H : SKv g) : SKv g' := fun r hr => by rw [h _ (by omega) (by omega)]; exact H r hr
theorem e_CN {g g' : Nat → Int32} (h1 : g' 296 = g 296) (h2 : g' 302 = g 302) (H : CNv g) : CNv g' := by
  unfold CNv
  rw [h1, h2]
  exact H
theorem e_HD {g g' : Nat → Int32} (h0 : g' 0 = g 0) (h1 : ∀ j, 17 ≤ j → j < 29 → g' j = g j) (h2 : ∀ j, 42 ≤ j → j < 47 → g' j = g j) (h3 : ∀ j, 52 ≤ j → j < 67 → g' j = g j) (h4 : ∀ j, 202 ≤ j → j < 262 → g' j = g j) (H : HDa g) : HDa g' := by
  intro t ht q
  rw [h1 _ (by omega) (by omega)] at q
  exact hd_eq ht h0 (h1 _ (by omega) (by omega)) (fun r hr => h2 _ (by omega) (by omega)) (fun r hr => h3 _ (by omega) (by omega)) (fun r hr => h4 _ (by omega) (by omega)) (H t ht q)
/-- numbers that the invariant doesn't look at -/
def OFF (j : Nat) : Prop := j = 4 ∨ (67 ≤ j ∧ j < 82) ∨ (142 ≤ j ∧ j < 202) ∨ (262 ≤ j ∧ j < 296) ∨ (297 ≤ j ∧ j < 302) ∨ 303 ≤ j
theorem e_J {T B : Nat} {g g' : Nat → Int32} (h : ∀ j, ¬ OFF j → g' j = g j) (H : Jv T B g) : Jv T B g' := by
  have k : ∀ j, j ≠ 4 → ¬ (67 ≤ j ∧ j < 82) → ¬ (142 ≤ j ∧ j < 202) → ¬ (262 ≤ j ∧ j < 296) → ¬ (297 ≤ j ∧ j < 302) → ¬ 303 ≤ j → g' j = g j := fun j a1 a2 a3 a4 a5 a6 => h j (fun q => by unfold OFF at q; omega)
  obtain ⟨⟨b1, b2, b3, b4, b5, b6, b7, b8, b9, b10, b11⟩, b12⟩ := H
  exact ⟨⟨e_LI (fun j _ _ => k j (by omega) (by omega) (by omega) (by omega) (by omega) (by omega)) b1, e_LD b1 (fun j _ _ => k j (by omega) (by omega) (by omega) (by omega) (by omega) (by omega)) b2, e_TH (fun j _ _ => k j (by omega) (by omega) (by omega) (by omega) (by omega) (by omega)) b3, e_WY (fun j _ _ => k j (by omega) (by omega) (by omega) (by omega) (by omega) (by omega)) b4, e_CC (fun j _ _ => k j (by omega) (by omega) (by omega) (by omega) (by omega) (by omega)) b5, e_VB (fun j _ _ => k j (by omega) (by omega) (by omega) (by omega) (by omega) (by omega)) b6, e_PB (k 0 (by omega) (by omega) (by omega) (by omega) (by omega) (by omega)) (fun j _ _ => k j (by omega) (by omega) (by omega) (by omega) (by omega) (by omega)) b7, e_RU (fun j _ _ => k j (by omega) (by omega) (by omega) (by omega) (by omega) (by omega)) b8, e_SK (fun j _ _ => k j (by omega) (by omega) (by omega) (by omega) (by omega) (by omega)) b9, e_CN (k 296 (by omega) (by omega) (by omega) (by omega) (by omega) (by omega)) (k 302 (by omega) (by omega) (by omega) (by omega) (by omega) (by omega)) b10, by rw [k 0 (by omega) (by omega) (by omega) (by omega) (by omega) (by omega)]; exact b11⟩,
    e_HD (k 0 (by omega) (by omega) (by omega) (by omega) (by omega) (by omega)) (fun j _ _ => k j (by omega) (by omega) (by omega) (by omega) (by omega) (by omega)) (fun j _ _ => k j (by omega) (by omega) (by omega) (by omega) (by omega) (by omega)) (fun j _ _ => k j (by omega) (by omega) (by omega) (by omega) (by omega) (by omega)) (fun j _ _ => k j (by omega) (by omega) (by omega) (by omega) (by omega) (by omega)) b12⟩
theorem j_off {T B i : Nat} {g : Nat → Int32} {v : Int32} (hi : OFF i) (H : Jv T B g) : Jv T B (upd g i v) := e_J (fun j hj => up_n (fun e => hj (by rw [e]; exact hi))) H
theorem j_mono {T B T' B' : Nat} {g : Nat → Int32} (hT : T ≤ T') (hB : B ≤ B') (H : Jv T B g) : Jv T' B' g := by
  obtain ⟨⟨b1, b2, b3, b4, b5, b6, b7, b8, b9, b10, b11⟩, b12⟩ := H
  exact ⟨⟨b1, b2, b3, b4, b5, fun t ht => ⟨(b6 t ht).1, by have := (b6 t ht).2; omega⟩, b7, b8, b9, b10, by omega⟩, b12⟩
theorem KV_0 : KV 0 := ⟨20, by decide, by decide⟩
theorem g0_int : (∀ r, r < 5 → g0 (42 + r) = 0 ∨ g0 (42 + r) = 1) ∧ (∀ t, t < 12 → g0 (17 + t) = -6 ∨ g0 (17 + t) = 0 ∨ g0 (17 + t) = 1) ∧ (∀ t, t < 12 → (g0 (5 + t)).toInt = 0) ∧ (∀ r, r < 5 → ∀ t, t < 12 → (g0 (202 + 12 * r + t)).toInt = 0) ∧ (g0 0).toInt = 0 ∧ g0 41 = 0 ∧ (g0 1).toInt = 40 ∧ (g0 2).toInt = 10 ∧ g0 3 = nI 1 ∧ g0 296 = 0 ∧ g0 302 = 0 ∧ (∀ r, r < 5 → g0 (47 + r) = 0) ∧ (∀ t, t < 12 → g0 (17 + t) < 0) := by decide +kernel
theorem j_0 : Jv 0 0 g0 := by
  obtain ⟨a1, a2, a3, a4, a5, a6, a7, a8, a9, a10, a11, a12, a13⟩ := g0_int
  have z : ix (g0 41) = 0 := by rw [a6]; rfl
  refine ⟨⟨⟨⟨by rw [z]; decide, by rw [z, a6]; rfl⟩, fun k hk => by rw [z] at hk; exact absurd hk (Nat.not_lt_zero k)⟩, ⟨fun k k' hk => by rw [z] at hk; exact absurd hk (Nat.not_lt_zero k), fun t ht => ⟨fun q => absurd (a13 t ht) q, fun ⟨k, hk, _⟩ => by rw [z] at hk; exact absurd hk (Nat.not_lt_zero k)⟩⟩, a1, a2, fun r hr t ht => Or.inl (g0_82 r hr t ht), fun t ht => ⟨by rw [a3 t ht]; omega, by rw [a3 t ht]; omega⟩, ⟨by rw [a5]; omega, by rw [a5]; omega, fun r hr t ht => by rw [a4 r hr t ht, a5]; omega⟩, ⟨⟨by rw [a7]; omega, by rw [a7]; omega⟩, ⟨by rw [a8]; omega, by rw [a8]; omega⟩, 1, by decide, a9⟩, fun r hr => by rw [a12 r hr]; exact KV_0, ⟨⟨by rw [a10]; decide, by rw [a10]; rfl⟩, ⟨by rw [a11]; decide, by rw [a11]; rfl⟩⟩, by rw [a5]; omega⟩, fun t ht q => absurd (a13 t ht) q⟩
theorem in_yes {n lo hi : Int32} (h : ¬ f_X3_in n lo hi = 0) : lo.toInt ≤ n.toInt ∧ n.toInt ≤ hi.toInt := by
  have a : ¬ n < lo := fun q => h (in_not.mpr (Or.inl q))
  have b : ¬ hi < n := fun q => h (in_not.mpr (Or.inr q))
  rw [Int32.lt_iff_toInt_lt] at a b
  omega
theorem j_rule {T B : Nat} {g : Nat → Int32} {x n : Int32} (H : Jv T B g) : Jv T B (s_X3_rule g x n) := by
  unfold s_X3_rule
  by_cases c : f_X3_in x 0 3 = 0
  · rw [if_pos c]; exact H
  rw [if_neg c]
  obtain ⟨hx, ex⟩ := in_ix (n := 3) c rfl (by decide)
  obtain ⟨r1, r2⟩ := ru_rl (ix x) hx
  rw [← ex] at r1 r2
  rw [r1, r2]
  by_cases q : f_X3_in n (rl1 (ix x)) (rl2 (ix x)) = 0
  · rw [if_pos q]; exact H
  rw [if_neg q]
  have hn := in_yes q
  by_cases x4 : ix x = 3
  · exact j_off (Or.inl (by omega)) H
  obtain ⟨⟨b1, b2, b3, b4, b5, b6, b7, b8, b9, b10, b11⟩, b12⟩ := H
  refine ⟨⟨e_LI (fun j _ _ => up_n (by omega)) b1, e_LD b1 (fun j _ _ => up_n (by omega)) b2, e_TH (fun j _ _ => up_n (by omega)) b3, e_WY (fun j _ _ => up_n (by omega)) b4, e_CC (fun j _ _ => up_n (by omega)) b5, e_VB (fun j _ _ => up_n (by omega)) b6, e_PB (up_n (by omega)) (fun j _ _ => up_n (by omega)) b7, ?_, e_SK (fun j _ _ => up_n (by omega)) b9, e_CN (up_n (by omega)) (up_n (by omega)) b10, by rw [up_n (by omega)]; exact b11⟩, e_HD (up_n (by omega)) (fun j _ _ => up_n (by omega)) (fun j _ _ => up_n (by omega)) (fun j _ _ => up_n (by omega)) (fun j _ _ => up_n (by omega)) b12⟩
  obtain ⟨u1, u2, u3⟩ := b8
  rcases (show ix x = 0 ∨ ix x = 1 ∨ ix x = 2 by omega) with e | e | e <;> rw [e] at hn ⊢
  · refine ⟨?_, by rw [up_n (by omega)]; exact u2, by rw [up_n (by omega)]; exact u3⟩
    rw [up_s]
    have e1 : (rl1 0).toInt = 1 := rfl
    have e2 : (rl2 0).toInt = 200 := rfl
    omega
  · refine ⟨by rw [up_n (by omega)]; exact u1, ?_, by rw [up_n (by omega)]; exact u3⟩
    rw [up_s]
    have e1 : (rl1 1).toInt = 1 := rfl
    have e2 : (rl2 1).toInt = 100 := rfl
    omega
  · refine ⟨by rw [up_n (by omega)]; exact u1, by rw [up_n (by omega)]; exact u2, ?_⟩
    rw [up_s]
    have e1 : (rl1 2).toInt = 0 := rfl
    have e2 : (rl2 2).toInt = 9 := rfl
    refine ⟨n.toInt.toNat, by omega, ?_⟩
    rw [← Int32.toInt_inj, nI_toInt (by omega)]
    omega
theorem j_skew {T B : Nat} {g : Nat → Int32} {x n : Int32} (H : Jv T B g) : Jv T B (s_X3_skew g x n) := by
  unfold s_X3_skew
  by_cases c : f_X3_in x 0 4 = 0
  · rw [if_pos c]; exact H
  rw [if_neg c]
  by_cases q : f_X3_in n (-20) 20 = 0
  · rw [if_pos q]; exact H
  rw [if_neg q]
  obtain ⟨hx, -⟩ := in_ix (n := 4) c rfl (by decide)
  obtain ⟨⟨b1, b2, b3, b4, b5, b6, b7, b8, b9, b10, b11⟩, b12⟩ := H
  refine ⟨⟨e_LI (fun j _ _ => up_n (by omega)) b1, e_LD b1 (fun j _ _ => up_n (by omega)) b2, e_TH (fun j _ _ => up_n (by omega)) b3, e_WY (fun j _ _ => up_n (by omega)) b4, e_CC (fun j _ _ => up_n (by omega)) b5, e_VB (fun j _ _ => up_n (by omega)) b6, e_PB (up_n (by omega)) (fun j _ _ => up_n (by omega)) b7, e_RU (fun j _ _ => up_n (by omega)) b8, fun r hr => ?_, e_CN (up_n (by omega)) (up_n (by omega)) b10, by rw [up_n (by omega)]; exact b11⟩, e_HD (up_n (by omega)) (fun j _ _ => up_n (by omega)) (fun j _ _ => up_n (by omega)) (fun j _ _ => up_n (by omega)) (fun j _ _ => up_n (by omega)) b12⟩
  by_cases e : 47 + r = 47 + ix x
  · rw [e, up_s]
    exact kv_in (fun z => q (in_not.mpr (Or.inl z))) (Int32.not_lt.mp (fun z => q (in_not.mpr (Or.inr z))))
  · rw [up_n e]; exact b9 r hr
theorem jw_sa {T B : Nat} {g : Nat → Int32} (hB : B + 12 ≤ 1000000) (H : Jw T B g) : Jv T (B + 12) (s_X3_settleAll g) := by
  obtain ⟨b1, b2, b3, b4, b5, b6, b7, b8, b9, b10, b11⟩ := H
  obtain ⟨c1, c2, c3, c4, c5, c6, c7⟩ := sa_inv b1 b2 b4 b5 b6 b7 hB
  exact ⟨⟨li_X3_settleAll b1, c1, e_TH (fun j _ _ => sk_sa b1 (by omega)) b3, c3, c4, c5, c6, e_RU (fun j _ _ => c7 j (by omega)) b8, e_SK (fun j _ _ => sk_sa b1 (by omega)) b9, e_CN (c7 _ (by omega)) (c7 _ (by omega)) b10, by rw [sk_sa b1 (Or.inl rfl)]; exact b11⟩, c2⟩
theorem jw_th {T B : Nat} {g : Nat → Int32} {r : Nat} {n : Int32} (hr : r < 5) (hn : n = 0 ∨ n = 1) (H : Jw T B g) : Jw T B (upd g (42 + r) n) := by
  obtain ⟨b1, b2, b3, b4, b5, b6, b7, b8, b9, b10, b11⟩ := H
  refine ⟨e_LI (fun j _ _ => up_n (by omega)) b1, e_LD b1 (fun j _ _ => up_n (by omega)) b2, fun k hk => ?_, e_WY (fun j _ _ => up_n (by omega)) b4, e_CC (fun j _ _ => up_n (by omega)) b5, e_VB (fun j _ _ => up_n (by omega)) b6, e_PB (up_n (by omega)) (fun j _ _ => up_n (by omega)) b7, e_RU (fun j _ _ => up_n (by omega)) b8, e_SK (fun j _ _ => up_n (by omega)) b9, e_CN (up_n (by omega)) (up_n (by omega)) b10, by rw [up_n (by omega)]; exact b11⟩
  by_cases e : 42 + k = 42 + r
  · rw [e, up_s]; exact hn
  · rw [up_n e]; exact b3 k hk
theorem j_there {T B : Nat} {g : Nat → Int32} {x n : Int32} (hB : B + 12 ≤ 1000000) (H : Jv T B g) : Jv T (B + 12) (s_X3_there g x n) := by
  have H' : Jv T (B + 12) g := j_mono (Nat.le_refl _) (by omega) H
  unfold s_X3_there t1_X3_there
  by_cases c : f_X3_in x 0 4 = 0
  · rw [if_pos c]; exact H'
  rw [if_neg c]
  by_cases q : f_X3_in n 0 1 = 0
  · rw [if_pos q]; exact H'
  rw [if_neg q]
  obtain ⟨hx, -⟩ := in_ix (n := 4) c rfl (by decide)
  have hn : n = 0 ∨ n = 1 := by
    by_cases z : n = 0 ∨ n = 1
    · exact z
    · exact absurd ((in_01 n).mpr z) q
  by_cases hb : (if n = 1 then (if g (42 + ix x) = 0 then 1 else 0) else 0 : Int32) = 0
  · rw [if_pos hb]
    by_cases n1 : n = 1
    · rw [if_pos n1] at hb
      have h1 : g (42 + ix x) = 1 := by
        rcases H.1.2.2.1 (ix x) hx with z | z
        · rw [if_pos z] at hb; exact absurd hb (by decide)
        · exact z
      rw [n1, up_id h1.symm]
      exact H'
    · have n0 : n = 0 := hn.resolve_right n1
      subst n0
      refine ⟨jw_th hx (Or.inl rfl) H'.1, fun t ht z => ?_⟩
      rw [up_n (by omega)] at z
      have hd := H.2 t ht z
      intro r hr p
      rw [up_n (by omega), up_n (by omega)] at p
      obtain ⟨p1, p2⟩ := hd r hr p
      refine ⟨by rw [up_n (by omega), up_n (by omega)]; exact p1, fun w => ?_⟩
      rw [up_n (show 17 + t ≠ 42 + ix x by omega)] at w
      by_cases e : 42 + r = 42 + ix x
      · rw [e, up_s] at w; exact absurd w.2 (by decide)
      · rw [up_n e] at w; exact p2 w
  · rw [if_neg hb]
    exact jw_sa hB (jw_th hx hn H.1)
theorem jw_tk {T B : Nat} {g : Nat → Int32} (hT : T ≤ 99999) (H : Jw T B g) : Jw (T + 1) B (upd g 0 (g 0 + 1)) := by
  obtain ⟨b1, b2, b3, b4, b5, b6, b7, b8, b9, b10, b11⟩ := H
  have e : (g 0 + 1).toInt = (g 0).toInt + 1 := ti_1 b7.1 (by have := b7.2.1; omega)
  refine ⟨e_LI (fun j _ _ => up_n (by omega)) b1, e_LD b1 (fun j _ _ => up_n (by omega)) b2, e_TH (fun j _ _ => up_n (by omega)) b3, e_WY (fun j _ _ => up_n (by omega)) b4, e_CC (fun j _ _ => up_n (by omega)) b5, e_VB (fun j _ _ => up_n (by omega)) b6, ?_, e_RU (fun j _ _ => up_n (by omega)) b8, e_SK (fun j _ _ => up_n (by omega)) b9, e_CN (up_n (by omega)) (up_n (by omega)) b10, by rw [up_s, e]; omega⟩
  obtain ⟨p1, p2, p3⟩ := b7
  refine ⟨by rw [up_s, e]; omega, by rw [up_s, e]; omega, fun r hr t ht => ?_⟩
  rw [up_s, e, up_n (by omega)]
  have := p3 r hr t ht
  omega
theorem j_passq {T B : Nat} {g : Nat → Int32} {x : Int32} (hT : T + 100 ≤ 99999) (hB : B + 1300 ≤ 1000000) (H : Jv T B g) : ∀ i, i ≤ 100 → Jv (T + i) (B + 12 * i) (q_X3_pass_17 g x (g, 0) i).1
  | 0, _ => H
  | i + 1, hi => by
    have ih := j_passq (x := x) hT hB H i (by omega)
    rw [qs_X3_pass]
    generalize q_X3_pass_17 g x (g, 0) i = S at ih ⊢
    have := jw_sa (by omega) (jw_tk (by omega) ih.1)
    exact this
theorem j_pass {T B : Nat} {g : Nat → Int32} {x : Int32} (hT : T + 100 ≤ 99999) (hB : B + 1300 ≤ 1000000) (H : Jv T B g) : Jv (T + 100) (B + 1200) (s_X3_pass g x) := by
  unfold s_X3_pass
  by_cases c : f_X3_in x 1 100 = 0
  · rw [if_pos c]; exact j_mono (by omega) (by omega) H
  · rw [if_neg c]
    obtain ⟨-, h1, -⟩ := in_lo (a := 1) (b := 100) c rfl rfl (by decide) (by decide)
    exact j_mono (by omega) (by omega) (j_passq hT hB H (ix x) h1)
