/-! PURE: pass, skew -/
theorem pa_eq {g : Nat → Int32} {x : Int32} (hL : LI g) (h0 : 0 ≤ (g 0).toInt) (h1 : (g 0).toInt ≤ 100000) (hg : ∀ r, r < 5 → g (42 + r) = 0 ∨ g (42 + r) = 1) : s_X2_pass g x = s_X3_pass g x ∧ f_X2_pass g x = f_X3_pass g x := by
  have hin : f_X3_in x 1 100 = if x < 1 then 0 else if x ≤ 100 then 1 else 0 := by
    unfold f_X3_in
    by_cases c : x < 1
    · rw [if_pos c, if_pos c]
    · rw [if_neg c, if_neg c]
      by_cases c2 : x ≤ 100
      · rw [if_pos c2, if_neg (fun q => Int32.lt_irrefl (Int32.lt_of_lt_of_le q c2))]
      · rw [if_neg c2, if_pos (Int32.not_le.mp c2)]
  unfold s_X2_pass s_X3_pass f_X2_pass f_X3_pass
  rw [hin]
  by_cases c : x < 1
  · rw [if_pos c, if_pos c, if_pos c, if_pos rfl, if_pos rfl]; exact ⟨rfl, rfl⟩
  · rw [if_neg c, if_neg c, if_neg c]
    by_cases c2 : x ≤ 100
    · rw [if_pos c2, if_pos c2, if_pos c2, if_neg (by decide), if_neg (by decide), (ps_q hL h0 h1 hg (ix x) (p1_ix c c2).1).1]
      exact ⟨rfl, rfl⟩
    · rw [if_neg c2, if_neg c2, if_neg c2, if_pos rfl, if_pos rfl]; exact ⟨rfl, rfl⟩
theorem sk_num : ∀ k : Fin 41, ∀ m : Fin 10, (f_X2_bit (if (if 0 ≤ nI k.val - 20 then nI k.val - 20 else 0 - (nI k.val - 20)) ≤ nI m.val then 0 else 1 : Int32)) = (if nI m.val < nI k.val - 20 then 1 else (if -(nI m.val) ≤ nI k.val - 20 then 0 else 1)) := by decide +kernel
/-- a skew in its range, doubt in its range -/
def KV (s : Int32) : Prop := ∃ k, k < 41 ∧ s = nI k - 20
theorem sk_one {s d : Int32} (hs : KV s) (hd : ∃ m, m < 10 ∧ d = nI m) : (f_X2_bit (if (if 0 ≤ s then s else 0 - s) ≤ d then 0 else 1 : Int32)) = (if d < s then 1 else (if -d ≤ s then 0 else 1)) := by
  obtain ⟨k, hk, rfl⟩ := hs
  obtain ⟨m, hm, rfl⟩ := hd
  exact sk_num ⟨k, hk⟩ ⟨m, hm⟩
theorem sk_q {g : Nat → Int32} {x n : Int32} (hd : ∃ m, m < 10 ∧ g 3 = nI m) (hs : ∀ r, r < 5 → KV ((upd g (47 + ix x) n) (47 + r))) : ∀ i, i ≤ 5 → q_X0_countSkewedBeyondDoubt_4 (upd g (47 + ix x) n) 0 i = q_X3_skew_38 g x n 0 i
  | 0, _ => rfl
  | i + 1, hi => by
    show p_X0_countSkewedBeyondDoubt_4 (upd g (47 + ix x) n) (q_X0_countSkewedBeyondDoubt_4 (upd g (47 + ix x) n) 0 i) i = p_X3_skew_38 g x n (q_X3_skew_38 g x n 0 i) i
    rw [sk_q hd hs i (by omega)]
    unfold p_X0_countSkewedBeyondDoubt_4 p_X3_skew_38
    rw [up_n (show 3 ≠ 47 + ix x by omega), sk_one (hs i (by omega)) hd]
theorem kv_in {n : Int32} (h1 : ¬ n < -20) (h2 : n ≤ 20) : KV n := by
  rw [Int32.lt_iff_toInt_lt] at h1
  rw [Int32.le_iff_toInt_le] at h2
  have e1 : (-20 : Int32).toInt = -20 := rfl
  have e2 : (20 : Int32).toInt = 20 := rfl
  refine ⟨(n.toInt + 20).toNat, by omega, ?_⟩
  rw [← Int32.toInt_inj, Int32.toInt_sub, nI_toInt (by omega), e2]
  have : ((((n.toInt + 20).toNat : Nat) : Int) - 20).bmod (2 ^ 32) = n.toInt := by
    rw [show ((((n.toInt + 20).toNat : Nat) : Int) - 20) = n.toInt by omega]
    exact Int.bmod_eq_of_le (by omega) (by omega)
  exact this.symm
theorem sk_eq {g : Nat → Int32} {x n : Int32} (hd : ∃ m, m < 10 ∧ g 3 = nI m) (hs : ∀ r, r < 5 → KV (g (47 + r))) : s_X2_skew g x n = s_X3_skew g x n ∧ f_X2_skew g x n = f_X3_skew g x n := by
  unfold s_X2_skew s_X3_skew f_X2_skew f_X3_skew
  rw [pr_reader]
  by_cases c1 : f_X3_in x 0 4 = 0
  · rw [if_pos c1, if_pos c1, if_pos c1, if_pos c1]; exact ⟨rfl, rfl⟩
  rw [if_neg c1, if_neg c1, if_neg c1, if_neg c1]
  have hin : f_X3_in n (-20) 20 = if n < -20 then 0 else if n ≤ 20 then 1 else 0 := by
    unfold f_X3_in
    by_cases c : n < -20
    · rw [if_pos c, if_pos c]
    · rw [if_neg c, if_neg c]
      by_cases c2 : n ≤ 20
      · rw [if_pos c2, if_neg (fun q => Int32.lt_irrefl (Int32.lt_of_lt_of_le q c2))]
      · rw [if_neg c2, if_pos (Int32.not_le.mp c2)]
  rw [hin]
  by_cases c : n < -20
  · rw [if_pos c, if_pos c, if_pos c, if_pos rfl, if_pos rfl]; exact ⟨rfl, rfl⟩
  · rw [if_neg c, if_neg c, if_neg c]
    by_cases c2 : n ≤ 20
    · rw [if_pos c2, if_pos c2, if_pos c2, if_neg (by decide), if_neg (by decide)]
      refine ⟨rfl, sk_q hd (fun r hr => ?_) 5 (Nat.le_refl 5)⟩
      by_cases q : 47 + r = 47 + ix x
      · rw [q, up_s]; exact kv_in c c2
      · rw [up_n q]; exact hs r hr
    · rw [if_neg c2, if_neg c2, if_neg c2, if_pos rfl, if_pos rfl]; exact ⟨rfl, rfl⟩
