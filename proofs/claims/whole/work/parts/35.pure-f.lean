/-! PURE: read, whole -/
theorem ask_f {G : Nat → Int32} {r t : Nat} (hr : r < 5) (ht : t < 12) (hc : CC G) (hw : WV G) : f_X0_askHouse G r t = if G (17 + t) < 0 then 2 else 3 := by
  unfold f_X0_askHouse t1_X0_askHouse t2_X0_askHouse
  have hc1 : CC (upd G (262 + 6 * r + 2) (G (262 + 6 * r + 2) + 1)) := cc_upd hc (by omega)
  rw [rn_eq hc1 hr ht]
  have k1 : (upd (upd G (262 + 6 * r + 2) (G (262 + 6 * r + 2) + 1)) (262 + 6 * r + 0) (G (5 + t))) (17 + t) = G (17 + t) := by rw [up_n (by omega), up_n (by omega)]
  have k2 : (s_X3_renew (upd G (262 + 6 * r + 2) (G (262 + 6 * r + 2) + 1)) r t) (17 + t) = G (17 + t) := by rw [rn_k (by omega), up_n (by omega)]
  generalize s_X3_renew (upd G (262 + 6 * r + 2) (G (262 + 6 * r + 2) + 1)) r t = R at k2 ⊢
  have k3 : (upd R (262 + 6 * r + 0) (R (5 + t))) (17 + t) = G (17 + t) := (up_n (by omega)).trans k2
  have w1 := iw (X := upd (upd G (262 + 6 * r + 2) (G (262 + 6 * r + 2) + 1)) (262 + 6 * r + 0) (G (5 + t))) (t := t) (by rw [k1]; exact hw t ht)
  have w2 := iw (X := upd R (262 + 6 * r + 0) (R (5 + t))) (t := t) (by rw [k3]; exact hw t ht)
  rw [k1] at w1
  rw [k3] at w2
  by_cases c3 : G (17 + t) < 0
  · rw [if_pos c3, if_pos (w1.mpr c3), if_pos (w2.mpr c3)]
    (repeat' split) <;> rfl
  · rw [if_neg c3, if_neg (fun q => c3 (w1.mp q)), if_neg (fun q => c3 (w2.mp q))]
    (repeat' split) <;> rfl
theorem use_eq {g : Nat → Int32} {r t : Nat} : s_X0_useCopy g r t = upd (upd (upd g (262 + 6 * r + 0) (g (82 + 12 * r + t))) (262 + 6 * r + 1) ((g (262 + 6 * r + 1)) + 1)) 303 ((g 303) + (if (if (g (82 + 12 * r + t)) = (g (5 + t)) then 0 else 1 : Int32) = 0 then 0 else 1 : Int32)) ∧ f_X0_useCopy g r t = (if (if (g (82 + 12 * r + t)) = (g (5 + t)) then 0 else 1 : Int32) = 0 then 0 else 1 : Int32) := by
  have sw : upd (upd g (262 + 6 * r + 1) (g (262 + 6 * r + 1) + 1)) (262 + 6 * r + 0) (g (82 + 12 * r + t)) = upd (upd g (262 + 6 * r + 0) (g (82 + 12 * r + t))) (262 + 6 * r + 1) (g (262 + 6 * r + 1) + 1) := by
    funext j
    by_cases e : j = 262 + 6 * r + 0
    · subst e; rw [up_s, up_n (by omega), up_s]
    · rw [up_n e]
      by_cases e2 : j = 262 + 6 * r + 1
      · subst e2; rw [up_s, up_s]
      · rw [up_n e2, up_n e2, up_n e]
  unfold s_X0_useCopy f_X0_useCopy
  by_cases c : g (82 + 12 * r + t) = g (5 + t)
  · rw [if_pos c, if_pos c, if_pos (rfl : (0 : Int32) = 0), add_0, sw]
    refine ⟨(up_id ?_).symm, rfl⟩
    rw [up_n (by omega), up_n (by omega)]
  · rw [if_neg c, if_neg c, if_neg (show ¬ (1 : Int32) = 0 by decide), sw]
    exact ⟨rfl, rfl⟩
theorem rd_eq {g : Nat → Int32} {x y : Int32} (hc : CC g) (hw : WV g) : s_X2_read g x y = s_X3_read g x y ∧ f_X2_read g x y = f_X3_read g x y := by
  unfold s_X2_read s_X3_read f_X2_read f_X3_read
  rw [pr_reader, pr_thing]
  by_cases c1 : f_X3_in x 0 4 = 0
  · rw [if_pos c1, if_pos c1, if_pos c1, if_pos c1]; exact ⟨rfl, rfl⟩
  obtain ⟨hx, -⟩ := in_ix (n := 4) c1 rfl (by decide)
  rw [if_neg c1, if_neg c1, if_neg c1, if_neg c1]
  by_cases c2 : f_X3_in y 0 11 = 0
  · rw [if_pos c2, if_pos c2, if_pos c2, if_pos c2]; exact ⟨rfl, rfl⟩
  obtain ⟨hy, -⟩ := in_ix (n := 11) c2 rfl (by decide)
  rw [if_neg c2, if_neg c2, if_neg c2, if_neg c2]
  unfold t1_X2_read s_X0_readBy f_X0_readBy t2_X0_readBy t3_X0_readBy t1_X0_readBy
  rw [pr_use (hc (ix x) hx (ix y) hy)]
  by_cases c3 : f_X3_canUse g (ix x) (ix y) = 0
  · rw [if_pos c3, if_pos c3, if_pos c3, if_pos c3]
    obtain ⟨h1, -, h3⟩ := nc_4 g x y hx hy hc
    rw [h1]
    have hc4 : CC (t4_X3_read g x y) := fun r hr t ht => by rw [h3 _ (by omega)]; exact hc r hr t ht
    have hw4 : WV (t4_X3_read g x y) := fun t ht => by rw [h3 _ (by omega)]; exact hw t ht
    have ev := h3 (52 + 3 * ix x + ix y / 4) (by omega)
    unfold t5_X3_read t6_X3_read
    generalize t4_X3_read g x y = G at hc4 hw4 ev ⊢
    by_cases c4 : G (42 + ix x) = 0
    · rw [if_pos c4, if_pos c4, if_pos c4, if_pos c4]; exact ⟨rfl, rfl⟩
    · rw [if_neg c4, if_neg c4, if_neg c4, if_neg c4, ask_s hx hy hc4 hw4, ask_f hx hy hc4 hw4, ev]
      refine ⟨rfl, ?_⟩
      rw [rn_k (show 17 + ix y < 52 by omega), up_n (show 17 + ix y ≠ 262 + 6 * ix x + 2 by omega)]
      by_cases c5 : G (17 + ix y) < 0
      · rw [if_pos c5]; (repeat' split) <;> rfl
      · rw [if_neg c5]; (repeat' split) <;> rfl
  · rw [if_neg c3, if_neg c3, if_neg c3, if_neg c3]
    exact use_eq
