/-! PURE: a read, its end -/
theorem iw {X : Nat → Int32} {t : Nat} (h : X (17 + t) = -6 ∨ 0 ≤ X (17 + t)) : f_X0_isWaiting X t = 0 ↔ X (17 + t) < 0 := by
  unfold f_X0_isWaiting
  split
  · rename_i e; exact ⟨fun _ => (pr_copy h).mp e, fun _ => rfl⟩
  · rename_i e; exact ⟨fun q => absurd q (by decide), fun q => absurd ((pr_copy h).mpr q) e⟩
theorem rn_kp {g S : Nat → Int32} {r t i j : Nat} (hj : j < 52) : p_X3_renew_63 g r t S i j = S j := by
  unfold p_X3_renew_63
  (repeat' split) <;> (try (repeat rw [up_n (by omega)])) <;> (try with_reducible rfl)
theorem rn_kq {g : Nat → Int32} {r t j : Nat} (hj : j < 52) : ∀ i, q_X3_renew_63 g r t g i j = g j
  | 0 => rfl
  | i + 1 => (rn_kp hj).trans (rn_kq hj i)
theorem rn_k {g : Nat → Int32} {r t j : Nat} (hj : j < 52) : s_X3_renew g r t j = g j := by
  have e := rn_kq (g := g) (r := r) (t := t) hj 4
  unfold s_X3_renew
  generalize q_X3_renew_63 g r t g 4 = S at e ⊢
  split
  · rw [up_n (by omega), up_n (by omega)]
  · rw [up_n (by omega), up_n (by omega), up_n (by omega), e]
def WV (g : Nat → Int32) : Prop := ∀ t, t < 12 → g (17 + t) = -6 ∨ 0 ≤ g (17 + t)
/-- the reference's end of a read that asks, from the row G -/
def ask (G : Nat → Int32) (r t : Nat) (vt : Int32) : Nat → Int32 :=
  if f_X3_isOver (upd G (262 + 6 * r + 2) (G (262 + 6 * r + 2) + 1)) r vt = 0 then (if G 0 < vt then (if G (17 + t) < 0 then upd (upd (upd (upd (upd G (262 + 6 * r + 2) (G (262 + 6 * r + 2) + 1)) (262 + 6 * r + 0) (G (5 + t))) (82 + 12 * r + t) (G (5 + t))) (142 + 12 * r + t) (G 0 + G 1)) (202 + 12 * r + t) (G 0 + G 1) else upd (upd G (262 + 6 * r + 2) (G (262 + 6 * r + 2) + 1)) (262 + 6 * r + 0) (G (5 + t)))
    else (if (s_X3_renew (upd G (262 + 6 * r + 2) (G (262 + 6 * r + 2) + 1)) r t) (17 + t) < 0 then upd (upd (upd (upd (s_X3_renew (upd G (262 + 6 * r + 2) (G (262 + 6 * r + 2) + 1)) r t) (262 + 6 * r + 0) ((s_X3_renew (upd G (262 + 6 * r + 2) (G (262 + 6 * r + 2) + 1)) r t) (5 + t))) (82 + 12 * r + t) ((s_X3_renew (upd G (262 + 6 * r + 2) (G (262 + 6 * r + 2) + 1)) r t) (5 + t))) (142 + 12 * r + t) ((s_X3_renew (upd G (262 + 6 * r + 2) (G (262 + 6 * r + 2) + 1)) r t) 0 + (s_X3_renew (upd G (262 + 6 * r + 2) (G (262 + 6 * r + 2) + 1)) r t) 1)) (202 + 12 * r + t) ((s_X3_renew (upd G (262 + 6 * r + 2) (G (262 + 6 * r + 2) + 1)) r t) 0 + (s_X3_renew (upd G (262 + 6 * r + 2) (G (262 + 6 * r + 2) + 1)) r t) 1) else upd (s_X3_renew (upd G (262 + 6 * r + 2) (G (262 + 6 * r + 2) + 1)) r t) (262 + 6 * r + 0) ((s_X3_renew (upd G (262 + 6 * r + 2) (G (262 + 6 * r + 2) + 1)) r t) (5 + t))))
  else (if (s_X3_renew (upd G (262 + 6 * r + 2) (G (262 + 6 * r + 2) + 1)) r t) (17 + t) < 0 then upd (upd (upd (upd (s_X3_renew (upd G (262 + 6 * r + 2) (G (262 + 6 * r + 2) + 1)) r t) (262 + 6 * r + 0) ((s_X3_renew (upd G (262 + 6 * r + 2) (G (262 + 6 * r + 2) + 1)) r t) (5 + t))) (82 + 12 * r + t) ((s_X3_renew (upd G (262 + 6 * r + 2) (G (262 + 6 * r + 2) + 1)) r t) (5 + t))) (142 + 12 * r + t) ((s_X3_renew (upd G (262 + 6 * r + 2) (G (262 + 6 * r + 2) + 1)) r t) 0 + (s_X3_renew (upd G (262 + 6 * r + 2) (G (262 + 6 * r + 2) + 1)) r t) 1)) (202 + 12 * r + t) ((s_X3_renew (upd G (262 + 6 * r + 2) (G (262 + 6 * r + 2) + 1)) r t) 0 + (s_X3_renew (upd G (262 + 6 * r + 2) (G (262 + 6 * r + 2) + 1)) r t) 1) else upd (s_X3_renew (upd G (262 + 6 * r + 2) (G (262 + 6 * r + 2) + 1)) r t) (262 + 6 * r + 0) ((s_X3_renew (upd G (262 + 6 * r + 2) (G (262 + 6 * r + 2) + 1)) r t) (5 + t)))
def askF (G : Nat → Int32) (r t : Nat) : Int32 := if G (17 + t) < 0 then 2 else 3
theorem ask_s {G : Nat → Int32} {r t : Nat} (hr : r < 5) (ht : t < 12) (hc : CC G) (hw : WV G) : s_X0_askHouse G r t = ask G r t (G (52 + 3 * r + t / 4)) := by
  unfold s_X0_askHouse ask t1_X0_askHouse t2_X0_askHouse
  have hc1 : CC (upd G (262 + 6 * r + 2) (G (262 + 6 * r + 2) + 1)) := cc_upd hc (by omega)
  rw [rn_eq hc1 hr ht, pr_over, up_n (show 52 + 3 * r + t / 4 ≠ 262 + 6 * r + 2 by omega)]
  have k1 : (upd (upd G (262 + 6 * r + 2) (G (262 + 6 * r + 2) + 1)) (262 + 6 * r + 0) (G (5 + t))) (17 + t) = G (17 + t) := by rw [up_n (by omega), up_n (by omega)]
  have k2 : (s_X3_renew (upd G (262 + 6 * r + 2) (G (262 + 6 * r + 2) + 1)) r t) (17 + t) = G (17 + t) := by rw [rn_k (by omega), up_n (by omega)]
  generalize s_X3_renew (upd G (262 + 6 * r + 2) (G (262 + 6 * r + 2) + 1)) r t = R at k2 ⊢
  have k3 : (upd R (262 + 6 * r + 0) (R (5 + t))) (17 + t) = R (17 + t) := up_n (by omega)
  have w1 := iw (X := upd (upd G (262 + 6 * r + 2) (G (262 + 6 * r + 2) + 1)) (262 + 6 * r + 0) (G (5 + t))) (t := t) (by rw [k1]; exact hw t ht)
  have w2 := iw (X := upd R (262 + 6 * r + 0) (R (5 + t))) (t := t) (by rw [k3, k2]; exact hw t ht)
  rw [k1] at w1
  rw [k3] at w2
  by_cases c1 : f_X3_isOver (upd G (262 + 6 * r + 2) (G (262 + 6 * r + 2) + 1)) r (G (52 + 3 * r + t / 4)) = 0
  · rw [if_pos c1, if_pos c1]
    by_cases c2 : G 0 < G (52 + 3 * r + t / 4)
    · rw [if_pos c2, if_pos c2]
      by_cases c3 : G (17 + t) < 0
      · rw [if_pos (w1.mpr c3), if_pos c3]
      · rw [if_neg (fun q => c3 (w1.mp q)), if_neg c3]
    · rw [if_neg c2, if_neg c2]
      by_cases c3 : R (17 + t) < 0
      · rw [if_pos (w2.mpr c3), if_pos c3]
      · rw [if_neg (fun q => c3 (w2.mp q)), if_neg c3]
  · rw [if_neg c1, if_neg c1]
    by_cases c3 : R (17 + t) < 0
    · rw [if_pos (w2.mpr c3), if_pos c3]
    · rw [if_neg (fun q => c3 (w2.mp q)), if_neg c3]
