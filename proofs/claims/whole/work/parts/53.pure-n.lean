/-! PURE: thing, write, rule -/
def HDa (g : Nat → Int32) : Prop := ∀ t, t < 12 → ¬ g (17 + t) < 0 → HD g t
theorem in_6 (k : Int32) (h : f_X3_in k 0 6 = 0) : ¬ k = 0 ∧ ¬ k = 1 ∧ ¬ k = 2 ∧ ¬ k = 3 ∧ ¬ k = 4 ∧ ¬ k = 5 ∧ ¬ k = 6 := by
  refine ⟨?_, ?_, ?_, ?_, ?_, ?_, ?_⟩ <;> (intro e; subst e; exact absurd h (by decide))
theorem tg_eq {g : Nat → Int32} {y k : Int32} (hc : CC g) (hw : WV g) (hB : PB g) (hH : HDa g) : f_X2_thing g y k = f_X3_thing g y k := by
  unfold f_X2_thing f_X3_thing
  rw [pr_thing]
  by_cases c1 : f_X3_in y 0 11 = 0
  · rw [if_pos c1, if_pos c1]
  rw [if_neg c1, if_neg c1]
  obtain ⟨hy, -⟩ := in_ix (n := 11) c1 rfl (by decide)
  by_cases c : f_X3_in k 0 6 = 0
  · obtain ⟨n0, n1, n2, n3, n4, n5, n6⟩ := in_6 k c
    rw [if_pos c, if_neg n0, if_neg n1, if_neg n2, if_neg n3, if_neg n4, if_neg n5, if_neg n6]
  · rw [if_neg c]
    obtain ⟨h1, h2⟩ := in_ix (n := 6) c rfl (by decide)
    have w := iw (hw (ix y) hy)
    have kk : k = 0 ∨ k = 1 ∨ k = 2 ∨ k = 3 ∨ k = 4 ∨ k = 5 ∨ k = 6 := by
      rcases (show ix k = 0 ∨ ix k = 1 ∨ ix k = 2 ∨ ix k = 3 ∨ ix k = 4 ∨ ix k = 5 ∨ ix k = 6 by omega) with z | z | z | z | z | z | z <;> rw [z] at h2
      · exact Or.inl h2
      · exact Or.inr (Or.inl h2)
      · exact Or.inr (Or.inr (Or.inl h2))
      · exact Or.inr (Or.inr (Or.inr (Or.inl h2)))
      · exact Or.inr (Or.inr (Or.inr (Or.inr (Or.inl h2))))
      · exact Or.inr (Or.inr (Or.inr (Or.inr (Or.inr (Or.inl h2)))))
      · exact Or.inr (Or.inr (Or.inr (Or.inr (Or.inr (Or.inr h2)))))
    clear h1 h2 c
    rcases kk with e | e | e | e | e | e | e
    · have e4 : ¬ 4 ≤ k := by rw [e]; decide
      rw [if_pos e, if_neg e4, if_pos e]
    · have e4 : ¬ 4 ≤ k := by rw [e]; decide
      have e0 : ¬ k = 0 := by rw [e]; decide
      rw [if_neg e0, if_pos e, if_neg e4, if_neg e0, if_pos e]
      by_cases q : g (17 + ix y) < 0
      · rw [w.mpr q, if_pos q, if_pos rfl]; rfl
      · rw [if_neg q, if_neg (show ¬ (1 : Int32) = 0 by decide)]
        unfold f_X2_bit
        rw [if_neg (fun z => q (w.mp z))]
    · have e4 : ¬ 4 ≤ k := by rw [e]; decide
      have e0 : ¬ k = 0 := by rw [e]; decide
      have e1 : ¬ k = 1 := by rw [e]; decide
      rw [if_neg e0, if_neg e1, if_pos e, if_neg e4, if_neg e0, if_neg e1, if_pos e]
    · have e4 : ¬ 4 ≤ k := by rw [e]; decide
      have e0 : ¬ k = 0 := by rw [e]; decide
      have e1 : ¬ k = 1 := by rw [e]; decide
      have e2 : ¬ k = 2 := by rw [e]; decide
      rw [if_neg e0, if_neg e1, if_neg e2, if_pos e, if_neg e4, if_neg e0, if_neg e1, if_neg e2]
      by_cases q : g (17 + ix y) < 0
      · rw [if_pos (w.mpr q), if_pos q, if_pos rfl]
      · rw [if_neg (fun z => q (w.mp z)), if_neg q, if_neg (show ¬ (1 : Int32) = 0 by decide), due_eq (hH _ hy q) hB hy]
    · have e4 : 4 ≤ k := by rw [e]; decide
      have e0 : ¬ k = 0 := by rw [e]; decide
      have e1 : ¬ k = 1 := by rw [e]; decide
      have e2 : ¬ k = 2 := by rw [e]; decide
      have e3 : ¬ k = 3 := by rw [e]; decide
      rw [if_neg e0, if_neg e1, if_neg e2, if_neg e3, if_pos e, if_pos e4, se_4 5 (Nat.le_refl 5), e]
    · have e4 : 4 ≤ k := by rw [e]; decide
      have e0 : ¬ k = 0 := by rw [e]; decide
      have e1 : ¬ k = 1 := by rw [e]; decide
      have e2 : ¬ k = 2 := by rw [e]; decide
      have e3 : ¬ k = 3 := by rw [e]; decide
      have e5 : ¬ k = 4 := by rw [e]; decide
      rw [if_neg e0, if_neg e1, if_neg e2, if_neg e3, if_neg e5, if_pos e, if_pos e4, se_5 hc hy 5 (Nat.le_refl 5), e]
    · have e4 : 4 ≤ k := by rw [e]; decide
      have e0 : ¬ k = 0 := by rw [e]; decide
      have e1 : ¬ k = 1 := by rw [e]; decide
      have e2 : ¬ k = 2 := by rw [e]; decide
      have e3 : ¬ k = 3 := by rw [e]; decide
      have e5 : ¬ k = 4 := by rw [e]; decide
      have e6 : ¬ k = 5 := by rw [e]; decide
      rw [if_neg e0, if_neg e1, if_neg e2, if_neg e3, if_neg e5, if_neg e6, if_pos e, if_pos e4, se_6 hc hy 5 (Nat.le_refl 5), e]
theorem lw_hd {g : Nat → Int32} {t : Nat} (ht : t < 12) (h : HD g t) : HD (s_X3_layWaited g t) t :=
  hd_eq ht (ks_X3_layWaited g (by omega)) (ks_X3_layWaited g (by omega)) (fun r hr => ks_X3_layWaited g (by omega)) (fun r hr => ks_X3_layWaited g (by omega)) (fun r hr => ks_X3_layWaited g (by omega)) h
theorem up_hd {g : Nat → Int32} {t i : Nat} {v : Int32} (ht : t < 12) (hi : (29 ≤ i ∧ i < 42) ∨ 262 ≤ i) (h : HD g t) : HD (upd g i v) t :=
  hd_eq ht (up_n (by omega)) (up_n (by omega)) (fun r hr => up_n (by omega)) (fun r hr => up_n (by omega)) (fun r hr => up_n (by omega)) h
/-- a write that is told, as the reference does it -/
def wr1 (g : Nat → Int32) (t : Nat) (n : Int32) : Nat → Int32 := upd (upd g 304 (g 304 + 1)) (17 + t) n
def wr2 (g : Nat → Int32) (t : Nat) (n : Int32) : Nat → Int32 := s_X3_layWaited (s_X3_isSettled (wr1 g t n) t) t
def wr3 (g : Nat → Int32) (t : Nat) (n : Int32) : Nat → Int32 := upd (upd (wr2 g t n) (29 + ix (g 41)) (nI t)) 41 (wr2 g t n 41 + 1)
theorem wr2_41 {g : Nat → Int32} {t : Nat} {n : Int32} (ht : t < 12) : wr2 g t n 41 = g 41 := by
  unfold wr2 wr1
  rw [ks_X3_layWaited _ (by omega), ss_29 (by omega) ht, up_n (by omega), up_n (by omega)]
theorem wr2_pb {g : Nat → Int32} {t : Nat} {n : Int32} (ht : t < 12) (hB : PB g) : PB (wr2 g t n) := pb_lw (pb_st (pb_upd (pb_upd hB (by omega) (by omega)) (by omega) (by omega)) ht)
theorem wr3_pb {g : Nat → Int32} {t : Nat} {n : Int32} (ht : t < 12) (hB : PB g) (hm : ix (g 41) < 12) : PB (wr3 g t n) := pb_upd (pb_upd (wr2_pb ht hB) (by omega) (by omega)) (by omega) (by omega)
theorem pb_0 {g : Nat → Int32} (hB : PB g) : 0 ≤ g 0 := by
  rw [Int32.le_iff_toInt_le]
  exact hB.1
theorem wr3_hd {g : Nat → Int32} {t : Nat} {n : Int32} (ht : t < 12) (hB : PB g) (hm : ix (g 41) < 12) (hf : f_X3_isSettled (wr1 g t n) t = 0) : HD (wr3 g t n) t := by
  unfold wr3 wr2
  refine up_hd ht (by omega) (up_hd ht (by omega) (lw_hd ht (ss_hd ht ?_ hf)))
  unfold wr1
  rw [up_n (by omega), up_n (by omega)]
  exact pb_0 hB
theorem tw_eq {g : Nat → Int32} {t : Nat} {n : Int32} (ht : t < 12) (hB : PB g) (hg : ∀ r, r < 5 → g (42 + r) = 0 ∨ g (42 + r) = 1) (hm : ix (g 41) < 12) (hm2 : g 41 = nI (ix (g 41))) :
    s_X0_tellWrite g t n = (if f_X3_isSettled (wr1 g t n) t = 0 then wr3 g t n else wr2 g t n) ∧ f_X0_tellWrite g t n = (if f_X3_isSettled (wr1 g t n) t = 0 then f_X3_dueOf (wr3 g t n) t - wr2 g t n 0 else 0) := by
  have e := st_eq (g := wr1 g t n) ht (by unfold wr1; rw [up_n (by omega), up_n (by omega)]; exact pb_0 hB) (fun r hr => by unfold wr1; rw [up_n (by omega), up_n (by omega)]; exact hg r hr)
  have e1 : t1_X0_tellWrite g t n = s_X3_isSettled (wr1 g t n) t := e.1
  have e2 : t2_X0_tellWrite g t n = wr2 g t n := by unfold t2_X0_tellWrite wr2; rw [e1, nw_eq _ ht]
  have e3 : t3_X0_tellWrite g t n = wr3 g t n := by
    unfold t3_X0_tellWrite s_X0_joinLine wr3
    rw [e2, wr2_41 ht, if_neg]
    rw [hm2]
    exact nI_ge (a := ix (g 41)) (b := 12) hm (by decide)
  have ef : f_X0_settle (upd (upd g 304 (g 304 + 1)) (17 + t) n) t = f_X3_isSettled (wr1 g t n) t := e.2
  have e0 : wr3 g t n 0 = wr2 g t n 0 := by unfold wr3; rw [up_n (by omega), up_n (by omega)]
  unfold s_X0_tellWrite f_X0_tellWrite
  rw [ef, e2, e3]
  refine ⟨rfl, ?_⟩
  by_cases c : f_X3_isSettled (wr1 g t n) t = 0
  · rw [if_pos c, if_pos c, due_eq (wr3_hd ht hB hm c) (wr3_pb ht hB hm) ht, e0]
  · rw [if_neg c, if_neg c]
theorem w3_s {g : Nat → Int32} {y n : Int32} : s_X3_write g y n = (if f_X3_in y 0 11 = 0 then g else if f_X3_in n 0 1 = 0 then g else if g (17 + ix y) < 0 then (if f_X3_isSettled (wr1 g (ix y) n) (ix y) = 0 then wr3 g (ix y) n else wr2 g (ix y) n) else g) := rfl
theorem w3_f {g : Nat → Int32} {y n : Int32} : f_X3_write g y n = (if f_X3_in y 0 11 = 0 then (-1) else if f_X3_in n 0 1 = 0 then (-2) else if g (17 + ix y) < 0 then (if f_X3_isSettled (wr1 g (ix y) n) (ix y) = 0 then f_X3_dueOf (wr3 g (ix y) n) (ix y) - wr2 g (ix y) n 0 else 0) else (-5)) := rfl
theorem wr_eq {g : Nat → Int32} {y n : Int32} (hw : WV g) (hB : PB g) (hg : ∀ r, r < 5 → g (42 + r) = 0 ∨ g (42 + r) = 1) (hm : ∀ t, t < 12 → g (17 + t) < 0 → ix (g 41) < 12) (hm2 : g 41 = nI (ix (g 41))) : s_X2_write g y n = s_X3_write g y n ∧ f_X2_write g y n = f_X3_write g y n := by
  rw [w3_s, w3_f]
  unfold s_X2_write f_X2_write t1_X2_write t2_X2_write
  rw [pr_thing]
  by_cases c1 : f_X3_in y 0 11 = 0
  · rw [if_pos c1, if_pos c1, if_pos c1, if_pos c1]; exact ⟨rfl, rfl⟩
  rw [if_neg c1, if_neg c1, if_neg c1, if_neg c1]
  obtain ⟨hy, -⟩ := in_ix (n := 11) c1 rfl (by decide)
  have w := iw (hw (ix y) hy)
  by_cases c : f_X3_in n 0 1 = 0
  · have h := (in_01 n).mp c
    have n0 : ¬ n = 0 := fun q => h (Or.inl q)
    have n1 : ¬ n = 1 := fun q => h (Or.inr q)
    rw [if_pos c, if_pos c, if_neg n0, if_neg n1, if_neg n0, if_neg n1]; exact ⟨rfl, rfl⟩
  · rw [if_neg c, if_neg c]
    have h : n = 0 ∨ n = 1 := by
      by_cases q : n = 0 ∨ n = 1
      · exact q
      · exact absurd ((in_01 n).mpr q) c
    have core : (if f_X0_isWaiting g (ix y) = 0 then s_X0_tellWrite g (ix y) n else g) = (if g (17 + ix y) < 0 then (if f_X3_isSettled (wr1 g (ix y) n) (ix y) = 0 then wr3 g (ix y) n else wr2 g (ix y) n) else g) ∧ (if f_X0_isWaiting g (ix y) = 0 then f_X0_tellWrite g (ix y) n else (-5)) = (if g (17 + ix y) < 0 then (if f_X3_isSettled (wr1 g (ix y) n) (ix y) = 0 then f_X3_dueOf (wr3 g (ix y) n) (ix y) - wr2 g (ix y) n 0 else 0) else (-5)) := by
      by_cases q : g (17 + ix y) < 0
      · rw [if_pos (w.mpr q), if_pos (w.mpr q), if_pos q, if_pos q]
        exact tw_eq hy hB hg (hm _ hy q) hm2
      · have q2 : ¬ f_X0_isWaiting g (ix y) = 0 := fun z => q (w.mp z)
        rw [if_neg q2, if_neg q2, if_neg q, if_neg q]; exact ⟨rfl, rfl⟩
    rcases h with e | e
    · rw [if_pos e, if_pos e]; exact core
    · have n0 : ¬ n = 0 := by rw [e]; decide
      rw [if_neg n0, if_neg n0, if_pos e, if_pos e]; exact core
theorem in_not {n lo hi : Int32} : f_X3_in n lo hi = 0 ↔ (n < lo ∨ hi < n) := by
  unfold f_X3_in
  by_cases c : n < lo
  · rw [if_pos c]; exact ⟨fun _ => Or.inl c, fun _ => rfl⟩
  · rw [if_neg c]
    by_cases c2 : hi < n
    · rw [if_pos c2]; exact ⟨fun _ => Or.inr c2, fun _ => rfl⟩
    · rw [if_neg c2]; exact ⟨fun q => absurd q (by decide), fun q => (q.elim c c2).elim⟩
theorem ru_rl : ∀ j, j < 4 → (if 2 ≤ nI j then 0 else 1 : Int32) = rl1 j ∧ (if nI j = 0 then 200 else (if nI j = 1 then 100 else (if nI j = 2 then 9 else 500)) : Int32) = rl2 j := by decide +kernel
theorem ru_eq {g : Nat → Int32} {x n : Int32} : s_X2_rule g x n = s_X3_rule g x n ∧ f_X2_rule g x n = f_X3_rule g x n := by
  unfold s_X2_rule s_X3_rule f_X2_rule f_X3_rule
  by_cases c : f_X3_in x 0 3 = 0
  · rw [if_pos c, if_pos c]
    rcases in_not.mp c with q | q
    · rw [if_pos q, if_pos q]; exact ⟨rfl, rfl⟩
    · have q4 : ¬ x < 4 := by
        rw [Int32.lt_iff_toInt_lt] at q ⊢
        have e3 : (3 : Int32).toInt = 3 := rfl
        have e4 : (4 : Int32).toInt = 4 := rfl
        omega
      rw [if_neg q4, if_neg q4]
      refine ⟨?_, ?_⟩ <;> (split <;> rfl)
  · obtain ⟨hx, ex⟩ := in_ix (n := 3) c rfl (by decide)
    have c0 : ¬ x < 0 := fun q => c (in_not.mpr (Or.inl q))
    have c4 : x < 4 := by rw [ex]; exact nI_lt (a := ix x) (b := 4) hx (by decide)
    rw [if_neg c, if_neg c, if_neg c0, if_neg c0, if_pos c4, if_pos c4]
    obtain ⟨r1, r2⟩ := ru_rl (ix x) hx
    rw [← ex] at r1 r2
    rw [r1, r2]
    by_cases q : f_X3_in n (rl1 (ix x)) (rl2 (ix x)) = 0
    · rw [if_pos q, if_pos q]
      rcases in_not.mp q with z | z
      · rw [if_pos z, if_pos z]; exact ⟨rfl, rfl⟩
      · have z2 : ¬ n ≤ rl2 (ix x) := Int32.not_le.mpr z
        rw [if_neg z2, if_neg z2]
        refine ⟨?_, ?_⟩ <;> (split <;> rfl)
    · rw [if_neg q, if_neg q]
      have z1 : ¬ n < rl1 (ix x) := fun z => q (in_not.mpr (Or.inl z))
      have z2 : n ≤ rl2 (ix x) := Int32.not_lt.mp (fun z => q (in_not.mpr (Or.inr z)))
      rw [if_neg z1, if_neg z1, if_pos z2, if_pos z2]; exact ⟨rfl, rfl⟩
