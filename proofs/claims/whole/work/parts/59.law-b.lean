/-! THE LAW, second part: its sixteen cases -/
abbrev lwd (E : EE) (a o b1 b2 mm : Nat → Nat) (g g1 g2 im kp : Nat → Int32) (kI : Int32) : va_W := phw E a o b1 b2 g g1 g2 kI ++ ms E mm g im kp
section LAWB
variable {p : Program} {l : Launch} {e : Env} {s : State} {m : MethodId} {below : List Frame} {meth : Method} {c : Code} {H : Heap} {locs : List Loc} {Q : State → Prop} {pc : Nat} {ls : Array Slot} {rest st0 : List Value} {E : EE} {a o b1 b2 mm : Nat → Nat} {bs L n t0 t1 t2 : Nat} {xs g g1 g2 im kp : Nat → Int32} {kI : Int32}
theorem ci_Vs {R : Room} {args : Array Value} {cc : ByteArray} {nL : Nat} {Ts : List Cond} {own C : String} {A : Nat → Prop} {y : MethodName} {ws : List Cond} {rm : Room} {b : Addr} {As : List Value} {wd wc w1 wd' : va_W} {r : Int32} {index maxL k : Nat} {bytes : ByteArray} {ret : Option FieldType} {fs : List Value} {tq : vw_C} {cells slots : Nat} (S : CallFix p m c cc nL s args Ts own) (hE : ev E s) (hT : ST t0 t1 t2 A s) (hM : Cis t0 t1 t2 l E y ws rm (.ref b :: As) wc r w1) (cw : CallW R s args own C index y bytes maxL ret ws rm 0 0 k) (hF : Fr wd wc w1 wd') (q0 ci : Nat) (he : wc[q0]? = some (b, .inr (ci, fs))) (hc : vwCl[ci]? = some tq) (hC : tq.1 = C) (hP : va_P E.1 vwCl wd H) (hD : va_D A wd) (hS : va_S A s.heap H locs) (hA : ∀ q, s.heap.size ≤ q → A q)
    (hn : As.length = k) (hsize : ls.size = nL) (hstack : st0 = As.reverse ++ .ref b :: rest) (hW : (rest.map fun v => v.category).sum ≤ 8) (hdg : decode cc pc = .ok (.invokevirtual index, 3)) (hf : cells ≤ R.cells ∧ slots ≤ R.slots)
    (kk : ∀ (H1 : Heap) (locs1 : List Loc), va_P E.1 vwCl wd' H1 → va_D A wd' → va_S A s.heap H1 locs1 → W p l e R s m args below meth c H1 locs1 cells slots Q (F0 m (pc + 3) ls (.int r :: rest))) : W p l e R s m args below meth c H locs cells slots Q (F0 m pc ls st0) := by
  obtain ⟨hPc, hDc⟩ := hF.part hP hD
  have hfr := hF.free hD hS hA
  have hrec : ∃ cellB : Cell, H[b]? = some cellB ∧ cellB.vm.isStatics = false ∧ s.vm.findClass C = some cellB.cls := by
    rw [← hC]
    exact va_recv hE.1 hPc hc he
  exact cl_i (va_runV S (hM H.size) cw ⟨Ps_blind, hrec, Ps_of hE hT hS hfr hPc hDc _⟩ rfl hn hsize hstack (lv_room hW) hdg hf) hF hP hD hS hA kk
theorem ld (k : Nat) {z : Int} (F : CallFix p m c code 4 s #[Value.ref bs] wsL_law RL) (hX : va_X bs L xs s s.heap) (hbl : bs < s.heap.size) (hl : lv_has ls 4 [(3, .int (nI (4 * n))), (2, .ref (mm 0)), (1, .ref (o 0)), (0, .ref bs)]) (hL : L ≤ 2048) (hS : va_S (fun q : Nat => s.heap.size ≤ q) s.heap H locs) (hk : 4 * n + k < L) (hz : Int32.ofInt z = nI k) (d0 : decode code pc = .ok (.aload_n 0, 1)) (d1 : decode code (pc + 1) = .ok (.iload_n 3, 1)) (d2 : decode code (pc + 1 + 1) = .ok (.iconst z, 1)) (d3 : decode code (pc + 1 + 1 + 1) = .ok (.iadd, 1)) (d4 : decode code (pc + 1 + 1 + 1 + 1) = .ok (.iaload, 1))
    (kk : W p l e room_1 s m #[Value.ref bs] below meth c H locs 120 1975 Q (F0 m (pc + 1 + 1 + 1 + 1 + 1) ls (.int (xs (4 * n + k)) :: rest))) : W p l e room_1 s m #[Value.ref bs] below meth c H locs 120 1975 Q (F0 m pc ls rest) := by
  obtain ⟨hx, hb, -, -, -⟩ := id F
  refine lv_aload_n hx hb d0 rfl (lv_at hl 3 rfl) ?_
  refine lv_iload_n hx hb d1 rfl (lv_at hl 0 rfl) ?_
  refine lv_iconst hx hb d2 hz ?_
  refine lv_iadd hx hb d3 ?_
  refine tpe (nI_add (4 * n) k) ?_
  refine va_sld hx hb hX hbl (Nat.not_le.mpr hbl) hS (vp_in_nI hk (by omega)) d4 ?_
  rw [nI_clamp (by omega)]
  exact kk
abbrev LK (p : Program) (l : Launch) (e : Env) (s : State) (m : MethodId) (below : List Frame) (meth : Method) (c : Code) (E : EE) (a o b1 b2 mm : Nat → Nat) (bs n : Nat) (ls : Array Slot) (Q : State → Prop) : Prop := ∀ (g g1 g2 im kp : Nat → Int32) (kI : Int32) (H : Heap) (locs : List Loc), LInv (n + 1) g g1 g2 im kp kI → va_P E.1 vwCl (lwd E a o b1 b2 mm g g1 g2 im kp kI) H → va_D (fun q : Nat => s.heap.size ≤ q) (lwd E a o b1 b2 mm g g1 g2 im kp kI) → va_S (fun q : Nat => s.heap.size ≤ q) s.heap H locs → W p l e room_1 s m #[Value.ref bs] below meth c H locs 120 1975 Q (F0 m 590 ls [])
set_option maxHeartbeats 4000000 in
set_option maxRecDepth 100000 in
theorem law_skew (F : CallFix p m c code 4 s #[Value.ref bs] wsL_law RL) (hE : ev E s) (hT : ST t0 t1 t2 (fun q : Nat => s.heap.size ≤ q) s) (hX : va_X bs L xs s s.heap) (hbl : bs < s.heap.size) (hl : lv_has ls 4 [(3, .int (nI (4 * n))), (2, .ref (mm 0)), (1, .ref (o 0)), (0, .ref bs)]) (hn : 4 * n + 4 ≤ L) (hL : L ≤ 2048) (HI : LInv n g g1 g2 im kp kI) (hP : va_P E.1 vwCl (lwd E a o b1 b2 mm g g1 g2 im kp kI) H) (hD : va_D (fun q : Nat => s.heap.size ≤ q) (lwd E a o b1 b2 mm g g1 g2 im kp kI)) (hS : va_S (fun q : Nat => s.heap.size ≤ q) s.heap H locs) (kk : LK p l e s m below meth c E a o b1 b2 mm bs n ls Q) : W p l e room_1 s m #[Value.ref bs] below meth c H locs 120 1975 Q (F0 m 145 ls []) := by
  have hn5 : n ≤ 511 := by omega
  refine lv_aload_n F.1 F.2.1 dL_law_145 rfl (lv_at hl 2 rfl) ?_
  refine ld 1 F hX hbl hl hL hS (by omega) rfl dL_law_146 dL_law_147 dL_law_148 dL_law_149 dL_law_150 ?_
  refine ld 2 F hX hbl hl hL hS (by omega) rfl dL_law_151 dL_law_152 dL_law_153 dL_law_154 dL_law_155 ?_
  refine ci_V F hE (k_X2_skew l E a o (b1 0) (b2 0) g kI (hs E b1 g1 ++ hs E b2 g2) (xs (4 * n + 1)) (xs (4 * n + 2))) (cwV 2 F.2.2.2.2 gL_law_X2_skew rfl rfl rfl (by decide +kernel) ⟨(Nat.le_of_ble_eq_true rfl), (Nat.le_of_ble_eq_true rfl)⟩) Fr.pre (38 + 0) 2 (ap_h rfl) rfl rfl hP hD hS (fun _ h => h) rfl hl.1 rfl (Nat.le_of_ble_eq_true rfl) dL_law_156 ⟨(Nat.le_of_ble_eq_true rfl), (Nat.le_of_ble_eq_true rfl)⟩ (fun H locs hP hD hS => ?_)
  refine lv_aload_n F.1 F.2.1 dL_law_159 rfl (lv_at hl 1 rfl) ?_
  refine ld 1 F hX hbl hl hL hS (by omega) rfl dL_law_160 dL_law_161 dL_law_162 dL_law_163 dL_law_164 ?_
  refine ld 2 F hX hbl hl hL hS (by omega) rfl dL_law_165 dL_law_166 dL_law_167 dL_law_168 dL_law_169 ?_
  refine ci_V F hE (k_X3_skew l E mm g im kp (xs (4 * n + 1)) (xs (4 * n + 2))) (cwV 2 F.2.2.2.2 gL_law_X3_skew rfl rfl rfl (by decide +kernel) ⟨(Nat.le_of_ble_eq_true rfl), (Nat.le_of_ble_eq_true rfl)⟩) Fr.suf 0 3 rfl rfl rfl hP hD hS (fun _ h => h) rfl hl.1 rfl (Nat.le_of_ble_eq_true rfl) dL_law_170 ⟨(Nat.le_of_ble_eq_true rfl), (Nat.le_of_ble_eq_true rfl)⟩ (fun H locs hP hD hS => ?_)
  have eq := sk_eq (x := (xs (4 * n + 1))) (n := (xs (4 * n + 2))) HI.1.1.2.2.2.2.2.2.2.1.2.2 HI.1.1.2.2.2.2.2.2.2.2.1
  refine lv_icmp_eq (tgt := 590) F.1 F.2.1 dL_law_173 (by decide) (fun _ => ?_) (fun q => absurd eq.2 q)
  rw [eq.1] at hP hD
  exact kk (s_X3_skew g (xs (4 * n + 1)) (xs (4 * n + 2))) g1 g2 im kp kI H locs (li_go (j_mono (by omega) (by omega) (j_skew HI.1)) HI) hP hD hS
set_option maxHeartbeats 4000000 in
set_option maxRecDepth 100000 in
theorem law_there (F : CallFix p m c code 4 s #[Value.ref bs] wsL_law RL) (hE : ev E s) (hT : ST t0 t1 t2 (fun q : Nat => s.heap.size ≤ q) s) (hX : va_X bs L xs s s.heap) (hbl : bs < s.heap.size) (hl : lv_has ls 4 [(3, .int (nI (4 * n))), (2, .ref (mm 0)), (1, .ref (o 0)), (0, .ref bs)]) (hn : 4 * n + 4 ≤ L) (hL : L ≤ 2048) (HI : LInv n g g1 g2 im kp kI) (hP : va_P E.1 vwCl (lwd E a o b1 b2 mm g g1 g2 im kp kI) H) (hD : va_D (fun q : Nat => s.heap.size ≤ q) (lwd E a o b1 b2 mm g g1 g2 im kp kI)) (hS : va_S (fun q : Nat => s.heap.size ≤ q) s.heap H locs) (kk : LK p l e s m below meth c E a o b1 b2 mm bs n ls Q) : W p l e room_1 s m #[Value.ref bs] below meth c H locs 120 1975 Q (F0 m 178 ls []) := by
  have hn5 : n ≤ 511 := by omega
  refine lv_aload_n F.1 F.2.1 dL_law_178 rfl (lv_at hl 2 rfl) ?_
  refine ld 1 F hX hbl hl hL hS (by omega) rfl dL_law_179 dL_law_180 dL_law_181 dL_law_182 dL_law_183 ?_
  refine ld 2 F hX hbl hl hL hS (by omega) rfl dL_law_184 dL_law_185 dL_law_186 dL_law_187 dL_law_188 ?_
  refine ci_V F hE (k_X2_there l E a o (b1 0) (b2 0) g kI (hs E b1 g1 ++ hs E b2 g2) (xs (4 * n + 1)) (xs (4 * n + 2)) HI.1.1.1) (cwV 2 F.2.2.2.2 gL_law_X2_there rfl rfl rfl (by decide +kernel) ⟨(Nat.le_of_ble_eq_true rfl), (Nat.le_of_ble_eq_true rfl)⟩) Fr.pre (38 + 0) 2 (ap_h rfl) rfl rfl hP hD hS (fun _ h => h) rfl hl.1 rfl (Nat.le_of_ble_eq_true rfl) dL_law_189 ⟨(Nat.le_of_ble_eq_true rfl), (Nat.le_of_ble_eq_true rfl)⟩ (fun H locs hP hD hS => ?_)
  refine lv_aload_n F.1 F.2.1 dL_law_192 rfl (lv_at hl 1 rfl) ?_
  refine ld 1 F hX hbl hl hL hS (by omega) rfl dL_law_193 dL_law_194 dL_law_195 dL_law_196 dL_law_197 ?_
  refine ld 2 F hX hbl hl hL hS (by omega) rfl dL_law_198 dL_law_199 dL_law_200 dL_law_201 dL_law_202 ?_
  refine ci_V F hE (k_X3_there l E mm g im kp (xs (4 * n + 1)) (xs (4 * n + 2)) HI.1.1.1) (cwV 2 F.2.2.2.2 gL_law_X3_there rfl rfl rfl (by decide +kernel) ⟨(Nat.le_of_ble_eq_true rfl), (Nat.le_of_ble_eq_true rfl)⟩) Fr.suf 0 3 rfl rfl rfl hP hD hS (fun _ h => h) rfl hl.1 rfl (Nat.le_of_ble_eq_true rfl) dL_law_203 ⟨(Nat.le_of_ble_eq_true rfl), (Nat.le_of_ble_eq_true rfl)⟩ (fun H locs hP hD hS => ?_)
  have eq := th_eq (x := (xs (4 * n + 1))) (n := (xs (4 * n + 2))) HI.1.1.1 (pb_0 HI.1.1.2.2.2.2.2.2.1) HI.1.1.2.2.1
  refine lv_icmp_eq (tgt := 590) F.1 F.2.1 dL_law_206 (by decide) (fun _ => ?_) (fun q => absurd eq.2 q)
  rw [eq.1] at hP hD
  exact kk (s_X3_there g (xs (4 * n + 1)) (xs (4 * n + 2))) g1 g2 im kp kI H locs (li_go (j_mono (by omega) (by omega) (j_there (by omega) HI.1)) HI) hP hD hS
set_option maxHeartbeats 4000000 in
set_option maxRecDepth 100000 in
theorem law_read (F : CallFix p m c code 4 s #[Value.ref bs] wsL_law RL) (hE : ev E s) (hT : ST t0 t1 t2 (fun q : Nat => s.heap.size ≤ q) s) (hX : va_X bs L xs s s.heap) (hbl : bs < s.heap.size) (hl : lv_has ls 4 [(3, .int (nI (4 * n))), (2, .ref (mm 0)), (1, .ref (o 0)), (0, .ref bs)]) (hn : 4 * n + 4 ≤ L) (hL : L ≤ 2048) (HI : LInv n g g1 g2 im kp kI) (hP : va_P E.1 vwCl (lwd E a o b1 b2 mm g g1 g2 im kp kI) H) (hD : va_D (fun q : Nat => s.heap.size ≤ q) (lwd E a o b1 b2 mm g g1 g2 im kp kI)) (hS : va_S (fun q : Nat => s.heap.size ≤ q) s.heap H locs) (kk : LK p l e s m below meth c E a o b1 b2 mm bs n ls Q) : W p l e room_1 s m #[Value.ref bs] below meth c H locs 120 1975 Q (F0 m 211 ls []) := by
  have hn5 : n ≤ 511 := by omega
  refine lv_aload_n F.1 F.2.1 dL_law_211 rfl (lv_at hl 2 rfl) ?_
  refine ld 1 F hX hbl hl hL hS (by omega) rfl dL_law_212 dL_law_213 dL_law_214 dL_law_215 dL_law_216 ?_
  refine ld 2 F hX hbl hl hL hS (by omega) rfl dL_law_217 dL_law_218 dL_law_219 dL_law_220 dL_law_221 ?_
  refine ci_V F hE (k_X2_read l E a o (b1 0) (b2 0) g kI (hs E b1 g1 ++ hs E b2 g2) (xs (4 * n + 1)) (xs (4 * n + 2))) (cwV 2 F.2.2.2.2 gL_law_X2_read rfl rfl rfl (by decide +kernel) ⟨(Nat.le_of_ble_eq_true rfl), (Nat.le_of_ble_eq_true rfl)⟩) Fr.pre (38 + 0) 2 (ap_h rfl) rfl rfl hP hD hS (fun _ h => h) rfl hl.1 rfl (Nat.le_of_ble_eq_true rfl) dL_law_222 ⟨(Nat.le_of_ble_eq_true rfl), (Nat.le_of_ble_eq_true rfl)⟩ (fun H locs hP hD hS => ?_)
  refine lv_aload_n F.1 F.2.1 dL_law_225 rfl (lv_at hl 1 rfl) ?_
  refine ld 1 F hX hbl hl hL hS (by omega) rfl dL_law_226 dL_law_227 dL_law_228 dL_law_229 dL_law_230 ?_
  refine ld 2 F hX hbl hl hL hS (by omega) rfl dL_law_231 dL_law_232 dL_law_233 dL_law_234 dL_law_235 ?_
  refine ci_V F hE (k_X3_read l E mm g im kp (xs (4 * n + 1)) (xs (4 * n + 2))) (cwV 2 F.2.2.2.2 gL_law_X3_read rfl rfl rfl (by decide +kernel) ⟨(Nat.le_of_ble_eq_true rfl), (Nat.le_of_ble_eq_true rfl)⟩) Fr.suf 0 3 rfl rfl rfl hP hD hS (fun _ h => h) rfl hl.1 rfl (Nat.le_of_ble_eq_true rfl) dL_law_236 ⟨(Nat.le_of_ble_eq_true rfl), (Nat.le_of_ble_eq_true rfl)⟩ (fun H locs hP hD hS => ?_)
  have eq := rd_eq (x := (xs (4 * n + 1))) (y := (xs (4 * n + 2))) HI.1.1.2.2.2.2.1 (fun t ht => (HI.1.1.2.2.2.1 t ht).imp id (fun q => by rcases q with q | q <;> (rw [q]; decide)))
  refine lv_icmp_eq (tgt := 590) F.1 F.2.1 dL_law_239 (by decide) (fun _ => ?_) (fun q => absurd eq.2 q)
  rw [eq.1] at hP hD
  exact kk (s_X3_read g (xs (4 * n + 1)) (xs (4 * n + 2))) g1 g2 im kp kI H locs (li_go (j_mono (by omega) (by omega) (j_read HI.1)) HI) hP hD hS
set_option maxHeartbeats 4000000 in
set_option maxRecDepth 100000 in
theorem law_write (F : CallFix p m c code 4 s #[Value.ref bs] wsL_law RL) (hE : ev E s) (hT : ST t0 t1 t2 (fun q : Nat => s.heap.size ≤ q) s) (hX : va_X bs L xs s s.heap) (hbl : bs < s.heap.size) (hl : lv_has ls 4 [(3, .int (nI (4 * n))), (2, .ref (mm 0)), (1, .ref (o 0)), (0, .ref bs)]) (hn : 4 * n + 4 ≤ L) (hL : L ≤ 2048) (HI : LInv n g g1 g2 im kp kI) (hP : va_P E.1 vwCl (lwd E a o b1 b2 mm g g1 g2 im kp kI) H) (hD : va_D (fun q : Nat => s.heap.size ≤ q) (lwd E a o b1 b2 mm g g1 g2 im kp kI)) (hS : va_S (fun q : Nat => s.heap.size ≤ q) s.heap H locs) (kk : LK p l e s m below meth c E a o b1 b2 mm bs n ls Q) : W p l e room_1 s m #[Value.ref bs] below meth c H locs 120 1975 Q (F0 m 244 ls []) := by
  have hn5 : n ≤ 511 := by omega
  refine lv_aload_n F.1 F.2.1 dL_law_244 rfl (lv_at hl 2 rfl) ?_
  refine ld 1 F hX hbl hl hL hS (by omega) rfl dL_law_245 dL_law_246 dL_law_247 dL_law_248 dL_law_249 ?_
  refine ld 2 F hX hbl hl hL hS (by omega) rfl dL_law_250 dL_law_251 dL_law_252 dL_law_253 dL_law_254 ?_
  refine ci_V F hE (k_X2_write l E a o (b1 0) (b2 0) g kI (hs E b1 g1 ++ hs E b2 g2) (xs (4 * n + 1)) (xs (4 * n + 2)) HI.1.1.1.1.2) (cwV 2 F.2.2.2.2 gL_law_X2_write rfl rfl rfl (by decide +kernel) ⟨(Nat.le_of_ble_eq_true rfl), (Nat.le_of_ble_eq_true rfl)⟩) Fr.pre (38 + 0) 2 (ap_h rfl) rfl rfl hP hD hS (fun _ h => h) rfl hl.1 rfl (Nat.le_of_ble_eq_true rfl) dL_law_255 ⟨(Nat.le_of_ble_eq_true rfl), (Nat.le_of_ble_eq_true rfl)⟩ (fun H locs hP hD hS => ?_)
  refine lv_aload_n F.1 F.2.1 dL_law_258 rfl (lv_at hl 1 rfl) ?_
  refine ld 1 F hX hbl hl hL hS (by omega) rfl dL_law_259 dL_law_260 dL_law_261 dL_law_262 dL_law_263 ?_
  refine ld 2 F hX hbl hl hL hS (by omega) rfl dL_law_264 dL_law_265 dL_law_266 dL_law_267 dL_law_268 ?_
  refine ci_V F hE (k_X3_write l E mm g im kp (xs (4 * n + 1)) (xs (4 * n + 2)) (fun q1 q2 => ⟨ln_lt HI.1.1.1 HI.1.1.2.1 (in_ix (n := 11) q1 rfl (by decide)).1 q2, HI.1.1.1.1.2⟩) HI.1.1.2.2.2.2.2.2.1) (cwV 2 F.2.2.2.2 gL_law_X3_write rfl rfl rfl (by decide +kernel) ⟨(Nat.le_of_ble_eq_true rfl), (Nat.le_of_ble_eq_true rfl)⟩) Fr.suf 0 3 rfl rfl rfl hP hD hS (fun _ h => h) rfl hl.1 rfl (Nat.le_of_ble_eq_true rfl) dL_law_269 ⟨(Nat.le_of_ble_eq_true rfl), (Nat.le_of_ble_eq_true rfl)⟩ (fun H locs hP hD hS => ?_)
  have eq := wr_eq (y := (xs (4 * n + 1))) (n := (xs (4 * n + 2))) (fun t ht => (HI.1.1.2.2.2.1 t ht).imp id (fun q => by rcases q with q | q <;> (rw [q]; decide))) HI.1.1.2.2.2.2.2.2.1 HI.1.1.2.2.1 (fun t ht q => ln_lt HI.1.1.1 HI.1.1.2.1 ht q) HI.1.1.1.1.2
  refine lv_icmp_eq (tgt := 590) F.1 F.2.1 dL_law_272 (by decide) (fun _ => ?_) (fun q => absurd eq.2 q)
  rw [eq.1] at hP hD
  exact kk (s_X3_write g (xs (4 * n + 1)) (xs (4 * n + 2))) g1 g2 im kp kI H locs (li_go (j_mono (by omega) (by omega) (j_write (by omega) HI.1)) HI) hP hD hS
set_option maxHeartbeats 4000000 in
set_option maxRecDepth 100000 in
theorem law_pass (F : CallFix p m c code 4 s #[Value.ref bs] wsL_law RL) (hE : ev E s) (hT : ST t0 t1 t2 (fun q : Nat => s.heap.size ≤ q) s) (hX : va_X bs L xs s s.heap) (hbl : bs < s.heap.size) (hl : lv_has ls 4 [(3, .int (nI (4 * n))), (2, .ref (mm 0)), (1, .ref (o 0)), (0, .ref bs)]) (hn : 4 * n + 4 ≤ L) (hL : L ≤ 2048) (HI : LInv n g g1 g2 im kp kI) (hP : va_P E.1 vwCl (lwd E a o b1 b2 mm g g1 g2 im kp kI) H) (hD : va_D (fun q : Nat => s.heap.size ≤ q) (lwd E a o b1 b2 mm g g1 g2 im kp kI)) (hS : va_S (fun q : Nat => s.heap.size ≤ q) s.heap H locs) (kk : LK p l e s m below meth c E a o b1 b2 mm bs n ls Q) : W p l e room_1 s m #[Value.ref bs] below meth c H locs 120 1975 Q (F0 m 277 ls []) := by
  have hn5 : n ≤ 511 := by omega
  refine lv_aload_n F.1 F.2.1 dL_law_277 rfl (lv_at hl 2 rfl) ?_
  refine ld 1 F hX hbl hl hL hS (by omega) rfl dL_law_278 dL_law_279 dL_law_280 dL_law_281 dL_law_282 ?_
  refine ci_V F hE (k_X2_pass l E a o (b1 0) (b2 0) g kI (hs E b1 g1 ++ hs E b2 g2) (xs (4 * n + 1)) HI.1.1.1) (cwV 1 F.2.2.2.2 gL_law_X2_pass rfl rfl rfl (by decide +kernel) ⟨(Nat.le_of_ble_eq_true rfl), (Nat.le_of_ble_eq_true rfl)⟩) Fr.pre (38 + 0) 2 (ap_h rfl) rfl rfl hP hD hS (fun _ h => h) rfl hl.1 rfl (Nat.le_of_ble_eq_true rfl) dL_law_283 ⟨(Nat.le_of_ble_eq_true rfl), (Nat.le_of_ble_eq_true rfl)⟩ (fun H locs hP hD hS => ?_)
  refine lv_aload_n F.1 F.2.1 dL_law_286 rfl (lv_at hl 1 rfl) ?_
  refine ld 1 F hX hbl hl hL hS (by omega) rfl dL_law_287 dL_law_288 dL_law_289 dL_law_290 dL_law_291 ?_
  refine ci_V F hE (k_X3_pass l E mm g im kp (xs (4 * n + 1)) HI.1.1.1) (cwV 1 F.2.2.2.2 gL_law_X3_pass rfl rfl rfl (by decide +kernel) ⟨(Nat.le_of_ble_eq_true rfl), (Nat.le_of_ble_eq_true rfl)⟩) Fr.suf 0 3 rfl rfl rfl hP hD hS (fun _ h => h) rfl hl.1 rfl (Nat.le_of_ble_eq_true rfl) dL_law_292 ⟨(Nat.le_of_ble_eq_true rfl), (Nat.le_of_ble_eq_true rfl)⟩ (fun H locs hP hD hS => ?_)
  have eq := pa_eq (x := (xs (4 * n + 1))) HI.1.1.1 HI.1.1.2.2.2.2.2.2.1.1 HI.1.1.2.2.2.2.2.2.1.2.1 HI.1.1.2.2.1
  refine lv_icmp_eq (tgt := 590) F.1 F.2.1 dL_law_295 (by decide) (fun _ => ?_) (fun q => absurd eq.2 q)
  rw [eq.1] at hP hD
  exact kk (s_X3_pass g (xs (4 * n + 1))) g1 g2 im kp kI H locs (li_go (j_mono (by omega) (by omega) (j_pass (by omega) (by omega) HI.1)) HI) hP hD hS
set_option maxHeartbeats 4000000 in
set_option maxRecDepth 100000 in
theorem law_cause (F : CallFix p m c code 4 s #[Value.ref bs] wsL_law RL) (hE : ev E s) (hT : ST t0 t1 t2 (fun q : Nat => s.heap.size ≤ q) s) (hX : va_X bs L xs s s.heap) (hbl : bs < s.heap.size) (hl : lv_has ls 4 [(3, .int (nI (4 * n))), (2, .ref (mm 0)), (1, .ref (o 0)), (0, .ref bs)]) (hn : 4 * n + 4 ≤ L) (hL : L ≤ 2048) (HI : LInv n g g1 g2 im kp kI) (hP : va_P E.1 vwCl (lwd E a o b1 b2 mm g g1 g2 im kp kI) H) (hD : va_D (fun q : Nat => s.heap.size ≤ q) (lwd E a o b1 b2 mm g g1 g2 im kp kI)) (hS : va_S (fun q : Nat => s.heap.size ≤ q) s.heap H locs) (kk : LK p l e s m below meth c E a o b1 b2 mm bs n ls Q) : W p l e room_1 s m #[Value.ref bs] below meth c H locs 120 1975 Q (F0 m 300 ls []) := by
  have hn5 : n ≤ 511 := by omega
  refine lv_aload_n F.1 F.2.1 dL_law_300 rfl (lv_at hl 2 rfl) ?_
  refine ld 1 F hX hbl hl hL hS (by omega) rfl dL_law_301 dL_law_302 dL_law_303 dL_law_304 dL_law_305 ?_
  refine ci_V F hE (k_X2_cause l E a o (b1 0) (b2 0) g kI (hs E b1 g1 ++ hs E b2 g2) (xs (4 * n + 1)) HI.1.1.2.2.2.2.2.2.2.2.2.1.1) (cwV 1 F.2.2.2.2 gL_law_X2_cause rfl rfl rfl (by decide +kernel) ⟨(Nat.le_of_ble_eq_true rfl), (Nat.le_of_ble_eq_true rfl)⟩) Fr.pre (38 + 0) 2 (ap_h rfl) rfl rfl hP hD hS (fun _ h => h) rfl hl.1 rfl (Nat.le_of_ble_eq_true rfl) dL_law_306 ⟨(Nat.le_of_ble_eq_true rfl), (Nat.le_of_ble_eq_true rfl)⟩ (fun H locs hP hD hS => ?_)
  refine lv_aload_n F.1 F.2.1 dL_law_309 rfl (lv_at hl 1 rfl) ?_
  refine ld 1 F hX hbl hl hL hS (by omega) rfl dL_law_310 dL_law_311 dL_law_312 dL_law_313 dL_law_314 ?_
  refine ci_V F hE (k_X3_cause l E mm g im kp (xs (4 * n + 1)) HI.1.1.2.2.2.2.2.2.2.2.2.1.1) (cwV 1 F.2.2.2.2 gL_law_X3_cause rfl rfl rfl (by decide +kernel) ⟨(Nat.le_of_ble_eq_true rfl), (Nat.le_of_ble_eq_true rfl)⟩) Fr.suf 0 3 rfl rfl rfl hP hD hS (fun _ h => h) rfl hl.1 rfl (Nat.le_of_ble_eq_true rfl) dL_law_315 ⟨(Nat.le_of_ble_eq_true rfl), (Nat.le_of_ble_eq_true rfl)⟩ (fun H locs hP hD hS => ?_)
  have eq := ca_eq (x := (xs (4 * n + 1))) HI.1.1.2.2.2.2.2.2.2.2.2.1.1
  refine lv_icmp_eq (tgt := 590) F.1 F.2.1 dL_law_318 (by decide) (fun _ => ?_) (fun q => absurd eq q)
  exact kk g g1 g2 im kp kI H locs (li_same HI) hP hD hS
set_option maxHeartbeats 4000000 in
set_option maxRecDepth 100000 in
theorem law_waited (F : CallFix p m c code 4 s #[Value.ref bs] wsL_law RL) (hE : ev E s) (hT : ST t0 t1 t2 (fun q : Nat => s.heap.size ≤ q) s) (hX : va_X bs L xs s s.heap) (hbl : bs < s.heap.size) (hl : lv_has ls 4 [(3, .int (nI (4 * n))), (2, .ref (mm 0)), (1, .ref (o 0)), (0, .ref bs)]) (hn : 4 * n + 4 ≤ L) (hL : L ≤ 2048) (HI : LInv n g g1 g2 im kp kI) (hP : va_P E.1 vwCl (lwd E a o b1 b2 mm g g1 g2 im kp kI) H) (hD : va_D (fun q : Nat => s.heap.size ≤ q) (lwd E a o b1 b2 mm g g1 g2 im kp kI)) (hS : va_S (fun q : Nat => s.heap.size ≤ q) s.heap H locs) (kk : LK p l e s m below meth c E a o b1 b2 mm bs n ls Q) : W p l e room_1 s m #[Value.ref bs] below meth c H locs 120 1975 Q (F0 m 323 ls []) := by
  have hn5 : n ≤ 511 := by omega
  refine lv_aload_n F.1 F.2.1 dL_law_323 rfl (lv_at hl 2 rfl) ?_
  refine ld 1 F hX hbl hl hL hS (by omega) rfl dL_law_324 dL_law_325 dL_law_326 dL_law_327 dL_law_328 ?_
  refine ci_V F hE (k_X2_waited l E a o (b1 0) (b2 0) g kI (hs E b1 g1 ++ hs E b2 g2) (xs (4 * n + 1)) HI.1.1.2.2.2.2.2.2.2.2.2.1.2) (cwV 1 F.2.2.2.2 gL_law_X2_waited rfl rfl rfl (by decide +kernel) ⟨(Nat.le_of_ble_eq_true rfl), (Nat.le_of_ble_eq_true rfl)⟩) Fr.pre (38 + 0) 2 (ap_h rfl) rfl rfl hP hD hS (fun _ h => h) rfl hl.1 rfl (Nat.le_of_ble_eq_true rfl) dL_law_329 ⟨(Nat.le_of_ble_eq_true rfl), (Nat.le_of_ble_eq_true rfl)⟩ (fun H locs hP hD hS => ?_)
  refine lv_aload_n F.1 F.2.1 dL_law_332 rfl (lv_at hl 1 rfl) ?_
  refine ld 1 F hX hbl hl hL hS (by omega) rfl dL_law_333 dL_law_334 dL_law_335 dL_law_336 dL_law_337 ?_
  refine ci_V F hE (k_X3_waited l E mm g im kp (xs (4 * n + 1)) HI.1.1.2.2.2.2.2.2.2.2.2.1.2) (cwV 1 F.2.2.2.2 gL_law_X3_waited rfl rfl rfl (by decide +kernel) ⟨(Nat.le_of_ble_eq_true rfl), (Nat.le_of_ble_eq_true rfl)⟩) Fr.suf 0 3 rfl rfl rfl hP hD hS (fun _ h => h) rfl hl.1 rfl (Nat.le_of_ble_eq_true rfl) dL_law_338 ⟨(Nat.le_of_ble_eq_true rfl), (Nat.le_of_ble_eq_true rfl)⟩ (fun H locs hP hD hS => ?_)
  have eq := wa_eq (x := (xs (4 * n + 1))) HI.1.1.2.2.2.2.2.2.2.2.2.1.2
  refine lv_icmp_eq (tgt := 590) F.1 F.2.1 dL_law_341 (by decide) (fun _ => ?_) (fun q => absurd eq q)
  exact kk g g1 g2 im kp kI H locs (li_same HI) hP hD hS
set_option maxHeartbeats 4000000 in
set_option maxRecDepth 100000 in
theorem law_thing (F : CallFix p m c code 4 s #[Value.ref bs] wsL_law RL) (hE : ev E s) (hT : ST t0 t1 t2 (fun q : Nat => s.heap.size ≤ q) s) (hX : va_X bs L xs s s.heap) (hbl : bs < s.heap.size) (hl : lv_has ls 4 [(3, .int (nI (4 * n))), (2, .ref (mm 0)), (1, .ref (o 0)), (0, .ref bs)]) (hn : 4 * n + 4 ≤ L) (hL : L ≤ 2048) (HI : LInv n g g1 g2 im kp kI) (hP : va_P E.1 vwCl (lwd E a o b1 b2 mm g g1 g2 im kp kI) H) (hD : va_D (fun q : Nat => s.heap.size ≤ q) (lwd E a o b1 b2 mm g g1 g2 im kp kI)) (hS : va_S (fun q : Nat => s.heap.size ≤ q) s.heap H locs) (kk : LK p l e s m below meth c E a o b1 b2 mm bs n ls Q) : W p l e room_1 s m #[Value.ref bs] below meth c H locs 120 1975 Q (F0 m 346 ls []) := by
  have hn5 : n ≤ 511 := by omega
  refine lv_aload_n F.1 F.2.1 dL_law_346 rfl (lv_at hl 2 rfl) ?_
  refine ld 1 F hX hbl hl hL hS (by omega) rfl dL_law_347 dL_law_348 dL_law_349 dL_law_350 dL_law_351 ?_
  refine ld 2 F hX hbl hl hL hS (by omega) rfl dL_law_352 dL_law_353 dL_law_354 dL_law_355 dL_law_356 ?_
  refine ci_V F hE (k_X2_thing l E a o (b1 0) (b2 0) g kI (hs E b1 g1 ++ hs E b2 g2) (xs (4 * n + 1)) (xs (4 * n + 2))) (cwV 2 F.2.2.2.2 gL_law_X2_thing rfl rfl rfl (by decide +kernel) ⟨(Nat.le_of_ble_eq_true rfl), (Nat.le_of_ble_eq_true rfl)⟩) Fr.pre (38 + 0) 2 (ap_h rfl) rfl rfl hP hD hS (fun _ h => h) rfl hl.1 rfl (Nat.le_of_ble_eq_true rfl) dL_law_357 ⟨(Nat.le_of_ble_eq_true rfl), (Nat.le_of_ble_eq_true rfl)⟩ (fun H locs hP hD hS => ?_)
  refine lv_aload_n F.1 F.2.1 dL_law_360 rfl (lv_at hl 1 rfl) ?_
  refine ld 1 F hX hbl hl hL hS (by omega) rfl dL_law_361 dL_law_362 dL_law_363 dL_law_364 dL_law_365 ?_
  refine ld 2 F hX hbl hl hL hS (by omega) rfl dL_law_366 dL_law_367 dL_law_368 dL_law_369 dL_law_370 ?_
  refine ci_V F hE (k_X3_thing l E mm g im kp (xs (4 * n + 1)) (xs (4 * n + 2)) HI.1.1.2.2.2.2.2.2.1) (cwV 2 F.2.2.2.2 gL_law_X3_thing rfl rfl rfl (by decide +kernel) ⟨(Nat.le_of_ble_eq_true rfl), (Nat.le_of_ble_eq_true rfl)⟩) Fr.suf 0 3 rfl rfl rfl hP hD hS (fun _ h => h) rfl hl.1 rfl (Nat.le_of_ble_eq_true rfl) dL_law_371 ⟨(Nat.le_of_ble_eq_true rfl), (Nat.le_of_ble_eq_true rfl)⟩ (fun H locs hP hD hS => ?_)
  have eq := tg_eq (y := (xs (4 * n + 1))) (k := (xs (4 * n + 2))) HI.1.1.2.2.2.2.1 (fun t ht => (HI.1.1.2.2.2.1 t ht).imp id (fun q => by rcases q with q | q <;> (rw [q]; decide))) HI.1.1.2.2.2.2.2.2.1 HI.1.2
  refine lv_icmp_eq (tgt := 590) F.1 F.2.1 dL_law_374 (by decide) (fun _ => ?_) (fun q => absurd eq q)
  exact kk g g1 g2 im kp kI H locs (li_same HI) hP hD hS
set_option maxHeartbeats 4000000 in
set_option maxRecDepth 100000 in
theorem law_copy (F : CallFix p m c code 4 s #[Value.ref bs] wsL_law RL) (hE : ev E s) (hT : ST t0 t1 t2 (fun q : Nat => s.heap.size ≤ q) s) (hX : va_X bs L xs s s.heap) (hbl : bs < s.heap.size) (hl : lv_has ls 4 [(3, .int (nI (4 * n))), (2, .ref (mm 0)), (1, .ref (o 0)), (0, .ref bs)]) (hn : 4 * n + 4 ≤ L) (hL : L ≤ 2048) (HI : LInv n g g1 g2 im kp kI) (hP : va_P E.1 vwCl (lwd E a o b1 b2 mm g g1 g2 im kp kI) H) (hD : va_D (fun q : Nat => s.heap.size ≤ q) (lwd E a o b1 b2 mm g g1 g2 im kp kI)) (hS : va_S (fun q : Nat => s.heap.size ≤ q) s.heap H locs) (kk : LK p l e s m below meth c E a o b1 b2 mm bs n ls Q) : W p l e room_1 s m #[Value.ref bs] below meth c H locs 120 1975 Q (F0 m 379 ls []) := by
  have hn5 : n ≤ 511 := by omega
  refine lv_aload_n F.1 F.2.1 dL_law_379 rfl (lv_at hl 2 rfl) ?_
  refine ld 1 F hX hbl hl hL hS (by omega) rfl dL_law_380 dL_law_381 dL_law_382 dL_law_383 dL_law_384 ?_
  refine ld 2 F hX hbl hl hL hS (by omega) rfl dL_law_385 dL_law_386 dL_law_387 dL_law_388 dL_law_389 ?_
  refine ld 3 F hX hbl hl hL hS (by omega) rfl dL_law_390 dL_law_391 dL_law_392 dL_law_393 dL_law_394 ?_
  refine ci_V F hE (k_X2_copy l E a o (b1 0) (b2 0) g kI (hs E b1 g1 ++ hs E b2 g2) (xs (4 * n + 1)) (xs (4 * n + 2)) (xs (4 * n + 3))) (cwV 3 F.2.2.2.2 gL_law_X2_copy rfl rfl rfl (by decide +kernel) ⟨(Nat.le_of_ble_eq_true rfl), (Nat.le_of_ble_eq_true rfl)⟩) Fr.pre (38 + 0) 2 (ap_h rfl) rfl rfl hP hD hS (fun _ h => h) rfl hl.1 rfl (Nat.le_of_ble_eq_true rfl) dL_law_395 ⟨(Nat.le_of_ble_eq_true rfl), (Nat.le_of_ble_eq_true rfl)⟩ (fun H locs hP hD hS => ?_)
  refine lv_aload_n F.1 F.2.1 dL_law_398 rfl (lv_at hl 1 rfl) ?_
  refine ld 1 F hX hbl hl hL hS (by omega) rfl dL_law_399 dL_law_400 dL_law_401 dL_law_402 dL_law_403 ?_
  refine ld 2 F hX hbl hl hL hS (by omega) rfl dL_law_404 dL_law_405 dL_law_406 dL_law_407 dL_law_408 ?_
  refine ld 3 F hX hbl hl hL hS (by omega) rfl dL_law_409 dL_law_410 dL_law_411 dL_law_412 dL_law_413 ?_
  refine ci_V F hE (k_X3_copy l E mm g im kp (xs (4 * n + 1)) (xs (4 * n + 2)) (xs (4 * n + 3))) (cwV 3 F.2.2.2.2 gL_law_X3_copy rfl rfl rfl (by decide +kernel) ⟨(Nat.le_of_ble_eq_true rfl), (Nat.le_of_ble_eq_true rfl)⟩) Fr.suf 0 3 rfl rfl rfl hP hD hS (fun _ h => h) rfl hl.1 rfl (Nat.le_of_ble_eq_true rfl) dL_law_414 ⟨(Nat.le_of_ble_eq_true rfl), (Nat.le_of_ble_eq_true rfl)⟩ (fun H locs hP hD hS => ?_)
  have eq := co_eq (x := (xs (4 * n + 1))) (y := (xs (4 * n + 2))) (k := (xs (4 * n + 3))) HI.1.1.2.2.2.2.1
  refine lv_icmp_eq (tgt := 590) F.1 F.2.1 dL_law_417 (by decide) (fun _ => ?_) (fun q => absurd eq q)
  exact kk g g1 g2 im kp kI H locs (li_same HI) hP hD hS
set_option maxHeartbeats 4000000 in
set_option maxRecDepth 100000 in
theorem law_volume (F : CallFix p m c code 4 s #[Value.ref bs] wsL_law RL) (hE : ev E s) (hT : ST t0 t1 t2 (fun q : Nat => s.heap.size ≤ q) s) (hX : va_X bs L xs s s.heap) (hbl : bs < s.heap.size) (hl : lv_has ls 4 [(3, .int (nI (4 * n))), (2, .ref (mm 0)), (1, .ref (o 0)), (0, .ref bs)]) (hn : 4 * n + 4 ≤ L) (hL : L ≤ 2048) (HI : LInv n g g1 g2 im kp kI) (hP : va_P E.1 vwCl (lwd E a o b1 b2 mm g g1 g2 im kp kI) H) (hD : va_D (fun q : Nat => s.heap.size ≤ q) (lwd E a o b1 b2 mm g g1 g2 im kp kI)) (hS : va_S (fun q : Nat => s.heap.size ≤ q) s.heap H locs) (kk : LK p l e s m below meth c E a o b1 b2 mm bs n ls Q) : W p l e room_1 s m #[Value.ref bs] below meth c H locs 120 1975 Q (F0 m 422 ls []) := by
  have hn5 : n ≤ 511 := by omega
  refine lv_aload_n F.1 F.2.1 dL_law_422 rfl (lv_at hl 2 rfl) ?_
  refine ld 1 F hX hbl hl hL hS (by omega) rfl dL_law_423 dL_law_424 dL_law_425 dL_law_426 dL_law_427 ?_
  refine ld 2 F hX hbl hl hL hS (by omega) rfl dL_law_428 dL_law_429 dL_law_430 dL_law_431 dL_law_432 ?_
  refine ld 3 F hX hbl hl hL hS (by omega) rfl dL_law_433 dL_law_434 dL_law_435 dL_law_436 dL_law_437 ?_
  refine ci_V F hE (k_X2_volume l E a o (b1 0) (b2 0) g kI (hs E b1 g1 ++ hs E b2 g2) (xs (4 * n + 1)) (xs (4 * n + 2)) (xs (4 * n + 3))) (cwV 3 F.2.2.2.2 gL_law_X2_volume rfl rfl rfl (by decide +kernel) ⟨(Nat.le_of_ble_eq_true rfl), (Nat.le_of_ble_eq_true rfl)⟩) Fr.pre (38 + 0) 2 (ap_h rfl) rfl rfl hP hD hS (fun _ h => h) rfl hl.1 rfl (Nat.le_of_ble_eq_true rfl) dL_law_438 ⟨(Nat.le_of_ble_eq_true rfl), (Nat.le_of_ble_eq_true rfl)⟩ (fun H locs hP hD hS => ?_)
  refine lv_aload_n F.1 F.2.1 dL_law_441 rfl (lv_at hl 1 rfl) ?_
  refine ld 1 F hX hbl hl hL hS (by omega) rfl dL_law_442 dL_law_443 dL_law_444 dL_law_445 dL_law_446 ?_
  refine ld 2 F hX hbl hl hL hS (by omega) rfl dL_law_447 dL_law_448 dL_law_449 dL_law_450 dL_law_451 ?_
  refine ld 3 F hX hbl hl hL hS (by omega) rfl dL_law_452 dL_law_453 dL_law_454 dL_law_455 dL_law_456 ?_
  refine ci_V F hE (k_X3_volume l E mm g im kp (xs (4 * n + 1)) (xs (4 * n + 2)) (xs (4 * n + 3))) (cwV 3 F.2.2.2.2 gL_law_X3_volume rfl rfl rfl (by decide +kernel) ⟨(Nat.le_of_ble_eq_true rfl), (Nat.le_of_ble_eq_true rfl)⟩) Fr.suf 0 3 rfl rfl rfl hP hD hS (fun _ h => h) rfl hl.1 rfl (Nat.le_of_ble_eq_true rfl) dL_law_457 ⟨(Nat.le_of_ble_eq_true rfl), (Nat.le_of_ble_eq_true rfl)⟩ (fun H locs hP hD hS => ?_)
  have eq := vo_eq (g := g) (x := (xs (4 * n + 1))) (y := (xs (4 * n + 2))) (k := (xs (4 * n + 3)))
  refine lv_icmp_eq (tgt := 590) F.1 F.2.1 dL_law_460 (by decide) (fun _ => ?_) (fun q => absurd eq q)
  exact kk g g1 g2 im kp kI H locs (li_same HI) hP hD hS
set_option maxHeartbeats 4000000 in
set_option maxRecDepth 100000 in
theorem law_reader (F : CallFix p m c code 4 s #[Value.ref bs] wsL_law RL) (hE : ev E s) (hT : ST t0 t1 t2 (fun q : Nat => s.heap.size ≤ q) s) (hX : va_X bs L xs s s.heap) (hbl : bs < s.heap.size) (hl : lv_has ls 4 [(3, .int (nI (4 * n))), (2, .ref (mm 0)), (1, .ref (o 0)), (0, .ref bs)]) (hn : 4 * n + 4 ≤ L) (hL : L ≤ 2048) (HI : LInv n g g1 g2 im kp kI) (hP : va_P E.1 vwCl (lwd E a o b1 b2 mm g g1 g2 im kp kI) H) (hD : va_D (fun q : Nat => s.heap.size ≤ q) (lwd E a o b1 b2 mm g g1 g2 im kp kI)) (hS : va_S (fun q : Nat => s.heap.size ≤ q) s.heap H locs) (kk : LK p l e s m below meth c E a o b1 b2 mm bs n ls Q) : W p l e room_1 s m #[Value.ref bs] below meth c H locs 120 1975 Q (F0 m 465 ls []) := by
  have hn5 : n ≤ 511 := by omega
  refine lv_aload_n F.1 F.2.1 dL_law_465 rfl (lv_at hl 2 rfl) ?_
  refine ld 1 F hX hbl hl hL hS (by omega) rfl dL_law_466 dL_law_467 dL_law_468 dL_law_469 dL_law_470 ?_
  refine ld 2 F hX hbl hl hL hS (by omega) rfl dL_law_471 dL_law_472 dL_law_473 dL_law_474 dL_law_475 ?_
  refine ci_V F hE (k_X2_reader l E a o (b1 0) (b2 0) g kI (hs E b1 g1 ++ hs E b2 g2) (xs (4 * n + 1)) (xs (4 * n + 2))) (cwV 2 F.2.2.2.2 gL_law_X2_reader rfl rfl rfl (by decide +kernel) ⟨(Nat.le_of_ble_eq_true rfl), (Nat.le_of_ble_eq_true rfl)⟩) Fr.pre (38 + 0) 2 (ap_h rfl) rfl rfl hP hD hS (fun _ h => h) rfl hl.1 rfl (Nat.le_of_ble_eq_true rfl) dL_law_476 ⟨(Nat.le_of_ble_eq_true rfl), (Nat.le_of_ble_eq_true rfl)⟩ (fun H locs hP hD hS => ?_)
  refine lv_aload_n F.1 F.2.1 dL_law_479 rfl (lv_at hl 1 rfl) ?_
  refine ld 1 F hX hbl hl hL hS (by omega) rfl dL_law_480 dL_law_481 dL_law_482 dL_law_483 dL_law_484 ?_
  refine ld 2 F hX hbl hl hL hS (by omega) rfl dL_law_485 dL_law_486 dL_law_487 dL_law_488 dL_law_489 ?_
  refine ci_V F hE (k_X3_reader l E mm g im kp (xs (4 * n + 1)) (xs (4 * n + 2))) (cwV 2 F.2.2.2.2 gL_law_X3_reader rfl rfl rfl (by decide +kernel) ⟨(Nat.le_of_ble_eq_true rfl), (Nat.le_of_ble_eq_true rfl)⟩) Fr.suf 0 3 rfl rfl rfl hP hD hS (fun _ h => h) rfl hl.1 rfl (Nat.le_of_ble_eq_true rfl) dL_law_490 ⟨(Nat.le_of_ble_eq_true rfl), (Nat.le_of_ble_eq_true rfl)⟩ (fun H locs hP hD hS => ?_)
  have eq := rd2_eq (x := (xs (4 * n + 1))) (k := (xs (4 * n + 2))) HI.1.1.2.2.1
  refine lv_icmp_eq (tgt := 590) F.1 F.2.1 dL_law_493 (by decide) (fun _ => ?_) (fun q => absurd eq q)
  exact kk g g1 g2 im kp kI H locs (li_same HI) hP hD hS
set_option maxHeartbeats 4000000 in
set_option maxRecDepth 100000 in
theorem law_waiting (F : CallFix p m c code 4 s #[Value.ref bs] wsL_law RL) (hE : ev E s) (hT : ST t0 t1 t2 (fun q : Nat => s.heap.size ≤ q) s) (hX : va_X bs L xs s s.heap) (hbl : bs < s.heap.size) (hl : lv_has ls 4 [(3, .int (nI (4 * n))), (2, .ref (mm 0)), (1, .ref (o 0)), (0, .ref bs)]) (hn : 4 * n + 4 ≤ L) (hL : L ≤ 2048) (HI : LInv n g g1 g2 im kp kI) (hP : va_P E.1 vwCl (lwd E a o b1 b2 mm g g1 g2 im kp kI) H) (hD : va_D (fun q : Nat => s.heap.size ≤ q) (lwd E a o b1 b2 mm g g1 g2 im kp kI)) (hS : va_S (fun q : Nat => s.heap.size ≤ q) s.heap H locs) (kk : LK p l e s m below meth c E a o b1 b2 mm bs n ls Q) : W p l e room_1 s m #[Value.ref bs] below meth c H locs 120 1975 Q (F0 m 498 ls []) := by
  have hn5 : n ≤ 511 := by omega
  refine lv_aload_n F.1 F.2.1 dL_law_498 rfl (lv_at hl 2 rfl) ?_
  refine ld 1 F hX hbl hl hL hS (by omega) rfl dL_law_499 dL_law_500 dL_law_501 dL_law_502 dL_law_503 ?_
  refine ci_V F hE (k_X2_waiting l E a o (b1 0) (b2 0) g kI (hs E b1 g1 ++ hs E b2 g2) (xs (4 * n + 1)) HI.1.1.1.1) (cwV 1 F.2.2.2.2 gL_law_X2_waiting rfl rfl rfl (by decide +kernel) ⟨(Nat.le_of_ble_eq_true rfl), (Nat.le_of_ble_eq_true rfl)⟩) Fr.pre (38 + 0) 2 (ap_h rfl) rfl rfl hP hD hS (fun _ h => h) rfl hl.1 rfl (Nat.le_of_ble_eq_true rfl) dL_law_504 ⟨(Nat.le_of_ble_eq_true rfl), (Nat.le_of_ble_eq_true rfl)⟩ (fun H locs hP hD hS => ?_)
  refine lv_aload_n F.1 F.2.1 dL_law_507 rfl (lv_at hl 1 rfl) ?_
  refine ld 1 F hX hbl hl hL hS (by omega) rfl dL_law_508 dL_law_509 dL_law_510 dL_law_511 dL_law_512 ?_
  refine ci_V F hE (k_X3_waiting l E mm g im kp (xs (4 * n + 1)) HI.1.1.1.1) (cwV 1 F.2.2.2.2 gL_law_X3_waiting rfl rfl rfl (by decide +kernel) ⟨(Nat.le_of_ble_eq_true rfl), (Nat.le_of_ble_eq_true rfl)⟩) Fr.suf 0 3 rfl rfl rfl hP hD hS (fun _ h => h) rfl hl.1 rfl (Nat.le_of_ble_eq_true rfl) dL_law_513 ⟨(Nat.le_of_ble_eq_true rfl), (Nat.le_of_ble_eq_true rfl)⟩ (fun H locs hP hD hS => ?_)
  have eq := wt_eq (x := (xs (4 * n + 1))) HI.1.1.1.1
  refine lv_icmp_eq (tgt := 590) F.1 F.2.1 dL_law_516 (by decide) (fun _ => ?_) (fun q => absurd eq q)
  exact kk g g1 g2 im kp kI H locs (li_same HI) hP hD hS
set_option maxHeartbeats 4000000 in
set_option maxRecDepth 100000 in
theorem law_count (F : CallFix p m c code 4 s #[Value.ref bs] wsL_law RL) (hE : ev E s) (hT : ST t0 t1 t2 (fun q : Nat => s.heap.size ≤ q) s) (hX : va_X bs L xs s s.heap) (hbl : bs < s.heap.size) (hl : lv_has ls 4 [(3, .int (nI (4 * n))), (2, .ref (mm 0)), (1, .ref (o 0)), (0, .ref bs)]) (hn : 4 * n + 4 ≤ L) (hL : L ≤ 2048) (HI : LInv n g g1 g2 im kp kI) (hP : va_P E.1 vwCl (lwd E a o b1 b2 mm g g1 g2 im kp kI) H) (hD : va_D (fun q : Nat => s.heap.size ≤ q) (lwd E a o b1 b2 mm g g1 g2 im kp kI)) (hS : va_S (fun q : Nat => s.heap.size ≤ q) s.heap H locs) (kk : LK p l e s m below meth c E a o b1 b2 mm bs n ls Q) : W p l e room_1 s m #[Value.ref bs] below meth c H locs 120 1975 Q (F0 m 521 ls []) := by
  have hn5 : n ≤ 511 := by omega
  refine lv_aload_n F.1 F.2.1 dL_law_521 rfl (lv_at hl 2 rfl) ?_
  refine ld 1 F hX hbl hl hL hS (by omega) rfl dL_law_522 dL_law_523 dL_law_524 dL_law_525 dL_law_526 ?_
  refine ci_V F hE (k_X2_count l E a o (b1 0) (b2 0) g kI (hs E b1 g1 ++ hs E b2 g2) (xs (4 * n + 1))) (cwV 1 F.2.2.2.2 gL_law_X2_count rfl rfl rfl (by decide +kernel) ⟨(Nat.le_of_ble_eq_true rfl), (Nat.le_of_ble_eq_true rfl)⟩) Fr.pre (38 + 0) 2 (ap_h rfl) rfl rfl hP hD hS (fun _ h => h) rfl hl.1 rfl (Nat.le_of_ble_eq_true rfl) dL_law_527 ⟨(Nat.le_of_ble_eq_true rfl), (Nat.le_of_ble_eq_true rfl)⟩ (fun H locs hP hD hS => ?_)
  refine lv_aload_n F.1 F.2.1 dL_law_530 rfl (lv_at hl 1 rfl) ?_
  refine ld 1 F hX hbl hl hL hS (by omega) rfl dL_law_531 dL_law_532 dL_law_533 dL_law_534 dL_law_535 ?_
  refine ci_V F hE (k_X3_count l E mm g im kp (xs (4 * n + 1))) (cwV 1 F.2.2.2.2 gL_law_X3_count rfl rfl rfl (by decide +kernel) ⟨(Nat.le_of_ble_eq_true rfl), (Nat.le_of_ble_eq_true rfl)⟩) Fr.suf 0 3 rfl rfl rfl hP hD hS (fun _ h => h) rfl hl.1 rfl (Nat.le_of_ble_eq_true rfl) dL_law_536 ⟨(Nat.le_of_ble_eq_true rfl), (Nat.le_of_ble_eq_true rfl)⟩ (fun H locs hP hD hS => ?_)
  have eq := cn_eq (g := g) (k := (xs (4 * n + 1))) HI.2.2.2.1
  refine lv_icmp_eq (tgt := 590) F.1 F.2.1 dL_law_539 (by decide) (fun _ => ?_) (fun q => absurd eq q)
  exact kk g g1 g2 im kp kI H locs (li_same HI) hP hD hS
set_option maxHeartbeats 4000000 in
set_option maxRecDepth 100000 in
theorem law_rule (F : CallFix p m c code 4 s #[Value.ref bs] wsL_law RL) (hE : ev E s) (hT : ST t0 t1 t2 (fun q : Nat => s.heap.size ≤ q) s) (hX : va_X bs L xs s s.heap) (hbl : bs < s.heap.size) (hl : lv_has ls 4 [(3, .int (nI (4 * n))), (2, .ref (mm 0)), (1, .ref (o 0)), (0, .ref bs)]) (hn : 4 * n + 4 ≤ L) (hL : L ≤ 2048) (HI : LInv n g g1 g2 im kp kI) (hP : va_P E.1 vwCl (lwd E a o b1 b2 mm g g1 g2 im kp kI) H) (hD : va_D (fun q : Nat => s.heap.size ≤ q) (lwd E a o b1 b2 mm g g1 g2 im kp kI)) (hS : va_S (fun q : Nat => s.heap.size ≤ q) s.heap H locs) (kk : LK p l e s m below meth c E a o b1 b2 mm bs n ls Q) : W p l e room_1 s m #[Value.ref bs] below meth c H locs 120 1975 Q (F0 m 112 ls []) := by
  have hn5 : n ≤ 511 := by omega
  refine lv_aload_n F.1 F.2.1 dL_law_112 rfl (lv_at hl 2 rfl) ?_
  refine ld 1 F hX hbl hl hL hS (by omega) rfl dL_law_113 dL_law_114 dL_law_115 dL_law_116 dL_law_117 ?_
  refine ld 2 F hX hbl hl hL hS (by omega) rfl dL_law_118 dL_law_119 dL_law_120 dL_law_121 dL_law_122 ?_
  refine ci_Vs F hE hT (k_X2_rule t0 t1 t2 l E a o (b1 0) (b2 0) g kI (hs E b1 g1 ++ hs E b2 g2) (xs (4 * n + 1)) (xs (4 * n + 2))) (cwV 2 F.2.2.2.2 gL_law_X2_rule rfl rfl rfl (by decide +kernel) ⟨(Nat.le_of_ble_eq_true rfl), (Nat.le_of_ble_eq_true rfl)⟩) Fr.pre (38 + 0) 2 (ap_h rfl) rfl rfl hP hD hS (fun _ h => h) rfl hl.1 rfl (Nat.le_of_ble_eq_true rfl) dL_law_123 ⟨(Nat.le_of_ble_eq_true rfl), (Nat.le_of_ble_eq_true rfl)⟩ (fun H locs hP hD hS => ?_)
  refine lv_aload_n F.1 F.2.1 dL_law_126 rfl (lv_at hl 1 rfl) ?_
  refine ld 1 F hX hbl hl hL hS (by omega) rfl dL_law_127 dL_law_128 dL_law_129 dL_law_130 dL_law_131 ?_
  refine ld 2 F hX hbl hl hL hS (by omega) rfl dL_law_132 dL_law_133 dL_law_134 dL_law_135 dL_law_136 ?_
  refine ci_V F hE (k_X3_rule l E mm g im kp (xs (4 * n + 1)) (xs (4 * n + 2))) (cwV 2 F.2.2.2.2 gL_law_X3_rule rfl rfl rfl (by decide +kernel) ⟨(Nat.le_of_ble_eq_true rfl), (Nat.le_of_ble_eq_true rfl)⟩) Fr.suf 0 3 rfl rfl rfl hP hD hS (fun _ h => h) rfl hl.1 rfl (Nat.le_of_ble_eq_true rfl) dL_law_137 ⟨(Nat.le_of_ble_eq_true rfl), (Nat.le_of_ble_eq_true rfl)⟩ (fun H locs hP hD hS => ?_)
  have eq := ru_eq (g := g) (x := (xs (4 * n + 1))) (n := (xs (4 * n + 2)))
  refine lv_icmp_eq (tgt := 590) F.1 F.2.1 dL_law_140 (by decide) (fun _ => ?_) (fun q => absurd eq.2 q)
  rw [eq.1] at hP hD
  exact kk (s_X3_rule g (xs (4 * n + 1)) (xs (4 * n + 2))) g1 g2 im kp kI H locs (li_go (j_mono (by omega) (by omega) (j_rule HI.1)) HI) hP hD hS
set_option maxHeartbeats 4000000 in
set_option maxRecDepth 100000 in
theorem law_image (F : CallFix p m c code 4 s #[Value.ref bs] wsL_law RL) (hE : ev E s) (hT : ST t0 t1 t2 (fun q : Nat => s.heap.size ≤ q) s) (hX : va_X bs L xs s s.heap) (hbl : bs < s.heap.size) (hl : lv_has ls 4 [(3, .int (nI (4 * n))), (2, .ref (mm 0)), (1, .ref (o 0)), (0, .ref bs)]) (hn : 4 * n + 4 ≤ L) (hL : L ≤ 2048) (HI : LInv n g g1 g2 im kp kI) (hP : va_P E.1 vwCl (lwd E a o b1 b2 mm g g1 g2 im kp kI) H) (hD : va_D (fun q : Nat => s.heap.size ≤ q) (lwd E a o b1 b2 mm g g1 g2 im kp kI)) (hS : va_S (fun q : Nat => s.heap.size ≤ q) s.heap H locs) (kk : LK p l e s m below meth c E a o b1 b2 mm bs n ls Q) : W p l e room_1 s m #[Value.ref bs] below meth c H locs 120 1975 Q (F0 m 544 ls []) := by
  have hn5 : n ≤ 511 := by omega
  have hcase : f_X3_in (xs (4 * n + 1)) 0 1 = 0 ∨ ((xs (4 * n + 1)) = 0) ∨ ((xs (4 * n + 1)) = 1) := by
    by_cases q : f_X3_in (xs (4 * n + 1)) 0 1 = 0
    · exact Or.inl q
    · refine Or.inr ?_
      by_cases z : (xs (4 * n + 1)) = 0 ∨ (xs (4 * n + 1)) = 1
      · exact z
      · exact absurd ((in_01 _).mpr z) q
  rcases hcase with q0 | q0 | q0
  · refine lv_aload_n F.1 F.2.1 dL_law_544 rfl (lv_at hl 2 rfl) ?_
    refine ld 1 F hX hbl hl hL hS (by omega) rfl dL_law_545 dL_law_546 dL_law_547 dL_law_548 dL_law_549 ?_
    refine ci_V F hE (k_X2_image_no l E a o b1 b2 g g1 g2 kI (xs (4 * n + 1)) (by rw [im_in]; exact q0)) (cwV 1 F.2.2.2.2 gL_law_X2_image rfl rfl rfl (by decide +kernel) ⟨(Nat.le_of_ble_eq_true rfl), (Nat.le_of_ble_eq_true rfl)⟩) Fr.pre (38 + 0) 2 (ap_h rfl) rfl rfl hP hD hS (fun _ h => h) rfl hl.1 rfl (Nat.le_of_ble_eq_true rfl) dL_law_550 ⟨(Nat.le_of_ble_eq_true rfl), (Nat.le_of_ble_eq_true rfl)⟩ (fun H locs hP hD hS => ?_)
    refine lv_aload_n F.1 F.2.1 dL_law_553 rfl (lv_at hl 1 rfl) ?_
    refine ld 1 F hX hbl hl hL hS (by omega) rfl dL_law_554 dL_law_555 dL_law_556 dL_law_557 dL_law_558 ?_
    refine ci_V F hE (k_X3_image l E mm g im kp (xs (4 * n + 1))) (cwV 1 F.2.2.2.2 gL_law_X3_image rfl rfl rfl (by decide +kernel) ⟨(Nat.le_of_ble_eq_true rfl), (Nat.le_of_ble_eq_true rfl)⟩) Fr.suf 0 3 rfl rfl rfl hP hD hS (fun _ h => h) rfl hl.1 rfl (Nat.le_of_ble_eq_true rfl) dL_law_559 ⟨(Nat.le_of_ble_eq_true rfl), (Nat.le_of_ble_eq_true rfl)⟩ (fun H locs hP hD hS => ?_)
    have e3 : f_X3_image g (xs (4 * n + 1)) im kp = -2 := if_pos q0
    have e4 : i_X3_image g (xs (4 * n + 1)) im kp = im := if_pos q0
    have e5 : j_X3_image g (xs (4 * n + 1)) im kp = kp := if_pos q0
    rw [e4, e5] at hP hD
    refine lv_icmp_eq (tgt := 590) F.1 F.2.1 dL_law_562 (by decide) (fun _ => ?_) (fun q => absurd e3.symm q)
    exact kk g g1 g2 im kp kI H locs (li_same HI) hP hD hS
  · refine lv_aload_n F.1 F.2.1 dL_law_544 rfl (lv_at hl 2 rfl) ?_
    refine ld 1 F hX hbl hl hL hS (by omega) rfl dL_law_545 dL_law_546 dL_law_547 dL_law_548 dL_law_549 ?_
    refine tpe q0 ?_
    refine ci_V F hE (k_X2_image_0 l E a o b1 b2 g g1 g2 kI HI.1.1.2.2.1) (cwV 1 F.2.2.2.2 gL_law_X2_image rfl rfl rfl (by decide +kernel) ⟨(Nat.le_of_ble_eq_true rfl), (Nat.le_of_ble_eq_true rfl)⟩) Fr.pre (38 + 0) 2 (ap_h rfl) rfl rfl hP hD hS (fun _ h => h) rfl hl.1 rfl (Nat.le_of_ble_eq_true rfl) dL_law_550 ⟨(Nat.le_of_ble_eq_true rfl), (Nat.le_of_ble_eq_true rfl)⟩ (fun H locs hP hD hS => ?_)
    refine lv_aload_n F.1 F.2.1 dL_law_553 rfl (lv_at hl 1 rfl) ?_
    refine ld 1 F hX hbl hl hL hS (by omega) rfl dL_law_554 dL_law_555 dL_law_556 dL_law_557 dL_law_558 ?_
    refine tpe q0 ?_
    refine ci_V F hE (k_X3_image l E mm g im kp 0) (cwV 1 F.2.2.2.2 gL_law_X3_image rfl rfl rfl (by decide +kernel) ⟨(Nat.le_of_ble_eq_true rfl), (Nat.le_of_ble_eq_true rfl)⟩) Fr.suf 0 3 rfl rfl rfl hP hD hS (fun _ h => h) rfl hl.1 rfl (Nat.le_of_ble_eq_true rfl) dL_law_559 ⟨(Nat.le_of_ble_eq_true rfl), (Nat.le_of_ble_eq_true rfl)⟩ (fun H locs hP hD hS => ?_)
    have e3 : f_X3_image g 0 im kp = 1 := rfl
    refine lv_icmp_eq (tgt := 590) F.1 F.2.1 dL_law_562 (by decide) (fun _ => ?_) (fun q => absurd e3.symm q)
    exact kk g g g2 (i_X3_image g 0 im kp) (j_X3_image g 0 im kp) _ H locs (li_im0 HI) hP hD hS
  · refine lv_aload_n F.1 F.2.1 dL_law_544 rfl (lv_at hl 2 rfl) ?_
    refine ld 1 F hX hbl hl hL hS (by omega) rfl dL_law_545 dL_law_546 dL_law_547 dL_law_548 dL_law_549 ?_
    refine tpe q0 ?_
    refine ci_V F hE (k_X2_image_1 l E a o b1 b2 g g1 g2 kI HI.1.1.2.2.1) (cwV 1 F.2.2.2.2 gL_law_X2_image rfl rfl rfl (by decide +kernel) ⟨(Nat.le_of_ble_eq_true rfl), (Nat.le_of_ble_eq_true rfl)⟩) Fr.pre (38 + 0) 2 (ap_h rfl) rfl rfl hP hD hS (fun _ h => h) rfl hl.1 rfl (Nat.le_of_ble_eq_true rfl) dL_law_550 ⟨(Nat.le_of_ble_eq_true rfl), (Nat.le_of_ble_eq_true rfl)⟩ (fun H locs hP hD hS => ?_)
    refine lv_aload_n F.1 F.2.1 dL_law_553 rfl (lv_at hl 1 rfl) ?_
    refine ld 1 F hX hbl hl hL hS (by omega) rfl dL_law_554 dL_law_555 dL_law_556 dL_law_557 dL_law_558 ?_
    refine tpe q0 ?_
    refine ci_V F hE (k_X3_image l E mm g im kp 1) (cwV 1 F.2.2.2.2 gL_law_X3_image rfl rfl rfl (by decide +kernel) ⟨(Nat.le_of_ble_eq_true rfl), (Nat.le_of_ble_eq_true rfl)⟩) Fr.suf 0 3 rfl rfl rfl hP hD hS (fun _ h => h) rfl hl.1 rfl (Nat.le_of_ble_eq_true rfl) dL_law_559 ⟨(Nat.le_of_ble_eq_true rfl), (Nat.le_of_ble_eq_true rfl)⟩ (fun H locs hP hD hS => ?_)
    have e3 : f_X3_image g 1 im kp = 1 := rfl
    refine lv_icmp_eq (tgt := 590) F.1 F.2.1 dL_law_562 (by decide) (fun _ => ?_) (fun q => absurd e3.symm q)
    exact kk g g1 g (i_X3_image g 1 im kp) (j_X3_image g 1 im kp) _ H locs (li_im1 HI) hP hD hS
set_option maxHeartbeats 4000000 in
set_option maxRecDepth 100000 in
theorem law_restore (F : CallFix p m c code 4 s #[Value.ref bs] wsL_law RL) (hE : ev E s) (hT : ST t0 t1 t2 (fun q : Nat => s.heap.size ≤ q) s) (hX : va_X bs L xs s s.heap) (hbl : bs < s.heap.size) (hl : lv_has ls 4 [(3, .int (nI (4 * n))), (2, .ref (mm 0)), (1, .ref (o 0)), (0, .ref bs)]) (hn : 4 * n + 4 ≤ L) (hL : L ≤ 2048) (HI : LInv n g g1 g2 im kp kI) (hP : va_P E.1 vwCl (lwd E a o b1 b2 mm g g1 g2 im kp kI) H) (hD : va_D (fun q : Nat => s.heap.size ≤ q) (lwd E a o b1 b2 mm g g1 g2 im kp kI)) (hS : va_S (fun q : Nat => s.heap.size ≤ q) s.heap H locs) (kk : LK p l e s m below meth c E a o b1 b2 mm bs n ls Q) : W p l e room_1 s m #[Value.ref bs] below meth c H locs 120 1975 Q (F0 m 567 ls []) := by
  have hn5 : n ≤ 511 := by omega
  have hcase : f_X3_in (xs (4 * n + 1)) 0 1 = 0 ∨ ((xs (4 * n + 1)) = 0) ∨ ((xs (4 * n + 1)) = 1) := by
    by_cases q : f_X3_in (xs (4 * n + 1)) 0 1 = 0
    · exact Or.inl q
    · refine Or.inr ?_
      by_cases z : (xs (4 * n + 1)) = 0 ∨ (xs (4 * n + 1)) = 1
      · exact z
      · exact absurd ((in_01 _).mpr z) q
  rcases hcase with q0 | q0 | q0
  · refine lv_aload_n F.1 F.2.1 dL_law_567 rfl (lv_at hl 2 rfl) ?_
    refine ld 1 F hX hbl hl hL hS (by omega) rfl dL_law_568 dL_law_569 dL_law_570 dL_law_571 dL_law_572 ?_
    refine ci_V F hE (k_X2_restore_no l E a o b1 b2 g g1 g2 kI (xs (4 * n + 1)) (by rw [im_in]; exact q0)) (cwV 1 F.2.2.2.2 gL_law_X2_restore rfl rfl rfl (by decide +kernel) ⟨(Nat.le_of_ble_eq_true rfl), (Nat.le_of_ble_eq_true rfl)⟩) Fr.pre (38 + 0) 2 (ap_h rfl) rfl rfl hP hD hS (fun _ h => h) rfl hl.1 rfl (Nat.le_of_ble_eq_true rfl) dL_law_573 ⟨(Nat.le_of_ble_eq_true rfl), (Nat.le_of_ble_eq_true rfl)⟩ (fun H locs hP hD hS => ?_)
    refine lv_aload_n F.1 F.2.1 dL_law_576 rfl (lv_at hl 1 rfl) ?_
    refine ld 1 F hX hbl hl hL hS (by omega) rfl dL_law_577 dL_law_578 dL_law_579 dL_law_580 dL_law_581 ?_
    refine ci_V F hE (k_X3_restore l E mm g im kp (xs (4 * n + 1))) (cwV 1 F.2.2.2.2 gL_law_X3_restore rfl rfl rfl (by decide +kernel) ⟨(Nat.le_of_ble_eq_true rfl), (Nat.le_of_ble_eq_true rfl)⟩) Fr.suf 0 3 rfl rfl rfl hP hD hS (fun _ h => h) rfl hl.1 rfl (Nat.le_of_ble_eq_true rfl) dL_law_582 ⟨(Nat.le_of_ble_eq_true rfl), (Nat.le_of_ble_eq_true rfl)⟩ (fun H locs hP hD hS => ?_)
    have e3 : f_X3_restore g (xs (4 * n + 1)) im kp = -2 := if_pos q0
    have e4 : s_X3_restore g (xs (4 * n + 1)) im kp = g := if_pos q0
    rw [e4] at hP hD
    refine lv_icmp_eq (tgt := 590) F.1 F.2.1 dL_law_585 (by decide) (fun _ => ?_) (fun q => absurd e3.symm q)
    exact kk g g1 g2 im kp kI H locs (li_same HI) hP hD hS
  · have ks := ki_0 HI.2.1 HI.2.2.1 HI.2.2.2.1
    by_cases q1 : kp 0 = 0
    · refine lv_aload_n F.1 F.2.1 dL_law_567 rfl (lv_at hl 2 rfl) ?_
      refine ld 1 F hX hbl hl hL hS (by omega) rfl dL_law_568 dL_law_569 dL_law_570 dL_law_571 dL_law_572 ?_
      refine tpe q0 ?_
      refine ci_V F hE (k_X2_restore_un l E a o b1 b2 g g1 g2 kI 0 (by decide) (ks.2.2.1.mpr q1)) (cwV 1 F.2.2.2.2 gL_law_X2_restore rfl rfl rfl (by decide +kernel) ⟨(Nat.le_of_ble_eq_true rfl), (Nat.le_of_ble_eq_true rfl)⟩) Fr.pre (38 + 0) 2 (ap_h rfl) rfl rfl hP hD hS (fun _ h => h) rfl hl.1 rfl (Nat.le_of_ble_eq_true rfl) dL_law_573 ⟨(Nat.le_of_ble_eq_true rfl), (Nat.le_of_ble_eq_true rfl)⟩ (fun H locs hP hD hS => ?_)
      refine lv_aload_n F.1 F.2.1 dL_law_576 rfl (lv_at hl 1 rfl) ?_
      refine ld 1 F hX hbl hl hL hS (by omega) rfl dL_law_577 dL_law_578 dL_law_579 dL_law_580 dL_law_581 ?_
      refine tpe q0 ?_
      refine ci_V F hE (k_X3_restore l E mm g im kp 0) (cwV 1 F.2.2.2.2 gL_law_X3_restore rfl rfl rfl (by decide +kernel) ⟨(Nat.le_of_ble_eq_true rfl), (Nat.le_of_ble_eq_true rfl)⟩) Fr.suf 0 3 rfl rfl rfl hP hD hS (fun _ h => h) rfl hl.1 rfl (Nat.le_of_ble_eq_true rfl) dL_law_582 ⟨(Nat.le_of_ble_eq_true rfl), (Nat.le_of_ble_eq_true rfl)⟩ (fun H locs hP hD hS => ?_)
      have e3 : f_X3_restore g 0 im kp = -3 := if_pos q1
      have e4 : s_X3_restore g 0 im kp = g := if_pos q1
      rw [e4] at hP hD
      refine lv_icmp_eq (tgt := 590) F.1 F.2.1 dL_law_585 (by decide) (fun _ => ?_) (fun q => absurd e3.symm q)
      exact kk g g1 g2 im kp kI H locs (li_same HI) hP hD hS
    · obtain ⟨r1, r2⟩ := li_rs0 q1 HI
      refine lv_aload_n F.1 F.2.1 dL_law_567 rfl (lv_at hl 2 rfl) ?_
      refine ld 1 F hX hbl hl hL hS (by omega) rfl dL_law_568 dL_law_569 dL_law_570 dL_law_571 dL_law_572 ?_
      refine tpe q0 ?_
      refine ci_V F hE (k_X2_restore_0 l E a o b1 b2 g g1 g2 kI (fun z => q1 (ks.2.2.1.mp z)) (HI.2.2.2.2.1 q1).2.1.2.2.1) (cwV 1 F.2.2.2.2 gL_law_X2_restore rfl rfl rfl (by decide +kernel) ⟨(Nat.le_of_ble_eq_true rfl), (Nat.le_of_ble_eq_true rfl)⟩) Fr.pre (38 + 0) 2 (ap_h rfl) rfl rfl hP hD hS (fun _ h => h) rfl hl.1 rfl (Nat.le_of_ble_eq_true rfl) dL_law_573 ⟨(Nat.le_of_ble_eq_true rfl), (Nat.le_of_ble_eq_true rfl)⟩ (fun H locs hP hD hS => ?_)
      refine lv_aload_n F.1 F.2.1 dL_law_576 rfl (lv_at hl 1 rfl) ?_
      refine ld 1 F hX hbl hl hL hS (by omega) rfl dL_law_577 dL_law_578 dL_law_579 dL_law_580 dL_law_581 ?_
      refine tpe q0 ?_
      refine ci_V F hE (k_X3_restore l E mm g im kp 0) (cwV 1 F.2.2.2.2 gL_law_X3_restore rfl rfl rfl (by decide +kernel) ⟨(Nat.le_of_ble_eq_true rfl), (Nat.le_of_ble_eq_true rfl)⟩) Fr.suf 0 3 rfl rfl rfl hP hD hS (fun _ h => h) rfl hl.1 rfl (Nat.le_of_ble_eq_true rfl) dL_law_582 ⟨(Nat.le_of_ble_eq_true rfl), (Nat.le_of_ble_eq_true rfl)⟩ (fun H locs hP hD hS => ?_)
      have e3 : f_X3_restore g 0 im kp = 1 := if_neg q1
      have ep : phw E a o b1 b2 g1 g1 g2 kI = phw E a o b1 b2 (s_X3_restore g 0 im kp) g1 g2 kI := congrArg (fun z => z ++ (phc E a o (b1 0) (b2 0) kI ++ (hs E b1 g1 ++ hs E b2 g2))) (hs_same r2)
      rw [ep] at hP hD
      refine lv_icmp_eq (tgt := 590) F.1 F.2.1 dL_law_585 (by decide) (fun _ => ?_) (fun q => absurd e3.symm q)
      exact kk (s_X3_restore g 0 im kp) g1 g2 im kp kI H locs r1 hP hD hS
  · have ks := ki_0 HI.2.1 HI.2.2.1 HI.2.2.2.1
    by_cases q1 : kp 1 = 0
    · refine lv_aload_n F.1 F.2.1 dL_law_567 rfl (lv_at hl 2 rfl) ?_
      refine ld 1 F hX hbl hl hL hS (by omega) rfl dL_law_568 dL_law_569 dL_law_570 dL_law_571 dL_law_572 ?_
      refine tpe q0 ?_
      refine ci_V F hE (k_X2_restore_un l E a o b1 b2 g g1 g2 kI 1 (by decide) (ks.2.2.2.mpr q1)) (cwV 1 F.2.2.2.2 gL_law_X2_restore rfl rfl rfl (by decide +kernel) ⟨(Nat.le_of_ble_eq_true rfl), (Nat.le_of_ble_eq_true rfl)⟩) Fr.pre (38 + 0) 2 (ap_h rfl) rfl rfl hP hD hS (fun _ h => h) rfl hl.1 rfl (Nat.le_of_ble_eq_true rfl) dL_law_573 ⟨(Nat.le_of_ble_eq_true rfl), (Nat.le_of_ble_eq_true rfl)⟩ (fun H locs hP hD hS => ?_)
      refine lv_aload_n F.1 F.2.1 dL_law_576 rfl (lv_at hl 1 rfl) ?_
      refine ld 1 F hX hbl hl hL hS (by omega) rfl dL_law_577 dL_law_578 dL_law_579 dL_law_580 dL_law_581 ?_
      refine tpe q0 ?_
      refine ci_V F hE (k_X3_restore l E mm g im kp 1) (cwV 1 F.2.2.2.2 gL_law_X3_restore rfl rfl rfl (by decide +kernel) ⟨(Nat.le_of_ble_eq_true rfl), (Nat.le_of_ble_eq_true rfl)⟩) Fr.suf 0 3 rfl rfl rfl hP hD hS (fun _ h => h) rfl hl.1 rfl (Nat.le_of_ble_eq_true rfl) dL_law_582 ⟨(Nat.le_of_ble_eq_true rfl), (Nat.le_of_ble_eq_true rfl)⟩ (fun H locs hP hD hS => ?_)
      have e3 : f_X3_restore g 1 im kp = -3 := if_pos q1
      have e4 : s_X3_restore g 1 im kp = g := if_pos q1
      rw [e4] at hP hD
      refine lv_icmp_eq (tgt := 590) F.1 F.2.1 dL_law_585 (by decide) (fun _ => ?_) (fun q => absurd e3.symm q)
      exact kk g g1 g2 im kp kI H locs (li_same HI) hP hD hS
    · obtain ⟨r1, r2⟩ := li_rs1 q1 HI
      refine lv_aload_n F.1 F.2.1 dL_law_567 rfl (lv_at hl 2 rfl) ?_
      refine ld 1 F hX hbl hl hL hS (by omega) rfl dL_law_568 dL_law_569 dL_law_570 dL_law_571 dL_law_572 ?_
      refine tpe q0 ?_
      refine ci_V F hE (k_X2_restore_1 l E a o b1 b2 g g1 g2 kI (fun z => q1 (ks.2.2.2.mp z)) (HI.2.2.2.2.2 q1).2.1.2.2.1) (cwV 1 F.2.2.2.2 gL_law_X2_restore rfl rfl rfl (by decide +kernel) ⟨(Nat.le_of_ble_eq_true rfl), (Nat.le_of_ble_eq_true rfl)⟩) Fr.pre (38 + 0) 2 (ap_h rfl) rfl rfl hP hD hS (fun _ h => h) rfl hl.1 rfl (Nat.le_of_ble_eq_true rfl) dL_law_573 ⟨(Nat.le_of_ble_eq_true rfl), (Nat.le_of_ble_eq_true rfl)⟩ (fun H locs hP hD hS => ?_)
      refine lv_aload_n F.1 F.2.1 dL_law_576 rfl (lv_at hl 1 rfl) ?_
      refine ld 1 F hX hbl hl hL hS (by omega) rfl dL_law_577 dL_law_578 dL_law_579 dL_law_580 dL_law_581 ?_
      refine tpe q0 ?_
      refine ci_V F hE (k_X3_restore l E mm g im kp 1) (cwV 1 F.2.2.2.2 gL_law_X3_restore rfl rfl rfl (by decide +kernel) ⟨(Nat.le_of_ble_eq_true rfl), (Nat.le_of_ble_eq_true rfl)⟩) Fr.suf 0 3 rfl rfl rfl hP hD hS (fun _ h => h) rfl hl.1 rfl (Nat.le_of_ble_eq_true rfl) dL_law_582 ⟨(Nat.le_of_ble_eq_true rfl), (Nat.le_of_ble_eq_true rfl)⟩ (fun H locs hP hD hS => ?_)
      have e3 : f_X3_restore g 1 im kp = 1 := if_neg q1
      have ep : phw E a o b1 b2 g2 g1 g2 kI = phw E a o b1 b2 (s_X3_restore g 1 im kp) g1 g2 kI := congrArg (fun z => z ++ (phc E a o (b1 0) (b2 0) kI ++ (hs E b1 g1 ++ hs E b2 g2))) (hs_same r2)
      rw [ep] at hP hD
      refine lv_icmp_eq (tgt := 590) F.1 F.2.1 dL_law_585 (by decide) (fun _ => ?_) (fun q => absurd e3.symm q)
      exact kk (s_X3_restore g 1 im kp) g1 g2 im kp kI H locs r1 hP hD hS
end LAWB
