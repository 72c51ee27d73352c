theorem lj_more {n : Nat} {σ : ra_St} (h : lj n σ) : lj (n + 1) σ := by
  obtain ⟨a, b, h1, h2, h3, h4⟩ := h
  exact ⟨a, b, h1, h2, h3.more (Nat.le_succ n), h4⟩
theorem lw_34 {j : Nat} (h : j < 34) : j = 0 ∨ j = 1 ∨ j = 2 ∨ j = 3 ∨ j = 4 ∨ j = 5 ∨ j = 6 ∨ j = 7 ∨ j = 8 ∨ j = 9 ∨ j = 10 ∨ j = 11 ∨ j = 12 ∨ j = 13 ∨ j = 14 ∨ j = 15 ∨ j = 16 ∨ j = 17 ∨ j = 18 ∨ j = 19 ∨ j = 20 ∨ j = 21 ∨ j = 22 ∨ j = 23 ∨ j = 24 ∨ j = 25 ∨ j = 26 ∨ j = 27 ∨ j = 28 ∨ j = 29 ∨ j = 30 ∨ j = 31 ∨ j = 32 ∨ j = 33 := by omega
section LAW
variable {X : ra_X} {p : Program} {l : Launch} {e : Env} {s : State} {m : MethodId} {below : List Frame} {meth : Method} {c : Code} {Q : State → Prop} {b L : Nat} {xs : Nat → Int32} {H : Heap} {locs : List Loc} {ls : Array Slot} {cells slots : Nat} {rest : List Value}
def lw_C (X : ra_X) (p : Program) (s : State) (m : MethodId) (c : Code) (b L : Nat) (xs : Nat → Int32) : Prop := ra_Fx X p room_1 s m #[Value.ref b] c code 4 "RoofAcrossLaw" ∧ va_X b L xs s s.heap ∧ b < s.heap.size ∧ ¬ ra_A X b ∧ L ≤ 3072
abbrev lw_lv (X : ra_X) (b N : Nat) : List (Nat × Value) := [(3, .int (nI N)), (2, .ref (X.1 82)), (1, .ref (X.1 0)), (0, .ref b)]
theorem lb_arg (C : lw_C X p s m c b L xs) {N k pc : Nat} {z : Int} (hz : Int32.ofInt z = nI k) (hk : N + k < L) (hS : va_S (ra_A X) s.heap H locs) (hl : lv_has ls 4 (lw_lv X b N)) (d0 : decode code pc = .ok (.aload_n 0, 1)) (d1 : decode code (pc + 1) = .ok (.iload_n 3, 1)) (d2 : decode code (pc + 2) = .ok (.iconst z, 1)) (d3 : decode code (pc + 3) = .ok (.iadd, 1)) (d4 : decode code (pc + 4) = .ok (.iaload, 1))
    (kk : W p l e room_1 s m #[Value.ref b] below meth c H locs cells slots Q (F0 m (pc + 5) ls (.int (xs (N + k)) :: rest))) : W p l e room_1 s m #[Value.ref b] below meth c H locs cells slots Q (F0 m pc ls rest) := by
  have h3 := C.2.2.2.2
  refine lv_aload_n C.1.1 C.1.2.1 d0 rfl (lv_at hl 3 rfl) ?_
  refine lv_iload_n C.1.1 C.1.2.1 d1 rfl (lv_at hl 0 rfl) ?_
  refine lv_iconst C.1.1 C.1.2.1 d2 hz ?_
  refine lv_iadd C.1.1 C.1.2.1 d3 ?_
  rw [nI_add]
  refine va_sld C.1.1 C.1.2.1 C.2.1 C.2.2.1 C.2.2.2.1 hS (vi hk (by omega)) d4 ?_
  rw [n_cl (by omega)]
  exact kk
/-- a place of the law from which its next call comes to the loop's end -/
def lw_case (X : ra_X) (p : Program) {l : Launch} {e : Env} (s : State) (m : MethodId) {below : List Frame} {meth : Method} (c : Code) {Q : State → Prop} (b L : Nat) (xs : Nat → Int32) {cells slots : Nat} (pc : Nat) : Prop :=
  lw_C X p s m c b L xs → ∀ (N n : Nat) (σ : ra_St) (H : Heap) (locs : List Loc) (ls : Array Slot), N + 6 ≤ L → lj n σ → n < 1000000000 → va_P X.2.1 ra_cl (ra_wl X σ) H → va_S (ra_A X) s.heap H locs → lv_has ls 4 (lw_lv X b N) → (cells ≤ room_1.cells ∧ slots ≤ room_1.slots) → (∀ (H1 : Heap) (locs1 : List Loc) (σ1 : ra_St), lj (n + 1) σ1 → va_P X.2.1 ra_cl (ra_wl X σ1) H1 → va_S (ra_A X) s.heap H1 locs1 → W p l e room_1 s m #[Value.ref b] below meth c H1 locs1 cells slots Q (F0 m 1217 ls [])) → W p l e room_1 s m #[Value.ref b] below meth c H locs cells slots Q (F0 m pc ls [])
theorem ca_type : lw_case (l := l) (e := e) (meth := meth) (below := below) (Q := Q) (cells := cells) (slots := slots) X p s m c b L xs 184 := by
  intro C N n σ H locs ls hN hj hn hP hS hl hcs K
  obtain ⟨sp1, hM1, h1⟩ := lp_type (l := l) (X := X) (x0 := xs (N + 1)) (x1 := xs (N + 2)) n σ hj hn
  refine lv_aload_n C.1.1 C.1.2.1 dl_184 rfl (lv_at hl 2 rfl) ?_
  refine lb_arg C (N := N) (k := 1) rfl (by omega) hS hl dl_185 dl_186 dl_187 dl_188 dl_189 ?_
  refine lb_arg C (N := N) (k := 2) rfl (by omega) hS hl dl_190 dl_191 dl_192 dl_193 dl_194 ?_
  refine lb_call C.1 (vs := [.int (xs (N + 1)), .int (xs (N + 2))]) (rest := []) (a := 0) (ci := 0) hM1 (co_R_type (Nat.le_of_ble_eq_true rfl) (Nat.le_of_ble_eq_true rfl)) rfl (by show _ = some 2; decide +kernel) rfl rfl (by decide) ml_L_13 im_R_type se_R_type dl_195 h1 rfl hP hS hl rfl (Nat.le_of_ble_eq_true rfl) hcs (fun r σ H locs hz hP hS => ?_)
  obtain ⟨v, rfl, sp2, hM2, h2⟩ := hz
  refine lv_aload_n C.1.1 C.1.2.1 dl_198 rfl (lv_at hl 1 rfl) ?_
  refine lb_arg C (N := N) (k := 1) rfl (by omega) hS hl dl_199 dl_200 dl_201 dl_202 dl_203 ?_
  refine lb_arg C (N := N) (k := 2) rfl (by omega) hS hl dl_204 dl_205 dl_206 dl_207 dl_208 ?_
  refine lb_call C.1 (vs := [.int (xs (N + 1)), .int (xs (N + 2))]) (rest := [.int v]) (a := 82) (ci := 11) hM2 (co_N_type (Nat.le_of_ble_eq_true rfl) (Nat.le_of_ble_eq_true rfl)) rfl (by show _ = some 2; decide +kernel) rfl rfl (by decide) ml_L_17 im_N_type se_N_type dl_209 h2 rfl hP hS hl rfl (Nat.le_of_ble_eq_true rfl) hcs (fun r σ H locs hz hP hS => ?_)
  obtain ⟨rfl, hj⟩ := hz
  exact lv_icmp_eq (tgt := 1217) C.1.1 C.1.2.1 dl_212 (by decide) (fun _ => K _ _ _ hj hP hS) (fun h => absurd rfl h)
theorem ca_wipe : lw_case (l := l) (e := e) (meth := meth) (below := below) (Q := Q) (cells := cells) (slots := slots) X p s m c b L xs 217 := by
  intro C N n σ H locs ls hN hj hn hP hS hl hcs K
  obtain ⟨sp1, hM1, h1⟩ := lp_wipe (l := l) (X := X) (x0 := xs (N + 1)) n σ hj hn
  refine lv_aload_n C.1.1 C.1.2.1 dl_217 rfl (lv_at hl 2 rfl) ?_
  refine lb_arg C (N := N) (k := 1) rfl (by omega) hS hl dl_218 dl_219 dl_220 dl_221 dl_222 ?_
  refine lb_call C.1 (vs := [.int (xs (N + 1))]) (rest := []) (a := 0) (ci := 0) hM1 (co_R_wipe (Nat.le_of_ble_eq_true rfl) (Nat.le_of_ble_eq_true rfl)) rfl (by show _ = some 1; decide +kernel) rfl rfl (by decide) ml_L_18 im_R_wipe se_R_wipe dl_223 h1 rfl hP hS hl rfl (Nat.le_of_ble_eq_true rfl) hcs (fun r σ H locs hz hP hS => ?_)
  obtain ⟨v, rfl, sp2, hM2, h2⟩ := hz
  refine lv_aload_n C.1.1 C.1.2.1 dl_226 rfl (lv_at hl 1 rfl) ?_
  refine lb_arg C (N := N) (k := 1) rfl (by omega) hS hl dl_227 dl_228 dl_229 dl_230 dl_231 ?_
  refine lb_call C.1 (vs := [.int (xs (N + 1))]) (rest := [.int v]) (a := 82) (ci := 11) hM2 (co_N_wipe (Nat.le_of_ble_eq_true rfl) (Nat.le_of_ble_eq_true rfl)) rfl (by show _ = some 1; decide +kernel) rfl rfl (by decide) ml_L_22 im_N_wipe se_N_wipe dl_232 h2 rfl hP hS hl rfl (Nat.le_of_ble_eq_true rfl) hcs (fun r σ H locs hz hP hS => ?_)
  obtain ⟨rfl, hj⟩ := hz
  exact lv_icmp_eq (tgt := 1217) C.1.1 C.1.2.1 dl_235 (by decide) (fun _ => K _ _ _ hj hP hS) (fun h => absurd rfl h)
theorem ca_fault : lw_case (l := l) (e := e) (meth := meth) (below := below) (Q := Q) (cells := cells) (slots := slots) X p s m c b L xs 240 := by
  intro C N n σ H locs ls hN hj hn hP hS hl hcs K
  obtain ⟨sp1, hM1, h1⟩ := lp_fault (l := l) (X := X) (x0 := xs (N + 1)) n σ hj hn
  refine lv_aload_n C.1.1 C.1.2.1 dl_240 rfl (lv_at hl 2 rfl) ?_
  refine lb_arg C (N := N) (k := 1) rfl (by omega) hS hl dl_241 dl_242 dl_243 dl_244 dl_245 ?_
  refine lb_call C.1 (vs := [.int (xs (N + 1))]) (rest := []) (a := 0) (ci := 0) hM1 (co_R_fault (Nat.le_of_ble_eq_true rfl) (Nat.le_of_ble_eq_true rfl)) rfl (by show _ = some 1; decide +kernel) rfl rfl (by decide) ml_L_23 im_R_fault se_R_fault dl_246 h1 rfl hP hS hl rfl (Nat.le_of_ble_eq_true rfl) hcs (fun r σ H locs hz hP hS => ?_)
  obtain ⟨v, rfl, sp2, hM2, h2⟩ := hz
  refine lv_aload_n C.1.1 C.1.2.1 dl_249 rfl (lv_at hl 1 rfl) ?_
  refine lb_arg C (N := N) (k := 1) rfl (by omega) hS hl dl_250 dl_251 dl_252 dl_253 dl_254 ?_
  refine lb_call C.1 (vs := [.int (xs (N + 1))]) (rest := [.int v]) (a := 82) (ci := 11) hM2 (co_N_fault (Nat.le_of_ble_eq_true rfl) (Nat.le_of_ble_eq_true rfl)) rfl (by show _ = some 1; decide +kernel) rfl rfl (by decide) ml_L_26 im_N_fault se_N_fault dl_255 h2 rfl hP hS hl rfl (Nat.le_of_ble_eq_true rfl) hcs (fun r σ H locs hz hP hS => ?_)
  obtain ⟨rfl, hj⟩ := hz
  exact lv_icmp_eq (tgt := 1217) C.1.1 C.1.2.1 dl_258 (by decide) (fun _ => K _ _ _ hj hP hS) (fun h => absurd rfl h)
theorem ca_house : lw_case (l := l) (e := e) (meth := meth) (below := below) (Q := Q) (cells := cells) (slots := slots) X p s m c b L xs 263 := by
  intro C N n σ H locs ls hN hj hn hP hS hl hcs K
  obtain ⟨sp1, hM1, h1⟩ := lp_house (l := l) (X := X) (x0 := xs (N + 1)) (x1 := xs (N + 2)) n σ hj hn
  refine lv_aload_n C.1.1 C.1.2.1 dl_263 rfl (lv_at hl 2 rfl) ?_
  refine lb_arg C (N := N) (k := 1) rfl (by omega) hS hl dl_264 dl_265 dl_266 dl_267 dl_268 ?_
  refine lb_arg C (N := N) (k := 2) rfl (by omega) hS hl dl_269 dl_270 dl_271 dl_272 dl_273 ?_
  refine lb_call C.1 (vs := [.int (xs (N + 1)), .int (xs (N + 2))]) (rest := []) (a := 0) (ci := 0) hM1 (co_R_house (Nat.le_of_ble_eq_true rfl) (Nat.le_of_ble_eq_true rfl)) rfl (by show _ = some 2; decide +kernel) rfl rfl (by decide) ml_L_27 im_R_house se_R_house dl_274 h1 rfl hP hS hl rfl (Nat.le_of_ble_eq_true rfl) hcs (fun r σ H locs hz hP hS => ?_)
  obtain ⟨v, rfl, sp2, hM2, h2⟩ := hz
  refine lv_aload_n C.1.1 C.1.2.1 dl_277 rfl (lv_at hl 1 rfl) ?_
  refine lb_arg C (N := N) (k := 1) rfl (by omega) hS hl dl_278 dl_279 dl_280 dl_281 dl_282 ?_
  refine lb_arg C (N := N) (k := 2) rfl (by omega) hS hl dl_283 dl_284 dl_285 dl_286 dl_287 ?_
  refine lb_call C.1 (vs := [.int (xs (N + 1)), .int (xs (N + 2))]) (rest := [.int v]) (a := 82) (ci := 11) hM2 (co_N_house (Nat.le_of_ble_eq_true rfl) (Nat.le_of_ble_eq_true rfl)) rfl (by show _ = some 2; decide +kernel) rfl rfl (by decide) ml_L_30 im_N_house se_N_house dl_288 h2 rfl hP hS hl rfl (Nat.le_of_ble_eq_true rfl) hcs (fun r σ H locs hz hP hS => ?_)
  obtain ⟨rfl, hj⟩ := hz
  exact lv_icmp_eq (tgt := 1217) C.1.1 C.1.2.1 dl_291 (by decide) (fun _ => K _ _ _ hj hP hS) (fun h => absurd rfl h)
theorem ca_rain : lw_case (l := l) (e := e) (meth := meth) (below := below) (Q := Q) (cells := cells) (slots := slots) X p s m c b L xs 296 := by
  intro C N n σ H locs ls hN hj hn hP hS hl hcs K
  obtain ⟨sp1, hM1, h1⟩ := lp_rain (l := l) (X := X) (x0 := xs (N + 1)) n σ hj hn
  refine lv_aload_n C.1.1 C.1.2.1 dl_296 rfl (lv_at hl 2 rfl) ?_
  refine lb_arg C (N := N) (k := 1) rfl (by omega) hS hl dl_297 dl_298 dl_299 dl_300 dl_301 ?_
  refine lb_call C.1 (vs := [.int (xs (N + 1))]) (rest := []) (a := 0) (ci := 0) hM1 (co_R_rain (Nat.le_of_ble_eq_true rfl) (Nat.le_of_ble_eq_true rfl)) rfl (by show _ = some 1; decide +kernel) rfl rfl (by decide) ml_L_31 im_R_rain se_R_rain dl_302 h1 rfl hP hS hl rfl (Nat.le_of_ble_eq_true rfl) hcs (fun r σ H locs hz hP hS => ?_)
  obtain ⟨v, rfl, sp2, hM2, h2⟩ := hz
  refine lv_aload_n C.1.1 C.1.2.1 dl_305 rfl (lv_at hl 1 rfl) ?_
  refine lb_arg C (N := N) (k := 1) rfl (by omega) hS hl dl_306 dl_307 dl_308 dl_309 dl_310 ?_
  refine lb_call C.1 (vs := [.int (xs (N + 1))]) (rest := [.int v]) (a := 82) (ci := 11) hM2 (co_N_rain (Nat.le_of_ble_eq_true rfl) (Nat.le_of_ble_eq_true rfl)) rfl (by show _ = some 1; decide +kernel) rfl rfl (by decide) ml_L_34 im_N_rain se_N_rain dl_311 h2 rfl hP hS hl rfl (Nat.le_of_ble_eq_true rfl) hcs (fun r σ H locs hz hP hS => ?_)
  obtain ⟨rfl, hj⟩ := hz
  exact lv_icmp_eq (tgt := 1217) C.1.1 C.1.2.1 dl_314 (by decide) (fun _ => K _ _ _ hj hP hS) (fun h => absurd rfl h)
theorem ca_read : lw_case (l := l) (e := e) (meth := meth) (below := below) (Q := Q) (cells := cells) (slots := slots) X p s m c b L xs 319 := by
  intro C N n σ H locs ls hN hj hn hP hS hl hcs K
  obtain ⟨sp1, hM1, h1⟩ := lp_read (l := l) (X := X) (x0 := xs (N + 1)) n σ hj hn
  refine lv_aload_n C.1.1 C.1.2.1 dl_319 rfl (lv_at hl 2 rfl) ?_
  refine lb_arg C (N := N) (k := 1) rfl (by omega) hS hl dl_320 dl_321 dl_322 dl_323 dl_324 ?_
  refine lb_call C.1 (vs := [.int (xs (N + 1))]) (rest := []) (a := 0) (ci := 0) hM1 (co_R_read (Nat.le_of_ble_eq_true rfl) (Nat.le_of_ble_eq_true rfl)) rfl (by show _ = some 1; decide +kernel) rfl rfl (by decide) ml_L_35 im_R_read se_R_read dl_325 h1 rfl hP hS hl rfl (Nat.le_of_ble_eq_true rfl) hcs (fun r σ H locs hz hP hS => ?_)
  obtain ⟨v, rfl, sp2, hM2, h2⟩ := hz
  refine lv_aload_n C.1.1 C.1.2.1 dl_328 rfl (lv_at hl 1 rfl) ?_
  refine lb_arg C (N := N) (k := 1) rfl (by omega) hS hl dl_329 dl_330 dl_331 dl_332 dl_333 ?_
  refine lb_call C.1 (vs := [.int (xs (N + 1))]) (rest := [.int v]) (a := 82) (ci := 11) hM2 (co_N_read (Nat.le_of_ble_eq_true rfl) (Nat.le_of_ble_eq_true rfl)) rfl (by show _ = some 1; decide +kernel) rfl rfl (by decide) ml_L_38 im_N_read se_N_read dl_334 h2 rfl hP hS hl rfl (Nat.le_of_ble_eq_true rfl) hcs (fun r σ H locs hz hP hS => ?_)
  obtain ⟨rfl, hj⟩ := hz
  exact lv_icmp_eq (tgt := 1217) C.1.1 C.1.2.1 dl_337 (by decide) (fun _ => K _ _ _ hj hP hS) (fun h => absurd rfl h)
theorem ca_undo : lw_case (l := l) (e := e) (meth := meth) (below := below) (Q := Q) (cells := cells) (slots := slots) X p s m c b L xs 342 := by
  intro C N n σ H locs ls hN hj hn hP hS hl hcs K
  obtain ⟨sp1, hM1, h1⟩ := lp_undo (l := l) (X := X) n σ hj hn
  refine lv_aload_n C.1.1 C.1.2.1 dl_342 rfl (lv_at hl 2 rfl) ?_
  refine lb_call C.1 (vs := []) (rest := []) (a := 0) (ci := 0) hM1 (co_R_undo (Nat.le_of_ble_eq_true rfl) (Nat.le_of_ble_eq_true rfl)) rfl (by show _ = some 0; decide +kernel) rfl rfl (by decide) ml_L_39 im_R_undo se_R_undo dl_343 h1 rfl hP hS hl rfl (Nat.le_of_ble_eq_true rfl) hcs (fun r σ H locs hz hP hS => ?_)
  obtain ⟨v, rfl, sp2, hM2, h2⟩ := hz
  refine lv_aload_n C.1.1 C.1.2.1 dl_346 rfl (lv_at hl 1 rfl) ?_
  refine lb_call C.1 (vs := []) (rest := [.int v]) (a := 82) (ci := 11) hM2 (co_N_undo (Nat.le_of_ble_eq_true rfl) (Nat.le_of_ble_eq_true rfl)) rfl (by show _ = some 0; decide +kernel) rfl rfl (by decide) ml_L_43 im_N_undo se_N_undo dl_347 h2 rfl hP hS hl rfl (Nat.le_of_ble_eq_true rfl) hcs (fun r σ H locs hz hP hS => ?_)
  obtain ⟨rfl, hj⟩ := hz
  exact lv_icmp_eq (tgt := 1217) C.1.1 C.1.2.1 dl_350 (by decide) (fun _ => K _ _ _ hj hP hS) (fun h => absurd rfl h)
theorem ca_set : lw_case (l := l) (e := e) (meth := meth) (below := below) (Q := Q) (cells := cells) (slots := slots) X p s m c b L xs 355 := by
  intro C N n σ H locs ls hN hj hn hP hS hl hcs K
  obtain ⟨sp1, hM1, h1⟩ := lp_set (l := l) (X := X) (x0 := xs (N + 1)) (x1 := xs (N + 2)) n σ hj hn
  refine lv_aload_n C.1.1 C.1.2.1 dl_355 rfl (lv_at hl 2 rfl) ?_
  refine lb_arg C (N := N) (k := 1) rfl (by omega) hS hl dl_356 dl_357 dl_358 dl_359 dl_360 ?_
  refine lb_arg C (N := N) (k := 2) rfl (by omega) hS hl dl_361 dl_362 dl_363 dl_364 dl_365 ?_
  refine lb_call C.1 (vs := [.int (xs (N + 1)), .int (xs (N + 2))]) (rest := []) (a := 0) (ci := 0) hM1 (co_R_set (Nat.le_of_ble_eq_true rfl) (Nat.le_of_ble_eq_true rfl)) rfl (by show _ = some 2; decide +kernel) rfl rfl (by decide) ml_L_44 im_R_set se_R_set dl_366 h1 rfl hP hS hl rfl (Nat.le_of_ble_eq_true rfl) hcs (fun r σ H locs hz hP hS => ?_)
  obtain ⟨v, rfl, sp2, hM2, h2⟩ := hz
  refine lv_aload_n C.1.1 C.1.2.1 dl_369 rfl (lv_at hl 1 rfl) ?_
  refine lb_arg C (N := N) (k := 1) rfl (by omega) hS hl dl_370 dl_371 dl_372 dl_373 dl_374 ?_
  refine lb_arg C (N := N) (k := 2) rfl (by omega) hS hl dl_375 dl_376 dl_377 dl_378 dl_379 ?_
  refine lb_call C.1 (vs := [.int (xs (N + 1)), .int (xs (N + 2))]) (rest := [.int v]) (a := 82) (ci := 11) hM2 (co_N_set (Nat.le_of_ble_eq_true rfl) (Nat.le_of_ble_eq_true rfl)) rfl (by show _ = some 2; decide +kernel) rfl rfl (by decide) ml_L_47 im_N_set se_N_set dl_380 h2 rfl hP hS hl rfl (Nat.le_of_ble_eq_true rfl) hcs (fun r σ H locs hz hP hS => ?_)
  obtain ⟨rfl, hj⟩ := hz
  exact lv_icmp_eq (tgt := 1217) C.1.1 C.1.2.1 dl_383 (by decide) (fun _ => K _ _ _ hj hP hS) (fun h => absurd rfl h)
theorem ca_tiles : lw_case (l := l) (e := e) (meth := meth) (below := below) (Q := Q) (cells := cells) (slots := slots) X p s m c b L xs 388 := by
  intro C N n σ H locs ls hN hj hn hP hS hl hcs K
  obtain ⟨sp1, hM1, h1⟩ := lp_tiles (l := l) (X := X) (x0 := xs (N + 1)) (x1 := xs (N + 2)) n σ hj hn
  refine lv_aload_n C.1.1 C.1.2.1 dl_388 rfl (lv_at hl 2 rfl) ?_
  refine lb_arg C (N := N) (k := 1) rfl (by omega) hS hl dl_389 dl_390 dl_391 dl_392 dl_393 ?_
  refine lb_arg C (N := N) (k := 2) rfl (by omega) hS hl dl_394 dl_395 dl_396 dl_397 dl_398 ?_
  refine lb_call C.1 (vs := [.int (xs (N + 1)), .int (xs (N + 2))]) (rest := []) (a := 0) (ci := 0) hM1 (co_R_tiles (Nat.le_of_ble_eq_true rfl) (Nat.le_of_ble_eq_true rfl)) rfl (by show _ = some 2; decide +kernel) rfl rfl (by decide) ml_L_48 im_R_tiles se_R_tiles dl_399 h1 rfl hP hS hl rfl (Nat.le_of_ble_eq_true rfl) hcs (fun r σ H locs hz hP hS => ?_)
  obtain ⟨v, rfl, sp2, hM2, h2⟩ := hz
  refine lv_aload_n C.1.1 C.1.2.1 dl_402 rfl (lv_at hl 1 rfl) ?_
  refine lb_arg C (N := N) (k := 1) rfl (by omega) hS hl dl_403 dl_404 dl_405 dl_406 dl_407 ?_
  refine lb_arg C (N := N) (k := 2) rfl (by omega) hS hl dl_408 dl_409 dl_410 dl_411 dl_412 ?_
  refine lb_call C.1 (vs := [.int (xs (N + 1)), .int (xs (N + 2))]) (rest := [.int v]) (a := 82) (ci := 11) hM2 (co_N_tiles (Nat.le_of_ble_eq_true rfl) (Nat.le_of_ble_eq_true rfl)) rfl (by show _ = some 2; decide +kernel) rfl rfl (by decide) ml_L_51 im_N_tiles se_N_tiles dl_413 h2 rfl hP hS hl rfl (Nat.le_of_ble_eq_true rfl) hcs (fun r σ H locs hz hP hS => ?_)
  obtain ⟨rfl, hj⟩ := hz
  exact lv_icmp_eq (tgt := 1217) C.1.1 C.1.2.1 dl_416 (by decide) (fun _ => K _ _ _ hj hP hS) (fun h => absurd rfl h)
theorem ca_purse : lw_case (l := l) (e := e) (meth := meth) (below := below) (Q := Q) (cells := cells) (slots := slots) X p s m c b L xs 421 := by
  intro C N n σ H locs ls hN hj hn hP hS hl hcs K
  obtain ⟨sp1, hM1, h1⟩ := lp_purse (l := l) (X := X) (x0 := xs (N + 1)) (x1 := xs (N + 2)) n σ hj hn
  refine lv_aload_n C.1.1 C.1.2.1 dl_421 rfl (lv_at hl 2 rfl) ?_
  refine lb_arg C (N := N) (k := 1) rfl (by omega) hS hl dl_422 dl_423 dl_424 dl_425 dl_426 ?_
  refine lb_arg C (N := N) (k := 2) rfl (by omega) hS hl dl_427 dl_428 dl_429 dl_430 dl_431 ?_
  refine lb_call C.1 (vs := [.int (xs (N + 1)), .int (xs (N + 2))]) (rest := []) (a := 0) (ci := 0) hM1 (co_R_purse (Nat.le_of_ble_eq_true rfl) (Nat.le_of_ble_eq_true rfl)) rfl (by show _ = some 2; decide +kernel) rfl rfl (by decide) ml_L_52 im_R_purse se_R_purse dl_432 h1 rfl hP hS hl rfl (Nat.le_of_ble_eq_true rfl) hcs (fun r σ H locs hz hP hS => ?_)
  obtain ⟨v, rfl, sp2, hM2, h2⟩ := hz
  refine lv_aload_n C.1.1 C.1.2.1 dl_435 rfl (lv_at hl 1 rfl) ?_
  refine lb_arg C (N := N) (k := 1) rfl (by omega) hS hl dl_436 dl_437 dl_438 dl_439 dl_440 ?_
  refine lb_arg C (N := N) (k := 2) rfl (by omega) hS hl dl_441 dl_442 dl_443 dl_444 dl_445 ?_
  refine lb_call C.1 (vs := [.int (xs (N + 1)), .int (xs (N + 2))]) (rest := [.int v]) (a := 82) (ci := 11) hM2 (co_N_purse (Nat.le_of_ble_eq_true rfl) (Nat.le_of_ble_eq_true rfl)) rfl (by show _ = some 2; decide +kernel) rfl rfl (by decide) ml_L_55 im_N_purse se_N_purse dl_446 h2 rfl hP hS hl rfl (Nat.le_of_ble_eq_true rfl) hcs (fun r σ H locs hz hP hS => ?_)
  obtain ⟨rfl, hj⟩ := hz
  exact lv_icmp_eq (tgt := 1217) C.1.1 C.1.2.1 dl_449 (by decide) (fun _ => K _ _ _ hj hP hS) (fun h => absurd rfl h)
theorem ca_harm : lw_case (l := l) (e := e) (meth := meth) (below := below) (Q := Q) (cells := cells) (slots := slots) X p s m c b L xs 454 := by
  intro C N n σ H locs ls hN hj hn hP hS hl hcs K
  obtain ⟨sp1, hM1, h1⟩ := lp_harm (l := l) (X := X) (x0 := xs (N + 1)) (x1 := xs (N + 2)) n σ hj hn
  refine lv_aload_n C.1.1 C.1.2.1 dl_454 rfl (lv_at hl 2 rfl) ?_
  refine lb_arg C (N := N) (k := 1) rfl (by omega) hS hl dl_455 dl_456 dl_457 dl_458 dl_459 ?_
  refine lb_arg C (N := N) (k := 2) rfl (by omega) hS hl dl_460 dl_461 dl_462 dl_463 dl_464 ?_
  refine lb_call C.1 (vs := [.int (xs (N + 1)), .int (xs (N + 2))]) (rest := []) (a := 0) (ci := 0) hM1 (co_R_harm (Nat.le_of_ble_eq_true rfl) (Nat.le_of_ble_eq_true rfl)) rfl (by show _ = some 2; decide +kernel) rfl rfl (by decide) ml_L_56 im_R_harm se_R_harm dl_465 h1 rfl hP hS hl rfl (Nat.le_of_ble_eq_true rfl) hcs (fun r σ H locs hz hP hS => ?_)
  obtain ⟨v, rfl, sp2, hM2, h2⟩ := hz
  refine lv_aload_n C.1.1 C.1.2.1 dl_468 rfl (lv_at hl 1 rfl) ?_
  refine lb_arg C (N := N) (k := 1) rfl (by omega) hS hl dl_469 dl_470 dl_471 dl_472 dl_473 ?_
  refine lb_arg C (N := N) (k := 2) rfl (by omega) hS hl dl_474 dl_475 dl_476 dl_477 dl_478 ?_
  refine lb_call C.1 (vs := [.int (xs (N + 1)), .int (xs (N + 2))]) (rest := [.int v]) (a := 82) (ci := 11) hM2 (co_N_harm (Nat.le_of_ble_eq_true rfl) (Nat.le_of_ble_eq_true rfl)) rfl (by show _ = some 2; decide +kernel) rfl rfl (by decide) ml_L_59 im_N_harm se_N_harm dl_479 h2 rfl hP hS hl rfl (Nat.le_of_ble_eq_true rfl) hcs (fun r σ H locs hz hP hS => ?_)
  obtain ⟨rfl, hj⟩ := hz
  exact lv_icmp_eq (tgt := 1217) C.1.1 C.1.2.1 dl_482 (by decide) (fun _ => K _ _ _ hj hP hS) (fun h => absurd rfl h)
theorem ca_laid : lw_case (l := l) (e := e) (meth := meth) (below := below) (Q := Q) (cells := cells) (slots := slots) X p s m c b L xs 487 := by
  intro C N n σ H locs ls hN hj hn hP hS hl hcs K
  obtain ⟨sp1, hM1, h1⟩ := lp_laid (l := l) (X := X) (x0 := xs (N + 1)) (x1 := xs (N + 2)) n σ hj hn
  refine lv_aload_n C.1.1 C.1.2.1 dl_487 rfl (lv_at hl 2 rfl) ?_
  refine lb_arg C (N := N) (k := 1) rfl (by omega) hS hl dl_488 dl_489 dl_490 dl_491 dl_492 ?_
  refine lb_arg C (N := N) (k := 2) rfl (by omega) hS hl dl_493 dl_494 dl_495 dl_496 dl_497 ?_
  refine lb_call C.1 (vs := [.int (xs (N + 1)), .int (xs (N + 2))]) (rest := []) (a := 0) (ci := 0) hM1 (co_R_laid (Nat.le_of_ble_eq_true rfl) (Nat.le_of_ble_eq_true rfl)) rfl (by show _ = some 2; decide +kernel) rfl rfl (by decide) ml_L_60 im_R_laid se_R_laid dl_498 h1 rfl hP hS hl rfl (Nat.le_of_ble_eq_true rfl) hcs (fun r σ H locs hz hP hS => ?_)
  obtain ⟨v, rfl, sp2, hM2, h2⟩ := hz
  refine lv_aload_n C.1.1 C.1.2.1 dl_501 rfl (lv_at hl 1 rfl) ?_
  refine lb_arg C (N := N) (k := 1) rfl (by omega) hS hl dl_502 dl_503 dl_504 dl_505 dl_506 ?_
  refine lb_arg C (N := N) (k := 2) rfl (by omega) hS hl dl_507 dl_508 dl_509 dl_510 dl_511 ?_
  refine lb_call C.1 (vs := [.int (xs (N + 1)), .int (xs (N + 2))]) (rest := [.int v]) (a := 82) (ci := 11) hM2 (co_N_laid (Nat.le_of_ble_eq_true rfl) (Nat.le_of_ble_eq_true rfl)) rfl (by show _ = some 2; decide +kernel) rfl rfl (by decide) ml_L_63 im_N_laid se_N_laid dl_512 h2 rfl hP hS hl rfl (Nat.le_of_ble_eq_true rfl) hcs (fun r σ H locs hz hP hS => ?_)
  obtain ⟨rfl, hj⟩ := hz
  exact lv_icmp_eq (tgt := 1217) C.1.1 C.1.2.1 dl_515 (by decide) (fun _ => K _ _ _ hj hP hS) (fun h => absurd rfl h)
theorem ca_all : lw_case (l := l) (e := e) (meth := meth) (below := below) (Q := Q) (cells := cells) (slots := slots) X p s m c b L xs 520 := by
  intro C N n σ H locs ls hN hj hn hP hS hl hcs K
  obtain ⟨sp1, hM1, h1⟩ := lp_all (l := l) (X := X) (x0 := xs (N + 1)) (x1 := xs (N + 2)) n σ hj hn
  refine lv_aload_n C.1.1 C.1.2.1 dl_520 rfl (lv_at hl 2 rfl) ?_
  refine lb_arg C (N := N) (k := 1) rfl (by omega) hS hl dl_521 dl_522 dl_523 dl_524 dl_525 ?_
  refine lb_arg C (N := N) (k := 2) rfl (by omega) hS hl dl_526 dl_527 dl_528 dl_529 dl_530 ?_
  refine lb_call C.1 (vs := [.int (xs (N + 1)), .int (xs (N + 2))]) (rest := []) (a := 0) (ci := 0) hM1 (co_R_all (Nat.le_of_ble_eq_true rfl) (Nat.le_of_ble_eq_true rfl)) rfl (by show _ = some 2; decide +kernel) rfl rfl (by decide) ml_L_64 im_R_all se_R_all dl_531 h1 rfl hP hS hl rfl (Nat.le_of_ble_eq_true rfl) hcs (fun r σ H locs hz hP hS => ?_)
  obtain ⟨v, rfl, sp2, hM2, h2⟩ := hz
  refine lv_aload_n C.1.1 C.1.2.1 dl_534 rfl (lv_at hl 1 rfl) ?_
  refine lb_arg C (N := N) (k := 1) rfl (by omega) hS hl dl_535 dl_536 dl_537 dl_538 dl_539 ?_
  refine lb_arg C (N := N) (k := 2) rfl (by omega) hS hl dl_540 dl_541 dl_542 dl_543 dl_544 ?_
  refine lb_call C.1 (vs := [.int (xs (N + 1)), .int (xs (N + 2))]) (rest := [.int v]) (a := 82) (ci := 11) hM2 (co_N_all (Nat.le_of_ble_eq_true rfl) (Nat.le_of_ble_eq_true rfl)) rfl (by show _ = some 2; decide +kernel) rfl rfl (by decide) ml_L_67 im_N_all se_N_all dl_545 h2 rfl hP hS hl rfl (Nat.le_of_ble_eq_true rfl) hcs (fun r σ H locs hz hP hS => ?_)
  obtain ⟨rfl, hj⟩ := hz
  exact lv_icmp_eq (tgt := 1217) C.1.1 C.1.2.1 dl_548 (by decide) (fun _ => K _ _ _ hj hP hS) (fun h => absurd rfl h)
theorem ca_ring : lw_case (l := l) (e := e) (meth := meth) (below := below) (Q := Q) (cells := cells) (slots := slots) X p s m c b L xs 553 := by
  intro C N n σ H locs ls hN hj hn hP hS hl hcs K
  obtain ⟨sp1, hM1, h1⟩ := lp_ring (l := l) (X := X) (x0 := xs (N + 1)) (x1 := xs (N + 2)) n σ hj hn
  refine lv_aload_n C.1.1 C.1.2.1 dl_553 rfl (lv_at hl 2 rfl) ?_
  refine lb_arg C (N := N) (k := 1) rfl (by omega) hS hl dl_554 dl_555 dl_556 dl_557 dl_558 ?_
  refine lb_arg C (N := N) (k := 2) rfl (by omega) hS hl dl_559 dl_560 dl_561 dl_562 dl_563 ?_
  refine lb_call C.1 (vs := [.int (xs (N + 1)), .int (xs (N + 2))]) (rest := []) (a := 0) (ci := 0) hM1 (co_R_ring (Nat.le_of_ble_eq_true rfl) (Nat.le_of_ble_eq_true rfl)) rfl (by show _ = some 2; decide +kernel) rfl rfl (by decide) ml_L_68 im_R_ring se_R_ring dl_564 h1 rfl hP hS hl rfl (Nat.le_of_ble_eq_true rfl) hcs (fun r σ H locs hz hP hS => ?_)
  obtain ⟨v, rfl, sp2, hM2, h2⟩ := hz
  refine lv_aload_n C.1.1 C.1.2.1 dl_567 rfl (lv_at hl 1 rfl) ?_
  refine lb_arg C (N := N) (k := 1) rfl (by omega) hS hl dl_568 dl_569 dl_570 dl_571 dl_572 ?_
  refine lb_arg C (N := N) (k := 2) rfl (by omega) hS hl dl_573 dl_574 dl_575 dl_576 dl_577 ?_
  refine lb_call C.1 (vs := [.int (xs (N + 1)), .int (xs (N + 2))]) (rest := [.int v]) (a := 82) (ci := 11) hM2 (co_N_ring (Nat.le_of_ble_eq_true rfl) (Nat.le_of_ble_eq_true rfl)) rfl (by show _ = some 2; decide +kernel) rfl rfl (by decide) ml_L_71 im_N_ring se_N_ring dl_578 h2 rfl hP hS hl rfl (Nat.le_of_ble_eq_true rfl) hcs (fun r σ H locs hz hP hS => ?_)
  obtain ⟨rfl, hj⟩ := hz
  exact lv_icmp_eq (tgt := 1217) C.1.1 C.1.2.1 dl_581 (by decide) (fun _ => K _ _ _ hj hP hS) (fun h => absurd rfl h)
theorem ca_dry : lw_case (l := l) (e := e) (meth := meth) (below := below) (Q := Q) (cells := cells) (slots := slots) X p s m c b L xs 586 := by
  intro C N n σ H locs ls hN hj hn hP hS hl hcs K
  obtain ⟨sp1, hM1, h1⟩ := lp_dry (l := l) (X := X) (x0 := xs (N + 1)) (x1 := xs (N + 2)) (x2 := xs (N + 3)) n σ hj hn
  refine lv_aload_n C.1.1 C.1.2.1 dl_586 rfl (lv_at hl 2 rfl) ?_
  refine lb_arg C (N := N) (k := 1) rfl (by omega) hS hl dl_587 dl_588 dl_589 dl_590 dl_591 ?_
  refine lb_arg C (N := N) (k := 2) rfl (by omega) hS hl dl_592 dl_593 dl_594 dl_595 dl_596 ?_
  refine lb_arg C (N := N) (k := 3) rfl (by omega) hS hl dl_597 dl_598 dl_599 dl_600 dl_601 ?_
  refine lb_call C.1 (vs := [.int (xs (N + 1)), .int (xs (N + 2)), .int (xs (N + 3))]) (rest := []) (a := 0) (ci := 0) hM1 (co_R_dry (Nat.le_of_ble_eq_true rfl) (Nat.le_of_ble_eq_true rfl)) rfl (by show _ = some 3; decide +kernel) rfl rfl (by decide) ml_L_72 im_R_dry se_R_dry dl_602 h1 rfl hP hS hl rfl (Nat.le_of_ble_eq_true rfl) hcs (fun r σ H locs hz hP hS => ?_)
  obtain ⟨v, rfl, sp2, hM2, h2⟩ := hz
  refine lv_aload_n C.1.1 C.1.2.1 dl_605 rfl (lv_at hl 1 rfl) ?_
  refine lb_arg C (N := N) (k := 1) rfl (by omega) hS hl dl_606 dl_607 dl_608 dl_609 dl_610 ?_
  refine lb_arg C (N := N) (k := 2) rfl (by omega) hS hl dl_611 dl_612 dl_613 dl_614 dl_615 ?_
  refine lb_arg C (N := N) (k := 3) rfl (by omega) hS hl dl_616 dl_617 dl_618 dl_619 dl_620 ?_
  refine lb_call C.1 (vs := [.int (xs (N + 1)), .int (xs (N + 2)), .int (xs (N + 3))]) (rest := [.int v]) (a := 82) (ci := 11) hM2 (co_N_dry (Nat.le_of_ble_eq_true rfl) (Nat.le_of_ble_eq_true rfl)) rfl (by show _ = some 3; decide +kernel) rfl rfl (by decide) ml_L_76 im_N_dry se_N_dry dl_621 h2 rfl hP hS hl rfl (Nat.le_of_ble_eq_true rfl) hcs (fun r σ H locs hz hP hS => ?_)
  obtain ⟨rfl, hj⟩ := hz
  exact lv_icmp_eq (tgt := 1217) C.1.1 C.1.2.1 dl_624 (by decide) (fun _ => K _ _ _ hj hP hS) (fun h => absurd rfl h)
theorem ca_wish : lw_case (l := l) (e := e) (meth := meth) (below := below) (Q := Q) (cells := cells) (slots := slots) X p s m c b L xs 629 := by
  intro C N n σ H locs ls hN hj hn hP hS hl hcs K
  obtain ⟨sp1, hM1, h1⟩ := lp_wish (l := l) (X := X) (x0 := xs (N + 1)) (x1 := xs (N + 2)) (x2 := xs (N + 3)) n σ hj hn
  refine lv_aload_n C.1.1 C.1.2.1 dl_629 rfl (lv_at hl 2 rfl) ?_
  refine lb_arg C (N := N) (k := 1) rfl (by omega) hS hl dl_630 dl_631 dl_632 dl_633 dl_634 ?_
  refine lb_arg C (N := N) (k := 2) rfl (by omega) hS hl dl_635 dl_636 dl_637 dl_638 dl_639 ?_
  refine lb_arg C (N := N) (k := 3) rfl (by omega) hS hl dl_640 dl_641 dl_642 dl_643 dl_644 ?_
  refine lb_call C.1 (vs := [.int (xs (N + 1)), .int (xs (N + 2)), .int (xs (N + 3))]) (rest := []) (a := 0) (ci := 0) hM1 (co_R_wish (Nat.le_of_ble_eq_true rfl) (Nat.le_of_ble_eq_true rfl)) rfl (by show _ = some 3; decide +kernel) rfl rfl (by decide) ml_L_77 im_R_wish se_R_wish dl_645 h1 rfl hP hS hl rfl (Nat.le_of_ble_eq_true rfl) hcs (fun r σ H locs hz hP hS => ?_)
  obtain ⟨v, rfl, sp2, hM2, h2⟩ := hz
  refine lv_aload_n C.1.1 C.1.2.1 dl_648 rfl (lv_at hl 1 rfl) ?_
  refine lb_arg C (N := N) (k := 1) rfl (by omega) hS hl dl_649 dl_650 dl_651 dl_652 dl_653 ?_
  refine lb_arg C (N := N) (k := 2) rfl (by omega) hS hl dl_654 dl_655 dl_656 dl_657 dl_658 ?_
  refine lb_arg C (N := N) (k := 3) rfl (by omega) hS hl dl_659 dl_660 dl_661 dl_662 dl_663 ?_
  refine lb_call C.1 (vs := [.int (xs (N + 1)), .int (xs (N + 2)), .int (xs (N + 3))]) (rest := [.int v]) (a := 82) (ci := 11) hM2 (co_N_wish (Nat.le_of_ble_eq_true rfl) (Nat.le_of_ble_eq_true rfl)) rfl (by show _ = some 3; decide +kernel) rfl rfl (by decide) ml_L_80 im_N_wish se_N_wish dl_664 h2 rfl hP hS hl rfl (Nat.le_of_ble_eq_true rfl) hcs (fun r σ H locs hz hP hS => ?_)
  obtain ⟨rfl, hj⟩ := hz
  exact lv_icmp_eq (tgt := 1217) C.1.1 C.1.2.1 dl_667 (by decide) (fun _ => K _ _ _ hj hP hS) (fun h => absurd rfl h)
theorem ca_want : lw_case (l := l) (e := e) (meth := meth) (below := below) (Q := Q) (cells := cells) (slots := slots) X p s m c b L xs 672 := by
  intro C N n σ H locs ls hN hj hn hP hS hl hcs K
  obtain ⟨sp1, hM1, h1⟩ := lp_want (l := l) (X := X) (x0 := xs (N + 1)) (x1 := xs (N + 2)) n σ hj hn
  refine lv_aload_n C.1.1 C.1.2.1 dl_672 rfl (lv_at hl 2 rfl) ?_
  refine lb_arg C (N := N) (k := 1) rfl (by omega) hS hl dl_673 dl_674 dl_675 dl_676 dl_677 ?_
  refine lb_arg C (N := N) (k := 2) rfl (by omega) hS hl dl_678 dl_679 dl_680 dl_681 dl_682 ?_
  refine lb_call C.1 (vs := [.int (xs (N + 1)), .int (xs (N + 2))]) (rest := []) (a := 0) (ci := 0) hM1 (co_R_want (Nat.le_of_ble_eq_true rfl) (Nat.le_of_ble_eq_true rfl)) rfl (by show _ = some 2; decide +kernel) rfl rfl (by decide) ml_L_81 im_R_want se_R_want dl_683 h1 rfl hP hS hl rfl (Nat.le_of_ble_eq_true rfl) hcs (fun r σ H locs hz hP hS => ?_)
  obtain ⟨v, rfl, sp2, hM2, h2⟩ := hz
  refine lv_aload_n C.1.1 C.1.2.1 dl_686 rfl (lv_at hl 1 rfl) ?_
  refine lb_arg C (N := N) (k := 1) rfl (by omega) hS hl dl_687 dl_688 dl_689 dl_690 dl_691 ?_
  refine lb_arg C (N := N) (k := 2) rfl (by omega) hS hl dl_692 dl_693 dl_694 dl_695 dl_696 ?_
  refine lb_call C.1 (vs := [.int (xs (N + 1)), .int (xs (N + 2))]) (rest := [.int v]) (a := 82) (ci := 11) hM2 (co_N_want (Nat.le_of_ble_eq_true rfl) (Nat.le_of_ble_eq_true rfl)) rfl (by show _ = some 2; decide +kernel) rfl rfl (by decide) ml_L_84 im_N_want se_N_want dl_697 h2 rfl hP hS hl rfl (Nat.le_of_ble_eq_true rfl) hcs (fun r σ H locs hz hP hS => ?_)
  obtain ⟨rfl, hj⟩ := hz
  exact lv_icmp_eq (tgt := 1217) C.1.1 C.1.2.1 dl_700 (by decide) (fun _ => K _ _ _ hj hP hS) (fun h => absurd rfl h)
theorem ca_market : lw_case (l := l) (e := e) (meth := meth) (below := below) (Q := Q) (cells := cells) (slots := slots) X p s m c b L xs 705 := by
  intro C N n σ H locs ls hN hj hn hP hS hl hcs K
  obtain ⟨sp1, hM1, h1⟩ := lp_market (l := l) (X := X) (x0 := xs (N + 1)) n σ hj hn
  refine lv_aload_n C.1.1 C.1.2.1 dl_705 rfl (lv_at hl 2 rfl) ?_
  refine lb_arg C (N := N) (k := 1) rfl (by omega) hS hl dl_706 dl_707 dl_708 dl_709 dl_710 ?_
  refine lb_call C.1 (vs := [.int (xs (N + 1))]) (rest := []) (a := 0) (ci := 0) hM1 (co_R_market (Nat.le_of_ble_eq_true rfl) (Nat.le_of_ble_eq_true rfl)) rfl (by show _ = some 1; decide +kernel) rfl rfl (by decide) ml_L_85 im_R_market se_R_market dl_711 h1 rfl hP hS hl rfl (Nat.le_of_ble_eq_true rfl) hcs (fun r σ H locs hz hP hS => ?_)
  obtain ⟨v, rfl, sp2, hM2, h2⟩ := hz
  refine lv_aload_n C.1.1 C.1.2.1 dl_714 rfl (lv_at hl 1 rfl) ?_
  refine lb_arg C (N := N) (k := 1) rfl (by omega) hS hl dl_715 dl_716 dl_717 dl_718 dl_719 ?_
  refine lb_call C.1 (vs := [.int (xs (N + 1))]) (rest := [.int v]) (a := 82) (ci := 11) hM2 (co_N_market (Nat.le_of_ble_eq_true rfl) (Nat.le_of_ble_eq_true rfl)) rfl (by show _ = some 1; decide +kernel) rfl rfl (by decide) ml_L_88 im_N_market se_N_market dl_720 h2 rfl hP hS hl rfl (Nat.le_of_ble_eq_true rfl) hcs (fun r σ H locs hz hP hS => ?_)
  obtain ⟨rfl, hj⟩ := hz
  exact lv_icmp_eq (tgt := 1217) C.1.1 C.1.2.1 dl_723 (by decide) (fun _ => K _ _ _ hj hP hS) (fun h => absurd rfl h)
theorem ca_best : lw_case (l := l) (e := e) (meth := meth) (below := below) (Q := Q) (cells := cells) (slots := slots) X p s m c b L xs 728 := by
  intro C N n σ H locs ls hN hj hn hP hS hl hcs K
  obtain ⟨sp1, hM1, h1⟩ := lp_best (l := l) (X := X) (x0 := xs (N + 1)) n σ hj hn
  refine lv_aload_n C.1.1 C.1.2.1 dl_728 rfl (lv_at hl 2 rfl) ?_
  refine lb_arg C (N := N) (k := 1) rfl (by omega) hS hl dl_729 dl_730 dl_731 dl_732 dl_733 ?_
  refine lb_call C.1 (vs := [.int (xs (N + 1))]) (rest := []) (a := 0) (ci := 0) hM1 (co_R_best (Nat.le_of_ble_eq_true rfl) (Nat.le_of_ble_eq_true rfl)) rfl (by show _ = some 1; decide +kernel) rfl rfl (by decide) ml_L_89 im_R_best se_R_best dl_734 h1 rfl hP hS hl rfl (Nat.le_of_ble_eq_true rfl) hcs (fun r σ H locs hz hP hS => ?_)
  obtain ⟨v, rfl, sp2, hM2, h2⟩ := hz
  refine lv_aload_n C.1.1 C.1.2.1 dl_737 rfl (lv_at hl 1 rfl) ?_
  refine lb_arg C (N := N) (k := 1) rfl (by omega) hS hl dl_738 dl_739 dl_740 dl_741 dl_742 ?_
  refine lb_call C.1 (vs := [.int (xs (N + 1))]) (rest := [.int v]) (a := 82) (ci := 11) hM2 (co_N_best (Nat.le_of_ble_eq_true rfl) (Nat.le_of_ble_eq_true rfl)) rfl (by show _ = some 1; decide +kernel) rfl rfl (by decide) ml_L_92 im_N_best se_N_best dl_743 h2 rfl hP hS hl rfl (Nat.le_of_ble_eq_true rfl) hcs (fun r σ H locs hz hP hS => ?_)
  obtain ⟨rfl, hj⟩ := hz
  exact lv_icmp_eq (tgt := 1217) C.1.1 C.1.2.1 dl_746 (by decide) (fun _ => K _ _ _ hj hP hS) (fun h => absurd rfl h)
theorem ca_fact : lw_case (l := l) (e := e) (meth := meth) (below := below) (Q := Q) (cells := cells) (slots := slots) X p s m c b L xs 751 := by
  intro C N n σ H locs ls hN hj hn hP hS hl hcs K
  obtain ⟨sp1, hM1, h1⟩ := lp_fact (l := l) (X := X) (x0 := xs (N + 1)) (x1 := xs (N + 2)) (x2 := xs (N + 3)) n σ hj hn
  refine lv_aload_n C.1.1 C.1.2.1 dl_751 rfl (lv_at hl 2 rfl) ?_
  refine lb_arg C (N := N) (k := 1) rfl (by omega) hS hl dl_752 dl_753 dl_754 dl_755 dl_756 ?_
  refine lb_arg C (N := N) (k := 2) rfl (by omega) hS hl dl_757 dl_758 dl_759 dl_760 dl_761 ?_
  refine lb_arg C (N := N) (k := 3) rfl (by omega) hS hl dl_762 dl_763 dl_764 dl_765 dl_766 ?_
  refine lb_call C.1 (vs := [.int (xs (N + 1)), .int (xs (N + 2)), .int (xs (N + 3))]) (rest := []) (a := 0) (ci := 0) hM1 (co_R_fact (Nat.le_of_ble_eq_true rfl) (Nat.le_of_ble_eq_true rfl)) rfl (by show _ = some 3; decide +kernel) rfl rfl (by decide) ml_L_93 im_R_fact se_R_fact dl_767 h1 rfl hP hS hl rfl (Nat.le_of_ble_eq_true rfl) hcs (fun r σ H locs hz hP hS => ?_)
  obtain ⟨v, rfl, sp2, hM2, h2⟩ := hz
  refine lv_aload_n C.1.1 C.1.2.1 dl_770 rfl (lv_at hl 1 rfl) ?_
  refine lb_arg C (N := N) (k := 1) rfl (by omega) hS hl dl_771 dl_772 dl_773 dl_774 dl_775 ?_
  refine lb_arg C (N := N) (k := 2) rfl (by omega) hS hl dl_776 dl_777 dl_778 dl_779 dl_780 ?_
  refine lb_arg C (N := N) (k := 3) rfl (by omega) hS hl dl_781 dl_782 dl_783 dl_784 dl_785 ?_
  refine lb_call C.1 (vs := [.int (xs (N + 1)), .int (xs (N + 2)), .int (xs (N + 3))]) (rest := [.int v]) (a := 82) (ci := 11) hM2 (co_N_fact (Nat.le_of_ble_eq_true rfl) (Nat.le_of_ble_eq_true rfl)) rfl (by show _ = some 3; decide +kernel) rfl rfl (by decide) ml_L_96 im_N_fact se_N_fact dl_786 h2 rfl hP hS hl rfl (Nat.le_of_ble_eq_true rfl) hcs (fun r σ H locs hz hP hS => ?_)
  obtain ⟨rfl, hj⟩ := hz
  exact lv_icmp_eq (tgt := 1217) C.1.1 C.1.2.1 dl_789 (by decide) (fun _ => K _ _ _ hj hP hS) (fun h => absurd rfl h)
theorem ca_forget : lw_case (l := l) (e := e) (meth := meth) (below := below) (Q := Q) (cells := cells) (slots := slots) X p s m c b L xs 794 := by
  intro C N n σ H locs ls hN hj hn hP hS hl hcs K
  obtain ⟨sp1, hM1, h1⟩ := lp_forget (l := l) (X := X) n σ hj hn
  refine lv_aload_n C.1.1 C.1.2.1 dl_794 rfl (lv_at hl 2 rfl) ?_
  refine lb_call C.1 (vs := []) (rest := []) (a := 0) (ci := 0) hM1 (co_R_forget (Nat.le_of_ble_eq_true rfl) (Nat.le_of_ble_eq_true rfl)) rfl (by show _ = some 0; decide +kernel) rfl rfl (by decide) ml_L_97 im_R_forget se_R_forget dl_795 h1 rfl hP hS hl rfl (Nat.le_of_ble_eq_true rfl) hcs (fun r σ H locs hz hP hS => ?_)
  obtain ⟨v, rfl, sp2, hM2, h2⟩ := hz
  refine lv_aload_n C.1.1 C.1.2.1 dl_798 rfl (lv_at hl 1 rfl) ?_
  refine lb_call C.1 (vs := []) (rest := [.int v]) (a := 82) (ci := 11) hM2 (co_N_forget (Nat.le_of_ble_eq_true rfl) (Nat.le_of_ble_eq_true rfl)) rfl (by show _ = some 0; decide +kernel) rfl rfl (by decide) ml_L_100 im_N_forget se_N_forget dl_799 h2 rfl hP hS hl rfl (Nat.le_of_ble_eq_true rfl) hcs (fun r σ H locs hz hP hS => ?_)
  obtain ⟨rfl, hj⟩ := hz
  exact lv_icmp_eq (tgt := 1217) C.1.1 C.1.2.1 dl_802 (by decide) (fun _ => K _ _ _ hj hP hS) (fun h => absurd rfl h)
theorem ca_could : lw_case (l := l) (e := e) (meth := meth) (below := below) (Q := Q) (cells := cells) (slots := slots) X p s m c b L xs 807 := by
  intro C N n σ H locs ls hN hj hn hP hS hl hcs K
  obtain ⟨sp1, hM1, h1⟩ := lp_could (l := l) (X := X) (x0 := xs (N + 1)) n σ hj hn
  refine lv_aload_n C.1.1 C.1.2.1 dl_807 rfl (lv_at hl 2 rfl) ?_
  refine lb_arg C (N := N) (k := 1) rfl (by omega) hS hl dl_808 dl_809 dl_810 dl_811 dl_812 ?_
  refine lb_call C.1 (vs := [.int (xs (N + 1))]) (rest := []) (a := 0) (ci := 0) hM1 (co_R_could (Nat.le_of_ble_eq_true rfl) (Nat.le_of_ble_eq_true rfl)) rfl (by show _ = some 1; decide +kernel) rfl rfl (by decide) ml_L_101 im_R_could se_R_could dl_813 h1 rfl hP hS hl rfl (Nat.le_of_ble_eq_true rfl) hcs (fun r σ H locs hz hP hS => ?_)
  obtain ⟨v, rfl, sp2, hM2, h2⟩ := hz
  refine lv_aload_n C.1.1 C.1.2.1 dl_816 rfl (lv_at hl 1 rfl) ?_
  refine lb_arg C (N := N) (k := 1) rfl (by omega) hS hl dl_817 dl_818 dl_819 dl_820 dl_821 ?_
  refine lb_call C.1 (vs := [.int (xs (N + 1))]) (rest := [.int v]) (a := 82) (ci := 11) hM2 (co_N_could (Nat.le_of_ble_eq_true rfl) (Nat.le_of_ble_eq_true rfl)) rfl (by show _ = some 1; decide +kernel) rfl rfl (by decide) ml_L_104 im_N_could se_N_could dl_822 h2 rfl hP hS hl rfl (Nat.le_of_ble_eq_true rfl) hcs (fun r σ H locs hz hP hS => ?_)
  obtain ⟨rfl, hj⟩ := hz
  exact lv_icmp_eq (tgt := 1217) C.1.1 C.1.2.1 dl_825 (by decide) (fun _ => K _ _ _ hj hP hS) (fun h => absurd rfl h)
theorem ca_ask : lw_case (l := l) (e := e) (meth := meth) (below := below) (Q := Q) (cells := cells) (slots := slots) X p s m c b L xs 830 := by
  intro C N n σ H locs ls hN hj hn hP hS hl hcs K
  obtain ⟨sp1, hM1, h1⟩ := lp_ask (l := l) (X := X) (x0 := xs (N + 1)) n σ hj hn
  refine lv_aload_n C.1.1 C.1.2.1 dl_830 rfl (lv_at hl 2 rfl) ?_
  refine lb_arg C (N := N) (k := 1) rfl (by omega) hS hl dl_831 dl_832 dl_833 dl_834 dl_835 ?_
  refine lb_call C.1 (vs := [.int (xs (N + 1))]) (rest := []) (a := 0) (ci := 0) hM1 (co_R_ask (Nat.le_of_ble_eq_true rfl) (Nat.le_of_ble_eq_true rfl)) rfl (by show _ = some 1; decide +kernel) rfl rfl (by decide) ml_L_105 im_R_ask se_R_ask dl_836 h1 rfl hP hS hl rfl (Nat.le_of_ble_eq_true rfl) hcs (fun r σ H locs hz hP hS => ?_)
  obtain ⟨v, rfl, sp2, hM2, h2⟩ := hz
  refine lv_aload_n C.1.1 C.1.2.1 dl_839 rfl (lv_at hl 1 rfl) ?_
  refine lb_arg C (N := N) (k := 1) rfl (by omega) hS hl dl_840 dl_841 dl_842 dl_843 dl_844 ?_
  refine lb_call C.1 (vs := [.int (xs (N + 1))]) (rest := [.int v]) (a := 82) (ci := 11) hM2 (co_N_ask (Nat.le_of_ble_eq_true rfl) (Nat.le_of_ble_eq_true rfl)) rfl (by show _ = some 1; decide +kernel) rfl rfl (by decide) ml_L_108 im_N_ask se_N_ask dl_845 h2 rfl hP hS hl rfl (Nat.le_of_ble_eq_true rfl) hcs (fun r σ H locs hz hP hS => ?_)
  obtain ⟨rfl, hj⟩ := hz
  exact lv_icmp_eq (tgt := 1217) C.1.1 C.1.2.1 dl_848 (by decide) (fun _ => K _ _ _ hj hP hS) (fun h => absurd rfl h)
theorem ca_hands : lw_case (l := l) (e := e) (meth := meth) (below := below) (Q := Q) (cells := cells) (slots := slots) X p s m c b L xs 853 := by
  intro C N n σ H locs ls hN hj hn hP hS hl hcs K
  obtain ⟨sp1, hM1, h1⟩ := lp_hands (l := l) (X := X) (x0 := xs (N + 1)) (x1 := xs (N + 2)) n σ hj hn
  refine lv_aload_n C.1.1 C.1.2.1 dl_853 rfl (lv_at hl 2 rfl) ?_
  refine lb_arg C (N := N) (k := 1) rfl (by omega) hS hl dl_854 dl_855 dl_856 dl_857 dl_858 ?_
  refine lb_arg C (N := N) (k := 2) rfl (by omega) hS hl dl_859 dl_860 dl_861 dl_862 dl_863 ?_
  refine lb_call C.1 (vs := [.int (xs (N + 1)), .int (xs (N + 2))]) (rest := []) (a := 0) (ci := 0) hM1 (co_R_hands (Nat.le_of_ble_eq_true rfl) (Nat.le_of_ble_eq_true rfl)) rfl (by show _ = some 2; decide +kernel) rfl rfl (by decide) ml_L_109 im_R_hands se_R_hands dl_864 h1 rfl hP hS hl rfl (Nat.le_of_ble_eq_true rfl) hcs (fun r σ H locs hz hP hS => ?_)
  obtain ⟨v, rfl, sp2, hM2, h2⟩ := hz
  refine lv_aload_n C.1.1 C.1.2.1 dl_867 rfl (lv_at hl 1 rfl) ?_
  refine lb_arg C (N := N) (k := 1) rfl (by omega) hS hl dl_868 dl_869 dl_870 dl_871 dl_872 ?_
  refine lb_arg C (N := N) (k := 2) rfl (by omega) hS hl dl_873 dl_874 dl_875 dl_876 dl_877 ?_
  refine lb_call C.1 (vs := [.int (xs (N + 1)), .int (xs (N + 2))]) (rest := [.int v]) (a := 82) (ci := 11) hM2 (co_N_hands (Nat.le_of_ble_eq_true rfl) (Nat.le_of_ble_eq_true rfl)) rfl (by show _ = some 2; decide +kernel) rfl rfl (by decide) ml_L_112 im_N_hands se_N_hands dl_878 h2 rfl hP hS hl rfl (Nat.le_of_ble_eq_true rfl) hcs (fun r σ H locs hz hP hS => ?_)
  obtain ⟨rfl, hj⟩ := hz
  exact lv_icmp_eq (tgt := 1217) C.1.1 C.1.2.1 dl_881 (by decide) (fun _ => K _ _ _ hj hP hS) (fun h => absurd rfl h)
theorem ca_claim : lw_case (l := l) (e := e) (meth := meth) (below := below) (Q := Q) (cells := cells) (slots := slots) X p s m c b L xs 886 := by
  intro C N n σ H locs ls hN hj hn hP hS hl hcs K
  obtain ⟨sp1, hM1, h1⟩ := lp_claim (l := l) (X := X) (x0 := xs (N + 1)) (x1 := xs (N + 2)) n σ hj hn
  refine lv_aload_n C.1.1 C.1.2.1 dl_886 rfl (lv_at hl 2 rfl) ?_
  refine lb_arg C (N := N) (k := 1) rfl (by omega) hS hl dl_887 dl_888 dl_889 dl_890 dl_891 ?_
  refine lb_arg C (N := N) (k := 2) rfl (by omega) hS hl dl_892 dl_893 dl_894 dl_895 dl_896 ?_
  refine lb_call C.1 (vs := [.int (xs (N + 1)), .int (xs (N + 2))]) (rest := []) (a := 0) (ci := 0) hM1 (co_R_claim (Nat.le_of_ble_eq_true rfl) (Nat.le_of_ble_eq_true rfl)) rfl (by show _ = some 2; decide +kernel) rfl rfl (by decide) ml_L_113 im_R_claim se_R_claim dl_897 h1 rfl hP hS hl rfl (Nat.le_of_ble_eq_true rfl) hcs (fun r σ H locs hz hP hS => ?_)
  obtain ⟨v, rfl, sp2, hM2, h2⟩ := hz
  refine lv_aload_n C.1.1 C.1.2.1 dl_900 rfl (lv_at hl 1 rfl) ?_
  refine lb_arg C (N := N) (k := 1) rfl (by omega) hS hl dl_901 dl_902 dl_903 dl_904 dl_905 ?_
  refine lb_arg C (N := N) (k := 2) rfl (by omega) hS hl dl_906 dl_907 dl_908 dl_909 dl_910 ?_
  refine lb_call C.1 (vs := [.int (xs (N + 1)), .int (xs (N + 2))]) (rest := [.int v]) (a := 82) (ci := 11) hM2 (co_N_claim (Nat.le_of_ble_eq_true rfl) (Nat.le_of_ble_eq_true rfl)) rfl (by show _ = some 2; decide +kernel) rfl rfl (by decide) ml_L_116 im_N_claim se_N_claim dl_911 h2 rfl hP hS hl rfl (Nat.le_of_ble_eq_true rfl) hcs (fun r σ H locs hz hP hS => ?_)
  obtain ⟨rfl, hj⟩ := hz
  exact lv_icmp_eq (tgt := 1217) C.1.1 C.1.2.1 dl_914 (by decide) (fun _ => K _ _ _ hj hP hS) (fun h => absurd rfl h)
theorem ca_liars : lw_case (l := l) (e := e) (meth := meth) (below := below) (Q := Q) (cells := cells) (slots := slots) X p s m c b L xs 919 := by
  intro C N n σ H locs ls hN hj hn hP hS hl hcs K
  obtain ⟨sp1, hM1, h1⟩ := lp_liars (l := l) (X := X) n σ hj hn
  refine lv_aload_n C.1.1 C.1.2.1 dl_919 rfl (lv_at hl 2 rfl) ?_
  refine lb_call C.1 (vs := []) (rest := []) (a := 0) (ci := 0) hM1 (co_R_liars (Nat.le_of_ble_eq_true rfl) (Nat.le_of_ble_eq_true rfl)) rfl (by show _ = some 0; decide +kernel) rfl rfl (by decide) ml_L_117 im_R_liars se_R_liars dl_920 h1 rfl hP hS hl rfl (Nat.le_of_ble_eq_true rfl) hcs (fun r σ H locs hz hP hS => ?_)
  obtain ⟨v, rfl, sp2, hM2, h2⟩ := hz
  refine lv_aload_n C.1.1 C.1.2.1 dl_923 rfl (lv_at hl 1 rfl) ?_
  refine lb_call C.1 (vs := []) (rest := [.int v]) (a := 82) (ci := 11) hM2 (co_N_liars (Nat.le_of_ble_eq_true rfl) (Nat.le_of_ble_eq_true rfl)) rfl (by show _ = some 0; decide +kernel) rfl rfl (by decide) ml_L_120 im_N_liars se_N_liars dl_924 h2 rfl hP hS hl rfl (Nat.le_of_ble_eq_true rfl) hcs (fun r σ H locs hz hP hS => ?_)
  obtain ⟨rfl, hj⟩ := hz
  exact lv_icmp_eq (tgt := 1217) C.1.1 C.1.2.1 dl_927 (by decide) (fun _ => K _ _ _ hj hP hS) (fun h => absurd rfl h)
theorem ca_sheet : lw_case (l := l) (e := e) (meth := meth) (below := below) (Q := Q) (cells := cells) (slots := slots) X p s m c b L xs 932 := by
  intro C N n σ H locs ls hN hj hn hP hS hl hcs K
  obtain ⟨sp1, hM1, h1⟩ := lp_sheet (l := l) (X := X) (x0 := xs (N + 1)) (x1 := xs (N + 2)) (x2 := xs (N + 3)) n σ hj hn
  refine lv_aload_n C.1.1 C.1.2.1 dl_932 rfl (lv_at hl 2 rfl) ?_
  refine lb_arg C (N := N) (k := 1) rfl (by omega) hS hl dl_933 dl_934 dl_935 dl_936 dl_937 ?_
  refine lb_arg C (N := N) (k := 2) rfl (by omega) hS hl dl_938 dl_939 dl_940 dl_941 dl_942 ?_
  refine lb_arg C (N := N) (k := 3) rfl (by omega) hS hl dl_943 dl_944 dl_945 dl_946 dl_947 ?_
  refine lb_call C.1 (vs := [.int (xs (N + 1)), .int (xs (N + 2)), .int (xs (N + 3))]) (rest := []) (a := 0) (ci := 0) hM1 (co_R_sheet (Nat.le_of_ble_eq_true rfl) (Nat.le_of_ble_eq_true rfl)) rfl (by show _ = some 3; decide +kernel) rfl rfl (by decide) ml_L_121 im_R_sheet se_R_sheet dl_948 h1 rfl hP hS hl rfl (Nat.le_of_ble_eq_true rfl) hcs (fun r σ H locs hz hP hS => ?_)
  obtain ⟨v, rfl, sp2, hM2, h2⟩ := hz
  refine lv_aload_n C.1.1 C.1.2.1 dl_951 rfl (lv_at hl 1 rfl) ?_
  refine lb_arg C (N := N) (k := 1) rfl (by omega) hS hl dl_952 dl_953 dl_954 dl_955 dl_956 ?_
  refine lb_arg C (N := N) (k := 2) rfl (by omega) hS hl dl_957 dl_958 dl_959 dl_960 dl_961 ?_
  refine lb_arg C (N := N) (k := 3) rfl (by omega) hS hl dl_962 dl_963 dl_964 dl_965 dl_966 ?_
  refine lb_call C.1 (vs := [.int (xs (N + 1)), .int (xs (N + 2)), .int (xs (N + 3))]) (rest := [.int v]) (a := 82) (ci := 11) hM2 (co_N_sheet (Nat.le_of_ble_eq_true rfl) (Nat.le_of_ble_eq_true rfl)) rfl (by show _ = some 3; decide +kernel) rfl rfl (by decide) ml_L_124 im_N_sheet se_N_sheet dl_967 h2 rfl hP hS hl rfl (Nat.le_of_ble_eq_true rfl) hcs (fun r σ H locs hz hP hS => ?_)
  obtain ⟨rfl, hj⟩ := hz
  exact lv_icmp_eq (tgt := 1217) C.1.1 C.1.2.1 dl_970 (by decide) (fun _ => K _ _ _ hj hP hS) (fun h => absurd rfl h)
theorem ca_lose : lw_case (l := l) (e := e) (meth := meth) (below := below) (Q := Q) (cells := cells) (slots := slots) X p s m c b L xs 975 := by
  intro C N n σ H locs ls hN hj hn hP hS hl hcs K
  obtain ⟨sp1, hM1, h1⟩ := lp_lose (l := l) (X := X) (x0 := xs (N + 1)) n σ hj hn
  refine lv_aload_n C.1.1 C.1.2.1 dl_975 rfl (lv_at hl 2 rfl) ?_
  refine lb_arg C (N := N) (k := 1) rfl (by omega) hS hl dl_976 dl_977 dl_978 dl_979 dl_980 ?_
  refine lb_call C.1 (vs := [.int (xs (N + 1))]) (rest := []) (a := 0) (ci := 0) hM1 (co_R_lose (Nat.le_of_ble_eq_true rfl) (Nat.le_of_ble_eq_true rfl)) rfl (by show _ = some 1; decide +kernel) rfl rfl (by decide) ml_L_125 im_R_lose se_R_lose dl_981 h1 rfl hP hS hl rfl (Nat.le_of_ble_eq_true rfl) hcs (fun r σ H locs hz hP hS => ?_)
  obtain ⟨v, rfl, sp2, hM2, h2⟩ := hz
  refine lv_aload_n C.1.1 C.1.2.1 dl_984 rfl (lv_at hl 1 rfl) ?_
  refine lb_arg C (N := N) (k := 1) rfl (by omega) hS hl dl_985 dl_986 dl_987 dl_988 dl_989 ?_
  refine lb_call C.1 (vs := [.int (xs (N + 1))]) (rest := [.int v]) (a := 82) (ci := 11) hM2 (co_N_lose (Nat.le_of_ble_eq_true rfl) (Nat.le_of_ble_eq_true rfl)) rfl (by show _ = some 1; decide +kernel) rfl rfl (by decide) ml_L_128 im_N_lose se_N_lose dl_990 h2 rfl hP hS hl rfl (Nat.le_of_ble_eq_true rfl) hcs (fun r σ H locs hz hP hS => ?_)
  obtain ⟨rfl, hj⟩ := hz
  exact lv_icmp_eq (tgt := 1217) C.1.1 C.1.2.1 dl_993 (by decide) (fun _ => K _ _ _ hj hP hS) (fun h => absurd rfl h)
theorem ca_put : lw_case (l := l) (e := e) (meth := meth) (below := below) (Q := Q) (cells := cells) (slots := slots) X p s m c b L xs 998 := by
  intro C N n σ H locs ls hN hj hn hP hS hl hcs K
  obtain ⟨sp1, hM1, h1⟩ := lp_put (l := l) (X := X) (x0 := xs (N + 1)) (x1 := xs (N + 2)) (x2 := xs (N + 3)) (x3 := xs (N + 4)) n σ hj hn
  refine lv_aload_n C.1.1 C.1.2.1 dl_998 rfl (lv_at hl 2 rfl) ?_
  refine lb_arg C (N := N) (k := 1) rfl (by omega) hS hl dl_999 dl_1000 dl_1001 dl_1002 dl_1003 ?_
  refine lb_arg C (N := N) (k := 2) rfl (by omega) hS hl dl_1004 dl_1005 dl_1006 dl_1007 dl_1008 ?_
  refine lb_arg C (N := N) (k := 3) rfl (by omega) hS hl dl_1009 dl_1010 dl_1011 dl_1012 dl_1013 ?_
  refine lb_arg C (N := N) (k := 4) rfl (by omega) hS hl dl_1014 dl_1015 dl_1016 dl_1017 dl_1018 ?_
  refine lb_call C.1 (vs := [.int (xs (N + 1)), .int (xs (N + 2)), .int (xs (N + 3)), .int (xs (N + 4))]) (rest := []) (a := 0) (ci := 0) hM1 (co_R_put (Nat.le_of_ble_eq_true rfl) (Nat.le_of_ble_eq_true rfl)) rfl (by show _ = some 4; decide +kernel) rfl rfl (by decide) ml_L_129 im_R_put se_R_put dl_1019 h1 rfl hP hS hl rfl (Nat.le_of_ble_eq_true rfl) hcs (fun r σ H locs hz hP hS => ?_)
  obtain ⟨v, rfl, sp2, hM2, h2⟩ := hz
  refine lv_aload_n C.1.1 C.1.2.1 dl_1022 rfl (lv_at hl 1 rfl) ?_
  refine lb_arg C (N := N) (k := 1) rfl (by omega) hS hl dl_1023 dl_1024 dl_1025 dl_1026 dl_1027 ?_
  refine lb_arg C (N := N) (k := 2) rfl (by omega) hS hl dl_1028 dl_1029 dl_1030 dl_1031 dl_1032 ?_
  refine lb_arg C (N := N) (k := 3) rfl (by omega) hS hl dl_1033 dl_1034 dl_1035 dl_1036 dl_1037 ?_
  refine lb_arg C (N := N) (k := 4) rfl (by omega) hS hl dl_1038 dl_1039 dl_1040 dl_1041 dl_1042 ?_
  refine lb_call C.1 (vs := [.int (xs (N + 1)), .int (xs (N + 2)), .int (xs (N + 3)), .int (xs (N + 4))]) (rest := [.int v]) (a := 82) (ci := 11) hM2 (co_N_put (Nat.le_of_ble_eq_true rfl) (Nat.le_of_ble_eq_true rfl)) rfl (by show _ = some 4; decide +kernel) rfl rfl (by decide) ml_L_133 im_N_put se_N_put dl_1043 h2 rfl hP hS hl rfl (Nat.le_of_ble_eq_true rfl) hcs (fun r σ H locs hz hP hS => ?_)
  obtain ⟨rfl, hj⟩ := hz
  exact lv_icmp_eq (tgt := 1217) C.1.1 C.1.2.1 dl_1046 (by decide) (fun _ => K _ _ _ hj hP hS) (fun h => absurd rfl h)
theorem ca_get : lw_case (l := l) (e := e) (meth := meth) (below := below) (Q := Q) (cells := cells) (slots := slots) X p s m c b L xs 1051 := by
  intro C N n σ H locs ls hN hj hn hP hS hl hcs K
  obtain ⟨sp1, hM1, h1⟩ := lp_get (l := l) (X := X) (x0 := xs (N + 1)) (x1 := xs (N + 2)) (x2 := xs (N + 3)) n σ hj hn
  refine lv_aload_n C.1.1 C.1.2.1 dl_1051 rfl (lv_at hl 2 rfl) ?_
  refine lb_arg C (N := N) (k := 1) rfl (by omega) hS hl dl_1052 dl_1053 dl_1054 dl_1055 dl_1056 ?_
  refine lb_arg C (N := N) (k := 2) rfl (by omega) hS hl dl_1057 dl_1058 dl_1059 dl_1060 dl_1061 ?_
  refine lb_arg C (N := N) (k := 3) rfl (by omega) hS hl dl_1062 dl_1063 dl_1064 dl_1065 dl_1066 ?_
  refine lb_call C.1 (vs := [.int (xs (N + 1)), .int (xs (N + 2)), .int (xs (N + 3))]) (rest := []) (a := 0) (ci := 0) hM1 (co_R_get (Nat.le_of_ble_eq_true rfl) (Nat.le_of_ble_eq_true rfl)) rfl (by show _ = some 3; decide +kernel) rfl rfl (by decide) ml_L_134 im_R_get se_R_get dl_1067 h1 rfl hP hS hl rfl (Nat.le_of_ble_eq_true rfl) hcs (fun r σ H locs hz hP hS => ?_)
  obtain ⟨v, rfl, sp2, hM2, h2⟩ := hz
  refine lv_aload_n C.1.1 C.1.2.1 dl_1070 rfl (lv_at hl 1 rfl) ?_
  refine lb_arg C (N := N) (k := 1) rfl (by omega) hS hl dl_1071 dl_1072 dl_1073 dl_1074 dl_1075 ?_
  refine lb_arg C (N := N) (k := 2) rfl (by omega) hS hl dl_1076 dl_1077 dl_1078 dl_1079 dl_1080 ?_
  refine lb_arg C (N := N) (k := 3) rfl (by omega) hS hl dl_1081 dl_1082 dl_1083 dl_1084 dl_1085 ?_
  refine lb_call C.1 (vs := [.int (xs (N + 1)), .int (xs (N + 2)), .int (xs (N + 3))]) (rest := [.int v]) (a := 82) (ci := 11) hM2 (co_N_get (Nat.le_of_ble_eq_true rfl) (Nat.le_of_ble_eq_true rfl)) rfl (by show _ = some 3; decide +kernel) rfl rfl (by decide) ml_L_137 im_N_get se_N_get dl_1086 h2 rfl hP hS hl rfl (Nat.le_of_ble_eq_true rfl) hcs (fun r σ H locs hz hP hS => ?_)
  obtain ⟨rfl, hj⟩ := hz
  exact lv_icmp_eq (tgt := 1217) C.1.1 C.1.2.1 dl_1089 (by decide) (fun _ => K _ _ _ hj hP hS) (fun h => absurd rfl h)
theorem ca_copy : lw_case (l := l) (e := e) (meth := meth) (below := below) (Q := Q) (cells := cells) (slots := slots) X p s m c b L xs 1094 := by
  intro C N n σ H locs ls hN hj hn hP hS hl hcs K
  obtain ⟨sp1, hM1, h1⟩ := lp_copy (l := l) (X := X) (x0 := xs (N + 1)) (x1 := xs (N + 2)) (x2 := xs (N + 3)) (x3 := xs (N + 4)) (x4 := xs (N + 5)) n σ hj hn
  refine lv_aload_n C.1.1 C.1.2.1 dl_1094 rfl (lv_at hl 2 rfl) ?_
  refine lb_arg C (N := N) (k := 1) rfl (by omega) hS hl dl_1095 dl_1096 dl_1097 dl_1098 dl_1099 ?_
  refine lb_arg C (N := N) (k := 2) rfl (by omega) hS hl dl_1100 dl_1101 dl_1102 dl_1103 dl_1104 ?_
  refine lb_arg C (N := N) (k := 3) rfl (by omega) hS hl dl_1105 dl_1106 dl_1107 dl_1108 dl_1109 ?_
  refine lb_arg C (N := N) (k := 4) rfl (by omega) hS hl dl_1110 dl_1111 dl_1112 dl_1113 dl_1114 ?_
  refine lb_arg C (N := N) (k := 5) rfl (by omega) hS hl dl_1115 dl_1116 dl_1117 dl_1118 dl_1119 ?_
  refine lb_call C.1 (vs := [.int (xs (N + 1)), .int (xs (N + 2)), .int (xs (N + 3)), .int (xs (N + 4)), .int (xs (N + 5))]) (rest := []) (a := 0) (ci := 0) hM1 (co_R_copy (Nat.le_of_ble_eq_true rfl) (Nat.le_of_ble_eq_true rfl)) rfl (by show _ = some 5; decide +kernel) rfl rfl (by decide) ml_L_138 im_R_copy se_R_copy dl_1120 h1 rfl hP hS hl rfl (Nat.le_of_ble_eq_true rfl) hcs (fun r σ H locs hz hP hS => ?_)
  obtain ⟨v, rfl, sp2, hM2, h2⟩ := hz
  refine lv_aload_n C.1.1 C.1.2.1 dl_1123 rfl (lv_at hl 1 rfl) ?_
  refine lb_arg C (N := N) (k := 1) rfl (by omega) hS hl dl_1124 dl_1125 dl_1126 dl_1127 dl_1128 ?_
  refine lb_arg C (N := N) (k := 2) rfl (by omega) hS hl dl_1129 dl_1130 dl_1131 dl_1132 dl_1133 ?_
  refine lb_arg C (N := N) (k := 3) rfl (by omega) hS hl dl_1134 dl_1135 dl_1136 dl_1137 dl_1138 ?_
  refine lb_arg C (N := N) (k := 4) rfl (by omega) hS hl dl_1139 dl_1140 dl_1141 dl_1142 dl_1143 ?_
  refine lb_arg C (N := N) (k := 5) rfl (by omega) hS hl dl_1144 dl_1145 dl_1146 dl_1147 dl_1148 ?_
  refine lb_call C.1 (vs := [.int (xs (N + 1)), .int (xs (N + 2)), .int (xs (N + 3)), .int (xs (N + 4)), .int (xs (N + 5))]) (rest := [.int v]) (a := 82) (ci := 11) hM2 (co_N_copy (Nat.le_of_ble_eq_true rfl) (Nat.le_of_ble_eq_true rfl)) rfl (by show _ = some 5; decide +kernel) rfl rfl (by decide) ml_L_142 im_N_copy se_N_copy dl_1149 h2 rfl hP hS hl rfl (Nat.le_of_ble_eq_true rfl) hcs (fun r σ H locs hz hP hS => ?_)
  obtain ⟨rfl, hj⟩ := hz
  exact lv_icmp_eq (tgt := 1217) C.1.1 C.1.2.1 dl_1152 (by decide) (fun _ => K _ _ _ hj hP hS) (fun h => absurd rfl h)
theorem ca_write : lw_case (l := l) (e := e) (meth := meth) (below := below) (Q := Q) (cells := cells) (slots := slots) X p s m c b L xs 1157 := by
  intro C N n σ H locs ls hN hj hn hP hS hl hcs K
  obtain ⟨sp1, hM1, h1⟩ := lp_write (l := l) (X := X) (x0 := xs (N + 1)) n σ hj hn
  refine lv_aload_n C.1.1 C.1.2.1 dl_1157 rfl (lv_at hl 2 rfl) ?_
  refine lb_arg C (N := N) (k := 1) rfl (by omega) hS hl dl_1158 dl_1159 dl_1160 dl_1161 dl_1162 ?_
  refine lb_call C.1 (vs := [.int (xs (N + 1))]) (rest := []) (a := 0) (ci := 0) hM1 (co_R_write (Nat.le_of_ble_eq_true rfl) (Nat.le_of_ble_eq_true rfl)) rfl (by show _ = some 1; decide +kernel) rfl rfl (by decide) ml_L_143 im_R_write se_R_write dl_1163 h1 rfl hP hS hl rfl (Nat.le_of_ble_eq_true rfl) hcs (fun r σ H locs hz hP hS => ?_)
  obtain ⟨v, rfl, sp2, hM2, h2⟩ := hz
  refine lv_aload_n C.1.1 C.1.2.1 dl_1166 rfl (lv_at hl 1 rfl) ?_
  refine lb_arg C (N := N) (k := 1) rfl (by omega) hS hl dl_1167 dl_1168 dl_1169 dl_1170 dl_1171 ?_
  refine lb_call C.1 (vs := [.int (xs (N + 1))]) (rest := [.int v]) (a := 82) (ci := 11) hM2 (co_N_write (Nat.le_of_ble_eq_true rfl) (Nat.le_of_ble_eq_true rfl)) rfl (by show _ = some 1; decide +kernel) rfl rfl (by decide) ml_L_146 im_N_write se_N_write dl_1172 h2 rfl hP hS hl rfl (Nat.le_of_ble_eq_true rfl) hcs (fun r σ H locs hz hP hS => ?_)
  obtain ⟨rfl, hj⟩ := hz
  exact lv_icmp_eq (tgt := 1217) C.1.1 C.1.2.1 dl_1175 (by decide) (fun _ => K _ _ _ hj hP hS) (fun h => absurd rfl h)
theorem ca_count : lw_case (l := l) (e := e) (meth := meth) (below := below) (Q := Q) (cells := cells) (slots := slots) X p s m c b L xs 1180 := by
  intro C N n σ H locs ls hN hj hn hP hS hl hcs K
  obtain ⟨sp1, hM1, h1⟩ := lp_count (l := l) (X := X) (x0 := xs (N + 1)) n σ hj hn
  refine lv_aload_n C.1.1 C.1.2.1 dl_1180 rfl (lv_at hl 2 rfl) ?_
  refine lb_arg C (N := N) (k := 1) rfl (by omega) hS hl dl_1181 dl_1182 dl_1183 dl_1184 dl_1185 ?_
  refine lb_call C.1 (vs := [.int (xs (N + 1))]) (rest := []) (a := 0) (ci := 0) hM1 (co_R_count (Nat.le_of_ble_eq_true rfl) (Nat.le_of_ble_eq_true rfl)) rfl (by show _ = some 1; decide +kernel) rfl rfl (by decide) ml_L_147 im_R_count se_R_count dl_1186 h1 rfl hP hS hl rfl (Nat.le_of_ble_eq_true rfl) hcs (fun r σ H locs hz hP hS => ?_)
  obtain ⟨v, rfl, sp2, hM2, h2⟩ := hz
  refine lv_aload_n C.1.1 C.1.2.1 dl_1189 rfl (lv_at hl 1 rfl) ?_
  refine lb_arg C (N := N) (k := 1) rfl (by omega) hS hl dl_1190 dl_1191 dl_1192 dl_1193 dl_1194 ?_
  refine lb_call C.1 (vs := [.int (xs (N + 1))]) (rest := [.int v]) (a := 82) (ci := 11) hM2 (co_N_count (Nat.le_of_ble_eq_true rfl) (Nat.le_of_ble_eq_true rfl)) rfl (by show _ = some 1; decide +kernel) rfl rfl (by decide) ml_L_150 im_N_count se_N_count dl_1195 h2 rfl hP hS hl rfl (Nat.le_of_ble_eq_true rfl) hcs (fun r σ H locs hz hP hS => ?_)
  obtain ⟨rfl, hj⟩ := hz
  exact lv_icmp_eq (tgt := 1217) C.1.1 C.1.2.1 dl_1198 (by decide) (fun _ => K _ _ _ hj hP hS) (fun h => absurd rfl h)
theorem ca_digest : lw_case (l := l) (e := e) (meth := meth) (below := below) (Q := Q) (cells := cells) (slots := slots) X p s m c b L xs 1203 := by
  intro C N n σ H locs ls hN hj hn hP hS hl hcs K
  obtain ⟨sp1, hM1, h1⟩ := lp_digest (l := l) (X := X) n σ hj hn
  refine lv_aload_n C.1.1 C.1.2.1 dl_1203 rfl (lv_at hl 2 rfl) ?_
  refine lb_call C.1 (vs := []) (rest := []) (a := 0) (ci := 0) hM1 (co_R_digest (Nat.le_of_ble_eq_true rfl) (Nat.le_of_ble_eq_true rfl)) rfl (by show _ = some 0; decide +kernel) rfl rfl (by decide) ml_L_151 im_R_digest se_R_digest dl_1204 h1 rfl hP hS hl rfl (Nat.le_of_ble_eq_true rfl) hcs (fun r σ H locs hz hP hS => ?_)
  obtain ⟨v, rfl, sp2, hM2, h2⟩ := hz
  refine lv_aload_n C.1.1 C.1.2.1 dl_1207 rfl (lv_at hl 1 rfl) ?_
  refine lb_call C.1 (vs := []) (rest := [.long v]) (a := 82) (ci := 11) hM2 (co_N_digest (Nat.le_of_ble_eq_true rfl) (Nat.le_of_ble_eq_true rfl)) rfl (by show _ = some 0; decide +kernel) rfl rfl (by decide) ml_L_155 im_N_digest se_N_digest dl_1208 h2 rfl hP hS hl rfl (Nat.le_of_ble_eq_true rfl) hcs (fun r σ H locs hz hP hS => ?_)
  obtain ⟨rfl, hj⟩ := hz
  refine W.lcmp C.1.1 C.1.2.1 dl_1211 ?_
  exact lv_if_eq (tgt := 1217) C.1.1 C.1.2.1 dl_1212 (by decide) (fun _ => K _ _ _ hj hP hS) (fun h => absurd ((lg_cmp_eq v v).mpr rfl) h)
theorem ca_all_sw : lw_case (l := l) (e := e) (meth := meth) (below := below) (Q := Q) (cells := cells) (slots := slots) X p s m c b L xs 27 := by
  intro C N n σ H locs ls hN hj hn hP hS hl hcs K
  have h3 := C.2.2.2.2
  refine lv_aload_n C.1.1 C.1.2.1 dl_27 rfl (lv_at hl 3 rfl) ?_
  refine lv_iload_n C.1.1 C.1.2.1 dl_28 rfl (lv_at hl 0 rfl) ?_
  refine va_sld C.1.1 C.1.2.1 C.2.1 C.2.2.1 C.2.2.2.1 hS (vi (by omega) (by omega)) dl_29 ?_
  refine lv_bipush (v := 63) C.1.1 C.1.2.1 dl_30 (by decide) ?_
  refine lv_iand C.1.1 C.1.2.1 dl_32 ?_
  generalize xs (nI N).toNatClampNeg &&& 63 = z
  have hend : W p l e room_1 s m #[Value.ref b] below meth c H locs cells slots Q (F0 m 1217 ls []) := K H locs σ (lj_more hj) hP hS
  by_cases h : z.toInt < 0 ∨ 33 < z.toInt
  · exact lv_tableOut (tgt := 1217) C.1.1 C.1.2.1 dl_33 h (by decide) hend
  obtain ⟨j, hz⟩ : ∃ j : Nat, z.toInt = j := ⟨z.toInt.toNat, by omega⟩
  have hj34 : j < 34 := by omega
  rcases lw_34 hj34 with rfl | rfl | rfl | rfl | rfl | rfl | rfl | rfl | rfl | rfl | rfl | rfl | rfl | rfl | rfl | rfl | rfl | rfl | rfl | rfl | rfl | rfl | rfl | rfl | rfl | rfl | rfl | rfl | rfl | rfl | rfl | rfl | rfl | rfl
  · exact lv_tableIn (off := 151) (tgt := 184) C.1.1 C.1.2.1 dl_33 (by rw [hz]; decide) (by rw [hz]; decide) (by rw [hz]; rfl) (by decide) (ca_type C N n σ H locs ls hN hj hn hP hS hl hcs K)
  · exact lv_tableIn (off := 184) (tgt := 217) C.1.1 C.1.2.1 dl_33 (by rw [hz]; decide) (by rw [hz]; decide) (by rw [hz]; rfl) (by decide) (ca_wipe C N n σ H locs ls hN hj hn hP hS hl hcs K)
  · exact lv_tableIn (off := 207) (tgt := 240) C.1.1 C.1.2.1 dl_33 (by rw [hz]; decide) (by rw [hz]; decide) (by rw [hz]; rfl) (by decide) (ca_fault C N n σ H locs ls hN hj hn hP hS hl hcs K)
  · exact lv_tableIn (off := 230) (tgt := 263) C.1.1 C.1.2.1 dl_33 (by rw [hz]; decide) (by rw [hz]; decide) (by rw [hz]; rfl) (by decide) (ca_house C N n σ H locs ls hN hj hn hP hS hl hcs K)
  · exact lv_tableIn (off := 263) (tgt := 296) C.1.1 C.1.2.1 dl_33 (by rw [hz]; decide) (by rw [hz]; decide) (by rw [hz]; rfl) (by decide) (ca_rain C N n σ H locs ls hN hj hn hP hS hl hcs K)
  · exact lv_tableIn (off := 286) (tgt := 319) C.1.1 C.1.2.1 dl_33 (by rw [hz]; decide) (by rw [hz]; decide) (by rw [hz]; rfl) (by decide) (ca_read C N n σ H locs ls hN hj hn hP hS hl hcs K)
  · exact lv_tableIn (off := 309) (tgt := 342) C.1.1 C.1.2.1 dl_33 (by rw [hz]; decide) (by rw [hz]; decide) (by rw [hz]; rfl) (by decide) (ca_undo C N n σ H locs ls hN hj hn hP hS hl hcs K)
  · exact lv_tableIn (off := 322) (tgt := 355) C.1.1 C.1.2.1 dl_33 (by rw [hz]; decide) (by rw [hz]; decide) (by rw [hz]; rfl) (by decide) (ca_set C N n σ H locs ls hN hj hn hP hS hl hcs K)
  · exact lv_tableIn (off := 355) (tgt := 388) C.1.1 C.1.2.1 dl_33 (by rw [hz]; decide) (by rw [hz]; decide) (by rw [hz]; rfl) (by decide) (ca_tiles C N n σ H locs ls hN hj hn hP hS hl hcs K)
  · exact lv_tableIn (off := 388) (tgt := 421) C.1.1 C.1.2.1 dl_33 (by rw [hz]; decide) (by rw [hz]; decide) (by rw [hz]; rfl) (by decide) (ca_purse C N n σ H locs ls hN hj hn hP hS hl hcs K)
  · exact lv_tableIn (off := 421) (tgt := 454) C.1.1 C.1.2.1 dl_33 (by rw [hz]; decide) (by rw [hz]; decide) (by rw [hz]; rfl) (by decide) (ca_harm C N n σ H locs ls hN hj hn hP hS hl hcs K)
  · exact lv_tableIn (off := 454) (tgt := 487) C.1.1 C.1.2.1 dl_33 (by rw [hz]; decide) (by rw [hz]; decide) (by rw [hz]; rfl) (by decide) (ca_laid C N n σ H locs ls hN hj hn hP hS hl hcs K)
  · exact lv_tableIn (off := 487) (tgt := 520) C.1.1 C.1.2.1 dl_33 (by rw [hz]; decide) (by rw [hz]; decide) (by rw [hz]; rfl) (by decide) (ca_all C N n σ H locs ls hN hj hn hP hS hl hcs K)
  · exact lv_tableIn (off := 520) (tgt := 553) C.1.1 C.1.2.1 dl_33 (by rw [hz]; decide) (by rw [hz]; decide) (by rw [hz]; rfl) (by decide) (ca_ring C N n σ H locs ls hN hj hn hP hS hl hcs K)
  · exact lv_tableIn (off := 553) (tgt := 586) C.1.1 C.1.2.1 dl_33 (by rw [hz]; decide) (by rw [hz]; decide) (by rw [hz]; rfl) (by decide) (ca_dry C N n σ H locs ls hN hj hn hP hS hl hcs K)
  · exact lv_tableIn (off := 596) (tgt := 629) C.1.1 C.1.2.1 dl_33 (by rw [hz]; decide) (by rw [hz]; decide) (by rw [hz]; rfl) (by decide) (ca_wish C N n σ H locs ls hN hj hn hP hS hl hcs K)
  · exact lv_tableIn (off := 639) (tgt := 672) C.1.1 C.1.2.1 dl_33 (by rw [hz]; decide) (by rw [hz]; decide) (by rw [hz]; rfl) (by decide) (ca_want C N n σ H locs ls hN hj hn hP hS hl hcs K)
  · exact lv_tableIn (off := 672) (tgt := 705) C.1.1 C.1.2.1 dl_33 (by rw [hz]; decide) (by rw [hz]; decide) (by rw [hz]; rfl) (by decide) (ca_market C N n σ H locs ls hN hj hn hP hS hl hcs K)
  · exact lv_tableIn (off := 695) (tgt := 728) C.1.1 C.1.2.1 dl_33 (by rw [hz]; decide) (by rw [hz]; decide) (by rw [hz]; rfl) (by decide) (ca_best C N n σ H locs ls hN hj hn hP hS hl hcs K)
  · exact lv_tableIn (off := 718) (tgt := 751) C.1.1 C.1.2.1 dl_33 (by rw [hz]; decide) (by rw [hz]; decide) (by rw [hz]; rfl) (by decide) (ca_fact C N n σ H locs ls hN hj hn hP hS hl hcs K)
  · exact lv_tableIn (off := 761) (tgt := 794) C.1.1 C.1.2.1 dl_33 (by rw [hz]; decide) (by rw [hz]; decide) (by rw [hz]; rfl) (by decide) (ca_forget C N n σ H locs ls hN hj hn hP hS hl hcs K)
  · exact lv_tableIn (off := 774) (tgt := 807) C.1.1 C.1.2.1 dl_33 (by rw [hz]; decide) (by rw [hz]; decide) (by rw [hz]; rfl) (by decide) (ca_could C N n σ H locs ls hN hj hn hP hS hl hcs K)
  · exact lv_tableIn (off := 797) (tgt := 830) C.1.1 C.1.2.1 dl_33 (by rw [hz]; decide) (by rw [hz]; decide) (by rw [hz]; rfl) (by decide) (ca_ask C N n σ H locs ls hN hj hn hP hS hl hcs K)
  · exact lv_tableIn (off := 820) (tgt := 853) C.1.1 C.1.2.1 dl_33 (by rw [hz]; decide) (by rw [hz]; decide) (by rw [hz]; rfl) (by decide) (ca_hands C N n σ H locs ls hN hj hn hP hS hl hcs K)
  · exact lv_tableIn (off := 853) (tgt := 886) C.1.1 C.1.2.1 dl_33 (by rw [hz]; decide) (by rw [hz]; decide) (by rw [hz]; rfl) (by decide) (ca_claim C N n σ H locs ls hN hj hn hP hS hl hcs K)
  · exact lv_tableIn (off := 886) (tgt := 919) C.1.1 C.1.2.1 dl_33 (by rw [hz]; decide) (by rw [hz]; decide) (by rw [hz]; rfl) (by decide) (ca_liars C N n σ H locs ls hN hj hn hP hS hl hcs K)
  · exact lv_tableIn (off := 899) (tgt := 932) C.1.1 C.1.2.1 dl_33 (by rw [hz]; decide) (by rw [hz]; decide) (by rw [hz]; rfl) (by decide) (ca_sheet C N n σ H locs ls hN hj hn hP hS hl hcs K)
  · exact lv_tableIn (off := 942) (tgt := 975) C.1.1 C.1.2.1 dl_33 (by rw [hz]; decide) (by rw [hz]; decide) (by rw [hz]; rfl) (by decide) (ca_lose C N n σ H locs ls hN hj hn hP hS hl hcs K)
  · exact lv_tableIn (off := 965) (tgt := 998) C.1.1 C.1.2.1 dl_33 (by rw [hz]; decide) (by rw [hz]; decide) (by rw [hz]; rfl) (by decide) (ca_put C N n σ H locs ls hN hj hn hP hS hl hcs K)
  · exact lv_tableIn (off := 1018) (tgt := 1051) C.1.1 C.1.2.1 dl_33 (by rw [hz]; decide) (by rw [hz]; decide) (by rw [hz]; rfl) (by decide) (ca_get C N n σ H locs ls hN hj hn hP hS hl hcs K)
  · exact lv_tableIn (off := 1061) (tgt := 1094) C.1.1 C.1.2.1 dl_33 (by rw [hz]; decide) (by rw [hz]; decide) (by rw [hz]; rfl) (by decide) (ca_copy C N n σ H locs ls hN hj hn hP hS hl hcs K)
  · exact lv_tableIn (off := 1124) (tgt := 1157) C.1.1 C.1.2.1 dl_33 (by rw [hz]; decide) (by rw [hz]; decide) (by rw [hz]; rfl) (by decide) (ca_write C N n σ H locs ls hN hj hn hP hS hl hcs K)
  · exact lv_tableIn (off := 1147) (tgt := 1180) C.1.1 C.1.2.1 dl_33 (by rw [hz]; decide) (by rw [hz]; decide) (by rw [hz]; rfl) (by decide) (ca_count C N n σ H locs ls hN hj hn hP hS hl hcs K)
  · exact lv_tableIn (off := 1170) (tgt := 1203) C.1.1 C.1.2.1 dl_33 (by rw [hz]; decide) (by rw [hz]; decide) (by rw [hz]; rfl) (by decide) (ca_digest C N n σ H locs ls hN hj hn hP hS hl hcs K)
end LAW
