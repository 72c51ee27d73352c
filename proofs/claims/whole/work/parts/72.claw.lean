/-! the law's cases -/
section LAW0
variable {X : ra_X} {p : Program} {l : Launch} {e : Env} {R : Room} {s : State} {m : MethodId} {args : Array Value} {below : List Frame} {meth : Method} {c : Code} {nL : Nat} {Q : State → Prop} {cc : ByteArray} {own : String} {pc : Nat} {H : Heap} {locs : List Loc} {ls : Array Slot} {σ : ra_St} {cells slots : Nat}
theorem lb_call (F : ra_Fx X p R s m args c cc nL own) {y : ra_MI} {sp : ra_Sp} {a i ci N : Nat} {T : u_T} {vs rest st0 : List Value} {Z : ra_R} {lv : List (Nat × Value)} (hM : ra_MOK l X y sp) (G : ra_CO R y) (hn1 : y.2.2.2.2.2 = vs.length + 1) (hn : (parseMethodDescriptor y.1.desc).map (fun d => d.parameters.length) = some vs.length) (hci : ra_cl[ci]? = some (y.1.cls, T, N)) (hc : ra_cls a = ci + 4) (h99 : ci + 4 ≠ 99) (hw : Cond.methodLink own i y.1 ∈ ra_WS) (hw2 : Cond.instanceMethod y.1 ∈ ra_WS) (hw3 : Cond.selects y.1.cls y.1 y.1 ∈ ra_WS) (hd : decode cc pc = .ok (.invokevirtual i, 3)) (hsp : sp (.ref a :: vs) σ Z) (hc1 : ra_c1 (.ref a :: vs) = true)
    (hP : va_P X.2.1 ra_cl (ra_wl X σ) H) (hS : va_S (ra_A X) s.heap H locs) (hl : lv_has ls nL lv) (hst : st0 = (vs.map (ra_tv X)).reverse ++ .ref (X.1 a) :: rest) (hroom : (rest.map fun v => v.category).sum ≤ 8) (hcs : cells ≤ R.cells ∧ slots ≤ R.slots)
    (k : ∀ (r : Option Value) (σ' : ra_St) (H1 : Heap) (locs1 : List Loc), Z r σ' → va_P X.2.1 ra_cl (ra_wl X σ') H1 → va_S (ra_A X) s.heap H1 locs1 → W p l e R s m args below meth c H1 locs1 cells slots Q (F0 m (pc + 3) ls ((r.map (ra_tv X)).toList ++ rest))) : W p l e R s m args below meth c H locs cells slots Q (F0 m pc ls st0) := by
  subst hst
  obtain ⟨g1, g2, g3, g4, g5, g6, g7, g8⟩ := G
  have hm := hM (.ref a :: vs) σ Z hc1 (by rw [hn1]; rfl) hsp
  have hg := ra_wl_get X σ (ra_lt hc h99)
  rw [ra_el_obj _ hc] at hg
  have cb : CallB R s args own i y.1 y.2.1 y.2.2.1 y.2.2.2.1 (.code y.1 y.2.1 y.2.2.1 y.2.2.2.1 :: ra_WS) y.2.2.2.2.1 0 0 vs.length := callB_of vs.length F.2.2.2.2.1 (ra_goodAll g5) rfl g1 g2 (F.2.2.2.2.1 _ g6) (F.2.2.2.2.1 _ hw) ⟨g7, g8, hn⟩ ⟨g3, g4⟩
  have hr := va_runV (p := p) (e := e) (below := below) (meth := meth) (H := H) (locs := locs) (cells := cells) (slots := slots) (C := y.1.cls) (b := X.1 a) (g := F0 m pc ls ((vs.map (ra_tv X)).reverse ++ .ref (X.1 a) :: rest)) (As := vs.map (ra_tv X)) (rest := rest) (cc := cc) (nL := nL) (Ts := ra_WS) ⟨F.1, F.2.1, F.2.2.1, F.2.2.2.1, F.2.2.2.2.1⟩ hm ⟨cb, F.2.2.2.2.1 _ hw2, F.2.2.2.2.1 _ hw3⟩ ⟨ra_blind, va_recv F.2.2.2.2.2.1 hP hci hg, fun U hU hW => ⟨rfl, ra_Wo_at F hP hS U hU hW⟩⟩ rfl (by rw [List.length_map]) hl.1 rfl (lv_room hroom) hd hcs
  exact rw_ran hr hS k
end LAW0
theorem dl_0 : decode code 0 = .ok (.new 7, 3) := by decide +kernel
theorem dl_3 : decode code 3 = .ok (.dup, 1) := by decide +kernel
theorem dl_4 : decode code 4 = .ok (.invokespecial 9, 3) := by decide +kernel
theorem dl_7 : decode code 7 = .ok (.astore_n 1, 1) := by decide +kernel
theorem dl_8 : decode code 8 = .ok (.new 10, 3) := by decide +kernel
theorem dl_11 : decode code 11 = .ok (.dup, 1) := by decide +kernel
theorem dl_12 : decode code 12 = .ok (.invokespecial 12, 3) := by decide +kernel
theorem dl_15 : decode code 15 = .ok (.astore_n 2, 1) := by decide +kernel
theorem dl_16 : decode code 16 = .ok (.iconst 0, 1) := by decide +kernel
theorem dl_17 : decode code 17 = .ok (.istore_n 3, 1) := by decide +kernel
theorem dl_18 : decode code 18 = .ok (.iload_n 3, 1) := by decide +kernel
theorem dl_19 : decode code 19 = .ok (.aload_n 0, 1) := by decide +kernel
theorem dl_20 : decode code 20 = .ok (.arraylength, 1) := by decide +kernel
theorem dl_21 : decode code 21 = .ok (.bipush 6, 2) := by decide +kernel
theorem dl_23 : decode code 23 = .ok (.isub, 1) := by decide +kernel
theorem dl_24 : decode code 24 = .ok (.if_icmp .gt 1199, 3) := by decide +kernel
theorem dl_27 : decode code 27 = .ok (.aload_n 0, 1) := by decide +kernel
theorem dl_28 : decode code 28 = .ok (.iload_n 3, 1) := by decide +kernel
theorem dl_29 : decode code 29 = .ok (.iaload, 1) := by decide +kernel
theorem dl_30 : decode code 30 = .ok (.bipush 63, 2) := by decide +kernel
theorem dl_32 : decode code 32 = .ok (.iand, 1) := by decide +kernel
theorem dl_33 : decode code 33 = .ok (.tableswitch 1184 0 33 #[151, 184, 207, 230, 263, 286, 309, 322, 355, 388, 421, 454, 487, 520, 553, 596, 639, 672, 695, 718, 761, 774, 797, 820, 853, 886, 899, 942, 965, 1018, 1061, 1124, 1147, 1170], 151) := by decide +kernel
theorem dl_184 : decode code 184 = .ok (.aload_n 1, 1) := by decide +kernel
theorem dl_185 : decode code 185 = .ok (.aload_n 0, 1) := by decide +kernel
theorem dl_186 : decode code 186 = .ok (.iload_n 3, 1) := by decide +kernel
theorem dl_187 : decode code 187 = .ok (.iconst 1, 1) := by decide +kernel
theorem dl_188 : decode code 188 = .ok (.iadd, 1) := by decide +kernel
theorem dl_189 : decode code 189 = .ok (.iaload, 1) := by decide +kernel
theorem dl_190 : decode code 190 = .ok (.aload_n 0, 1) := by decide +kernel
theorem dl_191 : decode code 191 = .ok (.iload_n 3, 1) := by decide +kernel
theorem dl_192 : decode code 192 = .ok (.iconst 2, 1) := by decide +kernel
theorem dl_193 : decode code 193 = .ok (.iadd, 1) := by decide +kernel
theorem dl_194 : decode code 194 = .ok (.iaload, 1) := by decide +kernel
theorem dl_195 : decode code 195 = .ok (.invokevirtual 13, 3) := by decide +kernel
theorem dl_198 : decode code 198 = .ok (.aload_n 2, 1) := by decide +kernel
theorem dl_199 : decode code 199 = .ok (.aload_n 0, 1) := by decide +kernel
theorem dl_200 : decode code 200 = .ok (.iload_n 3, 1) := by decide +kernel
theorem dl_201 : decode code 201 = .ok (.iconst 1, 1) := by decide +kernel
theorem dl_202 : decode code 202 = .ok (.iadd, 1) := by decide +kernel
theorem dl_203 : decode code 203 = .ok (.iaload, 1) := by decide +kernel
theorem dl_204 : decode code 204 = .ok (.aload_n 0, 1) := by decide +kernel
theorem dl_205 : decode code 205 = .ok (.iload_n 3, 1) := by decide +kernel
theorem dl_206 : decode code 206 = .ok (.iconst 2, 1) := by decide +kernel
theorem dl_207 : decode code 207 = .ok (.iadd, 1) := by decide +kernel
theorem dl_208 : decode code 208 = .ok (.iaload, 1) := by decide +kernel
theorem dl_209 : decode code 209 = .ok (.invokevirtual 17, 3) := by decide +kernel
theorem dl_212 : decode code 212 = .ok (.if_icmp .eq 1005, 3) := by decide +kernel
theorem dl_215 : decode code 215 = .ok (.iconst 0, 1) := by decide +kernel
theorem dl_216 : decode code 216 = .ok (.ireturn, 1) := by decide +kernel
theorem dl_217 : decode code 217 = .ok (.aload_n 1, 1) := by decide +kernel
theorem dl_218 : decode code 218 = .ok (.aload_n 0, 1) := by decide +kernel
theorem dl_219 : decode code 219 = .ok (.iload_n 3, 1) := by decide +kernel
theorem dl_220 : decode code 220 = .ok (.iconst 1, 1) := by decide +kernel
theorem dl_221 : decode code 221 = .ok (.iadd, 1) := by decide +kernel
theorem dl_222 : decode code 222 = .ok (.iaload, 1) := by decide +kernel
theorem dl_223 : decode code 223 = .ok (.invokevirtual 18, 3) := by decide +kernel
theorem dl_226 : decode code 226 = .ok (.aload_n 2, 1) := by decide +kernel
theorem dl_227 : decode code 227 = .ok (.aload_n 0, 1) := by decide +kernel
theorem dl_228 : decode code 228 = .ok (.iload_n 3, 1) := by decide +kernel
theorem dl_229 : decode code 229 = .ok (.iconst 1, 1) := by decide +kernel
theorem dl_230 : decode code 230 = .ok (.iadd, 1) := by decide +kernel
theorem dl_231 : decode code 231 = .ok (.iaload, 1) := by decide +kernel
theorem dl_232 : decode code 232 = .ok (.invokevirtual 22, 3) := by decide +kernel
theorem dl_235 : decode code 235 = .ok (.if_icmp .eq 982, 3) := by decide +kernel
theorem dl_238 : decode code 238 = .ok (.iconst 0, 1) := by decide +kernel
theorem dl_239 : decode code 239 = .ok (.ireturn, 1) := by decide +kernel
theorem dl_240 : decode code 240 = .ok (.aload_n 1, 1) := by decide +kernel
theorem dl_241 : decode code 241 = .ok (.aload_n 0, 1) := by decide +kernel
theorem dl_242 : decode code 242 = .ok (.iload_n 3, 1) := by decide +kernel
theorem dl_243 : decode code 243 = .ok (.iconst 1, 1) := by decide +kernel
theorem dl_244 : decode code 244 = .ok (.iadd, 1) := by decide +kernel
theorem dl_245 : decode code 245 = .ok (.iaload, 1) := by decide +kernel
theorem dl_246 : decode code 246 = .ok (.invokevirtual 23, 3) := by decide +kernel
theorem dl_249 : decode code 249 = .ok (.aload_n 2, 1) := by decide +kernel
theorem dl_250 : decode code 250 = .ok (.aload_n 0, 1) := by decide +kernel
theorem dl_251 : decode code 251 = .ok (.iload_n 3, 1) := by decide +kernel
theorem dl_252 : decode code 252 = .ok (.iconst 1, 1) := by decide +kernel
theorem dl_253 : decode code 253 = .ok (.iadd, 1) := by decide +kernel
theorem dl_254 : decode code 254 = .ok (.iaload, 1) := by decide +kernel
theorem dl_255 : decode code 255 = .ok (.invokevirtual 26, 3) := by decide +kernel
theorem dl_258 : decode code 258 = .ok (.if_icmp .eq 959, 3) := by decide +kernel
theorem dl_261 : decode code 261 = .ok (.iconst 0, 1) := by decide +kernel
theorem dl_262 : decode code 262 = .ok (.ireturn, 1) := by decide +kernel
theorem dl_263 : decode code 263 = .ok (.aload_n 1, 1) := by decide +kernel
theorem dl_264 : decode code 264 = .ok (.aload_n 0, 1) := by decide +kernel
theorem dl_265 : decode code 265 = .ok (.iload_n 3, 1) := by decide +kernel
theorem dl_266 : decode code 266 = .ok (.iconst 1, 1) := by decide +kernel
theorem dl_267 : decode code 267 = .ok (.iadd, 1) := by decide +kernel
theorem dl_268 : decode code 268 = .ok (.iaload, 1) := by decide +kernel
theorem dl_269 : decode code 269 = .ok (.aload_n 0, 1) := by decide +kernel
theorem dl_270 : decode code 270 = .ok (.iload_n 3, 1) := by decide +kernel
theorem dl_271 : decode code 271 = .ok (.iconst 2, 1) := by decide +kernel
theorem dl_272 : decode code 272 = .ok (.iadd, 1) := by decide +kernel
theorem dl_273 : decode code 273 = .ok (.iaload, 1) := by decide +kernel
theorem dl_274 : decode code 274 = .ok (.invokevirtual 27, 3) := by decide +kernel
theorem dl_277 : decode code 277 = .ok (.aload_n 2, 1) := by decide +kernel
theorem dl_278 : decode code 278 = .ok (.aload_n 0, 1) := by decide +kernel
theorem dl_279 : decode code 279 = .ok (.iload_n 3, 1) := by decide +kernel
theorem dl_280 : decode code 280 = .ok (.iconst 1, 1) := by decide +kernel
theorem dl_281 : decode code 281 = .ok (.iadd, 1) := by decide +kernel
theorem dl_282 : decode code 282 = .ok (.iaload, 1) := by decide +kernel
theorem dl_283 : decode code 283 = .ok (.aload_n 0, 1) := by decide +kernel
theorem dl_284 : decode code 284 = .ok (.iload_n 3, 1) := by decide +kernel
theorem dl_285 : decode code 285 = .ok (.iconst 2, 1) := by decide +kernel
theorem dl_286 : decode code 286 = .ok (.iadd, 1) := by decide +kernel
theorem dl_287 : decode code 287 = .ok (.iaload, 1) := by decide +kernel
theorem dl_288 : decode code 288 = .ok (.invokevirtual 30, 3) := by decide +kernel
theorem dl_291 : decode code 291 = .ok (.if_icmp .eq 926, 3) := by decide +kernel
theorem dl_294 : decode code 294 = .ok (.iconst 0, 1) := by decide +kernel
theorem dl_295 : decode code 295 = .ok (.ireturn, 1) := by decide +kernel
theorem dl_296 : decode code 296 = .ok (.aload_n 1, 1) := by decide +kernel
theorem dl_297 : decode code 297 = .ok (.aload_n 0, 1) := by decide +kernel
theorem dl_298 : decode code 298 = .ok (.iload_n 3, 1) := by decide +kernel
theorem dl_299 : decode code 299 = .ok (.iconst 1, 1) := by decide +kernel
theorem dl_300 : decode code 300 = .ok (.iadd, 1) := by decide +kernel
theorem dl_301 : decode code 301 = .ok (.iaload, 1) := by decide +kernel
theorem dl_302 : decode code 302 = .ok (.invokevirtual 31, 3) := by decide +kernel
theorem dl_305 : decode code 305 = .ok (.aload_n 2, 1) := by decide +kernel
theorem dl_306 : decode code 306 = .ok (.aload_n 0, 1) := by decide +kernel
theorem dl_307 : decode code 307 = .ok (.iload_n 3, 1) := by decide +kernel
theorem dl_308 : decode code 308 = .ok (.iconst 1, 1) := by decide +kernel
theorem dl_309 : decode code 309 = .ok (.iadd, 1) := by decide +kernel
theorem dl_310 : decode code 310 = .ok (.iaload, 1) := by decide +kernel
theorem dl_311 : decode code 311 = .ok (.invokevirtual 34, 3) := by decide +kernel
theorem dl_314 : decode code 314 = .ok (.if_icmp .eq 903, 3) := by decide +kernel
theorem dl_317 : decode code 317 = .ok (.iconst 0, 1) := by decide +kernel
theorem dl_318 : decode code 318 = .ok (.ireturn, 1) := by decide +kernel
theorem dl_319 : decode code 319 = .ok (.aload_n 1, 1) := by decide +kernel
theorem dl_320 : decode code 320 = .ok (.aload_n 0, 1) := by decide +kernel
theorem dl_321 : decode code 321 = .ok (.iload_n 3, 1) := by decide +kernel
theorem dl_322 : decode code 322 = .ok (.iconst 1, 1) := by decide +kernel
theorem dl_323 : decode code 323 = .ok (.iadd, 1) := by decide +kernel
theorem dl_324 : decode code 324 = .ok (.iaload, 1) := by decide +kernel
theorem dl_325 : decode code 325 = .ok (.invokevirtual 35, 3) := by decide +kernel
theorem dl_328 : decode code 328 = .ok (.aload_n 2, 1) := by decide +kernel
theorem dl_329 : decode code 329 = .ok (.aload_n 0, 1) := by decide +kernel
theorem dl_330 : decode code 330 = .ok (.iload_n 3, 1) := by decide +kernel
theorem dl_331 : decode code 331 = .ok (.iconst 1, 1) := by decide +kernel
theorem dl_332 : decode code 332 = .ok (.iadd, 1) := by decide +kernel
theorem dl_333 : decode code 333 = .ok (.iaload, 1) := by decide +kernel
theorem dl_334 : decode code 334 = .ok (.invokevirtual 38, 3) := by decide +kernel
theorem dl_337 : decode code 337 = .ok (.if_icmp .eq 880, 3) := by decide +kernel
theorem dl_340 : decode code 340 = .ok (.iconst 0, 1) := by decide +kernel
theorem dl_341 : decode code 341 = .ok (.ireturn, 1) := by decide +kernel
theorem dl_342 : decode code 342 = .ok (.aload_n 1, 1) := by decide +kernel
theorem dl_343 : decode code 343 = .ok (.invokevirtual 39, 3) := by decide +kernel
theorem dl_346 : decode code 346 = .ok (.aload_n 2, 1) := by decide +kernel
theorem dl_347 : decode code 347 = .ok (.invokevirtual 43, 3) := by decide +kernel
theorem dl_350 : decode code 350 = .ok (.if_icmp .eq 867, 3) := by decide +kernel
theorem dl_353 : decode code 353 = .ok (.iconst 0, 1) := by decide +kernel
theorem dl_354 : decode code 354 = .ok (.ireturn, 1) := by decide +kernel
theorem dl_355 : decode code 355 = .ok (.aload_n 1, 1) := by decide +kernel
theorem dl_356 : decode code 356 = .ok (.aload_n 0, 1) := by decide +kernel
theorem dl_357 : decode code 357 = .ok (.iload_n 3, 1) := by decide +kernel
theorem dl_358 : decode code 358 = .ok (.iconst 1, 1) := by decide +kernel
theorem dl_359 : decode code 359 = .ok (.iadd, 1) := by decide +kernel
theorem dl_360 : decode code 360 = .ok (.iaload, 1) := by decide +kernel
theorem dl_361 : decode code 361 = .ok (.aload_n 0, 1) := by decide +kernel
theorem dl_362 : decode code 362 = .ok (.iload_n 3, 1) := by decide +kernel
theorem dl_363 : decode code 363 = .ok (.iconst 2, 1) := by decide +kernel
theorem dl_364 : decode code 364 = .ok (.iadd, 1) := by decide +kernel
theorem dl_365 : decode code 365 = .ok (.iaload, 1) := by decide +kernel
theorem dl_366 : decode code 366 = .ok (.invokevirtual 44, 3) := by decide +kernel
theorem dl_369 : decode code 369 = .ok (.aload_n 2, 1) := by decide +kernel
theorem dl_370 : decode code 370 = .ok (.aload_n 0, 1) := by decide +kernel
theorem dl_371 : decode code 371 = .ok (.iload_n 3, 1) := by decide +kernel
theorem dl_372 : decode code 372 = .ok (.iconst 1, 1) := by decide +kernel
theorem dl_373 : decode code 373 = .ok (.iadd, 1) := by decide +kernel
theorem dl_374 : decode code 374 = .ok (.iaload, 1) := by decide +kernel
theorem dl_375 : decode code 375 = .ok (.aload_n 0, 1) := by decide +kernel
theorem dl_376 : decode code 376 = .ok (.iload_n 3, 1) := by decide +kernel
theorem dl_377 : decode code 377 = .ok (.iconst 2, 1) := by decide +kernel
theorem dl_378 : decode code 378 = .ok (.iadd, 1) := by decide +kernel
theorem dl_379 : decode code 379 = .ok (.iaload, 1) := by decide +kernel
theorem dl_380 : decode code 380 = .ok (.invokevirtual 47, 3) := by decide +kernel
theorem dl_383 : decode code 383 = .ok (.if_icmp .eq 834, 3) := by decide +kernel
theorem dl_386 : decode code 386 = .ok (.iconst 0, 1) := by decide +kernel
theorem dl_387 : decode code 387 = .ok (.ireturn, 1) := by decide +kernel
theorem dl_388 : decode code 388 = .ok (.aload_n 1, 1) := by decide +kernel
theorem dl_389 : decode code 389 = .ok (.aload_n 0, 1) := by decide +kernel
theorem dl_390 : decode code 390 = .ok (.iload_n 3, 1) := by decide +kernel
theorem dl_391 : decode code 391 = .ok (.iconst 1, 1) := by decide +kernel
theorem dl_392 : decode code 392 = .ok (.iadd, 1) := by decide +kernel
theorem dl_393 : decode code 393 = .ok (.iaload, 1) := by decide +kernel
theorem dl_394 : decode code 394 = .ok (.aload_n 0, 1) := by decide +kernel
theorem dl_395 : decode code 395 = .ok (.iload_n 3, 1) := by decide +kernel
theorem dl_396 : decode code 396 = .ok (.iconst 2, 1) := by decide +kernel
theorem dl_397 : decode code 397 = .ok (.iadd, 1) := by decide +kernel
theorem dl_398 : decode code 398 = .ok (.iaload, 1) := by decide +kernel
theorem dl_399 : decode code 399 = .ok (.invokevirtual 48, 3) := by decide +kernel
theorem dl_402 : decode code 402 = .ok (.aload_n 2, 1) := by decide +kernel
theorem dl_403 : decode code 403 = .ok (.aload_n 0, 1) := by decide +kernel
theorem dl_404 : decode code 404 = .ok (.iload_n 3, 1) := by decide +kernel
theorem dl_405 : decode code 405 = .ok (.iconst 1, 1) := by decide +kernel
theorem dl_406 : decode code 406 = .ok (.iadd, 1) := by decide +kernel
theorem dl_407 : decode code 407 = .ok (.iaload, 1) := by decide +kernel
theorem dl_408 : decode code 408 = .ok (.aload_n 0, 1) := by decide +kernel
theorem dl_409 : decode code 409 = .ok (.iload_n 3, 1) := by decide +kernel
theorem dl_410 : decode code 410 = .ok (.iconst 2, 1) := by decide +kernel
theorem dl_411 : decode code 411 = .ok (.iadd, 1) := by decide +kernel
theorem dl_412 : decode code 412 = .ok (.iaload, 1) := by decide +kernel
theorem dl_413 : decode code 413 = .ok (.invokevirtual 51, 3) := by decide +kernel
theorem dl_416 : decode code 416 = .ok (.if_icmp .eq 801, 3) := by decide +kernel
theorem dl_419 : decode code 419 = .ok (.iconst 0, 1) := by decide +kernel
theorem dl_420 : decode code 420 = .ok (.ireturn, 1) := by decide +kernel
theorem dl_421 : decode code 421 = .ok (.aload_n 1, 1) := by decide +kernel
theorem dl_422 : decode code 422 = .ok (.aload_n 0, 1) := by decide +kernel
theorem dl_423 : decode code 423 = .ok (.iload_n 3, 1) := by decide +kernel
theorem dl_424 : decode code 424 = .ok (.iconst 1, 1) := by decide +kernel
theorem dl_425 : decode code 425 = .ok (.iadd, 1) := by decide +kernel
theorem dl_426 : decode code 426 = .ok (.iaload, 1) := by decide +kernel
theorem dl_427 : decode code 427 = .ok (.aload_n 0, 1) := by decide +kernel
theorem dl_428 : decode code 428 = .ok (.iload_n 3, 1) := by decide +kernel
theorem dl_429 : decode code 429 = .ok (.iconst 2, 1) := by decide +kernel
theorem dl_430 : decode code 430 = .ok (.iadd, 1) := by decide +kernel
theorem dl_431 : decode code 431 = .ok (.iaload, 1) := by decide +kernel
theorem dl_432 : decode code 432 = .ok (.invokevirtual 52, 3) := by decide +kernel
theorem dl_435 : decode code 435 = .ok (.aload_n 2, 1) := by decide +kernel
theorem dl_436 : decode code 436 = .ok (.aload_n 0, 1) := by decide +kernel
theorem dl_437 : decode code 437 = .ok (.iload_n 3, 1) := by decide +kernel
theorem dl_438 : decode code 438 = .ok (.iconst 1, 1) := by decide +kernel
theorem dl_439 : decode code 439 = .ok (.iadd, 1) := by decide +kernel
theorem dl_440 : decode code 440 = .ok (.iaload, 1) := by decide +kernel
theorem dl_441 : decode code 441 = .ok (.aload_n 0, 1) := by decide +kernel
theorem dl_442 : decode code 442 = .ok (.iload_n 3, 1) := by decide +kernel
theorem dl_443 : decode code 443 = .ok (.iconst 2, 1) := by decide +kernel
theorem dl_444 : decode code 444 = .ok (.iadd, 1) := by decide +kernel
theorem dl_445 : decode code 445 = .ok (.iaload, 1) := by decide +kernel
theorem dl_446 : decode code 446 = .ok (.invokevirtual 55, 3) := by decide +kernel
theorem dl_449 : decode code 449 = .ok (.if_icmp .eq 768, 3) := by decide +kernel
theorem dl_452 : decode code 452 = .ok (.iconst 0, 1) := by decide +kernel
theorem dl_453 : decode code 453 = .ok (.ireturn, 1) := by decide +kernel
theorem dl_454 : decode code 454 = .ok (.aload_n 1, 1) := by decide +kernel
theorem dl_455 : decode code 455 = .ok (.aload_n 0, 1) := by decide +kernel
theorem dl_456 : decode code 456 = .ok (.iload_n 3, 1) := by decide +kernel
theorem dl_457 : decode code 457 = .ok (.iconst 1, 1) := by decide +kernel
theorem dl_458 : decode code 458 = .ok (.iadd, 1) := by decide +kernel
theorem dl_459 : decode code 459 = .ok (.iaload, 1) := by decide +kernel
theorem dl_460 : decode code 460 = .ok (.aload_n 0, 1) := by decide +kernel
theorem dl_461 : decode code 461 = .ok (.iload_n 3, 1) := by decide +kernel
theorem dl_462 : decode code 462 = .ok (.iconst 2, 1) := by decide +kernel
theorem dl_463 : decode code 463 = .ok (.iadd, 1) := by decide +kernel
theorem dl_464 : decode code 464 = .ok (.iaload, 1) := by decide +kernel
theorem dl_465 : decode code 465 = .ok (.invokevirtual 56, 3) := by decide +kernel
theorem dl_468 : decode code 468 = .ok (.aload_n 2, 1) := by decide +kernel
theorem dl_469 : decode code 469 = .ok (.aload_n 0, 1) := by decide +kernel
theorem dl_470 : decode code 470 = .ok (.iload_n 3, 1) := by decide +kernel
theorem dl_471 : decode code 471 = .ok (.iconst 1, 1) := by decide +kernel
theorem dl_472 : decode code 472 = .ok (.iadd, 1) := by decide +kernel
theorem dl_473 : decode code 473 = .ok (.iaload, 1) := by decide +kernel
theorem dl_474 : decode code 474 = .ok (.aload_n 0, 1) := by decide +kernel
theorem dl_475 : decode code 475 = .ok (.iload_n 3, 1) := by decide +kernel
theorem dl_476 : decode code 476 = .ok (.iconst 2, 1) := by decide +kernel
theorem dl_477 : decode code 477 = .ok (.iadd, 1) := by decide +kernel
theorem dl_478 : decode code 478 = .ok (.iaload, 1) := by decide +kernel
theorem dl_479 : decode code 479 = .ok (.invokevirtual 59, 3) := by decide +kernel
theorem dl_482 : decode code 482 = .ok (.if_icmp .eq 735, 3) := by decide +kernel
theorem dl_485 : decode code 485 = .ok (.iconst 0, 1) := by decide +kernel
theorem dl_486 : decode code 486 = .ok (.ireturn, 1) := by decide +kernel
theorem dl_487 : decode code 487 = .ok (.aload_n 1, 1) := by decide +kernel
theorem dl_488 : decode code 488 = .ok (.aload_n 0, 1) := by decide +kernel
theorem dl_489 : decode code 489 = .ok (.iload_n 3, 1) := by decide +kernel
theorem dl_490 : decode code 490 = .ok (.iconst 1, 1) := by decide +kernel
theorem dl_491 : decode code 491 = .ok (.iadd, 1) := by decide +kernel
theorem dl_492 : decode code 492 = .ok (.iaload, 1) := by decide +kernel
theorem dl_493 : decode code 493 = .ok (.aload_n 0, 1) := by decide +kernel
theorem dl_494 : decode code 494 = .ok (.iload_n 3, 1) := by decide +kernel
theorem dl_495 : decode code 495 = .ok (.iconst 2, 1) := by decide +kernel
theorem dl_496 : decode code 496 = .ok (.iadd, 1) := by decide +kernel
theorem dl_497 : decode code 497 = .ok (.iaload, 1) := by decide +kernel
theorem dl_498 : decode code 498 = .ok (.invokevirtual 60, 3) := by decide +kernel
theorem dl_501 : decode code 501 = .ok (.aload_n 2, 1) := by decide +kernel
theorem dl_502 : decode code 502 = .ok (.aload_n 0, 1) := by decide +kernel
theorem dl_503 : decode code 503 = .ok (.iload_n 3, 1) := by decide +kernel
theorem dl_504 : decode code 504 = .ok (.iconst 1, 1) := by decide +kernel
theorem dl_505 : decode code 505 = .ok (.iadd, 1) := by decide +kernel
theorem dl_506 : decode code 506 = .ok (.iaload, 1) := by decide +kernel
theorem dl_507 : decode code 507 = .ok (.aload_n 0, 1) := by decide +kernel
theorem dl_508 : decode code 508 = .ok (.iload_n 3, 1) := by decide +kernel
theorem dl_509 : decode code 509 = .ok (.iconst 2, 1) := by decide +kernel
theorem dl_510 : decode code 510 = .ok (.iadd, 1) := by decide +kernel
theorem dl_511 : decode code 511 = .ok (.iaload, 1) := by decide +kernel
theorem dl_512 : decode code 512 = .ok (.invokevirtual 63, 3) := by decide +kernel
theorem dl_515 : decode code 515 = .ok (.if_icmp .eq 702, 3) := by decide +kernel
theorem dl_518 : decode code 518 = .ok (.iconst 0, 1) := by decide +kernel
theorem dl_519 : decode code 519 = .ok (.ireturn, 1) := by decide +kernel
theorem dl_520 : decode code 520 = .ok (.aload_n 1, 1) := by decide +kernel
theorem dl_521 : decode code 521 = .ok (.aload_n 0, 1) := by decide +kernel
theorem dl_522 : decode code 522 = .ok (.iload_n 3, 1) := by decide +kernel
theorem dl_523 : decode code 523 = .ok (.iconst 1, 1) := by decide +kernel
theorem dl_524 : decode code 524 = .ok (.iadd, 1) := by decide +kernel
theorem dl_525 : decode code 525 = .ok (.iaload, 1) := by decide +kernel
theorem dl_526 : decode code 526 = .ok (.aload_n 0, 1) := by decide +kernel
theorem dl_527 : decode code 527 = .ok (.iload_n 3, 1) := by decide +kernel
theorem dl_528 : decode code 528 = .ok (.iconst 2, 1) := by decide +kernel
theorem dl_529 : decode code 529 = .ok (.iadd, 1) := by decide +kernel
theorem dl_530 : decode code 530 = .ok (.iaload, 1) := by decide +kernel
theorem dl_531 : decode code 531 = .ok (.invokevirtual 64, 3) := by decide +kernel
theorem dl_534 : decode code 534 = .ok (.aload_n 2, 1) := by decide +kernel
theorem dl_535 : decode code 535 = .ok (.aload_n 0, 1) := by decide +kernel
theorem dl_536 : decode code 536 = .ok (.iload_n 3, 1) := by decide +kernel
theorem dl_537 : decode code 537 = .ok (.iconst 1, 1) := by decide +kernel
theorem dl_538 : decode code 538 = .ok (.iadd, 1) := by decide +kernel
theorem dl_539 : decode code 539 = .ok (.iaload, 1) := by decide +kernel
theorem dl_540 : decode code 540 = .ok (.aload_n 0, 1) := by decide +kernel
theorem dl_541 : decode code 541 = .ok (.iload_n 3, 1) := by decide +kernel
theorem dl_542 : decode code 542 = .ok (.iconst 2, 1) := by decide +kernel
theorem dl_543 : decode code 543 = .ok (.iadd, 1) := by decide +kernel
theorem dl_544 : decode code 544 = .ok (.iaload, 1) := by decide +kernel
theorem dl_545 : decode code 545 = .ok (.invokevirtual 67, 3) := by decide +kernel
theorem dl_548 : decode code 548 = .ok (.if_icmp .eq 669, 3) := by decide +kernel
theorem dl_551 : decode code 551 = .ok (.iconst 0, 1) := by decide +kernel
theorem dl_552 : decode code 552 = .ok (.ireturn, 1) := by decide +kernel
theorem dl_553 : decode code 553 = .ok (.aload_n 1, 1) := by decide +kernel
theorem dl_554 : decode code 554 = .ok (.aload_n 0, 1) := by decide +kernel
theorem dl_555 : decode code 555 = .ok (.iload_n 3, 1) := by decide +kernel
theorem dl_556 : decode code 556 = .ok (.iconst 1, 1) := by decide +kernel
theorem dl_557 : decode code 557 = .ok (.iadd, 1) := by decide +kernel
theorem dl_558 : decode code 558 = .ok (.iaload, 1) := by decide +kernel
theorem dl_559 : decode code 559 = .ok (.aload_n 0, 1) := by decide +kernel
theorem dl_560 : decode code 560 = .ok (.iload_n 3, 1) := by decide +kernel
theorem dl_561 : decode code 561 = .ok (.iconst 2, 1) := by decide +kernel
theorem dl_562 : decode code 562 = .ok (.iadd, 1) := by decide +kernel
theorem dl_563 : decode code 563 = .ok (.iaload, 1) := by decide +kernel
theorem dl_564 : decode code 564 = .ok (.invokevirtual 68, 3) := by decide +kernel
theorem dl_567 : decode code 567 = .ok (.aload_n 2, 1) := by decide +kernel
theorem dl_568 : decode code 568 = .ok (.aload_n 0, 1) := by decide +kernel
theorem dl_569 : decode code 569 = .ok (.iload_n 3, 1) := by decide +kernel
theorem dl_570 : decode code 570 = .ok (.iconst 1, 1) := by decide +kernel
theorem dl_571 : decode code 571 = .ok (.iadd, 1) := by decide +kernel
theorem dl_572 : decode code 572 = .ok (.iaload, 1) := by decide +kernel
theorem dl_573 : decode code 573 = .ok (.aload_n 0, 1) := by decide +kernel
theorem dl_574 : decode code 574 = .ok (.iload_n 3, 1) := by decide +kernel
theorem dl_575 : decode code 575 = .ok (.iconst 2, 1) := by decide +kernel
theorem dl_576 : decode code 576 = .ok (.iadd, 1) := by decide +kernel
theorem dl_577 : decode code 577 = .ok (.iaload, 1) := by decide +kernel
theorem dl_578 : decode code 578 = .ok (.invokevirtual 71, 3) := by decide +kernel
theorem dl_581 : decode code 581 = .ok (.if_icmp .eq 636, 3) := by decide +kernel
theorem dl_584 : decode code 584 = .ok (.iconst 0, 1) := by decide +kernel
theorem dl_585 : decode code 585 = .ok (.ireturn, 1) := by decide +kernel
theorem dl_586 : decode code 586 = .ok (.aload_n 1, 1) := by decide +kernel
theorem dl_587 : decode code 587 = .ok (.aload_n 0, 1) := by decide +kernel
theorem dl_588 : decode code 588 = .ok (.iload_n 3, 1) := by decide +kernel
theorem dl_589 : decode code 589 = .ok (.iconst 1, 1) := by decide +kernel
theorem dl_590 : decode code 590 = .ok (.iadd, 1) := by decide +kernel
theorem dl_591 : decode code 591 = .ok (.iaload, 1) := by decide +kernel
theorem dl_592 : decode code 592 = .ok (.aload_n 0, 1) := by decide +kernel
theorem dl_593 : decode code 593 = .ok (.iload_n 3, 1) := by decide +kernel
theorem dl_594 : decode code 594 = .ok (.iconst 2, 1) := by decide +kernel
theorem dl_595 : decode code 595 = .ok (.iadd, 1) := by decide +kernel
theorem dl_596 : decode code 596 = .ok (.iaload, 1) := by decide +kernel
theorem dl_597 : decode code 597 = .ok (.aload_n 0, 1) := by decide +kernel
theorem dl_598 : decode code 598 = .ok (.iload_n 3, 1) := by decide +kernel
theorem dl_599 : decode code 599 = .ok (.iconst 3, 1) := by decide +kernel
theorem dl_600 : decode code 600 = .ok (.iadd, 1) := by decide +kernel
theorem dl_601 : decode code 601 = .ok (.iaload, 1) := by decide +kernel
theorem dl_602 : decode code 602 = .ok (.invokevirtual 72, 3) := by decide +kernel
theorem dl_605 : decode code 605 = .ok (.aload_n 2, 1) := by decide +kernel
theorem dl_606 : decode code 606 = .ok (.aload_n 0, 1) := by decide +kernel
theorem dl_607 : decode code 607 = .ok (.iload_n 3, 1) := by decide +kernel
theorem dl_608 : decode code 608 = .ok (.iconst 1, 1) := by decide +kernel
theorem dl_609 : decode code 609 = .ok (.iadd, 1) := by decide +kernel
theorem dl_610 : decode code 610 = .ok (.iaload, 1) := by decide +kernel
theorem dl_611 : decode code 611 = .ok (.aload_n 0, 1) := by decide +kernel
theorem dl_612 : decode code 612 = .ok (.iload_n 3, 1) := by decide +kernel
theorem dl_613 : decode code 613 = .ok (.iconst 2, 1) := by decide +kernel
theorem dl_614 : decode code 614 = .ok (.iadd, 1) := by decide +kernel
theorem dl_615 : decode code 615 = .ok (.iaload, 1) := by decide +kernel
theorem dl_616 : decode code 616 = .ok (.aload_n 0, 1) := by decide +kernel
theorem dl_617 : decode code 617 = .ok (.iload_n 3, 1) := by decide +kernel
theorem dl_618 : decode code 618 = .ok (.iconst 3, 1) := by decide +kernel
theorem dl_619 : decode code 619 = .ok (.iadd, 1) := by decide +kernel
theorem dl_620 : decode code 620 = .ok (.iaload, 1) := by decide +kernel
theorem dl_621 : decode code 621 = .ok (.invokevirtual 76, 3) := by decide +kernel
theorem dl_624 : decode code 624 = .ok (.if_icmp .eq 593, 3) := by decide +kernel
theorem dl_627 : decode code 627 = .ok (.iconst 0, 1) := by decide +kernel
theorem dl_628 : decode code 628 = .ok (.ireturn, 1) := by decide +kernel
theorem dl_629 : decode code 629 = .ok (.aload_n 1, 1) := by decide +kernel
theorem dl_630 : decode code 630 = .ok (.aload_n 0, 1) := by decide +kernel
theorem dl_631 : decode code 631 = .ok (.iload_n 3, 1) := by decide +kernel
theorem dl_632 : decode code 632 = .ok (.iconst 1, 1) := by decide +kernel
theorem dl_633 : decode code 633 = .ok (.iadd, 1) := by decide +kernel
theorem dl_634 : decode code 634 = .ok (.iaload, 1) := by decide +kernel
theorem dl_635 : decode code 635 = .ok (.aload_n 0, 1) := by decide +kernel
theorem dl_636 : decode code 636 = .ok (.iload_n 3, 1) := by decide +kernel
theorem dl_637 : decode code 637 = .ok (.iconst 2, 1) := by decide +kernel
theorem dl_638 : decode code 638 = .ok (.iadd, 1) := by decide +kernel
theorem dl_639 : decode code 639 = .ok (.iaload, 1) := by decide +kernel
theorem dl_640 : decode code 640 = .ok (.aload_n 0, 1) := by decide +kernel
theorem dl_641 : decode code 641 = .ok (.iload_n 3, 1) := by decide +kernel
theorem dl_642 : decode code 642 = .ok (.iconst 3, 1) := by decide +kernel
theorem dl_643 : decode code 643 = .ok (.iadd, 1) := by decide +kernel
theorem dl_644 : decode code 644 = .ok (.iaload, 1) := by decide +kernel
theorem dl_645 : decode code 645 = .ok (.invokevirtual 77, 3) := by decide +kernel
theorem dl_648 : decode code 648 = .ok (.aload_n 2, 1) := by decide +kernel
theorem dl_649 : decode code 649 = .ok (.aload_n 0, 1) := by decide +kernel
theorem dl_650 : decode code 650 = .ok (.iload_n 3, 1) := by decide +kernel
theorem dl_651 : decode code 651 = .ok (.iconst 1, 1) := by decide +kernel
theorem dl_652 : decode code 652 = .ok (.iadd, 1) := by decide +kernel
theorem dl_653 : decode code 653 = .ok (.iaload, 1) := by decide +kernel
theorem dl_654 : decode code 654 = .ok (.aload_n 0, 1) := by decide +kernel
theorem dl_655 : decode code 655 = .ok (.iload_n 3, 1) := by decide +kernel
theorem dl_656 : decode code 656 = .ok (.iconst 2, 1) := by decide +kernel
theorem dl_657 : decode code 657 = .ok (.iadd, 1) := by decide +kernel
theorem dl_658 : decode code 658 = .ok (.iaload, 1) := by decide +kernel
theorem dl_659 : decode code 659 = .ok (.aload_n 0, 1) := by decide +kernel
theorem dl_660 : decode code 660 = .ok (.iload_n 3, 1) := by decide +kernel
theorem dl_661 : decode code 661 = .ok (.iconst 3, 1) := by decide +kernel
theorem dl_662 : decode code 662 = .ok (.iadd, 1) := by decide +kernel
theorem dl_663 : decode code 663 = .ok (.iaload, 1) := by decide +kernel
theorem dl_664 : decode code 664 = .ok (.invokevirtual 80, 3) := by decide +kernel
theorem dl_667 : decode code 667 = .ok (.if_icmp .eq 550, 3) := by decide +kernel
theorem dl_670 : decode code 670 = .ok (.iconst 0, 1) := by decide +kernel
theorem dl_671 : decode code 671 = .ok (.ireturn, 1) := by decide +kernel
theorem dl_672 : decode code 672 = .ok (.aload_n 1, 1) := by decide +kernel
theorem dl_673 : decode code 673 = .ok (.aload_n 0, 1) := by decide +kernel
theorem dl_674 : decode code 674 = .ok (.iload_n 3, 1) := by decide +kernel
theorem dl_675 : decode code 675 = .ok (.iconst 1, 1) := by decide +kernel
theorem dl_676 : decode code 676 = .ok (.iadd, 1) := by decide +kernel
theorem dl_677 : decode code 677 = .ok (.iaload, 1) := by decide +kernel
theorem dl_678 : decode code 678 = .ok (.aload_n 0, 1) := by decide +kernel
theorem dl_679 : decode code 679 = .ok (.iload_n 3, 1) := by decide +kernel
theorem dl_680 : decode code 680 = .ok (.iconst 2, 1) := by decide +kernel
theorem dl_681 : decode code 681 = .ok (.iadd, 1) := by decide +kernel
theorem dl_682 : decode code 682 = .ok (.iaload, 1) := by decide +kernel
theorem dl_683 : decode code 683 = .ok (.invokevirtual 81, 3) := by decide +kernel
theorem dl_686 : decode code 686 = .ok (.aload_n 2, 1) := by decide +kernel
theorem dl_687 : decode code 687 = .ok (.aload_n 0, 1) := by decide +kernel
theorem dl_688 : decode code 688 = .ok (.iload_n 3, 1) := by decide +kernel
theorem dl_689 : decode code 689 = .ok (.iconst 1, 1) := by decide +kernel
theorem dl_690 : decode code 690 = .ok (.iadd, 1) := by decide +kernel
theorem dl_691 : decode code 691 = .ok (.iaload, 1) := by decide +kernel
theorem dl_692 : decode code 692 = .ok (.aload_n 0, 1) := by decide +kernel
theorem dl_693 : decode code 693 = .ok (.iload_n 3, 1) := by decide +kernel
theorem dl_694 : decode code 694 = .ok (.iconst 2, 1) := by decide +kernel
theorem dl_695 : decode code 695 = .ok (.iadd, 1) := by decide +kernel
theorem dl_696 : decode code 696 = .ok (.iaload, 1) := by decide +kernel
theorem dl_697 : decode code 697 = .ok (.invokevirtual 84, 3) := by decide +kernel
theorem dl_700 : decode code 700 = .ok (.if_icmp .eq 517, 3) := by decide +kernel
theorem dl_703 : decode code 703 = .ok (.iconst 0, 1) := by decide +kernel
theorem dl_704 : decode code 704 = .ok (.ireturn, 1) := by decide +kernel
theorem dl_705 : decode code 705 = .ok (.aload_n 1, 1) := by decide +kernel
theorem dl_706 : decode code 706 = .ok (.aload_n 0, 1) := by decide +kernel
theorem dl_707 : decode code 707 = .ok (.iload_n 3, 1) := by decide +kernel
theorem dl_708 : decode code 708 = .ok (.iconst 1, 1) := by decide +kernel
theorem dl_709 : decode code 709 = .ok (.iadd, 1) := by decide +kernel
theorem dl_710 : decode code 710 = .ok (.iaload, 1) := by decide +kernel
theorem dl_711 : decode code 711 = .ok (.invokevirtual 85, 3) := by decide +kernel
theorem dl_714 : decode code 714 = .ok (.aload_n 2, 1) := by decide +kernel
theorem dl_715 : decode code 715 = .ok (.aload_n 0, 1) := by decide +kernel
theorem dl_716 : decode code 716 = .ok (.iload_n 3, 1) := by decide +kernel
theorem dl_717 : decode code 717 = .ok (.iconst 1, 1) := by decide +kernel
theorem dl_718 : decode code 718 = .ok (.iadd, 1) := by decide +kernel
theorem dl_719 : decode code 719 = .ok (.iaload, 1) := by decide +kernel
theorem dl_720 : decode code 720 = .ok (.invokevirtual 88, 3) := by decide +kernel
theorem dl_723 : decode code 723 = .ok (.if_icmp .eq 494, 3) := by decide +kernel
theorem dl_726 : decode code 726 = .ok (.iconst 0, 1) := by decide +kernel
theorem dl_727 : decode code 727 = .ok (.ireturn, 1) := by decide +kernel
theorem dl_728 : decode code 728 = .ok (.aload_n 1, 1) := by decide +kernel
theorem dl_729 : decode code 729 = .ok (.aload_n 0, 1) := by decide +kernel
theorem dl_730 : decode code 730 = .ok (.iload_n 3, 1) := by decide +kernel
theorem dl_731 : decode code 731 = .ok (.iconst 1, 1) := by decide +kernel
theorem dl_732 : decode code 732 = .ok (.iadd, 1) := by decide +kernel
theorem dl_733 : decode code 733 = .ok (.iaload, 1) := by decide +kernel
theorem dl_734 : decode code 734 = .ok (.invokevirtual 89, 3) := by decide +kernel
theorem dl_737 : decode code 737 = .ok (.aload_n 2, 1) := by decide +kernel
theorem dl_738 : decode code 738 = .ok (.aload_n 0, 1) := by decide +kernel
theorem dl_739 : decode code 739 = .ok (.iload_n 3, 1) := by decide +kernel
theorem dl_740 : decode code 740 = .ok (.iconst 1, 1) := by decide +kernel
theorem dl_741 : decode code 741 = .ok (.iadd, 1) := by decide +kernel
theorem dl_742 : decode code 742 = .ok (.iaload, 1) := by decide +kernel
theorem dl_743 : decode code 743 = .ok (.invokevirtual 92, 3) := by decide +kernel
theorem dl_746 : decode code 746 = .ok (.if_icmp .eq 471, 3) := by decide +kernel
theorem dl_749 : decode code 749 = .ok (.iconst 0, 1) := by decide +kernel
theorem dl_750 : decode code 750 = .ok (.ireturn, 1) := by decide +kernel
theorem dl_751 : decode code 751 = .ok (.aload_n 1, 1) := by decide +kernel
theorem dl_752 : decode code 752 = .ok (.aload_n 0, 1) := by decide +kernel
theorem dl_753 : decode code 753 = .ok (.iload_n 3, 1) := by decide +kernel
theorem dl_754 : decode code 754 = .ok (.iconst 1, 1) := by decide +kernel
theorem dl_755 : decode code 755 = .ok (.iadd, 1) := by decide +kernel
theorem dl_756 : decode code 756 = .ok (.iaload, 1) := by decide +kernel
theorem dl_757 : decode code 757 = .ok (.aload_n 0, 1) := by decide +kernel
theorem dl_758 : decode code 758 = .ok (.iload_n 3, 1) := by decide +kernel
theorem dl_759 : decode code 759 = .ok (.iconst 2, 1) := by decide +kernel
theorem dl_760 : decode code 760 = .ok (.iadd, 1) := by decide +kernel
theorem dl_761 : decode code 761 = .ok (.iaload, 1) := by decide +kernel
theorem dl_762 : decode code 762 = .ok (.aload_n 0, 1) := by decide +kernel
theorem dl_763 : decode code 763 = .ok (.iload_n 3, 1) := by decide +kernel
theorem dl_764 : decode code 764 = .ok (.iconst 3, 1) := by decide +kernel
theorem dl_765 : decode code 765 = .ok (.iadd, 1) := by decide +kernel
theorem dl_766 : decode code 766 = .ok (.iaload, 1) := by decide +kernel
theorem dl_767 : decode code 767 = .ok (.invokevirtual 93, 3) := by decide +kernel
theorem dl_770 : decode code 770 = .ok (.aload_n 2, 1) := by decide +kernel
theorem dl_771 : decode code 771 = .ok (.aload_n 0, 1) := by decide +kernel
theorem dl_772 : decode code 772 = .ok (.iload_n 3, 1) := by decide +kernel
theorem dl_773 : decode code 773 = .ok (.iconst 1, 1) := by decide +kernel
theorem dl_774 : decode code 774 = .ok (.iadd, 1) := by decide +kernel
theorem dl_775 : decode code 775 = .ok (.iaload, 1) := by decide +kernel
theorem dl_776 : decode code 776 = .ok (.aload_n 0, 1) := by decide +kernel
theorem dl_777 : decode code 777 = .ok (.iload_n 3, 1) := by decide +kernel
theorem dl_778 : decode code 778 = .ok (.iconst 2, 1) := by decide +kernel
theorem dl_779 : decode code 779 = .ok (.iadd, 1) := by decide +kernel
theorem dl_780 : decode code 780 = .ok (.iaload, 1) := by decide +kernel
theorem dl_781 : decode code 781 = .ok (.aload_n 0, 1) := by decide +kernel
theorem dl_782 : decode code 782 = .ok (.iload_n 3, 1) := by decide +kernel
theorem dl_783 : decode code 783 = .ok (.iconst 3, 1) := by decide +kernel
theorem dl_784 : decode code 784 = .ok (.iadd, 1) := by decide +kernel
theorem dl_785 : decode code 785 = .ok (.iaload, 1) := by decide +kernel
theorem dl_786 : decode code 786 = .ok (.invokevirtual 96, 3) := by decide +kernel
theorem dl_789 : decode code 789 = .ok (.if_icmp .eq 428, 3) := by decide +kernel
theorem dl_792 : decode code 792 = .ok (.iconst 0, 1) := by decide +kernel
theorem dl_793 : decode code 793 = .ok (.ireturn, 1) := by decide +kernel
theorem dl_794 : decode code 794 = .ok (.aload_n 1, 1) := by decide +kernel
theorem dl_795 : decode code 795 = .ok (.invokevirtual 97, 3) := by decide +kernel
theorem dl_798 : decode code 798 = .ok (.aload_n 2, 1) := by decide +kernel
theorem dl_799 : decode code 799 = .ok (.invokevirtual 100, 3) := by decide +kernel
theorem dl_802 : decode code 802 = .ok (.if_icmp .eq 415, 3) := by decide +kernel
theorem dl_805 : decode code 805 = .ok (.iconst 0, 1) := by decide +kernel
theorem dl_806 : decode code 806 = .ok (.ireturn, 1) := by decide +kernel
theorem dl_807 : decode code 807 = .ok (.aload_n 1, 1) := by decide +kernel
theorem dl_808 : decode code 808 = .ok (.aload_n 0, 1) := by decide +kernel
theorem dl_809 : decode code 809 = .ok (.iload_n 3, 1) := by decide +kernel
theorem dl_810 : decode code 810 = .ok (.iconst 1, 1) := by decide +kernel
theorem dl_811 : decode code 811 = .ok (.iadd, 1) := by decide +kernel
theorem dl_812 : decode code 812 = .ok (.iaload, 1) := by decide +kernel
theorem dl_813 : decode code 813 = .ok (.invokevirtual 101, 3) := by decide +kernel
theorem dl_816 : decode code 816 = .ok (.aload_n 2, 1) := by decide +kernel
theorem dl_817 : decode code 817 = .ok (.aload_n 0, 1) := by decide +kernel
theorem dl_818 : decode code 818 = .ok (.iload_n 3, 1) := by decide +kernel
theorem dl_819 : decode code 819 = .ok (.iconst 1, 1) := by decide +kernel
theorem dl_820 : decode code 820 = .ok (.iadd, 1) := by decide +kernel
theorem dl_821 : decode code 821 = .ok (.iaload, 1) := by decide +kernel
theorem dl_822 : decode code 822 = .ok (.invokevirtual 104, 3) := by decide +kernel
theorem dl_825 : decode code 825 = .ok (.if_icmp .eq 392, 3) := by decide +kernel
theorem dl_828 : decode code 828 = .ok (.iconst 0, 1) := by decide +kernel
theorem dl_829 : decode code 829 = .ok (.ireturn, 1) := by decide +kernel
theorem dl_830 : decode code 830 = .ok (.aload_n 1, 1) := by decide +kernel
theorem dl_831 : decode code 831 = .ok (.aload_n 0, 1) := by decide +kernel
theorem dl_832 : decode code 832 = .ok (.iload_n 3, 1) := by decide +kernel
theorem dl_833 : decode code 833 = .ok (.iconst 1, 1) := by decide +kernel
theorem dl_834 : decode code 834 = .ok (.iadd, 1) := by decide +kernel
theorem dl_835 : decode code 835 = .ok (.iaload, 1) := by decide +kernel
theorem dl_836 : decode code 836 = .ok (.invokevirtual 105, 3) := by decide +kernel
theorem dl_839 : decode code 839 = .ok (.aload_n 2, 1) := by decide +kernel
theorem dl_840 : decode code 840 = .ok (.aload_n 0, 1) := by decide +kernel
theorem dl_841 : decode code 841 = .ok (.iload_n 3, 1) := by decide +kernel
theorem dl_842 : decode code 842 = .ok (.iconst 1, 1) := by decide +kernel
theorem dl_843 : decode code 843 = .ok (.iadd, 1) := by decide +kernel
theorem dl_844 : decode code 844 = .ok (.iaload, 1) := by decide +kernel
theorem dl_845 : decode code 845 = .ok (.invokevirtual 108, 3) := by decide +kernel
theorem dl_848 : decode code 848 = .ok (.if_icmp .eq 369, 3) := by decide +kernel
theorem dl_851 : decode code 851 = .ok (.iconst 0, 1) := by decide +kernel
theorem dl_852 : decode code 852 = .ok (.ireturn, 1) := by decide +kernel
theorem dl_853 : decode code 853 = .ok (.aload_n 1, 1) := by decide +kernel
theorem dl_854 : decode code 854 = .ok (.aload_n 0, 1) := by decide +kernel
theorem dl_855 : decode code 855 = .ok (.iload_n 3, 1) := by decide +kernel
theorem dl_856 : decode code 856 = .ok (.iconst 1, 1) := by decide +kernel
theorem dl_857 : decode code 857 = .ok (.iadd, 1) := by decide +kernel
theorem dl_858 : decode code 858 = .ok (.iaload, 1) := by decide +kernel
theorem dl_859 : decode code 859 = .ok (.aload_n 0, 1) := by decide +kernel
theorem dl_860 : decode code 860 = .ok (.iload_n 3, 1) := by decide +kernel
theorem dl_861 : decode code 861 = .ok (.iconst 2, 1) := by decide +kernel
theorem dl_862 : decode code 862 = .ok (.iadd, 1) := by decide +kernel
theorem dl_863 : decode code 863 = .ok (.iaload, 1) := by decide +kernel
theorem dl_864 : decode code 864 = .ok (.invokevirtual 109, 3) := by decide +kernel
theorem dl_867 : decode code 867 = .ok (.aload_n 2, 1) := by decide +kernel
theorem dl_868 : decode code 868 = .ok (.aload_n 0, 1) := by decide +kernel
theorem dl_869 : decode code 869 = .ok (.iload_n 3, 1) := by decide +kernel
theorem dl_870 : decode code 870 = .ok (.iconst 1, 1) := by decide +kernel
theorem dl_871 : decode code 871 = .ok (.iadd, 1) := by decide +kernel
theorem dl_872 : decode code 872 = .ok (.iaload, 1) := by decide +kernel
theorem dl_873 : decode code 873 = .ok (.aload_n 0, 1) := by decide +kernel
theorem dl_874 : decode code 874 = .ok (.iload_n 3, 1) := by decide +kernel
theorem dl_875 : decode code 875 = .ok (.iconst 2, 1) := by decide +kernel
theorem dl_876 : decode code 876 = .ok (.iadd, 1) := by decide +kernel
theorem dl_877 : decode code 877 = .ok (.iaload, 1) := by decide +kernel
theorem dl_878 : decode code 878 = .ok (.invokevirtual 112, 3) := by decide +kernel
theorem dl_881 : decode code 881 = .ok (.if_icmp .eq 336, 3) := by decide +kernel
theorem dl_884 : decode code 884 = .ok (.iconst 0, 1) := by decide +kernel
theorem dl_885 : decode code 885 = .ok (.ireturn, 1) := by decide +kernel
theorem dl_886 : decode code 886 = .ok (.aload_n 1, 1) := by decide +kernel
theorem dl_887 : decode code 887 = .ok (.aload_n 0, 1) := by decide +kernel
theorem dl_888 : decode code 888 = .ok (.iload_n 3, 1) := by decide +kernel
theorem dl_889 : decode code 889 = .ok (.iconst 1, 1) := by decide +kernel
theorem dl_890 : decode code 890 = .ok (.iadd, 1) := by decide +kernel
theorem dl_891 : decode code 891 = .ok (.iaload, 1) := by decide +kernel
theorem dl_892 : decode code 892 = .ok (.aload_n 0, 1) := by decide +kernel
theorem dl_893 : decode code 893 = .ok (.iload_n 3, 1) := by decide +kernel
theorem dl_894 : decode code 894 = .ok (.iconst 2, 1) := by decide +kernel
theorem dl_895 : decode code 895 = .ok (.iadd, 1) := by decide +kernel
theorem dl_896 : decode code 896 = .ok (.iaload, 1) := by decide +kernel
theorem dl_897 : decode code 897 = .ok (.invokevirtual 113, 3) := by decide +kernel
theorem dl_900 : decode code 900 = .ok (.aload_n 2, 1) := by decide +kernel
theorem dl_901 : decode code 901 = .ok (.aload_n 0, 1) := by decide +kernel
theorem dl_902 : decode code 902 = .ok (.iload_n 3, 1) := by decide +kernel
theorem dl_903 : decode code 903 = .ok (.iconst 1, 1) := by decide +kernel
theorem dl_904 : decode code 904 = .ok (.iadd, 1) := by decide +kernel
theorem dl_905 : decode code 905 = .ok (.iaload, 1) := by decide +kernel
theorem dl_906 : decode code 906 = .ok (.aload_n 0, 1) := by decide +kernel
theorem dl_907 : decode code 907 = .ok (.iload_n 3, 1) := by decide +kernel
theorem dl_908 : decode code 908 = .ok (.iconst 2, 1) := by decide +kernel
theorem dl_909 : decode code 909 = .ok (.iadd, 1) := by decide +kernel
theorem dl_910 : decode code 910 = .ok (.iaload, 1) := by decide +kernel
theorem dl_911 : decode code 911 = .ok (.invokevirtual 116, 3) := by decide +kernel
theorem dl_914 : decode code 914 = .ok (.if_icmp .eq 303, 3) := by decide +kernel
theorem dl_917 : decode code 917 = .ok (.iconst 0, 1) := by decide +kernel
theorem dl_918 : decode code 918 = .ok (.ireturn, 1) := by decide +kernel
theorem dl_919 : decode code 919 = .ok (.aload_n 1, 1) := by decide +kernel
theorem dl_920 : decode code 920 = .ok (.invokevirtual 117, 3) := by decide +kernel
theorem dl_923 : decode code 923 = .ok (.aload_n 2, 1) := by decide +kernel
theorem dl_924 : decode code 924 = .ok (.invokevirtual 120, 3) := by decide +kernel
theorem dl_927 : decode code 927 = .ok (.if_icmp .eq 290, 3) := by decide +kernel
theorem dl_930 : decode code 930 = .ok (.iconst 0, 1) := by decide +kernel
theorem dl_931 : decode code 931 = .ok (.ireturn, 1) := by decide +kernel
theorem dl_932 : decode code 932 = .ok (.aload_n 1, 1) := by decide +kernel
theorem dl_933 : decode code 933 = .ok (.aload_n 0, 1) := by decide +kernel
theorem dl_934 : decode code 934 = .ok (.iload_n 3, 1) := by decide +kernel
theorem dl_935 : decode code 935 = .ok (.iconst 1, 1) := by decide +kernel
theorem dl_936 : decode code 936 = .ok (.iadd, 1) := by decide +kernel
theorem dl_937 : decode code 937 = .ok (.iaload, 1) := by decide +kernel
theorem dl_938 : decode code 938 = .ok (.aload_n 0, 1) := by decide +kernel
theorem dl_939 : decode code 939 = .ok (.iload_n 3, 1) := by decide +kernel
theorem dl_940 : decode code 940 = .ok (.iconst 2, 1) := by decide +kernel
theorem dl_941 : decode code 941 = .ok (.iadd, 1) := by decide +kernel
theorem dl_942 : decode code 942 = .ok (.iaload, 1) := by decide +kernel
theorem dl_943 : decode code 943 = .ok (.aload_n 0, 1) := by decide +kernel
theorem dl_944 : decode code 944 = .ok (.iload_n 3, 1) := by decide +kernel
theorem dl_945 : decode code 945 = .ok (.iconst 3, 1) := by decide +kernel
theorem dl_946 : decode code 946 = .ok (.iadd, 1) := by decide +kernel
theorem dl_947 : decode code 947 = .ok (.iaload, 1) := by decide +kernel
theorem dl_948 : decode code 948 = .ok (.invokevirtual 121, 3) := by decide +kernel
theorem dl_951 : decode code 951 = .ok (.aload_n 2, 1) := by decide +kernel
theorem dl_952 : decode code 952 = .ok (.aload_n 0, 1) := by decide +kernel
theorem dl_953 : decode code 953 = .ok (.iload_n 3, 1) := by decide +kernel
theorem dl_954 : decode code 954 = .ok (.iconst 1, 1) := by decide +kernel
theorem dl_955 : decode code 955 = .ok (.iadd, 1) := by decide +kernel
theorem dl_956 : decode code 956 = .ok (.iaload, 1) := by decide +kernel
theorem dl_957 : decode code 957 = .ok (.aload_n 0, 1) := by decide +kernel
theorem dl_958 : decode code 958 = .ok (.iload_n 3, 1) := by decide +kernel
theorem dl_959 : decode code 959 = .ok (.iconst 2, 1) := by decide +kernel
theorem dl_960 : decode code 960 = .ok (.iadd, 1) := by decide +kernel
theorem dl_961 : decode code 961 = .ok (.iaload, 1) := by decide +kernel
theorem dl_962 : decode code 962 = .ok (.aload_n 0, 1) := by decide +kernel
theorem dl_963 : decode code 963 = .ok (.iload_n 3, 1) := by decide +kernel
theorem dl_964 : decode code 964 = .ok (.iconst 3, 1) := by decide +kernel
theorem dl_965 : decode code 965 = .ok (.iadd, 1) := by decide +kernel
theorem dl_966 : decode code 966 = .ok (.iaload, 1) := by decide +kernel
theorem dl_967 : decode code 967 = .ok (.invokevirtual 124, 3) := by decide +kernel
theorem dl_970 : decode code 970 = .ok (.if_icmp .eq 247, 3) := by decide +kernel
theorem dl_973 : decode code 973 = .ok (.iconst 0, 1) := by decide +kernel
theorem dl_974 : decode code 974 = .ok (.ireturn, 1) := by decide +kernel
theorem dl_975 : decode code 975 = .ok (.aload_n 1, 1) := by decide +kernel
theorem dl_976 : decode code 976 = .ok (.aload_n 0, 1) := by decide +kernel
theorem dl_977 : decode code 977 = .ok (.iload_n 3, 1) := by decide +kernel
theorem dl_978 : decode code 978 = .ok (.iconst 1, 1) := by decide +kernel
theorem dl_979 : decode code 979 = .ok (.iadd, 1) := by decide +kernel
theorem dl_980 : decode code 980 = .ok (.iaload, 1) := by decide +kernel
theorem dl_981 : decode code 981 = .ok (.invokevirtual 125, 3) := by decide +kernel
theorem dl_984 : decode code 984 = .ok (.aload_n 2, 1) := by decide +kernel
theorem dl_985 : decode code 985 = .ok (.aload_n 0, 1) := by decide +kernel
theorem dl_986 : decode code 986 = .ok (.iload_n 3, 1) := by decide +kernel
theorem dl_987 : decode code 987 = .ok (.iconst 1, 1) := by decide +kernel
theorem dl_988 : decode code 988 = .ok (.iadd, 1) := by decide +kernel
theorem dl_989 : decode code 989 = .ok (.iaload, 1) := by decide +kernel
theorem dl_990 : decode code 990 = .ok (.invokevirtual 128, 3) := by decide +kernel
theorem dl_993 : decode code 993 = .ok (.if_icmp .eq 224, 3) := by decide +kernel
theorem dl_996 : decode code 996 = .ok (.iconst 0, 1) := by decide +kernel
theorem dl_997 : decode code 997 = .ok (.ireturn, 1) := by decide +kernel
theorem dl_998 : decode code 998 = .ok (.aload_n 1, 1) := by decide +kernel
theorem dl_999 : decode code 999 = .ok (.aload_n 0, 1) := by decide +kernel
theorem dl_1000 : decode code 1000 = .ok (.iload_n 3, 1) := by decide +kernel
theorem dl_1001 : decode code 1001 = .ok (.iconst 1, 1) := by decide +kernel
theorem dl_1002 : decode code 1002 = .ok (.iadd, 1) := by decide +kernel
theorem dl_1003 : decode code 1003 = .ok (.iaload, 1) := by decide +kernel
theorem dl_1004 : decode code 1004 = .ok (.aload_n 0, 1) := by decide +kernel
theorem dl_1005 : decode code 1005 = .ok (.iload_n 3, 1) := by decide +kernel
theorem dl_1006 : decode code 1006 = .ok (.iconst 2, 1) := by decide +kernel
theorem dl_1007 : decode code 1007 = .ok (.iadd, 1) := by decide +kernel
theorem dl_1008 : decode code 1008 = .ok (.iaload, 1) := by decide +kernel
theorem dl_1009 : decode code 1009 = .ok (.aload_n 0, 1) := by decide +kernel
theorem dl_1010 : decode code 1010 = .ok (.iload_n 3, 1) := by decide +kernel
theorem dl_1011 : decode code 1011 = .ok (.iconst 3, 1) := by decide +kernel
theorem dl_1012 : decode code 1012 = .ok (.iadd, 1) := by decide +kernel
theorem dl_1013 : decode code 1013 = .ok (.iaload, 1) := by decide +kernel
theorem dl_1014 : decode code 1014 = .ok (.aload_n 0, 1) := by decide +kernel
theorem dl_1015 : decode code 1015 = .ok (.iload_n 3, 1) := by decide +kernel
theorem dl_1016 : decode code 1016 = .ok (.iconst 4, 1) := by decide +kernel
theorem dl_1017 : decode code 1017 = .ok (.iadd, 1) := by decide +kernel
theorem dl_1018 : decode code 1018 = .ok (.iaload, 1) := by decide +kernel
theorem dl_1019 : decode code 1019 = .ok (.invokevirtual 129, 3) := by decide +kernel
theorem dl_1022 : decode code 1022 = .ok (.aload_n 2, 1) := by decide +kernel
theorem dl_1023 : decode code 1023 = .ok (.aload_n 0, 1) := by decide +kernel
theorem dl_1024 : decode code 1024 = .ok (.iload_n 3, 1) := by decide +kernel
theorem dl_1025 : decode code 1025 = .ok (.iconst 1, 1) := by decide +kernel
theorem dl_1026 : decode code 1026 = .ok (.iadd, 1) := by decide +kernel
theorem dl_1027 : decode code 1027 = .ok (.iaload, 1) := by decide +kernel
theorem dl_1028 : decode code 1028 = .ok (.aload_n 0, 1) := by decide +kernel
theorem dl_1029 : decode code 1029 = .ok (.iload_n 3, 1) := by decide +kernel
theorem dl_1030 : decode code 1030 = .ok (.iconst 2, 1) := by decide +kernel
theorem dl_1031 : decode code 1031 = .ok (.iadd, 1) := by decide +kernel
theorem dl_1032 : decode code 1032 = .ok (.iaload, 1) := by decide +kernel
theorem dl_1033 : decode code 1033 = .ok (.aload_n 0, 1) := by decide +kernel
theorem dl_1034 : decode code 1034 = .ok (.iload_n 3, 1) := by decide +kernel
theorem dl_1035 : decode code 1035 = .ok (.iconst 3, 1) := by decide +kernel
theorem dl_1036 : decode code 1036 = .ok (.iadd, 1) := by decide +kernel
theorem dl_1037 : decode code 1037 = .ok (.iaload, 1) := by decide +kernel
theorem dl_1038 : decode code 1038 = .ok (.aload_n 0, 1) := by decide +kernel
theorem dl_1039 : decode code 1039 = .ok (.iload_n 3, 1) := by decide +kernel
theorem dl_1040 : decode code 1040 = .ok (.iconst 4, 1) := by decide +kernel
theorem dl_1041 : decode code 1041 = .ok (.iadd, 1) := by decide +kernel
theorem dl_1042 : decode code 1042 = .ok (.iaload, 1) := by decide +kernel
theorem dl_1043 : decode code 1043 = .ok (.invokevirtual 133, 3) := by decide +kernel
theorem dl_1046 : decode code 1046 = .ok (.if_icmp .eq 171, 3) := by decide +kernel
theorem dl_1049 : decode code 1049 = .ok (.iconst 0, 1) := by decide +kernel
theorem dl_1050 : decode code 1050 = .ok (.ireturn, 1) := by decide +kernel
theorem dl_1051 : decode code 1051 = .ok (.aload_n 1, 1) := by decide +kernel
theorem dl_1052 : decode code 1052 = .ok (.aload_n 0, 1) := by decide +kernel
theorem dl_1053 : decode code 1053 = .ok (.iload_n 3, 1) := by decide +kernel
theorem dl_1054 : decode code 1054 = .ok (.iconst 1, 1) := by decide +kernel
theorem dl_1055 : decode code 1055 = .ok (.iadd, 1) := by decide +kernel
theorem dl_1056 : decode code 1056 = .ok (.iaload, 1) := by decide +kernel
theorem dl_1057 : decode code 1057 = .ok (.aload_n 0, 1) := by decide +kernel
theorem dl_1058 : decode code 1058 = .ok (.iload_n 3, 1) := by decide +kernel
theorem dl_1059 : decode code 1059 = .ok (.iconst 2, 1) := by decide +kernel
theorem dl_1060 : decode code 1060 = .ok (.iadd, 1) := by decide +kernel
theorem dl_1061 : decode code 1061 = .ok (.iaload, 1) := by decide +kernel
theorem dl_1062 : decode code 1062 = .ok (.aload_n 0, 1) := by decide +kernel
theorem dl_1063 : decode code 1063 = .ok (.iload_n 3, 1) := by decide +kernel
theorem dl_1064 : decode code 1064 = .ok (.iconst 3, 1) := by decide +kernel
theorem dl_1065 : decode code 1065 = .ok (.iadd, 1) := by decide +kernel
theorem dl_1066 : decode code 1066 = .ok (.iaload, 1) := by decide +kernel
theorem dl_1067 : decode code 1067 = .ok (.invokevirtual 134, 3) := by decide +kernel
theorem dl_1070 : decode code 1070 = .ok (.aload_n 2, 1) := by decide +kernel
theorem dl_1071 : decode code 1071 = .ok (.aload_n 0, 1) := by decide +kernel
theorem dl_1072 : decode code 1072 = .ok (.iload_n 3, 1) := by decide +kernel
theorem dl_1073 : decode code 1073 = .ok (.iconst 1, 1) := by decide +kernel
theorem dl_1074 : decode code 1074 = .ok (.iadd, 1) := by decide +kernel
theorem dl_1075 : decode code 1075 = .ok (.iaload, 1) := by decide +kernel
theorem dl_1076 : decode code 1076 = .ok (.aload_n 0, 1) := by decide +kernel
theorem dl_1077 : decode code 1077 = .ok (.iload_n 3, 1) := by decide +kernel
theorem dl_1078 : decode code 1078 = .ok (.iconst 2, 1) := by decide +kernel
theorem dl_1079 : decode code 1079 = .ok (.iadd, 1) := by decide +kernel
theorem dl_1080 : decode code 1080 = .ok (.iaload, 1) := by decide +kernel
theorem dl_1081 : decode code 1081 = .ok (.aload_n 0, 1) := by decide +kernel
theorem dl_1082 : decode code 1082 = .ok (.iload_n 3, 1) := by decide +kernel
theorem dl_1083 : decode code 1083 = .ok (.iconst 3, 1) := by decide +kernel
theorem dl_1084 : decode code 1084 = .ok (.iadd, 1) := by decide +kernel
theorem dl_1085 : decode code 1085 = .ok (.iaload, 1) := by decide +kernel
theorem dl_1086 : decode code 1086 = .ok (.invokevirtual 137, 3) := by decide +kernel
theorem dl_1089 : decode code 1089 = .ok (.if_icmp .eq 128, 3) := by decide +kernel
theorem dl_1092 : decode code 1092 = .ok (.iconst 0, 1) := by decide +kernel
theorem dl_1093 : decode code 1093 = .ok (.ireturn, 1) := by decide +kernel
theorem dl_1094 : decode code 1094 = .ok (.aload_n 1, 1) := by decide +kernel
theorem dl_1095 : decode code 1095 = .ok (.aload_n 0, 1) := by decide +kernel
theorem dl_1096 : decode code 1096 = .ok (.iload_n 3, 1) := by decide +kernel
theorem dl_1097 : decode code 1097 = .ok (.iconst 1, 1) := by decide +kernel
theorem dl_1098 : decode code 1098 = .ok (.iadd, 1) := by decide +kernel
theorem dl_1099 : decode code 1099 = .ok (.iaload, 1) := by decide +kernel
theorem dl_1100 : decode code 1100 = .ok (.aload_n 0, 1) := by decide +kernel
theorem dl_1101 : decode code 1101 = .ok (.iload_n 3, 1) := by decide +kernel
theorem dl_1102 : decode code 1102 = .ok (.iconst 2, 1) := by decide +kernel
theorem dl_1103 : decode code 1103 = .ok (.iadd, 1) := by decide +kernel
theorem dl_1104 : decode code 1104 = .ok (.iaload, 1) := by decide +kernel
theorem dl_1105 : decode code 1105 = .ok (.aload_n 0, 1) := by decide +kernel
theorem dl_1106 : decode code 1106 = .ok (.iload_n 3, 1) := by decide +kernel
theorem dl_1107 : decode code 1107 = .ok (.iconst 3, 1) := by decide +kernel
theorem dl_1108 : decode code 1108 = .ok (.iadd, 1) := by decide +kernel
theorem dl_1109 : decode code 1109 = .ok (.iaload, 1) := by decide +kernel
theorem dl_1110 : decode code 1110 = .ok (.aload_n 0, 1) := by decide +kernel
theorem dl_1111 : decode code 1111 = .ok (.iload_n 3, 1) := by decide +kernel
theorem dl_1112 : decode code 1112 = .ok (.iconst 4, 1) := by decide +kernel
theorem dl_1113 : decode code 1113 = .ok (.iadd, 1) := by decide +kernel
theorem dl_1114 : decode code 1114 = .ok (.iaload, 1) := by decide +kernel
theorem dl_1115 : decode code 1115 = .ok (.aload_n 0, 1) := by decide +kernel
theorem dl_1116 : decode code 1116 = .ok (.iload_n 3, 1) := by decide +kernel
theorem dl_1117 : decode code 1117 = .ok (.iconst 5, 1) := by decide +kernel
theorem dl_1118 : decode code 1118 = .ok (.iadd, 1) := by decide +kernel
theorem dl_1119 : decode code 1119 = .ok (.iaload, 1) := by decide +kernel
theorem dl_1120 : decode code 1120 = .ok (.invokevirtual 138, 3) := by decide +kernel
theorem dl_1123 : decode code 1123 = .ok (.aload_n 2, 1) := by decide +kernel
theorem dl_1124 : decode code 1124 = .ok (.aload_n 0, 1) := by decide +kernel
theorem dl_1125 : decode code 1125 = .ok (.iload_n 3, 1) := by decide +kernel
theorem dl_1126 : decode code 1126 = .ok (.iconst 1, 1) := by decide +kernel
theorem dl_1127 : decode code 1127 = .ok (.iadd, 1) := by decide +kernel
theorem dl_1128 : decode code 1128 = .ok (.iaload, 1) := by decide +kernel
theorem dl_1129 : decode code 1129 = .ok (.aload_n 0, 1) := by decide +kernel
theorem dl_1130 : decode code 1130 = .ok (.iload_n 3, 1) := by decide +kernel
theorem dl_1131 : decode code 1131 = .ok (.iconst 2, 1) := by decide +kernel
theorem dl_1132 : decode code 1132 = .ok (.iadd, 1) := by decide +kernel
theorem dl_1133 : decode code 1133 = .ok (.iaload, 1) := by decide +kernel
theorem dl_1134 : decode code 1134 = .ok (.aload_n 0, 1) := by decide +kernel
theorem dl_1135 : decode code 1135 = .ok (.iload_n 3, 1) := by decide +kernel
theorem dl_1136 : decode code 1136 = .ok (.iconst 3, 1) := by decide +kernel
theorem dl_1137 : decode code 1137 = .ok (.iadd, 1) := by decide +kernel
theorem dl_1138 : decode code 1138 = .ok (.iaload, 1) := by decide +kernel
theorem dl_1139 : decode code 1139 = .ok (.aload_n 0, 1) := by decide +kernel
theorem dl_1140 : decode code 1140 = .ok (.iload_n 3, 1) := by decide +kernel
theorem dl_1141 : decode code 1141 = .ok (.iconst 4, 1) := by decide +kernel
theorem dl_1142 : decode code 1142 = .ok (.iadd, 1) := by decide +kernel
theorem dl_1143 : decode code 1143 = .ok (.iaload, 1) := by decide +kernel
theorem dl_1144 : decode code 1144 = .ok (.aload_n 0, 1) := by decide +kernel
theorem dl_1145 : decode code 1145 = .ok (.iload_n 3, 1) := by decide +kernel
theorem dl_1146 : decode code 1146 = .ok (.iconst 5, 1) := by decide +kernel
theorem dl_1147 : decode code 1147 = .ok (.iadd, 1) := by decide +kernel
theorem dl_1148 : decode code 1148 = .ok (.iaload, 1) := by decide +kernel
theorem dl_1149 : decode code 1149 = .ok (.invokevirtual 142, 3) := by decide +kernel
theorem dl_1152 : decode code 1152 = .ok (.if_icmp .eq 65, 3) := by decide +kernel
theorem dl_1155 : decode code 1155 = .ok (.iconst 0, 1) := by decide +kernel
theorem dl_1156 : decode code 1156 = .ok (.ireturn, 1) := by decide +kernel
theorem dl_1157 : decode code 1157 = .ok (.aload_n 1, 1) := by decide +kernel
theorem dl_1158 : decode code 1158 = .ok (.aload_n 0, 1) := by decide +kernel
theorem dl_1159 : decode code 1159 = .ok (.iload_n 3, 1) := by decide +kernel
theorem dl_1160 : decode code 1160 = .ok (.iconst 1, 1) := by decide +kernel
theorem dl_1161 : decode code 1161 = .ok (.iadd, 1) := by decide +kernel
theorem dl_1162 : decode code 1162 = .ok (.iaload, 1) := by decide +kernel
theorem dl_1163 : decode code 1163 = .ok (.invokevirtual 143, 3) := by decide +kernel
theorem dl_1166 : decode code 1166 = .ok (.aload_n 2, 1) := by decide +kernel
theorem dl_1167 : decode code 1167 = .ok (.aload_n 0, 1) := by decide +kernel
theorem dl_1168 : decode code 1168 = .ok (.iload_n 3, 1) := by decide +kernel
theorem dl_1169 : decode code 1169 = .ok (.iconst 1, 1) := by decide +kernel
theorem dl_1170 : decode code 1170 = .ok (.iadd, 1) := by decide +kernel
theorem dl_1171 : decode code 1171 = .ok (.iaload, 1) := by decide +kernel
theorem dl_1172 : decode code 1172 = .ok (.invokevirtual 146, 3) := by decide +kernel
theorem dl_1175 : decode code 1175 = .ok (.if_icmp .eq 42, 3) := by decide +kernel
theorem dl_1178 : decode code 1178 = .ok (.iconst 0, 1) := by decide +kernel
theorem dl_1179 : decode code 1179 = .ok (.ireturn, 1) := by decide +kernel
theorem dl_1180 : decode code 1180 = .ok (.aload_n 1, 1) := by decide +kernel
theorem dl_1181 : decode code 1181 = .ok (.aload_n 0, 1) := by decide +kernel
theorem dl_1182 : decode code 1182 = .ok (.iload_n 3, 1) := by decide +kernel
theorem dl_1183 : decode code 1183 = .ok (.iconst 1, 1) := by decide +kernel
theorem dl_1184 : decode code 1184 = .ok (.iadd, 1) := by decide +kernel
theorem dl_1185 : decode code 1185 = .ok (.iaload, 1) := by decide +kernel
theorem dl_1186 : decode code 1186 = .ok (.invokevirtual 147, 3) := by decide +kernel
theorem dl_1189 : decode code 1189 = .ok (.aload_n 2, 1) := by decide +kernel
theorem dl_1190 : decode code 1190 = .ok (.aload_n 0, 1) := by decide +kernel
theorem dl_1191 : decode code 1191 = .ok (.iload_n 3, 1) := by decide +kernel
theorem dl_1192 : decode code 1192 = .ok (.iconst 1, 1) := by decide +kernel
theorem dl_1193 : decode code 1193 = .ok (.iadd, 1) := by decide +kernel
theorem dl_1194 : decode code 1194 = .ok (.iaload, 1) := by decide +kernel
theorem dl_1195 : decode code 1195 = .ok (.invokevirtual 150, 3) := by decide +kernel
theorem dl_1198 : decode code 1198 = .ok (.if_icmp .eq 19, 3) := by decide +kernel
theorem dl_1201 : decode code 1201 = .ok (.iconst 0, 1) := by decide +kernel
theorem dl_1202 : decode code 1202 = .ok (.ireturn, 1) := by decide +kernel
theorem dl_1203 : decode code 1203 = .ok (.aload_n 1, 1) := by decide +kernel
theorem dl_1204 : decode code 1204 = .ok (.invokevirtual 151, 3) := by decide +kernel
theorem dl_1207 : decode code 1207 = .ok (.aload_n 2, 1) := by decide +kernel
theorem dl_1208 : decode code 1208 = .ok (.invokevirtual 155, 3) := by decide +kernel
theorem dl_1211 : decode code 1211 = .ok (.lcmp, 1) := by decide +kernel
theorem dl_1212 : decode code 1212 = .ok (.ifCond .eq 5, 3) := by decide +kernel
theorem dl_1215 : decode code 1215 = .ok (.iconst 0, 1) := by decide +kernel
theorem dl_1216 : decode code 1216 = .ok (.ireturn, 1) := by decide +kernel
theorem dl_1217 : decode code 1217 = .ok (.iinc 3 6, 3) := by decide +kernel
theorem dl_1220 : decode code 1220 = .ok (.goto (-1202), 3) := by decide +kernel
theorem dl_1223 : decode code 1223 = .ok (.iconst 1, 1) := by decide +kernel
theorem dl_1224 : decode code 1224 = .ok (.ireturn, 1) := by decide +kernel
set_option maxRecDepth 100000 in
theorem ml_L_13 : Cond.methodLink "RoofAcrossLaw" 13 (mi_R_type).1 ∈ ra_WS := ra_in 486 (by decide +kernel) (by decide +kernel)
set_option maxRecDepth 100000 in
theorem ml_L_17 : Cond.methodLink "RoofAcrossLaw" 17 (mi_N_type).1 ∈ ra_WS := ra_in 1111 (by decide +kernel) (by decide +kernel)
set_option maxRecDepth 100000 in
theorem ml_L_18 : Cond.methodLink "RoofAcrossLaw" 18 (mi_R_wipe).1 ∈ ra_WS := ra_in 633 (by decide +kernel) (by decide +kernel)
set_option maxRecDepth 100000 in
theorem ml_L_22 : Cond.methodLink "RoofAcrossLaw" 22 (mi_N_wipe).1 ∈ ra_WS := ra_in 1118 (by decide +kernel) (by decide +kernel)
set_option maxRecDepth 100000 in
theorem ml_L_23 : Cond.methodLink "RoofAcrossLaw" 23 (mi_R_fault).1 ∈ ra_WS := ra_in 641 (by decide +kernel) (by decide +kernel)
set_option maxRecDepth 100000 in
theorem ml_L_26 : Cond.methodLink "RoofAcrossLaw" 26 (mi_N_fault).1 ∈ ra_WS := ra_in 1122 (by decide +kernel) (by decide +kernel)
set_option maxRecDepth 100000 in
theorem ml_L_27 : Cond.methodLink "RoofAcrossLaw" 27 (mi_R_house).1 ∈ ra_WS := ra_in 645 (by decide +kernel) (by decide +kernel)
set_option maxRecDepth 100000 in
theorem ml_L_30 : Cond.methodLink "RoofAcrossLaw" 30 (mi_N_house).1 ∈ ra_WS := ra_in 1153 (by decide +kernel) (by decide +kernel)
set_option maxRecDepth 100000 in
theorem ml_L_31 : Cond.methodLink "RoofAcrossLaw" 31 (mi_R_rain).1 ∈ ra_WS := ra_in 653 (by decide +kernel) (by decide +kernel)
set_option maxRecDepth 100000 in
theorem ml_L_34 : Cond.methodLink "RoofAcrossLaw" 34 (mi_N_rain).1 ∈ ra_WS := ra_in 1173 (by decide +kernel) (by decide +kernel)
set_option maxRecDepth 100000 in
theorem ml_L_35 : Cond.methodLink "RoofAcrossLaw" 35 (mi_R_read).1 ∈ ra_WS := ra_in 662 (by decide +kernel) (by decide +kernel)
set_option maxRecDepth 100000 in
theorem ml_L_38 : Cond.methodLink "RoofAcrossLaw" 38 (mi_N_read).1 ∈ ra_WS := ra_in 1181 (by decide +kernel) (by decide +kernel)
set_option maxRecDepth 100000 in
theorem ml_L_39 : Cond.methodLink "RoofAcrossLaw" 39 (mi_R_undo).1 ∈ ra_WS := ra_in 673 (by decide +kernel) (by decide +kernel)
set_option maxRecDepth 100000 in
theorem ml_L_43 : Cond.methodLink "RoofAcrossLaw" 43 (mi_N_undo).1 ∈ ra_WS := ra_in 1192 (by decide +kernel) (by decide +kernel)
set_option maxRecDepth 100000 in
theorem ml_L_44 : Cond.methodLink "RoofAcrossLaw" 44 (mi_R_set).1 ∈ ra_WS := ra_in 681 (by decide +kernel) (by decide +kernel)
set_option maxRecDepth 100000 in
theorem ml_L_47 : Cond.methodLink "RoofAcrossLaw" 47 (mi_N_set).1 ∈ ra_WS := ra_in 1196 (by decide +kernel) (by decide +kernel)
set_option maxRecDepth 100000 in
theorem ml_L_48 : Cond.methodLink "RoofAcrossLaw" 48 (mi_R_tiles).1 ∈ ra_WS := ra_in 693 (by decide +kernel) (by decide +kernel)
set_option maxRecDepth 100000 in
theorem ml_L_51 : Cond.methodLink "RoofAcrossLaw" 51 (mi_N_tiles).1 ∈ ra_WS := ra_in 1200 (by decide +kernel) (by decide +kernel)
set_option maxRecDepth 100000 in
theorem ml_L_52 : Cond.methodLink "RoofAcrossLaw" 52 (mi_R_purse).1 ∈ ra_WS := ra_in 735 (by decide +kernel) (by decide +kernel)
set_option maxRecDepth 100000 in
theorem ml_L_55 : Cond.methodLink "RoofAcrossLaw" 55 (mi_N_purse).1 ∈ ra_WS := ra_in 1224 (by decide +kernel) (by decide +kernel)
set_option maxRecDepth 100000 in
theorem ml_L_56 : Cond.methodLink "RoofAcrossLaw" 56 (mi_R_harm).1 ∈ ra_WS := ra_in 739 (by decide +kernel) (by decide +kernel)
set_option maxRecDepth 100000 in
theorem ml_L_59 : Cond.methodLink "RoofAcrossLaw" 59 (mi_N_harm).1 ∈ ra_WS := ra_in 1228 (by decide +kernel) (by decide +kernel)
set_option maxRecDepth 100000 in
theorem ml_L_60 : Cond.methodLink "RoofAcrossLaw" 60 (mi_R_laid).1 ∈ ra_WS := ra_in 743 (by decide +kernel) (by decide +kernel)
set_option maxRecDepth 100000 in
theorem ml_L_63 : Cond.methodLink "RoofAcrossLaw" 63 (mi_N_laid).1 ∈ ra_WS := ra_in 1232 (by decide +kernel) (by decide +kernel)
set_option maxRecDepth 100000 in
theorem ml_L_64 : Cond.methodLink "RoofAcrossLaw" 64 (mi_R_all).1 ∈ ra_WS := ra_in 747 (by decide +kernel) (by decide +kernel)
set_option maxRecDepth 100000 in
theorem ml_L_67 : Cond.methodLink "RoofAcrossLaw" 67 (mi_N_all).1 ∈ ra_WS := ra_in 1236 (by decide +kernel) (by decide +kernel)
set_option maxRecDepth 100000 in
theorem ml_L_68 : Cond.methodLink "RoofAcrossLaw" 68 (mi_R_ring).1 ∈ ra_WS := ra_in 751 (by decide +kernel) (by decide +kernel)
set_option maxRecDepth 100000 in
theorem ml_L_71 : Cond.methodLink "RoofAcrossLaw" 71 (mi_N_ring).1 ∈ ra_WS := ra_in 1244 (by decide +kernel) (by decide +kernel)
set_option maxRecDepth 100000 in
theorem ml_L_72 : Cond.methodLink "RoofAcrossLaw" 72 (mi_R_dry).1 ∈ ra_WS := ra_in 761 (by decide +kernel) (by decide +kernel)
set_option maxRecDepth 100000 in
theorem ml_L_76 : Cond.methodLink "RoofAcrossLaw" 76 (mi_N_dry).1 ∈ ra_WS := ra_in 1255 (by decide +kernel) (by decide +kernel)
set_option maxRecDepth 100000 in
theorem ml_L_77 : Cond.methodLink "RoofAcrossLaw" 77 (mi_R_wish).1 ∈ ra_WS := ra_in 785 (by decide +kernel) (by decide +kernel)
set_option maxRecDepth 100000 in
theorem ml_L_80 : Cond.methodLink "RoofAcrossLaw" 80 (mi_N_wish).1 ∈ ra_WS := ra_in 1263 (by decide +kernel) (by decide +kernel)
set_option maxRecDepth 100000 in
theorem ml_L_81 : Cond.methodLink "RoofAcrossLaw" 81 (mi_R_want).1 ∈ ra_WS := ra_in 796 (by decide +kernel) (by decide +kernel)
set_option maxRecDepth 100000 in
theorem ml_L_84 : Cond.methodLink "RoofAcrossLaw" 84 (mi_N_want).1 ∈ ra_WS := ra_in 1270 (by decide +kernel) (by decide +kernel)
set_option maxRecDepth 100000 in
theorem ml_L_85 : Cond.methodLink "RoofAcrossLaw" 85 (mi_R_market).1 ∈ ra_WS := ra_in 804 (by decide +kernel) (by decide +kernel)
set_option maxRecDepth 100000 in
theorem ml_L_88 : Cond.methodLink "RoofAcrossLaw" 88 (mi_N_market).1 ∈ ra_WS := ra_in 1282 (by decide +kernel) (by decide +kernel)
set_option maxRecDepth 100000 in
theorem ml_L_89 : Cond.methodLink "RoofAcrossLaw" 89 (mi_R_best).1 ∈ ra_WS := ra_in 820 (by decide +kernel) (by decide +kernel)
set_option maxRecDepth 100000 in
theorem ml_L_92 : Cond.methodLink "RoofAcrossLaw" 92 (mi_N_best).1 ∈ ra_WS := ra_in 1290 (by decide +kernel) (by decide +kernel)
set_option maxRecDepth 100000 in
theorem ml_L_93 : Cond.methodLink "RoofAcrossLaw" 93 (mi_R_fact).1 ∈ ra_WS := ra_in 838 (by decide +kernel) (by decide +kernel)
set_option maxRecDepth 100000 in
theorem ml_L_96 : Cond.methodLink "RoofAcrossLaw" 96 (mi_N_fact).1 ∈ ra_WS := ra_in 1298 (by decide +kernel) (by decide +kernel)
set_option maxRecDepth 100000 in
theorem ml_L_97 : Cond.methodLink "RoofAcrossLaw" 97 (mi_R_forget).1 ∈ ra_WS := ra_in 846 (by decide +kernel) (by decide +kernel)
set_option maxRecDepth 100000 in
theorem ml_L_100 : Cond.methodLink "RoofAcrossLaw" 100 (mi_N_forget).1 ∈ ra_WS := ra_in 1302 (by decide +kernel) (by decide +kernel)
set_option maxRecDepth 100000 in
theorem ml_L_101 : Cond.methodLink "RoofAcrossLaw" 101 (mi_R_could).1 ∈ ra_WS := ra_in 854 (by decide +kernel) (by decide +kernel)
set_option maxRecDepth 100000 in
theorem ml_L_104 : Cond.methodLink "RoofAcrossLaw" 104 (mi_N_could).1 ∈ ra_WS := ra_in 1306 (by decide +kernel) (by decide +kernel)
set_option maxRecDepth 100000 in
theorem ml_L_105 : Cond.methodLink "RoofAcrossLaw" 105 (mi_R_ask).1 ∈ ra_WS := ra_in 884 (by decide +kernel) (by decide +kernel)
set_option maxRecDepth 100000 in
theorem ml_L_108 : Cond.methodLink "RoofAcrossLaw" 108 (mi_N_ask).1 ∈ ra_WS := ra_in 1326 (by decide +kernel) (by decide +kernel)
set_option maxRecDepth 100000 in
theorem ml_L_109 : Cond.methodLink "RoofAcrossLaw" 109 (mi_R_hands).1 ∈ ra_WS := ra_in 898 (by decide +kernel) (by decide +kernel)
set_option maxRecDepth 100000 in
theorem ml_L_112 : Cond.methodLink "RoofAcrossLaw" 112 (mi_N_hands).1 ∈ ra_WS := ra_in 1334 (by decide +kernel) (by decide +kernel)
set_option maxRecDepth 100000 in
theorem ml_L_113 : Cond.methodLink "RoofAcrossLaw" 113 (mi_R_claim).1 ∈ ra_WS := ra_in 920 (by decide +kernel) (by decide +kernel)
set_option maxRecDepth 100000 in
theorem ml_L_116 : Cond.methodLink "RoofAcrossLaw" 116 (mi_N_claim).1 ∈ ra_WS := ra_in 1346 (by decide +kernel) (by decide +kernel)
set_option maxRecDepth 100000 in
theorem ml_L_117 : Cond.methodLink "RoofAcrossLaw" 117 (mi_R_liars).1 ∈ ra_WS := ra_in 924 (by decide +kernel) (by decide +kernel)
set_option maxRecDepth 100000 in
theorem ml_L_120 : Cond.methodLink "RoofAcrossLaw" 120 (mi_N_liars).1 ∈ ra_WS := ra_in 1350 (by decide +kernel) (by decide +kernel)
set_option maxRecDepth 100000 in
theorem ml_L_121 : Cond.methodLink "RoofAcrossLaw" 121 (mi_R_sheet).1 ∈ ra_WS := ra_in 928 (by decide +kernel) (by decide +kernel)
set_option maxRecDepth 100000 in
theorem ml_L_124 : Cond.methodLink "RoofAcrossLaw" 124 (mi_N_sheet).1 ∈ ra_WS := ra_in 1358 (by decide +kernel) (by decide +kernel)
set_option maxRecDepth 100000 in
theorem ml_L_125 : Cond.methodLink "RoofAcrossLaw" 125 (mi_R_lose).1 ∈ ra_WS := ra_in 939 (by decide +kernel) (by decide +kernel)
set_option maxRecDepth 100000 in
theorem ml_L_128 : Cond.methodLink "RoofAcrossLaw" 128 (mi_N_lose).1 ∈ ra_WS := ra_in 1362 (by decide +kernel) (by decide +kernel)
set_option maxRecDepth 100000 in
theorem ml_L_129 : Cond.methodLink "RoofAcrossLaw" 129 (mi_R_put).1 ∈ ra_WS := ra_in 943 (by decide +kernel) (by decide +kernel)
set_option maxRecDepth 100000 in
theorem ml_L_133 : Cond.methodLink "RoofAcrossLaw" 133 (mi_N_put).1 ∈ ra_WS := ra_in 1366 (by decide +kernel) (by decide +kernel)
set_option maxRecDepth 100000 in
theorem ml_L_134 : Cond.methodLink "RoofAcrossLaw" 134 (mi_R_get).1 ∈ ra_WS := ra_in 956 (by decide +kernel) (by decide +kernel)
set_option maxRecDepth 100000 in
theorem ml_L_137 : Cond.methodLink "RoofAcrossLaw" 137 (mi_N_get).1 ∈ ra_WS := ra_in 1378 (by decide +kernel) (by decide +kernel)
set_option maxRecDepth 100000 in
theorem ml_L_138 : Cond.methodLink "RoofAcrossLaw" 138 (mi_R_copy).1 ∈ ra_WS := ra_in 961 (by decide +kernel) (by decide +kernel)
set_option maxRecDepth 100000 in
theorem ml_L_142 : Cond.methodLink "RoofAcrossLaw" 142 (mi_N_copy).1 ∈ ra_WS := ra_in 1383 (by decide +kernel) (by decide +kernel)
set_option maxRecDepth 100000 in
theorem ml_L_143 : Cond.methodLink "RoofAcrossLaw" 143 (mi_R_write).1 ∈ ra_WS := ra_in 970 (by decide +kernel) (by decide +kernel)
set_option maxRecDepth 100000 in
theorem ml_L_146 : Cond.methodLink "RoofAcrossLaw" 146 (mi_N_write).1 ∈ ra_WS := ra_in 1387 (by decide +kernel) (by decide +kernel)
set_option maxRecDepth 100000 in
theorem ml_L_147 : Cond.methodLink "RoofAcrossLaw" 147 (mi_R_count).1 ∈ ra_WS := ra_in 975 (by decide +kernel) (by decide +kernel)
set_option maxRecDepth 100000 in
theorem ml_L_150 : Cond.methodLink "RoofAcrossLaw" 150 (mi_N_count).1 ∈ ra_WS := ra_in 1391 (by decide +kernel) (by decide +kernel)
set_option maxRecDepth 100000 in
theorem ml_L_151 : Cond.methodLink "RoofAcrossLaw" 151 (mi_R_digest).1 ∈ ra_WS := ra_in 983 (by decide +kernel) (by decide +kernel)
set_option maxRecDepth 100000 in
theorem ml_L_155 : Cond.methodLink "RoofAcrossLaw" 155 (mi_N_digest).1 ∈ ra_WS := ra_in 1399 (by decide +kernel) (by decide +kernel)
