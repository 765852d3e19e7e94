/-! THE LAW'S LOOP: its cases, and the loop -/
theorem zc_space {L : Nat} {xs : Nat → Int32} {i : Nat} (hi : i + 5 ≤ L) (hL0 : L ≤ 2560) {SX SM : amS} {B : Nat} {a : Ar} {hs : List Ar} {tx : List Nat} {u0 u1 u2 ck co : Int32} (hX : xCore SX B a hs tx u0 u1 u2 ck co) (hM : mCore SM a hs tx u0 u1 u2 ck co) (hB : B + 1 < 2147483648) (kk : ∀ (SX' SM' : amS) (a : Ar) (hs : List Ar) (tx : List Nat) (u0 u1 u2 ck co : Int32), xCore SX' (B + 3000) a hs tx u0 u1 u2 ck co → mCore SM' a hs tx u0 u1 u2 ck co → Z L xs i 996 [] SX' SM') : Z L xs i 172 [] SX SM := by
  obtain ⟨r, a1, hs1, tx1, w0, w1, w2, ck1, co1, g1, g2⟩ := ag_space hX hM hB (xs (i + 1))
  refine z_a1 dL_law_172 ?_
  refine z_arg 1 1 (by decide +kernel) (by omega) hL0 dL_law_173 dL_law_174 dL_law_175 dL_law_176 dL_law_177 ?_
  refine z_cX1 dL_law_178 (lm_t2 _ (List.mem_of_getElem? (i := 89) rfl)) nv_X10_space rfl (fun _ => rfl) rfl rfl (Nat.le_of_ble_eq_true rfl) g1 (fun SX1 hX1 => ?_)
  refine z_a2 dL_law_181 ?_
  refine z_arg 1 1 (by decide +kernel) (by omega) hL0 dL_law_182 dL_law_183 dL_law_184 dL_law_185 dL_law_186 ?_
  refine z_cM1 dL_law_187 (lm_t4 _ (List.mem_of_getElem? (i := 224) rfl)) nv_X11_space rfl (fun _ => rfl) rfl rfl (Nat.le_of_ble_eq_true rfl) g2 (fun SM1 hM1 => ?_)
  refine z_eq 996 dL_law_190 (by decide) ?_
  exact kk SX1 SM1 a1 hs1 tx1 w0 w1 w2 ck1 co1 hX1 hM1
theorem zc_plane {L : Nat} {xs : Nat → Int32} {i : Nat} (hi : i + 5 ≤ L) (hL0 : L ≤ 2560) {SX SM : amS} {B : Nat} {a : Ar} {hs : List Ar} {tx : List Nat} {u0 u1 u2 ck co : Int32} (hX : xCore SX B a hs tx u0 u1 u2 ck co) (hM : mCore SM a hs tx u0 u1 u2 ck co) (hB : B + 1 < 2147483648) (kk : ∀ (SX' SM' : amS) (a : Ar) (hs : List Ar) (tx : List Nat) (u0 u1 u2 ck co : Int32), xCore SX' (B + 3000) a hs tx u0 u1 u2 ck co → mCore SM' a hs tx u0 u1 u2 ck co → Z L xs i 996 [] SX' SM') : Z L xs i 195 [] SX SM := by
  obtain ⟨r, a1, hs1, tx1, w0, w1, w2, ck1, co1, g1, g2⟩ := ag_plane hX hM hB (xs (i + 1)) (xs (i + 2)) (xs (i + 3)) (xs (i + 4))
  refine z_a1 dL_law_195 ?_
  refine z_arg 1 1 (by decide +kernel) (by omega) hL0 dL_law_196 dL_law_197 dL_law_198 dL_law_199 dL_law_200 ?_
  refine z_arg 2 2 (by decide +kernel) (by omega) hL0 dL_law_201 dL_law_202 dL_law_203 dL_law_204 dL_law_205 ?_
  refine z_arg 3 3 (by decide +kernel) (by omega) hL0 dL_law_206 dL_law_207 dL_law_208 dL_law_209 dL_law_210 ?_
  refine z_arg 4 4 (by decide +kernel) (by omega) hL0 dL_law_211 dL_law_212 dL_law_213 dL_law_214 dL_law_215 ?_
  refine z_cX4 dL_law_216 (lm_t2 _ (List.mem_of_getElem? (i := 120) rfl)) nv_X10_plane rfl (fun _ => rfl) rfl rfl (Nat.le_of_ble_eq_true rfl) g1 (fun SX1 hX1 => ?_)
  refine z_a2 dL_law_219 ?_
  refine z_arg 1 1 (by decide +kernel) (by omega) hL0 dL_law_220 dL_law_221 dL_law_222 dL_law_223 dL_law_224 ?_
  refine z_arg 2 2 (by decide +kernel) (by omega) hL0 dL_law_225 dL_law_226 dL_law_227 dL_law_228 dL_law_229 ?_
  refine z_arg 3 3 (by decide +kernel) (by omega) hL0 dL_law_230 dL_law_231 dL_law_232 dL_law_233 dL_law_234 ?_
  refine z_arg 4 4 (by decide +kernel) (by omega) hL0 dL_law_235 dL_law_236 dL_law_237 dL_law_238 dL_law_239 ?_
  refine z_cM4 dL_law_240 (lm_t5 _ (List.mem_of_getElem? (i := 7) rfl)) nv_X11_plane rfl (fun _ => rfl) rfl rfl (Nat.le_of_ble_eq_true rfl) g2 (fun SM1 hM1 => ?_)
  refine z_eq 996 dL_law_243 (by decide) ?_
  exact kk SX1 SM1 a1 hs1 tx1 w0 w1 w2 ck1 co1 hX1 hM1
theorem zc_turns {L : Nat} {xs : Nat → Int32} {i : Nat} (hi : i + 5 ≤ L) (hL0 : L ≤ 2560) {SX SM : amS} {B : Nat} {a : Ar} {hs : List Ar} {tx : List Nat} {u0 u1 u2 ck co : Int32} (hX : xCore SX B a hs tx u0 u1 u2 ck co) (hM : mCore SM a hs tx u0 u1 u2 ck co) (hB : B + 1 < 2147483648) (kk : ∀ (SX' SM' : amS) (a : Ar) (hs : List Ar) (tx : List Nat) (u0 u1 u2 ck co : Int32), xCore SX' (B + 3000) a hs tx u0 u1 u2 ck co → mCore SM' a hs tx u0 u1 u2 ck co → Z L xs i 996 [] SX' SM') : Z L xs i 248 [] SX SM := by
  obtain ⟨r, a1, hs1, tx1, w0, w1, w2, ck1, co1, g1, g2⟩ := ag_turns hX hM hB (xs (i + 1))
  refine z_a1 dL_law_248 ?_
  refine z_arg 1 1 (by decide +kernel) (by omega) hL0 dL_law_249 dL_law_250 dL_law_251 dL_law_252 dL_law_253 ?_
  refine z_cX1 dL_law_254 (lm_t2 _ (List.mem_of_getElem? (i := 143) rfl)) nv_X10_turns rfl (fun _ => rfl) rfl rfl (Nat.le_of_ble_eq_true rfl) g1 (fun SX1 hX1 => ?_)
  refine z_a2 dL_law_257 ?_
  refine z_arg 1 1 (by decide +kernel) (by omega) hL0 dL_law_258 dL_law_259 dL_law_260 dL_law_261 dL_law_262 ?_
  refine z_cM1 dL_law_263 (lm_t5 _ (List.mem_of_getElem? (i := 23) rfl)) nv_X11_turns rfl (fun _ => rfl) rfl rfl (Nat.le_of_ble_eq_true rfl) g2 (fun SM1 hM1 => ?_)
  refine z_eq 996 dL_law_266 (by decide) ?_
  exact kk SX1 SM1 a1 hs1 tx1 w0 w1 w2 ck1 co1 hX1 hM1
theorem zc_drops {L : Nat} {xs : Nat → Int32} {i : Nat} (hi : i + 5 ≤ L) (hL0 : L ≤ 2560) {SX SM : amS} {B : Nat} {a : Ar} {hs : List Ar} {tx : List Nat} {u0 u1 u2 ck co : Int32} (hX : xCore SX B a hs tx u0 u1 u2 ck co) (hM : mCore SM a hs tx u0 u1 u2 ck co) (hB : B + 1 < 2147483648) (kk : ∀ (SX' SM' : amS) (a : Ar) (hs : List Ar) (tx : List Nat) (u0 u1 u2 ck co : Int32), xCore SX' (B + 3000) a hs tx u0 u1 u2 ck co → mCore SM' a hs tx u0 u1 u2 ck co → Z L xs i 996 [] SX' SM') : Z L xs i 271 [] SX SM := by
  obtain ⟨r, a1, hs1, tx1, w0, w1, w2, ck1, co1, g1, g2⟩ := ag_drops hX hM hB (xs (i + 1))
  refine z_a1 dL_law_271 ?_
  refine z_arg 1 1 (by decide +kernel) (by omega) hL0 dL_law_272 dL_law_273 dL_law_274 dL_law_275 dL_law_276 ?_
  refine z_cX1 dL_law_277 (lm_t2 _ (List.mem_of_getElem? (i := 222) rfl)) nv_X10_drops rfl (fun _ => rfl) rfl rfl (Nat.le_of_ble_eq_true rfl) g1 (fun SX1 hX1 => ?_)
  refine z_a2 dL_law_280 ?_
  refine z_arg 1 1 (by decide +kernel) (by omega) hL0 dL_law_281 dL_law_282 dL_law_283 dL_law_284 dL_law_285 ?_
  refine z_cM1 dL_law_286 (lm_t5 _ (List.mem_of_getElem? (i := 92) rfl)) nv_X11_drops rfl (fun _ => rfl) rfl rfl (Nat.le_of_ble_eq_true rfl) g2 (fun SM1 hM1 => ?_)
  refine z_eq 996 dL_law_289 (by decide) ?_
  exact kk SX1 SM1 a1 hs1 tx1 w0 w1 w2 ck1 co1 hX1 hM1
theorem zc_swaps {L : Nat} {xs : Nat → Int32} {i : Nat} (hi : i + 5 ≤ L) (hL0 : L ≤ 2560) {SX SM : amS} {B : Nat} {a : Ar} {hs : List Ar} {tx : List Nat} {u0 u1 u2 ck co : Int32} (hX : xCore SX B a hs tx u0 u1 u2 ck co) (hM : mCore SM a hs tx u0 u1 u2 ck co) (hB : B + 1 < 2147483648) (kk : ∀ (SX' SM' : amS) (a : Ar) (hs : List Ar) (tx : List Nat) (u0 u1 u2 ck co : Int32), xCore SX' (B + 3000) a hs tx u0 u1 u2 ck co → mCore SM' a hs tx u0 u1 u2 ck co → Z L xs i 996 [] SX' SM') : Z L xs i 294 [] SX SM := by
  obtain ⟨r, a1, hs1, tx1, w0, w1, w2, ck1, co1, g1, g2⟩ := ag_swaps hX hM hB (xs (i + 1)) (xs (i + 2))
  refine z_a1 dL_law_294 ?_
  refine z_arg 1 1 (by decide +kernel) (by omega) hL0 dL_law_295 dL_law_296 dL_law_297 dL_law_298 dL_law_299 ?_
  refine z_arg 2 2 (by decide +kernel) (by omega) hL0 dL_law_300 dL_law_301 dL_law_302 dL_law_303 dL_law_304 ?_
  refine z_cX2 dL_law_305 (lm_t2 _ (List.mem_of_getElem? (i := 230) rfl)) nv_X10_swaps rfl (fun _ => rfl) rfl rfl (Nat.le_of_ble_eq_true rfl) g1 (fun SX1 hX1 => ?_)
  refine z_a2 dL_law_308 ?_
  refine z_arg 1 1 (by decide +kernel) (by omega) hL0 dL_law_309 dL_law_310 dL_law_311 dL_law_312 dL_law_313 ?_
  refine z_arg 2 2 (by decide +kernel) (by omega) hL0 dL_law_314 dL_law_315 dL_law_316 dL_law_317 dL_law_318 ?_
  refine z_cM2 dL_law_319 (lm_t5 _ (List.mem_of_getElem? (i := 100) rfl)) nv_X11_swaps rfl (fun _ => rfl) rfl rfl (Nat.le_of_ble_eq_true rfl) g2 (fun SM1 hM1 => ?_)
  refine z_eq 996 dL_law_322 (by decide) ?_
  exact kk SX1 SM1 a1 hs1 tx1 w0 w1 w2 ck1 co1 hX1 hM1
theorem zc_makes {L : Nat} {xs : Nat → Int32} {i : Nat} (hi : i + 5 ≤ L) (hL0 : L ≤ 2560) {SX SM : amS} {B : Nat} {a : Ar} {hs : List Ar} {tx : List Nat} {u0 u1 u2 ck co : Int32} (hX : xCore SX B a hs tx u0 u1 u2 ck co) (hM : mCore SM a hs tx u0 u1 u2 ck co) (hB : B + 1 < 2147483648) (kk : ∀ (SX' SM' : amS) (a : Ar) (hs : List Ar) (tx : List Nat) (u0 u1 u2 ck co : Int32), xCore SX' (B + 3000) a hs tx u0 u1 u2 ck co → mCore SM' a hs tx u0 u1 u2 ck co → Z L xs i 996 [] SX' SM') : Z L xs i 327 [] SX SM := by
  obtain ⟨r, a1, hs1, tx1, w0, w1, w2, ck1, co1, g1, g2⟩ := ag_makes hX hM hB (xs (i + 1))
  refine z_a1 dL_law_327 ?_
  refine z_arg 1 1 (by decide +kernel) (by omega) hL0 dL_law_328 dL_law_329 dL_law_330 dL_law_331 dL_law_332 ?_
  refine z_cX1 dL_law_333 (lm_t3 _ (List.mem_of_getElem? (i := 3) rfl)) nv_X10_makes rfl (fun _ => rfl) rfl rfl (Nat.le_of_ble_eq_true rfl) g1 (fun SX1 hX1 => ?_)
  refine z_a2 dL_law_336 ?_
  refine z_arg 1 1 (by decide +kernel) (by omega) hL0 dL_law_337 dL_law_338 dL_law_339 dL_law_340 dL_law_341 ?_
  refine z_cM1 dL_law_342 (lm_t5 _ (List.mem_of_getElem? (i := 108) rfl)) nv_X11_makes rfl (fun _ => rfl) rfl rfl (Nat.le_of_ble_eq_true rfl) g2 (fun SM1 hM1 => ?_)
  refine z_eq 996 dL_law_345 (by decide) ?_
  exact kk SX1 SM1 a1 hs1 tx1 w0 w1 w2 ck1 co1 hX1 hM1
theorem zc_of {L : Nat} {xs : Nat → Int32} {i : Nat} (hi : i + 5 ≤ L) (hL0 : L ≤ 2560) {SX SM : amS} {B : Nat} {a : Ar} {hs : List Ar} {tx : List Nat} {u0 u1 u2 ck co : Int32} (hX : xCore SX B a hs tx u0 u1 u2 ck co) (hM : mCore SM a hs tx u0 u1 u2 ck co) (hB : B + 1 < 2147483648) (kk : ∀ (SX' SM' : amS) (a : Ar) (hs : List Ar) (tx : List Nat) (u0 u1 u2 ck co : Int32), xCore SX' (B + 3000) a hs tx u0 u1 u2 ck co → mCore SM' a hs tx u0 u1 u2 ck co → Z L xs i 996 [] SX' SM') : Z L xs i 350 [] SX SM := by
  obtain ⟨r, a1, hs1, tx1, w0, w1, w2, ck1, co1, g1, g2⟩ := ag_of hX hM hB (xs (i + 1)) (xs (i + 2))
  refine z_a1 dL_law_350 ?_
  refine z_arg 1 1 (by decide +kernel) (by omega) hL0 dL_law_351 dL_law_352 dL_law_353 dL_law_354 dL_law_355 ?_
  refine z_arg 2 2 (by decide +kernel) (by omega) hL0 dL_law_356 dL_law_357 dL_law_358 dL_law_359 dL_law_360 ?_
  refine z_cX2 dL_law_361 (lm_t3 _ (List.mem_of_getElem? (i := 19) rfl)) nv_X10_of rfl (fun _ => rfl) rfl rfl (Nat.le_of_ble_eq_true rfl) g1 (fun SX1 hX1 => ?_)
  refine z_a2 dL_law_364 ?_
  refine z_arg 1 1 (by decide +kernel) (by omega) hL0 dL_law_365 dL_law_366 dL_law_367 dL_law_368 dL_law_369 ?_
  refine z_arg 2 2 (by decide +kernel) (by omega) hL0 dL_law_370 dL_law_371 dL_law_372 dL_law_373 dL_law_374 ?_
  refine z_cM2 dL_law_375 (lm_t5 _ (List.mem_of_getElem? (i := 120) rfl)) nv_X11_of rfl (fun _ => rfl) rfl rfl (Nat.le_of_ble_eq_true rfl) g2 (fun SM1 hM1 => ?_)
  refine z_eq 996 dL_law_378 (by decide) ?_
  exact kk SX1 SM1 a1 hs1 tx1 w0 w1 w2 ck1 co1 hX1 hM1
theorem zc_rank {L : Nat} {xs : Nat → Int32} {i : Nat} (hi : i + 5 ≤ L) (hL0 : L ≤ 2560) {SX SM : amS} {B : Nat} {a : Ar} {hs : List Ar} {tx : List Nat} {u0 u1 u2 ck co : Int32} (hX : xCore SX B a hs tx u0 u1 u2 ck co) (hM : mCore SM a hs tx u0 u1 u2 ck co) (hB : B + 1 < 2147483648) (kk : ∀ (SX' SM' : amS) (a : Ar) (hs : List Ar) (tx : List Nat) (u0 u1 u2 ck co : Int32), xCore SX' (B + 3000) a hs tx u0 u1 u2 ck co → mCore SM' a hs tx u0 u1 u2 ck co → Z L xs i 996 [] SX' SM') : Z L xs i 383 [] SX SM := by
  obtain ⟨r, a1, hs1, tx1, w0, w1, w2, ck1, co1, g1, g2⟩ := ag_rank hX hM hB (xs (i + 1))
  refine z_a1 dL_law_383 ?_
  refine z_arg 1 1 (by decide +kernel) (by omega) hL0 dL_law_384 dL_law_385 dL_law_386 dL_law_387 dL_law_388 ?_
  refine z_cX1 dL_law_389 (lm_t3 _ (List.mem_of_getElem? (i := 25) rfl)) nv_X10_rank rfl (fun _ => rfl) rfl rfl (Nat.le_of_ble_eq_true rfl) g1 (fun SX1 hX1 => ?_)
  refine z_a2 dL_law_392 ?_
  refine z_arg 1 1 (by decide +kernel) (by omega) hL0 dL_law_393 dL_law_394 dL_law_395 dL_law_396 dL_law_397 ?_
  refine z_cM1 dL_law_398 (lm_t5 _ (List.mem_of_getElem? (i := 124) rfl)) nv_X11_rank rfl (fun _ => rfl) rfl rfl (Nat.le_of_ble_eq_true rfl) g2 (fun SM1 hM1 => ?_)
  refine z_eq 996 dL_law_401 (by decide) ?_
  exact kk SX1 SM1 a1 hs1 tx1 w0 w1 w2 ck1 co1 hX1 hM1
theorem zc_closed {L : Nat} {xs : Nat → Int32} {i : Nat} (hi : i + 5 ≤ L) (hL0 : L ≤ 2560) {SX SM : amS} {B : Nat} {a : Ar} {hs : List Ar} {tx : List Nat} {u0 u1 u2 ck co : Int32} (hX : xCore SX B a hs tx u0 u1 u2 ck co) (hM : mCore SM a hs tx u0 u1 u2 ck co) (hB : B + 1 < 2147483648) (kk : ∀ (SX' SM' : amS) (a : Ar) (hs : List Ar) (tx : List Nat) (u0 u1 u2 ck co : Int32), xCore SX' (B + 3000) a hs tx u0 u1 u2 ck co → mCore SM' a hs tx u0 u1 u2 ck co → Z L xs i 996 [] SX' SM') : Z L xs i 406 [] SX SM := by
  obtain ⟨r, a1, hs1, tx1, w0, w1, w2, ck1, co1, g1, g2⟩ := ag_closed hX hM hB (xs (i + 1))
  refine z_a1 dL_law_406 ?_
  refine z_arg 1 1 (by decide +kernel) (by omega) hL0 dL_law_407 dL_law_408 dL_law_409 dL_law_410 dL_law_411 ?_
  refine z_cX1 dL_law_412 (lm_t3 _ (List.mem_of_getElem? (i := 34) rfl)) nv_X10_closed rfl (fun _ => rfl) rfl rfl (Nat.le_of_ble_eq_true rfl) g1 (fun SX1 hX1 => ?_)
  refine z_a2 dL_law_415 ?_
  refine z_arg 1 1 (by decide +kernel) (by omega) hL0 dL_law_416 dL_law_417 dL_law_418 dL_law_419 dL_law_420 ?_
  refine z_cM1 dL_law_421 (lm_t5 _ (List.mem_of_getElem? (i := 132) rfl)) nv_X11_closed rfl (fun _ => rfl) rfl rfl (Nat.le_of_ble_eq_true rfl) g2 (fun SM1 hM1 => ?_)
  refine z_eq 996 dL_law_424 (by decide) ?_
  exact kk SX1 SM1 a1 hs1 tx1 w0 w1 w2 ck1 co1 hX1 hM1
theorem zc_flats {L : Nat} {xs : Nat → Int32} {i : Nat} (hi : i + 5 ≤ L) (hL0 : L ≤ 2560) {SX SM : amS} {B : Nat} {a : Ar} {hs : List Ar} {tx : List Nat} {u0 u1 u2 ck co : Int32} (hX : xCore SX B a hs tx u0 u1 u2 ck co) (hM : mCore SM a hs tx u0 u1 u2 ck co) (hB : B + 1 < 2147483648) (kk : ∀ (SX' SM' : amS) (a : Ar) (hs : List Ar) (tx : List Nat) (u0 u1 u2 ck co : Int32), xCore SX' (B + 3000) a hs tx u0 u1 u2 ck co → mCore SM' a hs tx u0 u1 u2 ck co → Z L xs i 996 [] SX' SM') : Z L xs i 429 [] SX SM := by
  obtain ⟨r, a1, hs1, tx1, w0, w1, w2, ck1, co1, g1, g2⟩ := ag_flats hX hM hB (xs (i + 1)) (xs (i + 2))
  refine z_a1 dL_law_429 ?_
  refine z_arg 1 1 (by decide +kernel) (by omega) hL0 dL_law_430 dL_law_431 dL_law_432 dL_law_433 dL_law_434 ?_
  refine z_arg 2 2 (by decide +kernel) (by omega) hL0 dL_law_435 dL_law_436 dL_law_437 dL_law_438 dL_law_439 ?_
  refine z_cX2 dL_law_440 (lm_t3 _ (List.mem_of_getElem? (i := 42) rfl)) nv_X10_flats rfl (fun _ => rfl) rfl rfl (Nat.le_of_ble_eq_true rfl) g1 (fun SX1 hX1 => ?_)
  refine z_a2 dL_law_443 ?_
  refine z_arg 1 1 (by decide +kernel) (by omega) hL0 dL_law_444 dL_law_445 dL_law_446 dL_law_447 dL_law_448 ?_
  refine z_arg 2 2 (by decide +kernel) (by omega) hL0 dL_law_449 dL_law_450 dL_law_451 dL_law_452 dL_law_453 ?_
  refine z_cM2 dL_law_454 (lm_t5 _ (List.mem_of_getElem? (i := 140) rfl)) nv_X11_flats rfl (fun _ => rfl) rfl rfl (Nat.le_of_ble_eq_true rfl) g2 (fun SM1 hM1 => ?_)
  refine z_eq 996 dL_law_457 (by decide) ?_
  exact kk SX1 SM1 a1 hs1 tx1 w0 w1 w2 ck1 co1 hX1 hM1
theorem zc_sign {L : Nat} {xs : Nat → Int32} {i : Nat} (hi : i + 5 ≤ L) (hL0 : L ≤ 2560) {SX SM : amS} {B : Nat} {a : Ar} {hs : List Ar} {tx : List Nat} {u0 u1 u2 ck co : Int32} (hX : xCore SX B a hs tx u0 u1 u2 ck co) (hM : mCore SM a hs tx u0 u1 u2 ck co) (hB : B + 1 < 2147483648) (kk : ∀ (SX' SM' : amS) (a : Ar) (hs : List Ar) (tx : List Nat) (u0 u1 u2 ck co : Int32), xCore SX' (B + 3000) a hs tx u0 u1 u2 ck co → mCore SM' a hs tx u0 u1 u2 ck co → Z L xs i 996 [] SX' SM') : Z L xs i 462 [] SX SM := by
  obtain ⟨r, a1, hs1, tx1, w0, w1, w2, ck1, co1, g1, g2⟩ := ag_sign hX hM hB (xs (i + 1))
  refine z_a1 dL_law_462 ?_
  refine z_arg 1 1 (by decide +kernel) (by omega) hL0 dL_law_463 dL_law_464 dL_law_465 dL_law_466 dL_law_467 ?_
  refine z_cX1 dL_law_468 (lm_t3 _ (List.mem_of_getElem? (i := 54) rfl)) nv_X10_sign rfl (fun _ => rfl) rfl rfl (Nat.le_of_ble_eq_true rfl) g1 (fun SX1 hX1 => ?_)
  refine z_a2 dL_law_471 ?_
  refine z_arg 1 1 (by decide +kernel) (by omega) hL0 dL_law_472 dL_law_473 dL_law_474 dL_law_475 dL_law_476 ?_
  refine z_cM1 dL_law_477 (lm_t5 _ (List.mem_of_getElem? (i := 152) rfl)) nv_X11_sign rfl (fun _ => rfl) rfl rfl (Nat.le_of_ble_eq_true rfl) g2 (fun SM1 hM1 => ?_)
  refine z_eq 996 dL_law_480 (by decide) ?_
  exact kk SX1 SM1 a1 hs1 tx1 w0 w1 w2 ck1 co1 hX1 hM1
theorem zc_rings {L : Nat} {xs : Nat → Int32} {i : Nat} (hi : i + 5 ≤ L) (hL0 : L ≤ 2560) {SX SM : amS} {B : Nat} {a : Ar} {hs : List Ar} {tx : List Nat} {u0 u1 u2 ck co : Int32} (hX : xCore SX B a hs tx u0 u1 u2 ck co) (hM : mCore SM a hs tx u0 u1 u2 ck co) (hB : B + 1 < 2147483648) (kk : ∀ (SX' SM' : amS) (a : Ar) (hs : List Ar) (tx : List Nat) (u0 u1 u2 ck co : Int32), xCore SX' (B + 3000) a hs tx u0 u1 u2 ck co → mCore SM' a hs tx u0 u1 u2 ck co → Z L xs i 996 [] SX' SM') : Z L xs i 485 [] SX SM := by
  obtain ⟨r, a1, hs1, tx1, w0, w1, w2, ck1, co1, g1, g2⟩ := ag_rings hX hM hB (xs (i + 1))
  refine z_a1 dL_law_485 ?_
  refine z_arg 1 1 (by decide +kernel) (by omega) hL0 dL_law_486 dL_law_487 dL_law_488 dL_law_489 dL_law_490 ?_
  refine z_cX1 dL_law_491 (lm_t3 _ (List.mem_of_getElem? (i := 66) rfl)) nv_X10_rings rfl (fun _ => rfl) rfl rfl (Nat.le_of_ble_eq_true rfl) g1 (fun SX1 hX1 => ?_)
  refine z_a2 dL_law_494 ?_
  refine z_arg 1 1 (by decide +kernel) (by omega) hL0 dL_law_495 dL_law_496 dL_law_497 dL_law_498 dL_law_499 ?_
  refine z_cM1 dL_law_500 (lm_t5 _ (List.mem_of_getElem? (i := 156) rfl)) nv_X11_rings rfl (fun _ => rfl) rfl rfl (Nat.le_of_ble_eq_true rfl) g2 (fun SM1 hM1 => ?_)
  refine z_eq 996 dL_law_503 (by decide) ?_
  exact kk SX1 SM1 a1 hs1 tx1 w0 w1 w2 ck1 co1 hX1 hM1
theorem zc_factor {L : Nat} {xs : Nat → Int32} {i : Nat} (hi : i + 5 ≤ L) (hL0 : L ≤ 2560) {SX SM : amS} {B : Nat} {a : Ar} {hs : List Ar} {tx : List Nat} {u0 u1 u2 ck co : Int32} (hX : xCore SX B a hs tx u0 u1 u2 ck co) (hM : mCore SM a hs tx u0 u1 u2 ck co) (hB : B + 1 < 2147483648) (kk : ∀ (SX' SM' : amS) (a : Ar) (hs : List Ar) (tx : List Nat) (u0 u1 u2 ck co : Int32), xCore SX' (B + 3000) a hs tx u0 u1 u2 ck co → mCore SM' a hs tx u0 u1 u2 ck co → Z L xs i 996 [] SX' SM') : Z L xs i 508 [] SX SM := by
  obtain ⟨r, a1, hs1, tx1, w0, w1, w2, ck1, co1, g1, g2⟩ := ag_factor hX hM hB (xs (i + 1)) (xs (i + 2))
  refine z_a1 dL_law_508 ?_
  refine z_arg 1 1 (by decide +kernel) (by omega) hL0 dL_law_509 dL_law_510 dL_law_511 dL_law_512 dL_law_513 ?_
  refine z_arg 2 2 (by decide +kernel) (by omega) hL0 dL_law_514 dL_law_515 dL_law_516 dL_law_517 dL_law_518 ?_
  refine z_cX2 dL_law_519 (lm_t3 _ (List.mem_of_getElem? (i := 74) rfl)) nv_X10_factor rfl (fun _ => rfl) rfl rfl (Nat.le_of_ble_eq_true rfl) g1 (fun SX1 hX1 => ?_)
  refine z_a2 dL_law_522 ?_
  refine z_arg 1 1 (by decide +kernel) (by omega) hL0 dL_law_523 dL_law_524 dL_law_525 dL_law_526 dL_law_527 ?_
  refine z_arg 2 2 (by decide +kernel) (by omega) hL0 dL_law_528 dL_law_529 dL_law_530 dL_law_531 dL_law_532 ?_
  refine z_cM2 dL_law_533 (lm_t5 _ (List.mem_of_getElem? (i := 160) rfl)) nv_X11_factor rfl (fun _ => rfl) rfl rfl (Nat.le_of_ble_eq_true rfl) g2 (fun SM1 hM1 => ?_)
  refine z_eq 996 dL_law_536 (by decide) ?_
  exact kk SX1 SM1 a1 hs1 tx1 w0 w1 w2 ck1 co1 hX1 hM1
theorem zc_polynomial {L : Nat} {xs : Nat → Int32} {i : Nat} (hi : i + 5 ≤ L) (hL0 : L ≤ 2560) {SX SM : amS} {B : Nat} {a : Ar} {hs : List Ar} {tx : List Nat} {u0 u1 u2 ck co : Int32} (hX : xCore SX B a hs tx u0 u1 u2 ck co) (hM : mCore SM a hs tx u0 u1 u2 ck co) (hB : B + 1 < 2147483648) (kk : ∀ (SX' SM' : amS) (a : Ar) (hs : List Ar) (tx : List Nat) (u0 u1 u2 ck co : Int32), xCore SX' (B + 3000) a hs tx u0 u1 u2 ck co → mCore SM' a hs tx u0 u1 u2 ck co → Z L xs i 996 [] SX' SM') : Z L xs i 541 [] SX SM := by
  obtain ⟨r, a1, hs1, tx1, w0, w1, w2, ck1, co1, g1, g2⟩ := ag_polynomial hX hM hB (xs (i + 1)) (xs (i + 2))
  refine z_a1 dL_law_541 ?_
  refine z_arg 1 1 (by decide +kernel) (by omega) hL0 dL_law_542 dL_law_543 dL_law_544 dL_law_545 dL_law_546 ?_
  refine z_arg 2 2 (by decide +kernel) (by omega) hL0 dL_law_547 dL_law_548 dL_law_549 dL_law_550 dL_law_551 ?_
  refine z_cX2 dL_law_552 (lm_t3 _ (List.mem_of_getElem? (i := 99) rfl)) nv_X10_polynomial rfl (fun _ => rfl) rfl rfl (Nat.le_of_ble_eq_true rfl) g1 (fun SX1 hX1 => ?_)
  refine z_a2 dL_law_555 ?_
  refine z_arg 1 1 (by decide +kernel) (by omega) hL0 dL_law_556 dL_law_557 dL_law_558 dL_law_559 dL_law_560 ?_
  refine z_arg 2 2 (by decide +kernel) (by omega) hL0 dL_law_561 dL_law_562 dL_law_563 dL_law_564 dL_law_565 ?_
  refine z_cM2 dL_law_566 (lm_t5 _ (List.mem_of_getElem? (i := 164) rfl)) nv_X11_polynomial rfl (fun _ => rfl) rfl rfl (Nat.le_of_ble_eq_true rfl) g2 (fun SM1 hM1 => ?_)
  refine z_eq 996 dL_law_569 (by decide) ?_
  exact kk SX1 SM1 a1 hs1 tx1 w0 w1 w2 ck1 co1 hX1 hM1
theorem zc_value {L : Nat} {xs : Nat → Int32} {i : Nat} (hi : i + 5 ≤ L) (hL0 : L ≤ 2560) {SX SM : amS} {B : Nat} {a : Ar} {hs : List Ar} {tx : List Nat} {u0 u1 u2 ck co : Int32} (hX : xCore SX B a hs tx u0 u1 u2 ck co) (hM : mCore SM a hs tx u0 u1 u2 ck co) (hB : B + 1 < 2147483648) (kk : ∀ (SX' SM' : amS) (a : Ar) (hs : List Ar) (tx : List Nat) (u0 u1 u2 ck co : Int32), xCore SX' (B + 3000) a hs tx u0 u1 u2 ck co → mCore SM' a hs tx u0 u1 u2 ck co → Z L xs i 996 [] SX' SM') : Z L xs i 574 [] SX SM := by
  obtain ⟨r, a1, hs1, tx1, w0, w1, w2, ck1, co1, g1, g2⟩ := ag_value hX hM hB (xs (i + 1))
  refine z_a1 dL_law_574 ?_
  refine z_arg 1 1 (by decide +kernel) (by omega) hL0 dL_law_575 dL_law_576 dL_law_577 dL_law_578 dL_law_579 ?_
  refine z_cX1 dL_law_580 (lm_t3 _ (List.mem_of_getElem? (i := 107) rfl)) nv_X10_value rfl (fun _ => rfl) rfl rfl (Nat.le_of_ble_eq_true rfl) g1 (fun SX1 hX1 => ?_)
  refine z_a2 dL_law_583 ?_
  refine z_arg 1 1 (by decide +kernel) (by omega) hL0 dL_law_584 dL_law_585 dL_law_586 dL_law_587 dL_law_588 ?_
  refine z_cM1 dL_law_589 (lm_t5 _ (List.mem_of_getElem? (i := 172) rfl)) nv_X11_value rfl (fun _ => rfl) rfl rfl (Nat.le_of_ble_eq_true rfl) g2 (fun SM1 hM1 => ?_)
  refine z_eq 996 dL_law_592 (by decide) ?_
  exact kk SX1 SM1 a1 hs1 tx1 w0 w1 w2 ck1 co1 hX1 hM1
theorem zc_within {L : Nat} {xs : Nat → Int32} {i : Nat} (hi : i + 5 ≤ L) (hL0 : L ≤ 2560) {SX SM : amS} {B : Nat} {a : Ar} {hs : List Ar} {tx : List Nat} {u0 u1 u2 ck co : Int32} (hX : xCore SX B a hs tx u0 u1 u2 ck co) (hM : mCore SM a hs tx u0 u1 u2 ck co) (hB : B + 1 < 2147483648) (kk : ∀ (SX' SM' : amS) (a : Ar) (hs : List Ar) (tx : List Nat) (u0 u1 u2 ck co : Int32), xCore SX' (B + 3000) a hs tx u0 u1 u2 ck co → mCore SM' a hs tx u0 u1 u2 ck co → Z L xs i 996 [] SX' SM') : Z L xs i 597 [] SX SM := by
  obtain ⟨r, a1, hs1, tx1, w0, w1, w2, ck1, co1, g1, g2⟩ := ag_within hX hM hB (xs (i + 1)) (xs (i + 2))
  refine z_a1 dL_law_597 ?_
  refine z_arg 1 1 (by decide +kernel) (by omega) hL0 dL_law_598 dL_law_599 dL_law_600 dL_law_601 dL_law_602 ?_
  refine z_arg 2 2 (by decide +kernel) (by omega) hL0 dL_law_603 dL_law_604 dL_law_605 dL_law_606 dL_law_607 ?_
  refine z_cX2 dL_law_608 (lm_t3 _ (List.mem_of_getElem? (i := 113) rfl)) nv_X10_within rfl (fun _ => rfl) rfl rfl (Nat.le_of_ble_eq_true rfl) g1 (fun SX1 hX1 => ?_)
  refine z_a2 dL_law_611 ?_
  refine z_arg 1 1 (by decide +kernel) (by omega) hL0 dL_law_612 dL_law_613 dL_law_614 dL_law_615 dL_law_616 ?_
  refine z_arg 2 2 (by decide +kernel) (by omega) hL0 dL_law_617 dL_law_618 dL_law_619 dL_law_620 dL_law_621 ?_
  refine z_cM2 dL_law_622 (lm_t5 _ (List.mem_of_getElem? (i := 177) rfl)) nv_X11_within rfl (fun _ => rfl) rfl rfl (Nat.le_of_ble_eq_true rfl) g2 (fun SM1 hM1 => ?_)
  refine z_eq 996 dL_law_625 (by decide) ?_
  exact kk SX1 SM1 a1 hs1 tx1 w0 w1 w2 ck1 co1 hX1 hM1
theorem zc_parts {L : Nat} {xs : Nat → Int32} {i : Nat} (hi : i + 5 ≤ L) (hL0 : L ≤ 2560) {SX SM : amS} {B : Nat} {a : Ar} {hs : List Ar} {tx : List Nat} {u0 u1 u2 ck co : Int32} (hX : xCore SX B a hs tx u0 u1 u2 ck co) (hM : mCore SM a hs tx u0 u1 u2 ck co) (hB : B + 1 < 2147483648) (kk : ∀ (SX' SM' : amS) (a : Ar) (hs : List Ar) (tx : List Nat) (u0 u1 u2 ck co : Int32), xCore SX' (B + 3000) a hs tx u0 u1 u2 ck co → mCore SM' a hs tx u0 u1 u2 ck co → Z L xs i 996 [] SX' SM') : Z L xs i 630 [] SX SM := by
  obtain ⟨r, a1, hs1, tx1, w0, w1, w2, ck1, co1, g1, g2⟩ := ag_parts hX hM hB (xs (i + 1))
  refine z_a1 dL_law_630 ?_
  refine z_arg 1 1 (by decide +kernel) (by omega) hL0 dL_law_631 dL_law_632 dL_law_633 dL_law_634 dL_law_635 ?_
  refine z_cX1 dL_law_636 (lm_t3 _ (List.mem_of_getElem? (i := 117) rfl)) nv_X10_parts rfl (fun _ => rfl) rfl rfl (Nat.le_of_ble_eq_true rfl) g1 (fun SX1 hX1 => ?_)
  refine z_a2 dL_law_639 ?_
  refine z_arg 1 1 (by decide +kernel) (by omega) hL0 dL_law_640 dL_law_641 dL_law_642 dL_law_643 dL_law_644 ?_
  refine z_cM1 dL_law_645 (lm_t5 _ (List.mem_of_getElem? (i := 181) rfl)) nv_X11_parts rfl (fun _ => rfl) rfl rfl (Nat.le_of_ble_eq_true rfl) g2 (fun SM1 hM1 => ?_)
  refine z_eq 996 dL_law_648 (by decide) ?_
  exact kk SX1 SM1 a1 hs1 tx1 w0 w1 w2 ck1 co1 hX1 hM1
theorem zc_walls {L : Nat} {xs : Nat → Int32} {i : Nat} (hi : i + 5 ≤ L) (hL0 : L ≤ 2560) {SX SM : amS} {B : Nat} {a : Ar} {hs : List Ar} {tx : List Nat} {u0 u1 u2 ck co : Int32} (hX : xCore SX B a hs tx u0 u1 u2 ck co) (hM : mCore SM a hs tx u0 u1 u2 ck co) (hB : B + 1 < 2147483648) (kk : ∀ (SX' SM' : amS) (a : Ar) (hs : List Ar) (tx : List Nat) (u0 u1 u2 ck co : Int32), xCore SX' (B + 3000) a hs tx u0 u1 u2 ck co → mCore SM' a hs tx u0 u1 u2 ck co → Z L xs i 996 [] SX' SM') : Z L xs i 653 [] SX SM := by
  obtain ⟨r, a1, hs1, tx1, w0, w1, w2, ck1, co1, g1, g2⟩ := ag_walls hX hM hB (xs (i + 1))
  refine z_a1 dL_law_653 ?_
  refine z_arg 1 1 (by decide +kernel) (by omega) hL0 dL_law_654 dL_law_655 dL_law_656 dL_law_657 dL_law_658 ?_
  refine z_cX1 dL_law_659 (lm_t3 _ (List.mem_of_getElem? (i := 142) rfl)) nv_X10_walls rfl (fun _ => rfl) rfl rfl (Nat.le_of_ble_eq_true rfl) g1 (fun SX1 hX1 => ?_)
  refine z_a2 dL_law_662 ?_
  refine z_arg 1 1 (by decide +kernel) (by omega) hL0 dL_law_663 dL_law_664 dL_law_665 dL_law_666 dL_law_667 ?_
  refine z_cM1 dL_law_668 (lm_t5 _ (List.mem_of_getElem? (i := 185) rfl)) nv_X11_walls rfl (fun _ => rfl) rfl rfl (Nat.le_of_ble_eq_true rfl) g2 (fun SM1 hM1 => ?_)
  refine z_eq 996 dL_law_671 (by decide) ?_
  exact kk SX1 SM1 a1 hs1 tx1 w0 w1 w2 ck1 co1 hX1 hM1
theorem zc_way {L : Nat} {xs : Nat → Int32} {i : Nat} (hi : i + 5 ≤ L) (hL0 : L ≤ 2560) {SX SM : amS} {B : Nat} {a : Ar} {hs : List Ar} {tx : List Nat} {u0 u1 u2 ck co : Int32} (hX : xCore SX B a hs tx u0 u1 u2 ck co) (hM : mCore SM a hs tx u0 u1 u2 ck co) (hB : B + 1 < 2147483648) (kk : ∀ (SX' SM' : amS) (a : Ar) (hs : List Ar) (tx : List Nat) (u0 u1 u2 ck co : Int32), xCore SX' (B + 3000) a hs tx u0 u1 u2 ck co → mCore SM' a hs tx u0 u1 u2 ck co → Z L xs i 996 [] SX' SM') : Z L xs i 676 [] SX SM := by
  obtain ⟨r, a1, hs1, tx1, w0, w1, w2, ck1, co1, g1, g2⟩ := ag_way hX hM hB (xs (i + 1)) (xs (i + 2)) (xs (i + 3))
  refine z_a1 dL_law_676 ?_
  refine z_arg 1 1 (by decide +kernel) (by omega) hL0 dL_law_677 dL_law_678 dL_law_679 dL_law_680 dL_law_681 ?_
  refine z_arg 2 2 (by decide +kernel) (by omega) hL0 dL_law_682 dL_law_683 dL_law_684 dL_law_685 dL_law_686 ?_
  refine z_arg 3 3 (by decide +kernel) (by omega) hL0 dL_law_687 dL_law_688 dL_law_689 dL_law_690 dL_law_691 ?_
  refine z_cX3 dL_law_692 (lm_t3 _ (List.mem_of_getElem? (i := 154) rfl)) nv_X10_way rfl (fun _ => rfl) rfl rfl (Nat.le_of_ble_eq_true rfl) g1 (fun SX1 hX1 => ?_)
  refine z_a2 dL_law_695 ?_
  refine z_arg 1 1 (by decide +kernel) (by omega) hL0 dL_law_696 dL_law_697 dL_law_698 dL_law_699 dL_law_700 ?_
  refine z_arg 2 2 (by decide +kernel) (by omega) hL0 dL_law_701 dL_law_702 dL_law_703 dL_law_704 dL_law_705 ?_
  refine z_arg 3 3 (by decide +kernel) (by omega) hL0 dL_law_706 dL_law_707 dL_law_708 dL_law_709 dL_law_710 ?_
  refine z_cM3 dL_law_711 (lm_t5 _ (List.mem_of_getElem? (i := 193) rfl)) nv_X11_way rfl (fun _ => rfl) rfl rfl (Nat.le_of_ble_eq_true rfl) g2 (fun SM1 hM1 => ?_)
  refine z_eq 996 dL_law_714 (by decide) ?_
  exact kk SX1 SM1 a1 hs1 tx1 w0 w1 w2 ck1 co1 hX1 hM1
theorem zc_chain {L : Nat} {xs : Nat → Int32} {i : Nat} (hi : i + 5 ≤ L) (hL0 : L ≤ 2560) {SX SM : amS} {B : Nat} {a : Ar} {hs : List Ar} {tx : List Nat} {u0 u1 u2 ck co : Int32} (hX : xCore SX B a hs tx u0 u1 u2 ck co) (hM : mCore SM a hs tx u0 u1 u2 ck co) (hB : B + 1 < 2147483648) (kk : ∀ (SX' SM' : amS) (a : Ar) (hs : List Ar) (tx : List Nat) (u0 u1 u2 ck co : Int32), xCore SX' (B + 3000) a hs tx u0 u1 u2 ck co → mCore SM' a hs tx u0 u1 u2 ck co → Z L xs i 996 [] SX' SM') : Z L xs i 719 [] SX SM := by
  obtain ⟨r, a1, hs1, tx1, w0, w1, w2, ck1, co1, g1, g2⟩ := ag_chain hX hM hB (xs (i + 1)) (xs (i + 2))
  refine z_a1 dL_law_719 ?_
  refine z_arg 1 1 (by decide +kernel) (by omega) hL0 dL_law_720 dL_law_721 dL_law_722 dL_law_723 dL_law_724 ?_
  refine z_arg 2 2 (by decide +kernel) (by omega) hL0 dL_law_725 dL_law_726 dL_law_727 dL_law_728 dL_law_729 ?_
  refine z_cX2 dL_law_730 (lm_t3 _ (List.mem_of_getElem? (i := 167) rfl)) nv_X10_chain rfl (fun _ => rfl) rfl rfl (Nat.le_of_ble_eq_true rfl) g1 (fun SX1 hX1 => ?_)
  refine z_a2 dL_law_733 ?_
  refine z_arg 1 1 (by decide +kernel) (by omega) hL0 dL_law_734 dL_law_735 dL_law_736 dL_law_737 dL_law_738 ?_
  refine z_arg 2 2 (by decide +kernel) (by omega) hL0 dL_law_739 dL_law_740 dL_law_741 dL_law_742 dL_law_743 ?_
  refine z_cM2 dL_law_744 (lm_t5 _ (List.mem_of_getElem? (i := 197) rfl)) nv_X11_chain rfl (fun _ => rfl) rfl rfl (Nat.le_of_ble_eq_true rfl) g2 (fun SM1 hM1 => ?_)
  refine z_eq 996 dL_law_747 (by decide) ?_
  exact kk SX1 SM1 a1 hs1 tx1 w0 w1 w2 ck1 co1 hX1 hM1
theorem zc_even {L : Nat} {xs : Nat → Int32} {i : Nat} (hi : i + 5 ≤ L) (hL0 : L ≤ 2560) {SX SM : amS} {B : Nat} {a : Ar} {hs : List Ar} {tx : List Nat} {u0 u1 u2 ck co : Int32} (hX : xCore SX B a hs tx u0 u1 u2 ck co) (hM : mCore SM a hs tx u0 u1 u2 ck co) (hB : B + 1 < 2147483648) (kk : ∀ (SX' SM' : amS) (a : Ar) (hs : List Ar) (tx : List Nat) (u0 u1 u2 ck co : Int32), xCore SX' (B + 3000) a hs tx u0 u1 u2 ck co → mCore SM' a hs tx u0 u1 u2 ck co → Z L xs i 996 [] SX' SM') : Z L xs i 752 [] SX SM := by
  obtain ⟨r, a1, hs1, tx1, w0, w1, w2, ck1, co1, g1, g2⟩ := ag_even hX hM hB (xs (i + 1))
  refine z_a1 dL_law_752 ?_
  refine z_arg 1 1 (by decide +kernel) (by omega) hL0 dL_law_753 dL_law_754 dL_law_755 dL_law_756 dL_law_757 ?_
  refine z_cX1 dL_law_758 (lm_t3 _ (List.mem_of_getElem? (i := 199) rfl)) nv_X10_even rfl (fun _ => rfl) rfl rfl (Nat.le_of_ble_eq_true rfl) g1 (fun SX1 hX1 => ?_)
  refine z_a2 dL_law_761 ?_
  refine z_arg 1 1 (by decide +kernel) (by omega) hL0 dL_law_762 dL_law_763 dL_law_764 dL_law_765 dL_law_766 ?_
  refine z_cM1 dL_law_767 (lm_t5 _ (List.mem_of_getElem? (i := 209) rfl)) nv_X11_even rfl (fun _ => rfl) rfl rfl (Nat.le_of_ble_eq_true rfl) g2 (fun SM1 hM1 => ?_)
  refine z_eq 996 dL_law_770 (by decide) ?_
  exact kk SX1 SM1 a1 hs1 tx1 w0 w1 w2 ck1 co1 hX1 hM1
theorem zc_places {L : Nat} {xs : Nat → Int32} {i : Nat} (hi : i + 5 ≤ L) (hL0 : L ≤ 2560) {SX SM : amS} {B : Nat} {a : Ar} {hs : List Ar} {tx : List Nat} {u0 u1 u2 ck co : Int32} (hX : xCore SX B a hs tx u0 u1 u2 ck co) (hM : mCore SM a hs tx u0 u1 u2 ck co) (hB : B + 1 < 2147483648) (kk : ∀ (SX' SM' : amS) (a : Ar) (hs : List Ar) (tx : List Nat) (u0 u1 u2 ck co : Int32), xCore SX' (B + 3000) a hs tx u0 u1 u2 ck co → mCore SM' a hs tx u0 u1 u2 ck co → Z L xs i 996 [] SX' SM') : Z L xs i 775 [] SX SM := by
  obtain ⟨r, a1, hs1, tx1, w0, w1, w2, ck1, co1, g1, g2⟩ := ag_places hX hM hB (xs (i + 1)) (xs (i + 2))
  refine z_a1 dL_law_775 ?_
  refine z_arg 1 1 (by decide +kernel) (by omega) hL0 dL_law_776 dL_law_777 dL_law_778 dL_law_779 dL_law_780 ?_
  refine z_arg 2 2 (by decide +kernel) (by omega) hL0 dL_law_781 dL_law_782 dL_law_783 dL_law_784 dL_law_785 ?_
  refine z_cX2 dL_law_786 (lm_t3 _ (List.mem_of_getElem? (i := 207) rfl)) nv_X10_places rfl (fun _ => rfl) rfl rfl (Nat.le_of_ble_eq_true rfl) g1 (fun SX1 hX1 => ?_)
  refine z_a2 dL_law_789 ?_
  refine z_arg 1 1 (by decide +kernel) (by omega) hL0 dL_law_790 dL_law_791 dL_law_792 dL_law_793 dL_law_794 ?_
  refine z_arg 2 2 (by decide +kernel) (by omega) hL0 dL_law_795 dL_law_796 dL_law_797 dL_law_798 dL_law_799 ?_
  refine z_cM2 dL_law_800 (lm_t5 _ (List.mem_of_getElem? (i := 213) rfl)) nv_X11_places rfl (fun _ => rfl) rfl rfl (Nat.le_of_ble_eq_true rfl) g2 (fun SM1 hM1 => ?_)
  refine z_eq 996 dL_law_803 (by decide) ?_
  exact kk SX1 SM1 a1 hs1 tx1 w0 w1 w2 ck1 co1 hX1 hM1
theorem zc_base {L : Nat} {xs : Nat → Int32} {i : Nat} (hi : i + 5 ≤ L) (hL0 : L ≤ 2560) {SX SM : amS} {B : Nat} {a : Ar} {hs : List Ar} {tx : List Nat} {u0 u1 u2 ck co : Int32} (hX : xCore SX B a hs tx u0 u1 u2 ck co) (hM : mCore SM a hs tx u0 u1 u2 ck co) (hB : B + 1 < 2147483648) (kk : ∀ (SX' SM' : amS) (a : Ar) (hs : List Ar) (tx : List Nat) (u0 u1 u2 ck co : Int32), xCore SX' (B + 3000) a hs tx u0 u1 u2 ck co → mCore SM' a hs tx u0 u1 u2 ck co → Z L xs i 996 [] SX' SM') : Z L xs i 808 [] SX SM := by
  obtain ⟨r, a1, hs1, tx1, w0, w1, w2, ck1, co1, g1, g2⟩ := ag_base hX hM hB (xs (i + 1)) (xs (i + 2))
  refine z_a1 dL_law_808 ?_
  refine z_arg 1 1 (by decide +kernel) (by omega) hL0 dL_law_809 dL_law_810 dL_law_811 dL_law_812 dL_law_813 ?_
  refine z_arg 2 2 (by decide +kernel) (by omega) hL0 dL_law_814 dL_law_815 dL_law_816 dL_law_817 dL_law_818 ?_
  refine z_cX2 dL_law_819 (lm_t3 _ (List.mem_of_getElem? (i := 237) rfl)) nv_X10_base rfl (fun _ => rfl) rfl rfl (Nat.le_of_ble_eq_true rfl) g1 (fun SX1 hX1 => ?_)
  refine z_a2 dL_law_822 ?_
  refine z_arg 1 1 (by decide +kernel) (by omega) hL0 dL_law_823 dL_law_824 dL_law_825 dL_law_826 dL_law_827 ?_
  refine z_arg 2 2 (by decide +kernel) (by omega) hL0 dL_law_828 dL_law_829 dL_law_830 dL_law_831 dL_law_832 ?_
  refine z_cM2 dL_law_833 (lm_t5 _ (List.mem_of_getElem? (i := 229) rfl)) nv_X11_base rfl (fun _ => rfl) rfl rfl (Nat.le_of_ble_eq_true rfl) g2 (fun SM1 hM1 => ?_)
  refine z_eq 996 dL_law_836 (by decide) ?_
  exact kk SX1 SM1 a1 hs1 tx1 w0 w1 w2 ck1 co1 hX1 hM1
theorem zc_form {L : Nat} {xs : Nat → Int32} {i : Nat} (hi : i + 5 ≤ L) (hL0 : L ≤ 2560) {SX SM : amS} {B : Nat} {a : Ar} {hs : List Ar} {tx : List Nat} {u0 u1 u2 ck co : Int32} (hX : xCore SX B a hs tx u0 u1 u2 ck co) (hM : mCore SM a hs tx u0 u1 u2 ck co) (hB : B + 1 < 2147483648) (kk : ∀ (SX' SM' : amS) (a : Ar) (hs : List Ar) (tx : List Nat) (u0 u1 u2 ck co : Int32), xCore SX' (B + 3000) a hs tx u0 u1 u2 ck co → mCore SM' a hs tx u0 u1 u2 ck co → Z L xs i 996 [] SX' SM') : Z L xs i 841 [] SX SM := by
  obtain ⟨r, a1, hs1, tx1, w0, w1, w2, ck1, co1, g1, g2⟩ := ag_form hX hM hB (xs (i + 1)) (xs (i + 2))
  refine z_a1 dL_law_841 ?_
  refine z_arg 1 1 (by decide +kernel) (by omega) hL0 dL_law_842 dL_law_843 dL_law_844 dL_law_845 dL_law_846 ?_
  refine z_arg 2 2 (by decide +kernel) (by omega) hL0 dL_law_847 dL_law_848 dL_law_849 dL_law_850 dL_law_851 ?_
  refine z_cX2 dL_law_852 (lm_t4 _ (List.mem_of_getElem? (i := 15) rfl)) nv_X10_form rfl (fun _ => rfl) rfl rfl (Nat.le_of_ble_eq_true rfl) g1 (fun SX1 hX1 => ?_)
  refine z_a2 dL_law_855 ?_
  refine z_arg 1 1 (by decide +kernel) (by omega) hL0 dL_law_856 dL_law_857 dL_law_858 dL_law_859 dL_law_860 ?_
  refine z_arg 2 2 (by decide +kernel) (by omega) hL0 dL_law_861 dL_law_862 dL_law_863 dL_law_864 dL_law_865 ?_
  refine z_cM2 dL_law_866 (lm_t6 _ (List.mem_of_getElem? (i := 5) rfl)) nv_X11_form rfl (fun _ => rfl) rfl rfl (Nat.le_of_ble_eq_true rfl) g2 (fun SM1 hM1 => ?_)
  refine z_eq 996 dL_law_869 (by decide) ?_
  exact kk SX1 SM1 a1 hs1 tx1 w0 w1 w2 ck1 co1 hX1 hM1
theorem zc_type {L : Nat} {xs : Nat → Int32} {i : Nat} (hi : i + 5 ≤ L) (hL0 : L ≤ 2560) {SX SM : amS} {B : Nat} {a : Ar} {hs : List Ar} {tx : List Nat} {u0 u1 u2 ck co : Int32} (hX : xCore SX B a hs tx u0 u1 u2 ck co) (hM : mCore SM a hs tx u0 u1 u2 ck co) (hB : B + 1 < 2147483648) (kk : ∀ (SX' SM' : amS) (a : Ar) (hs : List Ar) (tx : List Nat) (u0 u1 u2 ck co : Int32), xCore SX' (B + 3000) a hs tx u0 u1 u2 ck co → mCore SM' a hs tx u0 u1 u2 ck co → Z L xs i 996 [] SX' SM') : Z L xs i 874 [] SX SM := by
  obtain ⟨r, a1, hs1, tx1, w0, w1, w2, ck1, co1, g1, g2⟩ := ag_type hX hM hB (xs (i + 1))
  refine z_a1 dL_law_874 ?_
  refine z_arg 1 1 (by decide +kernel) (by omega) hL0 dL_law_875 dL_law_876 dL_law_877 dL_law_878 dL_law_879 ?_
  refine z_cX1 dL_law_880 (lm_t4 _ (List.mem_of_getElem? (i := 27) rfl)) nv_X10_type rfl (fun _ => rfl) rfl rfl (Nat.le_of_ble_eq_true rfl) g1 (fun SX1 hX1 => ?_)
  refine z_a2 dL_law_883 ?_
  refine z_arg 1 1 (by decide +kernel) (by omega) hL0 dL_law_884 dL_law_885 dL_law_886 dL_law_887 dL_law_888 ?_
  refine z_cM1 dL_law_889 (lm_t6 _ (List.mem_of_getElem? (i := 16) rfl)) nv_X11_type rfl (fun _ => rfl) rfl rfl (Nat.le_of_ble_eq_true rfl) g2 (fun SM1 hM1 => ?_)
  refine z_eq 996 dL_law_892 (by decide) ?_
  exact kk SX1 SM1 a1 hs1 tx1 w0 w1 w2 ck1 co1 hX1 hM1
theorem zc_clear {L : Nat} {xs : Nat → Int32} {i : Nat} (hi : i + 5 ≤ L) (hL0 : L ≤ 2560) {SX SM : amS} {B : Nat} {a : Ar} {hs : List Ar} {tx : List Nat} {u0 u1 u2 ck co : Int32} (hX : xCore SX B a hs tx u0 u1 u2 ck co) (hM : mCore SM a hs tx u0 u1 u2 ck co) (hB : B + 1 < 2147483648) (kk : ∀ (SX' SM' : amS) (a : Ar) (hs : List Ar) (tx : List Nat) (u0 u1 u2 ck co : Int32), xCore SX' (B + 3000) a hs tx u0 u1 u2 ck co → mCore SM' a hs tx u0 u1 u2 ck co → Z L xs i 996 [] SX' SM') : Z L xs i 897 [] SX SM := by
  obtain ⟨r, a1, hs1, tx1, w0, w1, w2, ck1, co1, g1, g2⟩ := ag_clear hX hM hB 
  refine z_a1 dL_law_897 ?_
  refine z_cX0 dL_law_898 (lm_t4 _ (List.mem_of_getElem? (i := 35) rfl)) nv_X10_clear rfl (fun _ => rfl) rfl rfl (Nat.le_of_ble_eq_true rfl) g1 (fun SX1 hX1 => ?_)
  refine z_a2 dL_law_901 ?_
  refine z_cM0 dL_law_902 (lm_t6 _ (List.mem_of_getElem? (i := 20) rfl)) nv_X11_clear rfl (fun _ => rfl) rfl rfl (Nat.le_of_ble_eq_true rfl) g2 (fun SM1 hM1 => ?_)
  refine z_eq 996 dL_law_905 (by decide) ?_
  exact kk SX1 SM1 a1 hs1 tx1 w0 w1 w2 ck1 co1 hX1 hM1
theorem zc_reads {L : Nat} {xs : Nat → Int32} {i : Nat} (hi : i + 5 ≤ L) (hL0 : L ≤ 2560) {SX SM : amS} {B : Nat} {a : Ar} {hs : List Ar} {tx : List Nat} {u0 u1 u2 ck co : Int32} (hX : xCore SX B a hs tx u0 u1 u2 ck co) (hM : mCore SM a hs tx u0 u1 u2 ck co) (hB : B + 1 < 2147483648) (kk : ∀ (SX' SM' : amS) (a : Ar) (hs : List Ar) (tx : List Nat) (u0 u1 u2 ck co : Int32), xCore SX' (B + 3000) a hs tx u0 u1 u2 ck co → mCore SM' a hs tx u0 u1 u2 ck co → Z L xs i 996 [] SX' SM') : Z L xs i 910 [] SX SM := by
  obtain ⟨r, a1, hs1, tx1, w0, w1, w2, ck1, co1, g1, g2⟩ := ag_reads hX hM hB 
  refine z_a1 dL_law_910 ?_
  refine z_cX0 dL_law_911 (lm_t4 _ (List.mem_of_getElem? (i := 39) rfl)) nv_X10_reads rfl (fun _ => rfl) rfl rfl (Nat.le_of_ble_eq_true rfl) g1 (fun SX1 hX1 => ?_)
  refine z_a2 dL_law_914 ?_
  refine z_cM0 dL_law_915 (lm_t6 _ (List.mem_of_getElem? (i := 24) rfl)) nv_X11_reads rfl (fun _ => rfl) rfl rfl (Nat.le_of_ble_eq_true rfl) g2 (fun SM1 hM1 => ?_)
  refine z_eq 996 dL_law_918 (by decide) ?_
  exact kk SX1 SM1 a1 hs1 tx1 w0 w1 w2 ck1 co1 hX1 hM1
theorem zc_why {L : Nat} {xs : Nat → Int32} {i : Nat} (hi : i + 5 ≤ L) (hL0 : L ≤ 2560) {SX SM : amS} {B : Nat} {a : Ar} {hs : List Ar} {tx : List Nat} {u0 u1 u2 ck co : Int32} (hX : xCore SX B a hs tx u0 u1 u2 ck co) (hM : mCore SM a hs tx u0 u1 u2 ck co) (hB : B + 1 < 2147483648) (kk : ∀ (SX' SM' : amS) (a : Ar) (hs : List Ar) (tx : List Nat) (u0 u1 u2 ck co : Int32), xCore SX' (B + 3000) a hs tx u0 u1 u2 ck co → mCore SM' a hs tx u0 u1 u2 ck co → Z L xs i 996 [] SX' SM') : Z L xs i 923 [] SX SM := by
  obtain ⟨r, a1, hs1, tx1, w0, w1, w2, ck1, co1, g1, g2⟩ := ag_why hX hM hB (xs (i + 1))
  refine z_a1 dL_law_923 ?_
  refine z_arg 1 1 (by decide +kernel) (by omega) hL0 dL_law_924 dL_law_925 dL_law_926 dL_law_927 dL_law_928 ?_
  refine z_cX1 dL_law_929 (lm_t4 _ (List.mem_of_getElem? (i := 79) rfl)) nv_X10_why rfl (fun _ => rfl) rfl rfl (Nat.le_of_ble_eq_true rfl) g1 (fun SX1 hX1 => ?_)
  refine z_a2 dL_law_932 ?_
  refine z_arg 1 1 (by decide +kernel) (by omega) hL0 dL_law_933 dL_law_934 dL_law_935 dL_law_936 dL_law_937 ?_
  refine z_cM1 dL_law_938 (lm_t6 _ (List.mem_of_getElem? (i := 59) rfl)) nv_X11_why rfl (fun _ => rfl) rfl rfl (Nat.le_of_ble_eq_true rfl) g2 (fun SM1 hM1 => ?_)
  refine z_eq 996 dL_law_941 (by decide) ?_
  exact kk SX1 SM1 a1 hs1 tx1 w0 w1 w2 ck1 co1 hX1 hM1
theorem zc_back {L : Nat} {xs : Nat → Int32} {i : Nat} (hi : i + 5 ≤ L) (hL0 : L ≤ 2560) {SX SM : amS} {B : Nat} {a : Ar} {hs : List Ar} {tx : List Nat} {u0 u1 u2 ck co : Int32} (hX : xCore SX B a hs tx u0 u1 u2 ck co) (hM : mCore SM a hs tx u0 u1 u2 ck co) (hB : B + 1 < 2147483648) (kk : ∀ (SX' SM' : amS) (a : Ar) (hs : List Ar) (tx : List Nat) (u0 u1 u2 ck co : Int32), xCore SX' (B + 3000) a hs tx u0 u1 u2 ck co → mCore SM' a hs tx u0 u1 u2 ck co → Z L xs i 996 [] SX' SM') : Z L xs i 946 [] SX SM := by
  obtain ⟨r, a1, hs1, tx1, w0, w1, w2, ck1, co1, g1, g2⟩ := ag_back hX hM hB 
  refine z_a1 dL_law_946 ?_
  refine z_cX0 dL_law_947 (lm_t4 _ (List.mem_of_getElem? (i := 83) rfl)) nv_X10_back rfl (fun _ => rfl) rfl rfl (Nat.le_of_ble_eq_true rfl) g1 (fun SX1 hX1 => ?_)
  refine z_a2 dL_law_950 ?_
  refine z_cM0 dL_law_951 (lm_t4 _ (List.mem_of_getElem? (i := 216) rfl)) nv_X11_back rfl (fun _ => rfl) rfl rfl (Nat.le_of_ble_eq_true rfl) g2 (fun SM1 hM1 => ?_)
  refine z_eq 996 dL_law_954 (by decide) ?_
  exact kk SX1 SM1 a1 hs1 tx1 w0 w1 w2 ck1 co1 hX1 hM1
theorem zc_told {L : Nat} {xs : Nat → Int32} {i : Nat} (hi : i + 5 ≤ L) (hL0 : L ≤ 2560) {SX SM : amS} {B : Nat} {a : Ar} {hs : List Ar} {tx : List Nat} {u0 u1 u2 ck co : Int32} (hX : xCore SX B a hs tx u0 u1 u2 ck co) (hM : mCore SM a hs tx u0 u1 u2 ck co) (hB : B + 1 < 2147483648) (kk : ∀ (SX' SM' : amS) (a : Ar) (hs : List Ar) (tx : List Nat) (u0 u1 u2 ck co : Int32), xCore SX' (B + 3000) a hs tx u0 u1 u2 ck co → mCore SM' a hs tx u0 u1 u2 ck co → Z L xs i 996 [] SX' SM') : Z L xs i 959 [] SX SM := by
  obtain ⟨r, a1, hs1, tx1, w0, w1, w2, ck1, co1, g1, g2⟩ := ag_told hX hM hB (xs (i + 1))
  refine z_a1 dL_law_959 ?_
  refine z_arg 1 1 (by decide +kernel) (by omega) hL0 dL_law_960 dL_law_961 dL_law_962 dL_law_963 dL_law_964 ?_
  refine z_cX1 dL_law_965 (lm_t4 _ (List.mem_of_getElem? (i := 91) rfl)) nv_X10_told rfl (fun _ => rfl) rfl rfl (Nat.le_of_ble_eq_true rfl) g1 (fun SX1 hX1 => ?_)
  refine z_a2 dL_law_968 ?_
  refine z_arg 1 1 (by decide +kernel) (by omega) hL0 dL_law_969 dL_law_970 dL_law_971 dL_law_972 dL_law_973 ?_
  refine z_cM1 dL_law_974 (lm_t6 _ (List.mem_of_getElem? (i := 67) rfl)) nv_X11_told rfl (fun _ => rfl) rfl rfl (Nat.le_of_ble_eq_true rfl) g2 (fun SM1 hM1 => ?_)
  refine z_eq 996 dL_law_977 (by decide) ?_
  exact kk SX1 SM1 a1 hs1 tx1 w0 w1 w2 ck1 co1 hX1 hM1
theorem zc_digest {L : Nat} {xs : Nat → Int32} {i : Nat} (hi : i + 5 ≤ L) (hL0 : L ≤ 2560) {SX SM : amS} {B : Nat} {a : Ar} {hs : List Ar} {tx : List Nat} {u0 u1 u2 ck co : Int32} (hX : xCore SX B a hs tx u0 u1 u2 ck co) (hM : mCore SM a hs tx u0 u1 u2 ck co) (hB : B + 1 < 2147483648) (kk : ∀ (SX' SM' : amS) (a : Ar) (hs : List Ar) (tx : List Nat) (u0 u1 u2 ck co : Int32), xCore SX' (B + 3000) a hs tx u0 u1 u2 ck co → mCore SM' a hs tx u0 u1 u2 ck co → Z L xs i 996 [] SX' SM') : Z L xs i 982 [] SX SM := by
  obtain ⟨r, a1, hs1, tx1, w0, w1, w2, ck1, co1, g1, g2⟩ := ag_digest hX hM hB 
  refine z_a1 dL_law_982 ?_
  refine z_cX0 dL_law_983 (lm_t4 _ (List.mem_of_getElem? (i := 95) rfl)) nv_X10_digest rfl (fun _ => rfl) rfl rfl (Nat.le_of_ble_eq_true rfl) g1 (fun SX1 hX1 => ?_)
  refine z_a2 dL_law_986 ?_
  refine z_cM0 dL_law_987 (lm_t6 _ (List.mem_of_getElem? (i := 75) rfl)) nv_X11_digest rfl (fun _ => rfl) rfl rfl (Nat.le_of_ble_eq_true rfl) g2 (fun SM1 hM1 => ?_)
  refine z_lcmp dL_law_990 ?_
  refine z_if0 996 dL_law_991 (by decide) ?_
  exact kk SX1 SM1 a1 hs1 tx1 w0 w1 w2 ck1 co1 hX1 hM1
theorem z_body {L : Nat} {xs : Nat → Int32} {i : Nat} (hi : i + 5 ≤ L) (hL0 : L ≤ 2560) {SX SM : amS} {B : Nat} {a : Ar} {hs : List Ar} {tx : List Nat} {u0 u1 u2 ck co : Int32} (hX : xCore SX B a hs tx u0 u1 u2 ck co) (hM : mCore SM a hs tx u0 u1 u2 ck co) (hB : B + 1 < 2147483648) (kk : ∀ (SX' SM' : amS) (a : Ar) (hs : List Ar) (tx : List Nat) (u0 u1 u2 ck co : Int32), xCore SX' (B + 3000) a hs tx u0 u1 u2 ck co → mCore SM' a hs tx u0 u1 u2 ck co → Z L xs i 996 [] SX' SM') : Z L xs i 26 [] SX SM := by
  refine z_arg0 (by omega) hL0 dL_law_26 dL_law_27 dL_law_28 ?_
  refine z_bipush (nI 31) dL_law_29 (by decide +kernel) ?_
  refine z_iand dL_law_31 ?_
  obtain ⟨k, hk, e⟩ := z_mask (xs i)
  rw [e]
  rcases (show k = 0 ∨ k = 1 ∨ k = 2 ∨ k = 3 ∨ k = 4 ∨ k = 5 ∨ k = 6 ∨ k = 7 ∨ k = 8 ∨ k = 9 ∨ k = 10 ∨ k = 11 ∨ k = 12 ∨ k = 13 ∨ k = 14 ∨ k = 15 ∨ k = 16 ∨ k = 17 ∨ k = 18 ∨ k = 19 ∨ k = 20 ∨ k = 21 ∨ k = 22 ∨ k = 23 ∨ k = 24 ∨ k = 25 ∨ k = 26 ∨ k = 27 ∨ k = 28 ∨ k = 29 ∨ k = 30 ∨ k = 31 by omega) with z | z | z | z | z | z | z | z | z | z | z | z | z | z | z | z | z | z | z | z | z | z | z | z | z | z | z | z | z | z | z | z
  · subst z
    exact z_tabI 0 172 dL_law_32 (by decide) rfl (by decide) (zc_space hi hL0 hX hM hB kk)
  · subst z
    exact z_tabI 1 195 dL_law_32 (by decide) rfl (by decide) (zc_plane hi hL0 hX hM hB kk)
  · subst z
    exact z_tabI 2 248 dL_law_32 (by decide) rfl (by decide) (zc_turns hi hL0 hX hM hB kk)
  · subst z
    exact z_tabI 3 271 dL_law_32 (by decide) rfl (by decide) (zc_drops hi hL0 hX hM hB kk)
  · subst z
    exact z_tabI 4 294 dL_law_32 (by decide) rfl (by decide) (zc_swaps hi hL0 hX hM hB kk)
  · subst z
    exact z_tabI 5 327 dL_law_32 (by decide) rfl (by decide) (zc_makes hi hL0 hX hM hB kk)
  · subst z
    exact z_tabI 6 350 dL_law_32 (by decide) rfl (by decide) (zc_of hi hL0 hX hM hB kk)
  · subst z
    exact z_tabI 7 383 dL_law_32 (by decide) rfl (by decide) (zc_rank hi hL0 hX hM hB kk)
  · subst z
    exact z_tabI 8 406 dL_law_32 (by decide) rfl (by decide) (zc_closed hi hL0 hX hM hB kk)
  · subst z
    exact z_tabI 9 429 dL_law_32 (by decide) rfl (by decide) (zc_flats hi hL0 hX hM hB kk)
  · subst z
    exact z_tabI 10 462 dL_law_32 (by decide) rfl (by decide) (zc_sign hi hL0 hX hM hB kk)
  · subst z
    exact z_tabI 11 485 dL_law_32 (by decide) rfl (by decide) (zc_rings hi hL0 hX hM hB kk)
  · subst z
    exact z_tabI 12 508 dL_law_32 (by decide) rfl (by decide) (zc_factor hi hL0 hX hM hB kk)
  · subst z
    exact z_tabI 13 541 dL_law_32 (by decide) rfl (by decide) (zc_polynomial hi hL0 hX hM hB kk)
  · subst z
    exact z_tabI 14 574 dL_law_32 (by decide) rfl (by decide) (zc_value hi hL0 hX hM hB kk)
  · subst z
    exact z_tabI 15 597 dL_law_32 (by decide) rfl (by decide) (zc_within hi hL0 hX hM hB kk)
  · subst z
    exact z_tabI 16 630 dL_law_32 (by decide) rfl (by decide) (zc_parts hi hL0 hX hM hB kk)
  · subst z
    exact z_tabI 17 653 dL_law_32 (by decide) rfl (by decide) (zc_walls hi hL0 hX hM hB kk)
  · subst z
    exact z_tabI 18 676 dL_law_32 (by decide) rfl (by decide) (zc_way hi hL0 hX hM hB kk)
  · subst z
    exact z_tabI 19 719 dL_law_32 (by decide) rfl (by decide) (zc_chain hi hL0 hX hM hB kk)
  · subst z
    exact z_tabI 20 752 dL_law_32 (by decide) rfl (by decide) (zc_even hi hL0 hX hM hB kk)
  · subst z
    exact z_tabI 21 775 dL_law_32 (by decide) rfl (by decide) (zc_places hi hL0 hX hM hB kk)
  · subst z
    exact z_tabI 22 808 dL_law_32 (by decide) rfl (by decide) (zc_base hi hL0 hX hM hB kk)
  · subst z
    exact z_tabI 23 841 dL_law_32 (by decide) rfl (by decide) (zc_form hi hL0 hX hM hB kk)
  · subst z
    exact z_tabI 24 874 dL_law_32 (by decide) rfl (by decide) (zc_type hi hL0 hX hM hB kk)
  · subst z
    exact z_tabI 25 897 dL_law_32 (by decide) rfl (by decide) (zc_clear hi hL0 hX hM hB kk)
  · subst z
    exact z_tabI 26 910 dL_law_32 (by decide) rfl (by decide) (zc_reads hi hL0 hX hM hB kk)
  · subst z
    exact z_tabI 27 923 dL_law_32 (by decide) rfl (by decide) (zc_why hi hL0 hX hM hB kk)
  · subst z
    exact z_tabI 28 946 dL_law_32 (by decide) rfl (by decide) (zc_back hi hL0 hX hM hB kk)
  · subst z
    exact z_tabI 29 959 dL_law_32 (by decide) rfl (by decide) (zc_told hi hL0 hX hM hB kk)
  · subst z
    exact z_tabI 30 982 dL_law_32 (by decide) rfl (by decide) (zc_digest hi hL0 hX hM hB kk)
  · subst z
    exact z_tabO 31 996 dL_law_32 (by decide) (by decide) (by decide) (kk SX SM a hs tx u0 u1 u2 ck co (hX.mono (Nat.le_add_right _ _)) hM)
theorem z_loop {L : Nat} {xs : Nat → Int32} (hL0 : L ≤ 2560) : ∀ (n j : Nat) (SX SM : amS) (a : Ar) (hs : List Ar) (tx : List Nat) (u0 u1 u2 ck co : Int32), L ≤ 5 * (j + n) → 5 * j ≤ L → xCore SX (3000 * j) a hs tx u0 u1 u2 ck co → mCore SM a hs tx u0 u1 u2 ck co → Z L xs (5 * j) 18 [] SX SM := by
  intro n
  induction n with
  | zero =>
    intro j SX SM a hs tx u0 u1 u2 ck co h1 h2 hX hM
    exact z_head h2 hL0 (fun _ => z_end) (fun z => by omega)
  | succ n ih =>
    intro j SX SM a hs tx u0 u1 u2 ck co h1 h2 hX hM
    refine z_head h2 hL0 (fun _ => z_end) (fun z => ?_)
    refine z_body z hL0 hX hM (by omega) (fun SX1 SM1 a1 hs1 tx1 w0 w1 w2 ck1 co1 hX1 hM1 => ?_)
    refine z_next ?_
    have hz := ih (j + 1) SX1 SM1 a1 hs1 tx1 w0 w1 w2 ck1 co1 (by omega) (by omega) (by rw [Nat.mul_add]; exact hX1) hM1
    rw [Nat.mul_add] at hz
    exact hz
