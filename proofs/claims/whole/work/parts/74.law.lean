/-! ===== the law: its cases, its loop ===== -/
def zPL : zP := fun r _ _ => r = some (zI 1)
theorem zfitL {ny : Nat} (hn : Nat.ble ny 81 = true) : zFit room_1 131 20 0 ny := by
  have := Nat.le_of_ble_eq_true hn
  refine ⟨Nat.le_of_ble_eq_true rfl, ?_, Nat.le_of_ble_eq_true rfl, Nat.le_of_ble_eq_true rfl⟩
  show 8 + (ny + 11) + 100 * 20 ≤ 84000
  omega
theorem zA_teq {own : String} {cc : ByteArray} {nL : Nat} {R : Room} {X : zX} {T T' : zT} {cs : Nat} {μ : zM} {pc : Nat} {ls : List (Option zV)} {st : List zV} {P : zP} (h : T = T') (kk : zA own cc nL R X T' cs μ pc ls st P) : zA own cc nL R X T cs μ pc ls st P := h ▸ kk
theorem lc_0 (L : Nat) (xs : Nat → Int) (i : Nat) (hi : i + 7 ≤ L) (hL : L ≤ 3584) (μ : zM) (n m t : Nat) (u : Int) (hI : zInv μ n m t u) (K : ∀ μ', zGood μ' → zA RL cL_law 4 room_1 (false, some (L, xs)) TF 131 μ' 1177 [some zS, some (zR 0), some (zR 110), some (zI (i : Int))] [] zPL) : zA RL cL_law 4 room_1 (false, some (L, xs)) TF 131 μ 180 [some zS, some (zR 0), some (zR 110), some (zI (i : Int))] [] zPL := by
  refine zA_aload_n dL_law_180 rfl ?_
  refine zA_sload_n dL_law_181 rfl ?_
  refine zA_iload_n dL_law_182 rfl ?_
  refine zA_iconst dL_law_183 rfl ?_
  refine zA_iaddB dL_law_184 ⟨by omega, by omega⟩ ?_
  refine zA_sld rfl (by omega) (by omega) dL_law_185 ?_
  refine zA_cVi (st := []) (as := [zI (xs ((i : Int) + 1).toNat)]) kL_13 t_0 rfl rfl (pr_feed μ ((xs ((i : Int) + 1).toNat)) n m t u hI) rfl rfl rfl dL_law_186 (zfitL rfl) (fun v1 μ1 q1 => ?_)
  refine zA_aload_n dL_law_189 rfl ?_
  refine zA_sload_n dL_law_190 rfl ?_
  refine zA_iload_n dL_law_191 rfl ?_
  refine zA_iconst dL_law_192 rfl ?_
  refine zA_iaddB dL_law_193 ⟨by omega, by omega⟩ ?_
  refine zA_sld rfl (by omega) (by omega) dL_law_194 ?_
  refine zA_cVi (st := [zI v1]) (as := [zI (xs ((i : Int) + 1).toNat)]) kL_17 t_110 rfl rfl q1 rfl rfl rfl dL_law_195 (zfitL rfl) (fun v2 μ2 q2 => ?_)
  exact zA_icmp_eq (tgt := 1177) dL_law_198 rfl (fun _ => K μ2 q2.2) (fun q => absurd q2.1 q)
theorem lc_1 (L : Nat) (xs : Nat → Int) (i : Nat) (hi : i + 7 ≤ L) (hL : L ≤ 3584) (μ : zM) (n m t : Nat) (u : Int) (hI : zInv μ n m t u) (K : ∀ μ', zGood μ' → zA RL cL_law 4 room_1 (false, some (L, xs)) TF 131 μ' 1177 [some zS, some (zR 0), some (zR 110), some (zI (i : Int))] [] zPL) : zA RL cL_law 4 room_1 (false, some (L, xs)) TF 131 μ 203 [some zS, some (zR 0), some (zR 110), some (zI (i : Int))] [] zPL := by
  refine zA_aload_n dL_law_203 rfl ?_
  refine zA_cVi (st := []) (as := []) kL_18 t_0 rfl rfl (pr_house μ  n m t u hI) rfl rfl rfl dL_law_204 (zfitL rfl) (fun v1 μ1 q1 => ?_)
  refine zA_aload_n dL_law_207 rfl ?_
  refine zA_cVi (st := [zI v1]) (as := []) kL_22 t_110 rfl rfl q1 rfl rfl rfl dL_law_208 (zfitL rfl) (fun v2 μ2 q2 => ?_)
  exact zA_icmp_eq (tgt := 1177) dL_law_211 rfl (fun _ => K μ2 q2.2) (fun q => absurd q2.1 q)
theorem lc_2 (L : Nat) (xs : Nat → Int) (i : Nat) (hi : i + 7 ≤ L) (hL : L ≤ 3584) (μ : zM) (n m t : Nat) (u : Int) (hI : zInv μ n m t u) (K : ∀ μ', zGood μ' → zA RL cL_law 4 room_1 (false, some (L, xs)) TF 131 μ' 1177 [some zS, some (zR 0), some (zR 110), some (zI (i : Int))] [] zPL) : zA RL cL_law 4 room_1 (false, some (L, xs)) TF 131 μ 216 [some zS, some (zR 0), some (zR 110), some (zI (i : Int))] [] zPL := by
  refine zA_aload_n dL_law_216 rfl ?_
  refine zA_cVi (st := []) (as := []) kL_23 t_0 rfl rfl (pr_fault μ  n m t u hI) rfl rfl rfl dL_law_217 (zfitL rfl) (fun v1 μ1 q1 => ?_)
  refine zA_aload_n dL_law_220 rfl ?_
  refine zA_cVi (st := [zI v1]) (as := []) kL_26 t_110 rfl rfl q1 rfl rfl rfl dL_law_221 (zfitL rfl) (fun v2 μ2 q2 => ?_)
  exact zA_icmp_eq (tgt := 1177) dL_law_224 rfl (fun _ => K μ2 q2.2) (fun q => absurd q2.1 q)
theorem lc_3 (L : Nat) (xs : Nat → Int) (i : Nat) (hi : i + 7 ≤ L) (hL : L ≤ 3584) (μ : zM) (n m t : Nat) (u : Int) (hI : zInv μ n m t u) (K : ∀ μ', zGood μ' → zA RL cL_law 4 room_1 (false, some (L, xs)) TF 131 μ' 1177 [some zS, some (zR 0), some (zR 110), some (zI (i : Int))] [] zPL) : zA RL cL_law 4 room_1 (false, some (L, xs)) TF 131 μ 229 [some zS, some (zR 0), some (zR 110), some (zI (i : Int))] [] zPL := by
  refine zA_aload_n dL_law_229 rfl ?_
  refine zA_sload_n dL_law_230 rfl ?_
  refine zA_iload_n dL_law_231 rfl ?_
  refine zA_iconst dL_law_232 rfl ?_
  refine zA_iaddB dL_law_233 ⟨by omega, by omega⟩ ?_
  refine zA_sld rfl (by omega) (by omega) dL_law_234 ?_
  refine zA_cVi (st := []) (as := [zI (xs ((i : Int) + 1).toNat)]) kL_27 t_0 rfl rfl (pr_told μ ((xs ((i : Int) + 1).toNat)) n m t u hI) rfl rfl rfl dL_law_235 (zfitL rfl) (fun v1 μ1 q1 => ?_)
  refine zA_aload_n dL_law_238 rfl ?_
  refine zA_sload_n dL_law_239 rfl ?_
  refine zA_iload_n dL_law_240 rfl ?_
  refine zA_iconst dL_law_241 rfl ?_
  refine zA_iaddB dL_law_242 ⟨by omega, by omega⟩ ?_
  refine zA_sld rfl (by omega) (by omega) dL_law_243 ?_
  refine zA_cVi (st := [zI v1]) (as := [zI (xs ((i : Int) + 1).toNat)]) kL_30 t_110 rfl rfl q1 rfl rfl rfl dL_law_244 (zfitL rfl) (fun v2 μ2 q2 => ?_)
  exact zA_icmp_eq (tgt := 1177) dL_law_247 rfl (fun _ => K μ2 q2.2) (fun q => absurd q2.1 q)
theorem lc_4 (L : Nat) (xs : Nat → Int) (i : Nat) (hi : i + 7 ≤ L) (hL : L ≤ 3584) (μ : zM) (n m t : Nat) (u : Int) (hI : zInv μ n m t u) (K : ∀ μ', zGood μ' → zA RL cL_law 4 room_1 (false, some (L, xs)) TF 131 μ' 1177 [some zS, some (zR 0), some (zR 110), some (zI (i : Int))] [] zPL) : zA RL cL_law 4 room_1 (false, some (L, xs)) TF 131 μ 252 [some zS, some (zR 0), some (zR 110), some (zI (i : Int))] [] zPL := by
  refine zA_aload_n dL_law_252 rfl ?_
  refine zA_sload_n dL_law_253 rfl ?_
  refine zA_iload_n dL_law_254 rfl ?_
  refine zA_iconst dL_law_255 rfl ?_
  refine zA_iaddB dL_law_256 ⟨by omega, by omega⟩ ?_
  refine zA_sld rfl (by omega) (by omega) dL_law_257 ?_
  refine zA_sload_n dL_law_258 rfl ?_
  refine zA_iload_n dL_law_259 rfl ?_
  refine zA_iconst dL_law_260 rfl ?_
  refine zA_iaddB dL_law_261 ⟨by omega, by omega⟩ ?_
  refine zA_sld rfl (by omega) (by omega) dL_law_262 ?_
  refine zA_cVi (st := []) (as := [zI (xs ((i : Int) + 1).toNat), zI (xs ((i : Int) + 2).toNat)]) kL_31 t_0 rfl rfl (pr_parts μ ((xs ((i : Int) + 1).toNat)) ((xs ((i : Int) + 2).toNat)) n m t u hI) rfl rfl rfl dL_law_263 (zfitL rfl) (fun v1 μ1 q1 => ?_)
  refine zA_aload_n dL_law_266 rfl ?_
  refine zA_sload_n dL_law_267 rfl ?_
  refine zA_iload_n dL_law_268 rfl ?_
  refine zA_iconst dL_law_269 rfl ?_
  refine zA_iaddB dL_law_270 ⟨by omega, by omega⟩ ?_
  refine zA_sld rfl (by omega) (by omega) dL_law_271 ?_
  refine zA_sload_n dL_law_272 rfl ?_
  refine zA_iload_n dL_law_273 rfl ?_
  refine zA_iconst dL_law_274 rfl ?_
  refine zA_iaddB dL_law_275 ⟨by omega, by omega⟩ ?_
  refine zA_sld rfl (by omega) (by omega) dL_law_276 ?_
  refine zA_cVi (st := [zI v1]) (as := [zI (xs ((i : Int) + 1).toNat), zI (xs ((i : Int) + 2).toNat)]) kL_35 t_110 rfl rfl q1 rfl rfl rfl dL_law_277 (zfitL rfl) (fun v2 μ2 q2 => ?_)
  exact zA_icmp_eq (tgt := 1177) dL_law_280 rfl (fun _ => K μ2 q2.2) (fun q => absurd q2.1 q)
theorem lc_5 (L : Nat) (xs : Nat → Int) (i : Nat) (hi : i + 7 ≤ L) (hL : L ≤ 3584) (μ : zM) (n m t : Nat) (u : Int) (hI : zInv μ n m t u) (K : ∀ μ', zGood μ' → zA RL cL_law 4 room_1 (false, some (L, xs)) TF 131 μ' 1177 [some zS, some (zR 0), some (zR 110), some (zI (i : Int))] [] zPL) : zA RL cL_law 4 room_1 (false, some (L, xs)) TF 131 μ 285 [some zS, some (zR 0), some (zR 110), some (zI (i : Int))] [] zPL := by
  refine zA_aload_n dL_law_285 rfl ?_
  refine zA_sload_n dL_law_286 rfl ?_
  refine zA_iload_n dL_law_287 rfl ?_
  refine zA_iconst dL_law_288 rfl ?_
  refine zA_iaddB dL_law_289 ⟨by omega, by omega⟩ ?_
  refine zA_sld rfl (by omega) (by omega) dL_law_290 ?_
  refine zA_sload_n dL_law_291 rfl ?_
  refine zA_iload_n dL_law_292 rfl ?_
  refine zA_iconst dL_law_293 rfl ?_
  refine zA_iaddB dL_law_294 ⟨by omega, by omega⟩ ?_
  refine zA_sld rfl (by omega) (by omega) dL_law_295 ?_
  refine zA_cVi (st := []) (as := [zI (xs ((i : Int) + 1).toNat), zI (xs ((i : Int) + 2).toNat)]) kL_36 t_0 rfl rfl (pr_own μ ((xs ((i : Int) + 1).toNat)) ((xs ((i : Int) + 2).toNat)) n m t u hI) rfl rfl rfl dL_law_296 (zfitL rfl) (fun v1 μ1 q1 => ?_)
  refine zA_aload_n dL_law_299 rfl ?_
  refine zA_sload_n dL_law_300 rfl ?_
  refine zA_iload_n dL_law_301 rfl ?_
  refine zA_iconst dL_law_302 rfl ?_
  refine zA_iaddB dL_law_303 ⟨by omega, by omega⟩ ?_
  refine zA_sld rfl (by omega) (by omega) dL_law_304 ?_
  refine zA_sload_n dL_law_305 rfl ?_
  refine zA_iload_n dL_law_306 rfl ?_
  refine zA_iconst dL_law_307 rfl ?_
  refine zA_iaddB dL_law_308 ⟨by omega, by omega⟩ ?_
  refine zA_sld rfl (by omega) (by omega) dL_law_309 ?_
  refine zA_cVi (st := [zI v1]) (as := [zI (xs ((i : Int) + 1).toNat), zI (xs ((i : Int) + 2).toNat)]) kL_39 t_110 rfl rfl q1 rfl rfl rfl dL_law_310 (zfitL rfl) (fun v2 μ2 q2 => ?_)
  exact zA_icmp_eq (tgt := 1177) dL_law_313 rfl (fun _ => K μ2 q2.2) (fun q => absurd q2.1 q)
theorem lc_6 (L : Nat) (xs : Nat → Int) (i : Nat) (hi : i + 7 ≤ L) (hL : L ≤ 3584) (μ : zM) (n m t : Nat) (u : Int) (hI : zInv μ n m t u) (K : ∀ μ', zGood μ' → zA RL cL_law 4 room_1 (false, some (L, xs)) TF 131 μ' 1177 [some zS, some (zR 0), some (zR 110), some (zI (i : Int))] [] zPL) : zA RL cL_law 4 room_1 (false, some (L, xs)) TF 131 μ 318 [some zS, some (zR 0), some (zR 110), some (zI (i : Int))] [] zPL := by
  refine zA_aload_n dL_law_318 rfl ?_
  refine zA_sload_n dL_law_319 rfl ?_
  refine zA_iload_n dL_law_320 rfl ?_
  refine zA_iconst dL_law_321 rfl ?_
  refine zA_iaddB dL_law_322 ⟨by omega, by omega⟩ ?_
  refine zA_sld rfl (by omega) (by omega) dL_law_323 ?_
  refine zA_sload_n dL_law_324 rfl ?_
  refine zA_iload_n dL_law_325 rfl ?_
  refine zA_iconst dL_law_326 rfl ?_
  refine zA_iaddB dL_law_327 ⟨by omega, by omega⟩ ?_
  refine zA_sld rfl (by omega) (by omega) dL_law_328 ?_
  refine zA_cVi (st := []) (as := [zI (xs ((i : Int) + 1).toNat), zI (xs ((i : Int) + 2).toNat)]) kL_40 t_0 rfl rfl (pr_gives μ ((xs ((i : Int) + 1).toNat)) ((xs ((i : Int) + 2).toNat)) n m t u hI) rfl rfl rfl dL_law_329 (zfitL rfl) (fun v1 μ1 q1 => ?_)
  refine zA_aload_n dL_law_332 rfl ?_
  refine zA_sload_n dL_law_333 rfl ?_
  refine zA_iload_n dL_law_334 rfl ?_
  refine zA_iconst dL_law_335 rfl ?_
  refine zA_iaddB dL_law_336 ⟨by omega, by omega⟩ ?_
  refine zA_sld rfl (by omega) (by omega) dL_law_337 ?_
  refine zA_sload_n dL_law_338 rfl ?_
  refine zA_iload_n dL_law_339 rfl ?_
  refine zA_iconst dL_law_340 rfl ?_
  refine zA_iaddB dL_law_341 ⟨by omega, by omega⟩ ?_
  refine zA_sld rfl (by omega) (by omega) dL_law_342 ?_
  refine zA_cVi (st := [zI v1]) (as := [zI (xs ((i : Int) + 1).toNat), zI (xs ((i : Int) + 2).toNat)]) kL_43 t_110 rfl rfl q1 rfl rfl rfl dL_law_343 (zfitL rfl) (fun v2 μ2 q2 => ?_)
  exact zA_icmp_eq (tgt := 1177) dL_law_346 rfl (fun _ => K μ2 q2.2) (fun q => absurd q2.1 q)
theorem lc_7 (L : Nat) (xs : Nat → Int) (i : Nat) (hi : i + 7 ≤ L) (hL : L ≤ 3584) (μ : zM) (n m t : Nat) (u : Int) (hI : zInv μ n m t u) (K : ∀ μ', zGood μ' → zA RL cL_law 4 room_1 (false, some (L, xs)) TF 131 μ' 1177 [some zS, some (zR 0), some (zR 110), some (zI (i : Int))] [] zPL) : zA RL cL_law 4 room_1 (false, some (L, xs)) TF 131 μ 351 [some zS, some (zR 0), some (zR 110), some (zI (i : Int))] [] zPL := by
  refine zA_aload_n dL_law_351 rfl ?_
  refine zA_sload_n dL_law_352 rfl ?_
  refine zA_iload_n dL_law_353 rfl ?_
  refine zA_iconst dL_law_354 rfl ?_
  refine zA_iaddB dL_law_355 ⟨by omega, by omega⟩ ?_
  refine zA_sld rfl (by omega) (by omega) dL_law_356 ?_
  refine zA_cVi (st := []) (as := [zI (xs ((i : Int) + 1).toNat)]) kL_44 t_0 rfl rfl (pr_planned μ ((xs ((i : Int) + 1).toNat)) n m t u hI) rfl rfl rfl dL_law_357 (zfitL rfl) (fun v1 μ1 q1 => ?_)
  refine zA_aload_n dL_law_360 rfl ?_
  refine zA_sload_n dL_law_361 rfl ?_
  refine zA_iload_n dL_law_362 rfl ?_
  refine zA_iconst dL_law_363 rfl ?_
  refine zA_iaddB dL_law_364 ⟨by omega, by omega⟩ ?_
  refine zA_sld rfl (by omega) (by omega) dL_law_365 ?_
  refine zA_cVi (st := [zI v1]) (as := [zI (xs ((i : Int) + 1).toNat)]) kL_47 t_110 rfl rfl q1 rfl rfl rfl dL_law_366 (zfitL rfl) (fun v2 μ2 q2 => ?_)
  exact zA_icmp_eq (tgt := 1177) dL_law_369 rfl (fun _ => K μ2 q2.2) (fun q => absurd q2.1 q)
theorem lc_8 (L : Nat) (xs : Nat → Int) (i : Nat) (hi : i + 7 ≤ L) (hL : L ≤ 3584) (μ : zM) (n m t : Nat) (u : Int) (hI : zInv μ n m t u) (K : ∀ μ', zGood μ' → zA RL cL_law 4 room_1 (false, some (L, xs)) TF 131 μ' 1177 [some zS, some (zR 0), some (zR 110), some (zI (i : Int))] [] zPL) : zA RL cL_law 4 room_1 (false, some (L, xs)) TF 131 μ 374 [some zS, some (zR 0), some (zR 110), some (zI (i : Int))] [] zPL := by
  refine zA_aload_n dL_law_374 rfl ?_
  refine zA_sload_n dL_law_375 rfl ?_
  refine zA_iload_n dL_law_376 rfl ?_
  refine zA_iconst dL_law_377 rfl ?_
  refine zA_iaddB dL_law_378 ⟨by omega, by omega⟩ ?_
  refine zA_sld rfl (by omega) (by omega) dL_law_379 ?_
  refine zA_sload_n dL_law_380 rfl ?_
  refine zA_iload_n dL_law_381 rfl ?_
  refine zA_iconst dL_law_382 rfl ?_
  refine zA_iaddB dL_law_383 ⟨by omega, by omega⟩ ?_
  refine zA_sld rfl (by omega) (by omega) dL_law_384 ?_
  refine zA_cVi (st := []) (as := [zI (xs ((i : Int) + 1).toNat), zI (xs ((i : Int) + 2).toNat)]) kL_48 t_0 rfl rfl (pr_touch μ ((xs ((i : Int) + 1).toNat)) ((xs ((i : Int) + 2).toNat)) n m t u hI) rfl rfl rfl dL_law_385 (zfitL rfl) (fun v1 μ1 q1 => ?_)
  refine zA_aload_n dL_law_388 rfl ?_
  refine zA_sload_n dL_law_389 rfl ?_
  refine zA_iload_n dL_law_390 rfl ?_
  refine zA_iconst dL_law_391 rfl ?_
  refine zA_iaddB dL_law_392 ⟨by omega, by omega⟩ ?_
  refine zA_sld rfl (by omega) (by omega) dL_law_393 ?_
  refine zA_sload_n dL_law_394 rfl ?_
  refine zA_iload_n dL_law_395 rfl ?_
  refine zA_iconst dL_law_396 rfl ?_
  refine zA_iaddB dL_law_397 ⟨by omega, by omega⟩ ?_
  refine zA_sld rfl (by omega) (by omega) dL_law_398 ?_
  refine zA_cVi (st := [zI v1]) (as := [zI (xs ((i : Int) + 1).toNat), zI (xs ((i : Int) + 2).toNat)]) kL_51 t_110 rfl rfl q1 rfl rfl rfl dL_law_399 (zfitL rfl) (fun v2 μ2 q2 => ?_)
  exact zA_icmp_eq (tgt := 1177) dL_law_402 rfl (fun _ => K μ2 q2.2) (fun q => absurd q2.1 q)
theorem lc_9 (L : Nat) (xs : Nat → Int) (i : Nat) (hi : i + 7 ≤ L) (hL : L ≤ 3584) (μ : zM) (n m t : Nat) (u : Int) (hI : zInv μ n m t u) (K : ∀ μ', zGood μ' → zA RL cL_law 4 room_1 (false, some (L, xs)) TF 131 μ' 1177 [some zS, some (zR 0), some (zR 110), some (zI (i : Int))] [] zPL) : zA RL cL_law 4 room_1 (false, some (L, xs)) TF 131 μ 407 [some zS, some (zR 0), some (zR 110), some (zI (i : Int))] [] zPL := by
  refine zA_aload_n dL_law_407 rfl ?_
  refine zA_sload_n dL_law_408 rfl ?_
  refine zA_iload_n dL_law_409 rfl ?_
  refine zA_iconst dL_law_410 rfl ?_
  refine zA_iaddB dL_law_411 ⟨by omega, by omega⟩ ?_
  refine zA_sld rfl (by omega) (by omega) dL_law_412 ?_
  refine zA_sload_n dL_law_413 rfl ?_
  refine zA_iload_n dL_law_414 rfl ?_
  refine zA_iconst dL_law_415 rfl ?_
  refine zA_iaddB dL_law_416 ⟨by omega, by omega⟩ ?_
  refine zA_sld rfl (by omega) (by omega) dL_law_417 ?_
  refine zA_if_eq (tgt := 425) dL_law_418 rfl (fun hb => ?_) (fun hb => ?_)
  · refine zA_iconst dL_law_425 rfl ?_
    refine zA_cVi (st := []) (as := [zI (xs ((i : Int) + 1).toNat), zI 0]) kL_52 t_0 rfl rfl (pr_glove μ ((xs ((i : Int) + 1).toNat)) (0) n m t u hI) rfl rfl rfl dL_law_426 (zfitL rfl) (fun v1 μ1 q1 => ?_)
    refine zA_aload_n dL_law_429 rfl ?_
    refine zA_sload_n dL_law_430 rfl ?_
    refine zA_iload_n dL_law_431 rfl ?_
    refine zA_iconst dL_law_432 rfl ?_
    refine zA_iaddB dL_law_433 ⟨by omega, by omega⟩ ?_
    refine zA_sld rfl (by omega) (by omega) dL_law_434 ?_
    refine zA_sload_n dL_law_435 rfl ?_
    refine zA_iload_n dL_law_436 rfl ?_
    refine zA_iconst dL_law_437 rfl ?_
    refine zA_iaddB dL_law_438 ⟨by omega, by omega⟩ ?_
    refine zA_sld rfl (by omega) (by omega) dL_law_439 ?_
    refine zA_if_eq (tgt := 447) dL_law_440 rfl (fun _ => ?_) (fun q => absurd hb q)
    refine zA_iconst dL_law_447 rfl ?_
    refine zA_cVi (st := [zI v1]) (as := [zI (xs ((i : Int) + 1).toNat), zI 0]) kL_56 t_110 rfl rfl q1 rfl rfl rfl dL_law_448 (zfitL rfl) (fun v2 μ2 q2 => ?_)
    exact zA_icmp_eq (tgt := 1177) dL_law_451 rfl (fun _ => K μ2 q2.2) (fun q => absurd q2.1 q)
  · refine zA_iconst dL_law_421 rfl ?_
    refine zA_goto (tgt := 426) dL_law_422 rfl ?_
    refine zA_cVi (st := []) (as := [zI (xs ((i : Int) + 1).toNat), zI 1]) kL_52 t_0 rfl rfl (pr_glove μ ((xs ((i : Int) + 1).toNat)) (1) n m t u hI) rfl rfl rfl dL_law_426 (zfitL rfl) (fun v1 μ1 q1 => ?_)
    refine zA_aload_n dL_law_429 rfl ?_
    refine zA_sload_n dL_law_430 rfl ?_
    refine zA_iload_n dL_law_431 rfl ?_
    refine zA_iconst dL_law_432 rfl ?_
    refine zA_iaddB dL_law_433 ⟨by omega, by omega⟩ ?_
    refine zA_sld rfl (by omega) (by omega) dL_law_434 ?_
    refine zA_sload_n dL_law_435 rfl ?_
    refine zA_iload_n dL_law_436 rfl ?_
    refine zA_iconst dL_law_437 rfl ?_
    refine zA_iaddB dL_law_438 ⟨by omega, by omega⟩ ?_
    refine zA_sld rfl (by omega) (by omega) dL_law_439 ?_
    refine zA_if_eq (tgt := 447) dL_law_440 rfl (fun q => absurd q hb) (fun _ => ?_)
    refine zA_iconst dL_law_443 rfl ?_
    refine zA_goto (tgt := 448) dL_law_444 rfl ?_
    refine zA_cVi (st := [zI v1]) (as := [zI (xs ((i : Int) + 1).toNat), zI 1]) kL_56 t_110 rfl rfl q1 rfl rfl rfl dL_law_448 (zfitL rfl) (fun v2 μ2 q2 => ?_)
    exact zA_icmp_eq (tgt := 1177) dL_law_451 rfl (fun _ => K μ2 q2.2) (fun q => absurd q2.1 q)
theorem lc_10 (L : Nat) (xs : Nat → Int) (i : Nat) (hi : i + 7 ≤ L) (hL : L ≤ 3584) (μ : zM) (n m t : Nat) (u : Int) (hI : zInv μ n m t u) (K : ∀ μ', zGood μ' → zA RL cL_law 4 room_1 (false, some (L, xs)) TF 131 μ' 1177 [some zS, some (zR 0), some (zR 110), some (zI (i : Int))] [] zPL) : zA RL cL_law 4 room_1 (false, some (L, xs)) TF 131 μ 456 [some zS, some (zR 0), some (zR 110), some (zI (i : Int))] [] zPL := by
  refine zA_aload_n dL_law_456 rfl ?_
  refine zA_sload_n dL_law_457 rfl ?_
  refine zA_iload_n dL_law_458 rfl ?_
  refine zA_iconst dL_law_459 rfl ?_
  refine zA_iaddB dL_law_460 ⟨by omega, by omega⟩ ?_
  refine zA_sld rfl (by omega) (by omega) dL_law_461 ?_
  refine zA_cVi (st := []) (as := [zI (xs ((i : Int) + 1).toNat)]) kL_57 t_0 rfl rfl (pr_wash μ ((xs ((i : Int) + 1).toNat)) n m t u hI) rfl rfl rfl dL_law_462 (zfitL rfl) (fun v1 μ1 q1 => ?_)
  refine zA_aload_n dL_law_465 rfl ?_
  refine zA_sload_n dL_law_466 rfl ?_
  refine zA_iload_n dL_law_467 rfl ?_
  refine zA_iconst dL_law_468 rfl ?_
  refine zA_iaddB dL_law_469 ⟨by omega, by omega⟩ ?_
  refine zA_sld rfl (by omega) (by omega) dL_law_470 ?_
  refine zA_cVi (st := [zI v1]) (as := [zI (xs ((i : Int) + 1).toNat)]) kL_60 t_110 rfl rfl q1 rfl rfl rfl dL_law_471 (zfitL rfl) (fun v2 μ2 q2 => ?_)
  exact zA_icmp_eq (tgt := 1177) dL_law_474 rfl (fun _ => K μ2 q2.2) (fun q => absurd q2.1 q)
theorem lc_11 (L : Nat) (xs : Nat → Int) (i : Nat) (hi : i + 7 ≤ L) (hL : L ≤ 3584) (μ : zM) (n m t : Nat) (u : Int) (hI : zInv μ n m t u) (K : ∀ μ', zGood μ' → zA RL cL_law 4 room_1 (false, some (L, xs)) TF 131 μ' 1177 [some zS, some (zR 0), some (zR 110), some (zI (i : Int))] [] zPL) : zA RL cL_law 4 room_1 (false, some (L, xs)) TF 131 μ 479 [some zS, some (zR 0), some (zR 110), some (zI (i : Int))] [] zPL := by
  refine zA_aload_n dL_law_479 rfl ?_
  refine zA_cVi (st := []) (as := []) kL_61 t_0 rfl rfl (pr_day μ  n m t u hI) rfl rfl rfl dL_law_480 (zfitL rfl) (fun v1 μ1 q1 => ?_)
  refine zA_aload_n dL_law_483 rfl ?_
  refine zA_cVi (st := [zI v1]) (as := []) kL_64 t_110 rfl rfl q1 rfl rfl rfl dL_law_484 (zfitL rfl) (fun v2 μ2 q2 => ?_)
  exact zA_icmp_eq (tgt := 1177) dL_law_487 rfl (fun _ => K μ2 q2.2) (fun q => absurd q2.1 q)
theorem lc_12 (L : Nat) (xs : Nat → Int) (i : Nat) (hi : i + 7 ≤ L) (hL : L ≤ 3584) (μ : zM) (n m t : Nat) (u : Int) (hI : zInv μ n m t u) (K : ∀ μ', zGood μ' → zA RL cL_law 4 room_1 (false, some (L, xs)) TF 131 μ' 1177 [some zS, some (zR 0), some (zR 110), some (zI (i : Int))] [] zPL) : zA RL cL_law 4 room_1 (false, some (L, xs)) TF 131 μ 492 [some zS, some (zR 0), some (zR 110), some (zI (i : Int))] [] zPL := by
  refine zA_aload_n dL_law_492 rfl ?_
  refine zA_sload_n dL_law_493 rfl ?_
  refine zA_iload_n dL_law_494 rfl ?_
  refine zA_iconst dL_law_495 rfl ?_
  refine zA_iaddB dL_law_496 ⟨by omega, by omega⟩ ?_
  refine zA_sld rfl (by omega) (by omega) dL_law_497 ?_
  refine zA_cVi (st := []) (as := [zI (xs ((i : Int) + 1).toNat)]) kL_65 t_0 rfl rfl (pr_drift μ ((xs ((i : Int) + 1).toNat)) n m t u hI) rfl rfl rfl dL_law_498 (zfitL rfl) (fun v1 μ1 q1 => ?_)
  refine zA_aload_n dL_law_501 rfl ?_
  refine zA_sload_n dL_law_502 rfl ?_
  refine zA_iload_n dL_law_503 rfl ?_
  refine zA_iconst dL_law_504 rfl ?_
  refine zA_iaddB dL_law_505 ⟨by omega, by omega⟩ ?_
  refine zA_sld rfl (by omega) (by omega) dL_law_506 ?_
  refine zA_cVi (st := [zI v1]) (as := [zI (xs ((i : Int) + 1).toNat)]) kL_68 t_110 rfl rfl q1 rfl rfl rfl dL_law_507 (zfitL rfl) (fun v2 μ2 q2 => ?_)
  exact zA_icmp_eq (tgt := 1177) dL_law_510 rfl (fun _ => K μ2 q2.2) (fun q => absurd q2.1 q)
theorem lc_13 (L : Nat) (xs : Nat → Int) (i : Nat) (hi : i + 7 ≤ L) (hL : L ≤ 3584) (μ : zM) (n m t : Nat) (u : Int) (hI : zInv μ n m t u) (K : ∀ μ', zGood μ' → zA RL cL_law 4 room_1 (false, some (L, xs)) TF 131 μ' 1177 [some zS, some (zR 0), some (zR 110), some (zI (i : Int))] [] zPL) : zA RL cL_law 4 room_1 (false, some (L, xs)) TF 131 μ 515 [some zS, some (zR 0), some (zR 110), some (zI (i : Int))] [] zPL := by
  refine zA_aload_n dL_law_515 rfl ?_
  refine zA_cVi (st := []) (as := []) kL_69 t_0 rfl rfl (pr_undo μ  n m t u hI) rfl rfl rfl dL_law_516 (zfitL rfl) (fun v1 μ1 q1 => ?_)
  refine zA_aload_n dL_law_519 rfl ?_
  refine zA_cVi (st := [zI v1]) (as := []) kL_72 t_110 rfl rfl q1 rfl rfl rfl dL_law_520 (zfitL rfl) (fun v2 μ2 q2 => ?_)
  exact zA_icmp_eq (tgt := 1177) dL_law_523 rfl (fun _ => K μ2 q2.2) (fun q => absurd q2.1 q)
theorem lc_14 (L : Nat) (xs : Nat → Int) (i : Nat) (hi : i + 7 ≤ L) (hL : L ≤ 3584) (μ : zM) (n m t : Nat) (u : Int) (hI : zInv μ n m t u) (K : ∀ μ', zGood μ' → zA RL cL_law 4 room_1 (false, some (L, xs)) TF 131 μ' 1177 [some zS, some (zR 0), some (zR 110), some (zI (i : Int))] [] zPL) : zA RL cL_law 4 room_1 (false, some (L, xs)) TF 131 μ 528 [some zS, some (zR 0), some (zR 110), some (zI (i : Int))] [] zPL := by
  refine zA_aload_n dL_law_528 rfl ?_
  refine zA_sload_n dL_law_529 rfl ?_
  refine zA_iload_n dL_law_530 rfl ?_
  refine zA_iconst dL_law_531 rfl ?_
  refine zA_iaddB dL_law_532 ⟨by omega, by omega⟩ ?_
  refine zA_sld rfl (by omega) (by omega) dL_law_533 ?_
  refine zA_sload_n dL_law_534 rfl ?_
  refine zA_iload_n dL_law_535 rfl ?_
  refine zA_iconst dL_law_536 rfl ?_
  refine zA_iaddB dL_law_537 ⟨by omega, by omega⟩ ?_
  refine zA_sld rfl (by omega) (by omega) dL_law_538 ?_
  refine zA_sload_n dL_law_539 rfl ?_
  refine zA_iload_n dL_law_540 rfl ?_
  refine zA_iconst dL_law_541 rfl ?_
  refine zA_iaddB dL_law_542 ⟨by omega, by omega⟩ ?_
  refine zA_sld rfl (by omega) (by omega) dL_law_543 ?_
  refine zA_cVi (st := []) (as := [zI (xs ((i : Int) + 1).toNat), zI (xs ((i : Int) + 2).toNat), zI (xs ((i : Int) + 3).toNat)]) kL_73 t_0 rfl rfl (pr_shows μ ((xs ((i : Int) + 1).toNat)) ((xs ((i : Int) + 2).toNat)) ((xs ((i : Int) + 3).toNat)) n m t u hI) rfl rfl rfl dL_law_544 (zfitL rfl) (fun v1 μ1 q1 => ?_)
  refine zA_aload_n dL_law_547 rfl ?_
  refine zA_sload_n dL_law_548 rfl ?_
  refine zA_iload_n dL_law_549 rfl ?_
  refine zA_iconst dL_law_550 rfl ?_
  refine zA_iaddB dL_law_551 ⟨by omega, by omega⟩ ?_
  refine zA_sld rfl (by omega) (by omega) dL_law_552 ?_
  refine zA_sload_n dL_law_553 rfl ?_
  refine zA_iload_n dL_law_554 rfl ?_
  refine zA_iconst dL_law_555 rfl ?_
  refine zA_iaddB dL_law_556 ⟨by omega, by omega⟩ ?_
  refine zA_sld rfl (by omega) (by omega) dL_law_557 ?_
  refine zA_sload_n dL_law_558 rfl ?_
  refine zA_iload_n dL_law_559 rfl ?_
  refine zA_iconst dL_law_560 rfl ?_
  refine zA_iaddB dL_law_561 ⟨by omega, by omega⟩ ?_
  refine zA_sld rfl (by omega) (by omega) dL_law_562 ?_
  refine zA_cVi (st := [zI v1]) (as := [zI (xs ((i : Int) + 1).toNat), zI (xs ((i : Int) + 2).toNat), zI (xs ((i : Int) + 3).toNat)]) kL_77 t_110 rfl rfl q1 rfl rfl rfl dL_law_563 (zfitL rfl) (fun v2 μ2 q2 => ?_)
  exact zA_icmp_eq (tgt := 1177) dL_law_566 rfl (fun _ => K μ2 q2.2) (fun q => absurd q2.1 q)
theorem lc_15 (L : Nat) (xs : Nat → Int) (i : Nat) (hi : i + 7 ≤ L) (hL : L ≤ 3584) (μ : zM) (n m t : Nat) (u : Int) (hI : zInv μ n m t u) (K : ∀ μ', zGood μ' → zA RL cL_law 4 room_1 (false, some (L, xs)) TF 131 μ' 1177 [some zS, some (zR 0), some (zR 110), some (zI (i : Int))] [] zPL) : zA RL cL_law 4 room_1 (false, some (L, xs)) TF 131 μ 571 [some zS, some (zR 0), some (zR 110), some (zI (i : Int))] [] zPL := by
  refine zA_aload_n dL_law_571 rfl ?_
  refine zA_sload_n dL_law_572 rfl ?_
  refine zA_iload_n dL_law_573 rfl ?_
  refine zA_iconst dL_law_574 rfl ?_
  refine zA_iaddB dL_law_575 ⟨by omega, by omega⟩ ?_
  refine zA_sld rfl (by omega) (by omega) dL_law_576 ?_
  refine zA_sload_n dL_law_577 rfl ?_
  refine zA_iload_n dL_law_578 rfl ?_
  refine zA_iconst dL_law_579 rfl ?_
  refine zA_iaddB dL_law_580 ⟨by omega, by omega⟩ ?_
  refine zA_sld rfl (by omega) (by omega) dL_law_581 ?_
  refine zA_cVi (st := []) (as := [zI (xs ((i : Int) + 1).toNat), zI (xs ((i : Int) + 2).toNat)]) kL_78 t_0 rfl rfl (pr_alike μ ((xs ((i : Int) + 1).toNat)) ((xs ((i : Int) + 2).toNat)) n m t u hI) rfl rfl rfl dL_law_582 (zfitL rfl) (fun v1 μ1 q1 => ?_)
  refine zA_aload_n dL_law_585 rfl ?_
  refine zA_sload_n dL_law_586 rfl ?_
  refine zA_iload_n dL_law_587 rfl ?_
  refine zA_iconst dL_law_588 rfl ?_
  refine zA_iaddB dL_law_589 ⟨by omega, by omega⟩ ?_
  refine zA_sld rfl (by omega) (by omega) dL_law_590 ?_
  refine zA_sload_n dL_law_591 rfl ?_
  refine zA_iload_n dL_law_592 rfl ?_
  refine zA_iconst dL_law_593 rfl ?_
  refine zA_iaddB dL_law_594 ⟨by omega, by omega⟩ ?_
  refine zA_sld rfl (by omega) (by omega) dL_law_595 ?_
  refine zA_cVi (st := [zI v1]) (as := [zI (xs ((i : Int) + 1).toNat), zI (xs ((i : Int) + 2).toNat)]) kL_81 t_110 rfl rfl q1 rfl rfl rfl dL_law_596 (zfitL rfl) (fun v2 μ2 q2 => ?_)
  exact zA_icmp_eq (tgt := 1177) dL_law_599 rfl (fun _ => K μ2 q2.2) (fun q => absurd q2.1 q)
theorem lc_16 (L : Nat) (xs : Nat → Int) (i : Nat) (hi : i + 7 ≤ L) (hL : L ≤ 3584) (μ : zM) (n m t : Nat) (u : Int) (hI : zInv μ n m t u) (K : ∀ μ', zGood μ' → zA RL cL_law 4 room_1 (false, some (L, xs)) TF 131 μ' 1177 [some zS, some (zR 0), some (zR 110), some (zI (i : Int))] [] zPL) : zA RL cL_law 4 room_1 (false, some (L, xs)) TF 131 μ 604 [some zS, some (zR 0), some (zR 110), some (zI (i : Int))] [] zPL := by
  refine zA_aload_n dL_law_604 rfl ?_
  refine zA_sload_n dL_law_605 rfl ?_
  refine zA_iload_n dL_law_606 rfl ?_
  refine zA_iconst dL_law_607 rfl ?_
  refine zA_iaddB dL_law_608 ⟨by omega, by omega⟩ ?_
  refine zA_sld rfl (by omega) (by omega) dL_law_609 ?_
  refine zA_sload_n dL_law_610 rfl ?_
  refine zA_iload_n dL_law_611 rfl ?_
  refine zA_iconst dL_law_612 rfl ?_
  refine zA_iaddB dL_law_613 ⟨by omega, by omega⟩ ?_
  refine zA_sld rfl (by omega) (by omega) dL_law_614 ?_
  refine zA_sload_n dL_law_615 rfl ?_
  refine zA_iload_n dL_law_616 rfl ?_
  refine zA_iconst dL_law_617 rfl ?_
  refine zA_iaddB dL_law_618 ⟨by omega, by omega⟩ ?_
  refine zA_sld rfl (by omega) (by omega) dL_law_619 ?_
  refine zA_cVi (st := []) (as := [zI (xs ((i : Int) + 1).toNat), zI (xs ((i : Int) + 2).toNat), zI (xs ((i : Int) + 3).toNat)]) kL_82 t_0 rfl rfl (pr_trail μ ((xs ((i : Int) + 1).toNat)) ((xs ((i : Int) + 2).toNat)) ((xs ((i : Int) + 3).toNat)) n m t u hI) rfl rfl rfl dL_law_620 (zfitL rfl) (fun v1 μ1 q1 => ?_)
  refine zA_aload_n dL_law_623 rfl ?_
  refine zA_sload_n dL_law_624 rfl ?_
  refine zA_iload_n dL_law_625 rfl ?_
  refine zA_iconst dL_law_626 rfl ?_
  refine zA_iaddB dL_law_627 ⟨by omega, by omega⟩ ?_
  refine zA_sld rfl (by omega) (by omega) dL_law_628 ?_
  refine zA_sload_n dL_law_629 rfl ?_
  refine zA_iload_n dL_law_630 rfl ?_
  refine zA_iconst dL_law_631 rfl ?_
  refine zA_iaddB dL_law_632 ⟨by omega, by omega⟩ ?_
  refine zA_sld rfl (by omega) (by omega) dL_law_633 ?_
  refine zA_sload_n dL_law_634 rfl ?_
  refine zA_iload_n dL_law_635 rfl ?_
  refine zA_iconst dL_law_636 rfl ?_
  refine zA_iaddB dL_law_637 ⟨by omega, by omega⟩ ?_
  refine zA_sld rfl (by omega) (by omega) dL_law_638 ?_
  refine zA_cVi (st := [zI v1]) (as := [zI (xs ((i : Int) + 1).toNat), zI (xs ((i : Int) + 2).toNat), zI (xs ((i : Int) + 3).toNat)]) kL_85 t_110 rfl rfl q1 rfl rfl rfl dL_law_639 (zfitL rfl) (fun v2 μ2 q2 => ?_)
  exact zA_icmp_eq (tgt := 1177) dL_law_642 rfl (fun _ => K μ2 q2.2) (fun q => absurd q2.1 q)
theorem lc_17 (L : Nat) (xs : Nat → Int) (i : Nat) (hi : i + 7 ≤ L) (hL : L ≤ 3584) (μ : zM) (n m t : Nat) (u : Int) (hI : zInv μ n m t u) (K : ∀ μ', zGood μ' → zA RL cL_law 4 room_1 (false, some (L, xs)) TF 131 μ' 1177 [some zS, some (zR 0), some (zR 110), some (zI (i : Int))] [] zPL) : zA RL cL_law 4 room_1 (false, some (L, xs)) TF 131 μ 647 [some zS, some (zR 0), some (zR 110), some (zI (i : Int))] [] zPL := by
  refine zA_aload_n dL_law_647 rfl ?_
  refine zA_sload_n dL_law_648 rfl ?_
  refine zA_iload_n dL_law_649 rfl ?_
  refine zA_iconst dL_law_650 rfl ?_
  refine zA_iaddB dL_law_651 ⟨by omega, by omega⟩ ?_
  refine zA_sld rfl (by omega) (by omega) dL_law_652 ?_
  refine zA_sload_n dL_law_653 rfl ?_
  refine zA_iload_n dL_law_654 rfl ?_
  refine zA_iconst dL_law_655 rfl ?_
  refine zA_iaddB dL_law_656 ⟨by omega, by omega⟩ ?_
  refine zA_sld rfl (by omega) (by omega) dL_law_657 ?_
  refine zA_sload_n dL_law_658 rfl ?_
  refine zA_iload_n dL_law_659 rfl ?_
  refine zA_iconst dL_law_660 rfl ?_
  refine zA_iaddB dL_law_661 ⟨by omega, by omega⟩ ?_
  refine zA_sld rfl (by omega) (by omega) dL_law_662 ?_
  refine zA_sload_n dL_law_663 rfl ?_
  refine zA_iload_n dL_law_664 rfl ?_
  refine zA_iconst dL_law_665 rfl ?_
  refine zA_iaddB dL_law_666 ⟨by omega, by omega⟩ ?_
  refine zA_sld rfl (by omega) (by omega) dL_law_667 ?_
  refine zA_sload_n dL_law_668 rfl ?_
  refine zA_iload_n dL_law_669 rfl ?_
  refine zA_iconst dL_law_670 rfl ?_
  refine zA_iaddB dL_law_671 ⟨by omega, by omega⟩ ?_
  refine zA_sld rfl (by omega) (by omega) dL_law_672 ?_
  refine zA_sload_n dL_law_673 rfl ?_
  refine zA_iload_n dL_law_674 rfl ?_
  refine zA_bipush dL_law_675 rfl ?_
  refine zA_iaddB dL_law_677 ⟨by omega, by omega⟩ ?_
  refine zA_sld rfl (by omega) (by omega) dL_law_678 ?_
  refine zA_cVi (st := []) (as := [zI (xs ((i : Int) + 1).toNat), zI (xs ((i : Int) + 2).toNat), zI (xs ((i : Int) + 3).toNat), zI (xs ((i : Int) + 4).toNat), zI (xs ((i : Int) + 5).toNat), zI (xs ((i : Int) + 6).toNat)]) kL_86 t_0 rfl rfl (pr_came μ ((xs ((i : Int) + 1).toNat)) ((xs ((i : Int) + 2).toNat)) ((xs ((i : Int) + 3).toNat)) ((xs ((i : Int) + 4).toNat)) ((xs ((i : Int) + 5).toNat)) ((xs ((i : Int) + 6).toNat)) n m t u hI) rfl rfl rfl dL_law_679 (zfitL rfl) (fun v1 μ1 q1 => ?_)
  refine zA_aload_n dL_law_682 rfl ?_
  refine zA_sload_n dL_law_683 rfl ?_
  refine zA_iload_n dL_law_684 rfl ?_
  refine zA_iconst dL_law_685 rfl ?_
  refine zA_iaddB dL_law_686 ⟨by omega, by omega⟩ ?_
  refine zA_sld rfl (by omega) (by omega) dL_law_687 ?_
  refine zA_sload_n dL_law_688 rfl ?_
  refine zA_iload_n dL_law_689 rfl ?_
  refine zA_iconst dL_law_690 rfl ?_
  refine zA_iaddB dL_law_691 ⟨by omega, by omega⟩ ?_
  refine zA_sld rfl (by omega) (by omega) dL_law_692 ?_
  refine zA_sload_n dL_law_693 rfl ?_
  refine zA_iload_n dL_law_694 rfl ?_
  refine zA_iconst dL_law_695 rfl ?_
  refine zA_iaddB dL_law_696 ⟨by omega, by omega⟩ ?_
  refine zA_sld rfl (by omega) (by omega) dL_law_697 ?_
  refine zA_sload_n dL_law_698 rfl ?_
  refine zA_iload_n dL_law_699 rfl ?_
  refine zA_iconst dL_law_700 rfl ?_
  refine zA_iaddB dL_law_701 ⟨by omega, by omega⟩ ?_
  refine zA_sld rfl (by omega) (by omega) dL_law_702 ?_
  refine zA_sload_n dL_law_703 rfl ?_
  refine zA_iload_n dL_law_704 rfl ?_
  refine zA_iconst dL_law_705 rfl ?_
  refine zA_iaddB dL_law_706 ⟨by omega, by omega⟩ ?_
  refine zA_sld rfl (by omega) (by omega) dL_law_707 ?_
  refine zA_sload_n dL_law_708 rfl ?_
  refine zA_iload_n dL_law_709 rfl ?_
  refine zA_bipush dL_law_710 rfl ?_
  refine zA_iaddB dL_law_712 ⟨by omega, by omega⟩ ?_
  refine zA_sld rfl (by omega) (by omega) dL_law_713 ?_
  refine zA_cVi (st := [zI v1]) (as := [zI (xs ((i : Int) + 1).toNat), zI (xs ((i : Int) + 2).toNat), zI (xs ((i : Int) + 3).toNat), zI (xs ((i : Int) + 4).toNat), zI (xs ((i : Int) + 5).toNat), zI (xs ((i : Int) + 6).toNat)]) kL_90 t_110 rfl rfl q1 rfl rfl rfl dL_law_714 (zfitL rfl) (fun v2 μ2 q2 => ?_)
  exact zA_icmp_eq (tgt := 1177) dL_law_717 rfl (fun _ => K μ2 q2.2) (fun q => absurd q2.1 q)
theorem lc_18 (L : Nat) (xs : Nat → Int) (i : Nat) (hi : i + 7 ≤ L) (hL : L ≤ 3584) (μ : zM) (n m t : Nat) (u : Int) (hI : zInv μ n m t u) (K : ∀ μ', zGood μ' → zA RL cL_law 4 room_1 (false, some (L, xs)) TF 131 μ' 1177 [some zS, some (zR 0), some (zR 110), some (zI (i : Int))] [] zPL) : zA RL cL_law 4 room_1 (false, some (L, xs)) TF 131 μ 722 [some zS, some (zR 0), some (zR 110), some (zI (i : Int))] [] zPL := by
  refine zA_aload_n dL_law_722 rfl ?_
  refine zA_sload_n dL_law_723 rfl ?_
  refine zA_iload_n dL_law_724 rfl ?_
  refine zA_iconst dL_law_725 rfl ?_
  refine zA_iaddB dL_law_726 ⟨by omega, by omega⟩ ?_
  refine zA_sld rfl (by omega) (by omega) dL_law_727 ?_
  refine zA_sload_n dL_law_728 rfl ?_
  refine zA_iload_n dL_law_729 rfl ?_
  refine zA_iconst dL_law_730 rfl ?_
  refine zA_iaddB dL_law_731 ⟨by omega, by omega⟩ ?_
  refine zA_sld rfl (by omega) (by omega) dL_law_732 ?_
  refine zA_sload_n dL_law_733 rfl ?_
  refine zA_iload_n dL_law_734 rfl ?_
  refine zA_iconst dL_law_735 rfl ?_
  refine zA_iaddB dL_law_736 ⟨by omega, by omega⟩ ?_
  refine zA_sld rfl (by omega) (by omega) dL_law_737 ?_
  refine zA_sload_n dL_law_738 rfl ?_
  refine zA_iload_n dL_law_739 rfl ?_
  refine zA_iconst dL_law_740 rfl ?_
  refine zA_iaddB dL_law_741 ⟨by omega, by omega⟩ ?_
  refine zA_sld rfl (by omega) (by omega) dL_law_742 ?_
  refine zA_cVi (st := []) (as := [zI (xs ((i : Int) + 1).toNat), zI (xs ((i : Int) + 2).toNat), zI (xs ((i : Int) + 3).toNat), zI (xs ((i : Int) + 4).toNat)]) kL_91 t_0 rfl rfl (pr_met μ ((xs ((i : Int) + 1).toNat)) ((xs ((i : Int) + 2).toNat)) ((xs ((i : Int) + 3).toNat)) ((xs ((i : Int) + 4).toNat)) n m t u hI) rfl rfl rfl dL_law_743 (zfitL rfl) (fun v1 μ1 q1 => ?_)
  refine zA_aload_n dL_law_746 rfl ?_
  refine zA_sload_n dL_law_747 rfl ?_
  refine zA_iload_n dL_law_748 rfl ?_
  refine zA_iconst dL_law_749 rfl ?_
  refine zA_iaddB dL_law_750 ⟨by omega, by omega⟩ ?_
  refine zA_sld rfl (by omega) (by omega) dL_law_751 ?_
  refine zA_sload_n dL_law_752 rfl ?_
  refine zA_iload_n dL_law_753 rfl ?_
  refine zA_iconst dL_law_754 rfl ?_
  refine zA_iaddB dL_law_755 ⟨by omega, by omega⟩ ?_
  refine zA_sld rfl (by omega) (by omega) dL_law_756 ?_
  refine zA_sload_n dL_law_757 rfl ?_
  refine zA_iload_n dL_law_758 rfl ?_
  refine zA_iconst dL_law_759 rfl ?_
  refine zA_iaddB dL_law_760 ⟨by omega, by omega⟩ ?_
  refine zA_sld rfl (by omega) (by omega) dL_law_761 ?_
  refine zA_sload_n dL_law_762 rfl ?_
  refine zA_iload_n dL_law_763 rfl ?_
  refine zA_iconst dL_law_764 rfl ?_
  refine zA_iaddB dL_law_765 ⟨by omega, by omega⟩ ?_
  refine zA_sld rfl (by omega) (by omega) dL_law_766 ?_
  refine zA_cVi (st := [zI v1]) (as := [zI (xs ((i : Int) + 1).toNat), zI (xs ((i : Int) + 2).toNat), zI (xs ((i : Int) + 3).toNat), zI (xs ((i : Int) + 4).toNat)]) kL_95 t_110 rfl rfl q1 rfl rfl rfl dL_law_767 (zfitL rfl) (fun v2 μ2 q2 => ?_)
  exact zA_icmp_eq (tgt := 1177) dL_law_770 rfl (fun _ => K μ2 q2.2) (fun q => absurd q2.1 q)
theorem lc_19 (L : Nat) (xs : Nat → Int) (i : Nat) (hi : i + 7 ≤ L) (hL : L ≤ 3584) (μ : zM) (n m t : Nat) (u : Int) (hI : zInv μ n m t u) (K : ∀ μ', zGood μ' → zA RL cL_law 4 room_1 (false, some (L, xs)) TF 131 μ' 1177 [some zS, some (zR 0), some (zR 110), some (zI (i : Int))] [] zPL) : zA RL cL_law 4 room_1 (false, some (L, xs)) TF 131 μ 775 [some zS, some (zR 0), some (zR 110), some (zI (i : Int))] [] zPL := by
  refine zA_aload_n dL_law_775 rfl ?_
  refine zA_sload_n dL_law_776 rfl ?_
  refine zA_iload_n dL_law_777 rfl ?_
  refine zA_iconst dL_law_778 rfl ?_
  refine zA_iaddB dL_law_779 ⟨by omega, by omega⟩ ?_
  refine zA_sld rfl (by omega) (by omega) dL_law_780 ?_
  refine zA_sload_n dL_law_781 rfl ?_
  refine zA_iload_n dL_law_782 rfl ?_
  refine zA_iconst dL_law_783 rfl ?_
  refine zA_iaddB dL_law_784 ⟨by omega, by omega⟩ ?_
  refine zA_sld rfl (by omega) (by omega) dL_law_785 ?_
  refine zA_sload_n dL_law_786 rfl ?_
  refine zA_iload_n dL_law_787 rfl ?_
  refine zA_iconst dL_law_788 rfl ?_
  refine zA_iaddB dL_law_789 ⟨by omega, by omega⟩ ?_
  refine zA_sld rfl (by omega) (by omega) dL_law_790 ?_
  refine zA_sload_n dL_law_791 rfl ?_
  refine zA_iload_n dL_law_792 rfl ?_
  refine zA_iconst dL_law_793 rfl ?_
  refine zA_iaddB dL_law_794 ⟨by omega, by omega⟩ ?_
  refine zA_sld rfl (by omega) (by omega) dL_law_795 ?_
  refine zA_cVi (st := []) (as := [zI (xs ((i : Int) + 1).toNat), zI (xs ((i : Int) + 2).toNat), zI (xs ((i : Int) + 3).toNat), zI (xs ((i : Int) + 4).toNat)]) kL_96 t_0 rfl rfl (pr_leftOut μ ((xs ((i : Int) + 1).toNat)) ((xs ((i : Int) + 2).toNat)) ((xs ((i : Int) + 3).toNat)) ((xs ((i : Int) + 4).toNat)) n m t u hI) rfl rfl rfl dL_law_796 (zfitL rfl) (fun v1 μ1 q1 => ?_)
  refine zA_aload_n dL_law_799 rfl ?_
  refine zA_sload_n dL_law_800 rfl ?_
  refine zA_iload_n dL_law_801 rfl ?_
  refine zA_iconst dL_law_802 rfl ?_
  refine zA_iaddB dL_law_803 ⟨by omega, by omega⟩ ?_
  refine zA_sld rfl (by omega) (by omega) dL_law_804 ?_
  refine zA_sload_n dL_law_805 rfl ?_
  refine zA_iload_n dL_law_806 rfl ?_
  refine zA_iconst dL_law_807 rfl ?_
  refine zA_iaddB dL_law_808 ⟨by omega, by omega⟩ ?_
  refine zA_sld rfl (by omega) (by omega) dL_law_809 ?_
  refine zA_sload_n dL_law_810 rfl ?_
  refine zA_iload_n dL_law_811 rfl ?_
  refine zA_iconst dL_law_812 rfl ?_
  refine zA_iaddB dL_law_813 ⟨by omega, by omega⟩ ?_
  refine zA_sld rfl (by omega) (by omega) dL_law_814 ?_
  refine zA_sload_n dL_law_815 rfl ?_
  refine zA_iload_n dL_law_816 rfl ?_
  refine zA_iconst dL_law_817 rfl ?_
  refine zA_iaddB dL_law_818 ⟨by omega, by omega⟩ ?_
  refine zA_sld rfl (by omega) (by omega) dL_law_819 ?_
  refine zA_cVi (st := [zI v1]) (as := [zI (xs ((i : Int) + 1).toNat), zI (xs ((i : Int) + 2).toNat), zI (xs ((i : Int) + 3).toNat), zI (xs ((i : Int) + 4).toNat)]) kL_99 t_110 rfl rfl q1 rfl rfl rfl dL_law_820 (zfitL rfl) (fun v2 μ2 q2 => ?_)
  exact zA_icmp_eq (tgt := 1177) dL_law_823 rfl (fun _ => K μ2 q2.2) (fun q => absurd q2.1 q)
theorem lc_20 (L : Nat) (xs : Nat → Int) (i : Nat) (hi : i + 7 ≤ L) (hL : L ≤ 3584) (μ : zM) (n m t : Nat) (u : Int) (hI : zInv μ n m t u) (K : ∀ μ', zGood μ' → zA RL cL_law 4 room_1 (false, some (L, xs)) TF 131 μ' 1177 [some zS, some (zR 0), some (zR 110), some (zI (i : Int))] [] zPL) : zA RL cL_law 4 room_1 (false, some (L, xs)) TF 131 μ 828 [some zS, some (zR 0), some (zR 110), some (zI (i : Int))] [] zPL := by
  refine zA_aload_n dL_law_828 rfl ?_
  refine zA_sload_n dL_law_829 rfl ?_
  refine zA_iload_n dL_law_830 rfl ?_
  refine zA_iconst dL_law_831 rfl ?_
  refine zA_iaddB dL_law_832 ⟨by omega, by omega⟩ ?_
  refine zA_sld rfl (by omega) (by omega) dL_law_833 ?_
  refine zA_sload_n dL_law_834 rfl ?_
  refine zA_iload_n dL_law_835 rfl ?_
  refine zA_iconst dL_law_836 rfl ?_
  refine zA_iaddB dL_law_837 ⟨by omega, by omega⟩ ?_
  refine zA_sld rfl (by omega) (by omega) dL_law_838 ?_
  refine zA_cVi (st := []) (as := [zI (xs ((i : Int) + 1).toNat), zI (xs ((i : Int) + 2).toNat)]) kL_100 t_0 rfl rfl (pr_washes μ ((xs ((i : Int) + 1).toNat)) ((xs ((i : Int) + 2).toNat)) n m t u hI) rfl rfl rfl dL_law_839 (zfitL rfl) (fun v1 μ1 q1 => ?_)
  refine zA_aload_n dL_law_842 rfl ?_
  refine zA_sload_n dL_law_843 rfl ?_
  refine zA_iload_n dL_law_844 rfl ?_
  refine zA_iconst dL_law_845 rfl ?_
  refine zA_iaddB dL_law_846 ⟨by omega, by omega⟩ ?_
  refine zA_sld rfl (by omega) (by omega) dL_law_847 ?_
  refine zA_sload_n dL_law_848 rfl ?_
  refine zA_iload_n dL_law_849 rfl ?_
  refine zA_iconst dL_law_850 rfl ?_
  refine zA_iaddB dL_law_851 ⟨by omega, by omega⟩ ?_
  refine zA_sld rfl (by omega) (by omega) dL_law_852 ?_
  refine zA_cVi (st := [zI v1]) (as := [zI (xs ((i : Int) + 1).toNat), zI (xs ((i : Int) + 2).toNat)]) kL_103 t_110 rfl rfl q1 rfl rfl rfl dL_law_853 (zfitL rfl) (fun v2 μ2 q2 => ?_)
  exact zA_icmp_eq (tgt := 1177) dL_law_856 rfl (fun _ => K μ2 q2.2) (fun q => absurd q2.1 q)
theorem lc_21 (L : Nat) (xs : Nat → Int) (i : Nat) (hi : i + 7 ≤ L) (hL : L ≤ 3584) (μ : zM) (n m t : Nat) (u : Int) (hI : zInv μ n m t u) (K : ∀ μ', zGood μ' → zA RL cL_law 4 room_1 (false, some (L, xs)) TF 131 μ' 1177 [some zS, some (zR 0), some (zR 110), some (zI (i : Int))] [] zPL) : zA RL cL_law 4 room_1 (false, some (L, xs)) TF 131 μ 861 [some zS, some (zR 0), some (zR 110), some (zI (i : Int))] [] zPL := by
  refine zA_aload_n dL_law_861 rfl ?_
  refine zA_sload_n dL_law_862 rfl ?_
  refine zA_iload_n dL_law_863 rfl ?_
  refine zA_iconst dL_law_864 rfl ?_
  refine zA_iaddB dL_law_865 ⟨by omega, by omega⟩ ?_
  refine zA_sld rfl (by omega) (by omega) dL_law_866 ?_
  refine zA_sload_n dL_law_867 rfl ?_
  refine zA_iload_n dL_law_868 rfl ?_
  refine zA_iconst dL_law_869 rfl ?_
  refine zA_iaddB dL_law_870 ⟨by omega, by omega⟩ ?_
  refine zA_sld rfl (by omega) (by omega) dL_law_871 ?_
  refine zA_cVi (st := []) (as := [zI (xs ((i : Int) + 1).toNat), zI (xs ((i : Int) + 2).toNat)]) kL_104 t_0 rfl rfl (pr_rest μ ((xs ((i : Int) + 1).toNat)) ((xs ((i : Int) + 2).toNat)) n m t u hI) rfl rfl rfl dL_law_872 (zfitL rfl) (fun v1 μ1 q1 => ?_)
  refine zA_aload_n dL_law_875 rfl ?_
  refine zA_sload_n dL_law_876 rfl ?_
  refine zA_iload_n dL_law_877 rfl ?_
  refine zA_iconst dL_law_878 rfl ?_
  refine zA_iaddB dL_law_879 ⟨by omega, by omega⟩ ?_
  refine zA_sld rfl (by omega) (by omega) dL_law_880 ?_
  refine zA_sload_n dL_law_881 rfl ?_
  refine zA_iload_n dL_law_882 rfl ?_
  refine zA_iconst dL_law_883 rfl ?_
  refine zA_iaddB dL_law_884 ⟨by omega, by omega⟩ ?_
  refine zA_sld rfl (by omega) (by omega) dL_law_885 ?_
  refine zA_cVi (st := [zI v1]) (as := [zI (xs ((i : Int) + 1).toNat), zI (xs ((i : Int) + 2).toNat)]) kL_107 t_110 rfl rfl q1 rfl rfl rfl dL_law_886 (zfitL rfl) (fun v2 μ2 q2 => ?_)
  exact zA_icmp_eq (tgt := 1177) dL_law_889 rfl (fun _ => K μ2 q2.2) (fun q => absurd q2.1 q)
theorem lc_22 (L : Nat) (xs : Nat → Int) (i : Nat) (hi : i + 7 ≤ L) (hL : L ≤ 3584) (μ : zM) (n m t : Nat) (u : Int) (hI : zInv μ n m t u) (K : ∀ μ', zGood μ' → zA RL cL_law 4 room_1 (false, some (L, xs)) TF 131 μ' 1177 [some zS, some (zR 0), some (zR 110), some (zI (i : Int))] [] zPL) : zA RL cL_law 4 room_1 (false, some (L, xs)) TF 131 μ 894 [some zS, some (zR 0), some (zR 110), some (zI (i : Int))] [] zPL := by
  refine zA_aload_n dL_law_894 rfl ?_
  refine zA_sload_n dL_law_895 rfl ?_
  refine zA_iload_n dL_law_896 rfl ?_
  refine zA_iconst dL_law_897 rfl ?_
  refine zA_iaddB dL_law_898 ⟨by omega, by omega⟩ ?_
  refine zA_sld rfl (by omega) (by omega) dL_law_899 ?_
  refine zA_sload_n dL_law_900 rfl ?_
  refine zA_iload_n dL_law_901 rfl ?_
  refine zA_iconst dL_law_902 rfl ?_
  refine zA_iaddB dL_law_903 ⟨by omega, by omega⟩ ?_
  refine zA_sld rfl (by omega) (by omega) dL_law_904 ?_
  refine zA_sload_n dL_law_905 rfl ?_
  refine zA_iload_n dL_law_906 rfl ?_
  refine zA_iconst dL_law_907 rfl ?_
  refine zA_iaddB dL_law_908 ⟨by omega, by omega⟩ ?_
  refine zA_sld rfl (by omega) (by omega) dL_law_909 ?_
  refine zA_cVi (st := []) (as := [zI (xs ((i : Int) + 1).toNat), zI (xs ((i : Int) + 2).toNat), zI (xs ((i : Int) + 3).toNat)]) kL_108 t_0 rfl rfl (pr_rain μ ((xs ((i : Int) + 1).toNat)) ((xs ((i : Int) + 2).toNat)) ((xs ((i : Int) + 3).toNat)) n m t u hI) rfl rfl rfl dL_law_910 (zfitL rfl) (fun v1 μ1 q1 => ?_)
  refine zA_aload_n dL_law_913 rfl ?_
  refine zA_sload_n dL_law_914 rfl ?_
  refine zA_iload_n dL_law_915 rfl ?_
  refine zA_iconst dL_law_916 rfl ?_
  refine zA_iaddB dL_law_917 ⟨by omega, by omega⟩ ?_
  refine zA_sld rfl (by omega) (by omega) dL_law_918 ?_
  refine zA_sload_n dL_law_919 rfl ?_
  refine zA_iload_n dL_law_920 rfl ?_
  refine zA_iconst dL_law_921 rfl ?_
  refine zA_iaddB dL_law_922 ⟨by omega, by omega⟩ ?_
  refine zA_sld rfl (by omega) (by omega) dL_law_923 ?_
  refine zA_sload_n dL_law_924 rfl ?_
  refine zA_iload_n dL_law_925 rfl ?_
  refine zA_iconst dL_law_926 rfl ?_
  refine zA_iaddB dL_law_927 ⟨by omega, by omega⟩ ?_
  refine zA_sld rfl (by omega) (by omega) dL_law_928 ?_
  refine zA_cVi (st := [zI v1]) (as := [zI (xs ((i : Int) + 1).toNat), zI (xs ((i : Int) + 2).toNat), zI (xs ((i : Int) + 3).toNat)]) kL_111 t_110 rfl rfl q1 rfl rfl rfl dL_law_929 (zfitL rfl) (fun v2 μ2 q2 => ?_)
  exact zA_icmp_eq (tgt := 1177) dL_law_932 rfl (fun _ => K μ2 q2.2) (fun q => absurd q2.1 q)
theorem lc_23 (L : Nat) (xs : Nat → Int) (i : Nat) (hi : i + 7 ≤ L) (hL : L ≤ 3584) (μ : zM) (n m t : Nat) (u : Int) (hI : zInv μ n m t u) (K : ∀ μ', zGood μ' → zA RL cL_law 4 room_1 (false, some (L, xs)) TF 131 μ' 1177 [some zS, some (zR 0), some (zR 110), some (zI (i : Int))] [] zPL) : zA RL cL_law 4 room_1 (false, some (L, xs)) TF 131 μ 937 [some zS, some (zR 0), some (zR 110), some (zI (i : Int))] [] zPL := by
  refine zA_aload_n dL_law_937 rfl ?_
  refine zA_sload_n dL_law_938 rfl ?_
  refine zA_iload_n dL_law_939 rfl ?_
  refine zA_iconst dL_law_940 rfl ?_
  refine zA_iaddB dL_law_941 ⟨by omega, by omega⟩ ?_
  refine zA_sld rfl (by omega) (by omega) dL_law_942 ?_
  refine zA_sload_n dL_law_943 rfl ?_
  refine zA_iload_n dL_law_944 rfl ?_
  refine zA_iconst dL_law_945 rfl ?_
  refine zA_iaddB dL_law_946 ⟨by omega, by omega⟩ ?_
  refine zA_sld rfl (by omega) (by omega) dL_law_947 ?_
  refine zA_cVi (st := []) (as := [zI (xs ((i : Int) + 1).toNat), zI (xs ((i : Int) + 2).toNat)]) kL_112 t_0 rfl rfl (pr_blend μ ((xs ((i : Int) + 1).toNat)) ((xs ((i : Int) + 2).toNat)) n m t u hI) rfl rfl rfl dL_law_948 (zfitL rfl) (fun v1 μ1 q1 => ?_)
  refine zA_aload_n dL_law_951 rfl ?_
  refine zA_sload_n dL_law_952 rfl ?_
  refine zA_iload_n dL_law_953 rfl ?_
  refine zA_iconst dL_law_954 rfl ?_
  refine zA_iaddB dL_law_955 ⟨by omega, by omega⟩ ?_
  refine zA_sld rfl (by omega) (by omega) dL_law_956 ?_
  refine zA_sload_n dL_law_957 rfl ?_
  refine zA_iload_n dL_law_958 rfl ?_
  refine zA_iconst dL_law_959 rfl ?_
  refine zA_iaddB dL_law_960 ⟨by omega, by omega⟩ ?_
  refine zA_sld rfl (by omega) (by omega) dL_law_961 ?_
  refine zA_cVi (st := [zI v1]) (as := [zI (xs ((i : Int) + 1).toNat), zI (xs ((i : Int) + 2).toNat)]) kL_115 t_110 rfl rfl q1 rfl rfl rfl dL_law_962 (zfitL rfl) (fun v2 μ2 q2 => ?_)
  exact zA_icmp_eq (tgt := 1177) dL_law_965 rfl (fun _ => K μ2 q2.2) (fun q => absurd q2.1 q)
theorem lc_24 (L : Nat) (xs : Nat → Int) (i : Nat) (hi : i + 7 ≤ L) (hL : L ≤ 3584) (μ : zM) (n m t : Nat) (u : Int) (hI : zInv μ n m t u) (K : ∀ μ', zGood μ' → zA RL cL_law 4 room_1 (false, some (L, xs)) TF 131 μ' 1177 [some zS, some (zR 0), some (zR 110), some (zI (i : Int))] [] zPL) : zA RL cL_law 4 room_1 (false, some (L, xs)) TF 131 μ 970 [some zS, some (zR 0), some (zR 110), some (zI (i : Int))] [] zPL := by
  refine zA_aload_n dL_law_970 rfl ?_
  refine zA_sload_n dL_law_971 rfl ?_
  refine zA_iload_n dL_law_972 rfl ?_
  refine zA_iconst dL_law_973 rfl ?_
  refine zA_iaddB dL_law_974 ⟨by omega, by omega⟩ ?_
  refine zA_sld rfl (by omega) (by omega) dL_law_975 ?_
  refine zA_sload_n dL_law_976 rfl ?_
  refine zA_iload_n dL_law_977 rfl ?_
  refine zA_iconst dL_law_978 rfl ?_
  refine zA_iaddB dL_law_979 ⟨by omega, by omega⟩ ?_
  refine zA_sld rfl (by omega) (by omega) dL_law_980 ?_
  refine zA_sload_n dL_law_981 rfl ?_
  refine zA_iload_n dL_law_982 rfl ?_
  refine zA_iconst dL_law_983 rfl ?_
  refine zA_iaddB dL_law_984 ⟨by omega, by omega⟩ ?_
  refine zA_sld rfl (by omega) (by omega) dL_law_985 ?_
  refine zA_cVi (st := []) (as := [zI (xs ((i : Int) + 1).toNat), zI (xs ((i : Int) + 2).toNat), zI (xs ((i : Int) + 3).toNat)]) kL_116 t_0 rfl rfl (pr_see μ ((xs ((i : Int) + 1).toNat)) ((xs ((i : Int) + 2).toNat)) ((xs ((i : Int) + 3).toNat)) n m t u hI) rfl rfl rfl dL_law_986 (zfitL rfl) (fun v1 μ1 q1 => ?_)
  refine zA_aload_n dL_law_989 rfl ?_
  refine zA_sload_n dL_law_990 rfl ?_
  refine zA_iload_n dL_law_991 rfl ?_
  refine zA_iconst dL_law_992 rfl ?_
  refine zA_iaddB dL_law_993 ⟨by omega, by omega⟩ ?_
  refine zA_sld rfl (by omega) (by omega) dL_law_994 ?_
  refine zA_sload_n dL_law_995 rfl ?_
  refine zA_iload_n dL_law_996 rfl ?_
  refine zA_iconst dL_law_997 rfl ?_
  refine zA_iaddB dL_law_998 ⟨by omega, by omega⟩ ?_
  refine zA_sld rfl (by omega) (by omega) dL_law_999 ?_
  refine zA_sload_n dL_law_1000 rfl ?_
  refine zA_iload_n dL_law_1001 rfl ?_
  refine zA_iconst dL_law_1002 rfl ?_
  refine zA_iaddB dL_law_1003 ⟨by omega, by omega⟩ ?_
  refine zA_sld rfl (by omega) (by omega) dL_law_1004 ?_
  refine zA_cVi (st := [zI v1]) (as := [zI (xs ((i : Int) + 1).toNat), zI (xs ((i : Int) + 2).toNat), zI (xs ((i : Int) + 3).toNat)]) kL_119 t_110 rfl rfl q1 rfl rfl rfl dL_law_1005 (zfitL rfl) (fun v2 μ2 q2 => ?_)
  exact zA_icmp_eq (tgt := 1177) dL_law_1008 rfl (fun _ => K μ2 q2.2) (fun q => absurd q2.1 q)
theorem lc_25 (L : Nat) (xs : Nat → Int) (i : Nat) (hi : i + 7 ≤ L) (hL : L ≤ 3584) (μ : zM) (n m t : Nat) (u : Int) (hI : zInv μ n m t u) (K : ∀ μ', zGood μ' → zA RL cL_law 4 room_1 (false, some (L, xs)) TF 131 μ' 1177 [some zS, some (zR 0), some (zR 110), some (zI (i : Int))] [] zPL) : zA RL cL_law 4 room_1 (false, some (L, xs)) TF 131 μ 1013 [some zS, some (zR 0), some (zR 110), some (zI (i : Int))] [] zPL := by
  refine zA_aload_n dL_law_1013 rfl ?_
  refine zA_cVi (st := []) (as := []) kL_120 t_0 rfl rfl (pr_gap μ  n m t u hI) rfl rfl rfl dL_law_1014 (zfitL rfl) (fun v1 μ1 q1 => ?_)
  refine zA_aload_n dL_law_1017 rfl ?_
  refine zA_cVi (st := [zI v1]) (as := []) kL_123 t_110 rfl rfl q1 rfl rfl rfl dL_law_1018 (zfitL rfl) (fun v2 μ2 q2 => ?_)
  exact zA_icmp_eq (tgt := 1177) dL_law_1021 rfl (fun _ => K μ2 q2.2) (fun q => absurd q2.1 q)
theorem lc_26 (L : Nat) (xs : Nat → Int) (i : Nat) (hi : i + 7 ≤ L) (hL : L ≤ 3584) (μ : zM) (n m t : Nat) (u : Int) (hI : zInv μ n m t u) (K : ∀ μ', zGood μ' → zA RL cL_law 4 room_1 (false, some (L, xs)) TF 131 μ' 1177 [some zS, some (zR 0), some (zR 110), some (zI (i : Int))] [] zPL) : zA RL cL_law 4 room_1 (false, some (L, xs)) TF 131 μ 1026 [some zS, some (zR 0), some (zR 110), some (zI (i : Int))] [] zPL := by
  refine zA_aload_n dL_law_1026 rfl ?_
  refine zA_cVi (st := []) (as := []) kL_124 t_0 rfl rfl (pr_look μ  n m t u hI) rfl rfl rfl dL_law_1027 (zfitL rfl) (fun v1 μ1 q1 => ?_)
  refine zA_aload_n dL_law_1030 rfl ?_
  refine zA_cVi (st := [zI v1]) (as := []) kL_127 t_110 rfl rfl q1 rfl rfl rfl dL_law_1031 (zfitL rfl) (fun v2 μ2 q2 => ?_)
  exact zA_icmp_eq (tgt := 1177) dL_law_1034 rfl (fun _ => K μ2 q2.2) (fun q => absurd q2.1 q)
theorem lc_27 (L : Nat) (xs : Nat → Int) (i : Nat) (hi : i + 7 ≤ L) (hL : L ≤ 3584) (μ : zM) (n m t : Nat) (u : Int) (hI : zInv μ n m t u) (K : ∀ μ', zGood μ' → zA RL cL_law 4 room_1 (false, some (L, xs)) TF 131 μ' 1177 [some zS, some (zR 0), some (zR 110), some (zI (i : Int))] [] zPL) : zA RL cL_law 4 room_1 (false, some (L, xs)) TF 131 μ 1039 [some zS, some (zR 0), some (zR 110), some (zI (i : Int))] [] zPL := by
  refine zA_aload_n dL_law_1039 rfl ?_
  refine zA_sload_n dL_law_1040 rfl ?_
  refine zA_iload_n dL_law_1041 rfl ?_
  refine zA_iconst dL_law_1042 rfl ?_
  refine zA_iaddB dL_law_1043 ⟨by omega, by omega⟩ ?_
  refine zA_sld rfl (by omega) (by omega) dL_law_1044 ?_
  refine zA_sload_n dL_law_1045 rfl ?_
  refine zA_iload_n dL_law_1046 rfl ?_
  refine zA_iconst dL_law_1047 rfl ?_
  refine zA_iaddB dL_law_1048 ⟨by omega, by omega⟩ ?_
  refine zA_sld rfl (by omega) (by omega) dL_law_1049 ?_
  refine zA_sload_n dL_law_1050 rfl ?_
  refine zA_iload_n dL_law_1051 rfl ?_
  refine zA_iconst dL_law_1052 rfl ?_
  refine zA_iaddB dL_law_1053 ⟨by omega, by omega⟩ ?_
  refine zA_sld rfl (by omega) (by omega) dL_law_1054 ?_
  refine zA_cVi (st := []) (as := [zI (xs ((i : Int) + 1).toNat), zI (xs ((i : Int) + 2).toNat), zI (xs ((i : Int) + 3).toNat)]) kL_128 t_0 rfl rfl (pr_write μ ((xs ((i : Int) + 1).toNat)) ((xs ((i : Int) + 2).toNat)) ((xs ((i : Int) + 3).toNat)) n m t u hI) rfl rfl rfl dL_law_1055 (zfitL rfl) (fun v1 μ1 q1 => ?_)
  refine zA_aload_n dL_law_1058 rfl ?_
  refine zA_sload_n dL_law_1059 rfl ?_
  refine zA_iload_n dL_law_1060 rfl ?_
  refine zA_iconst dL_law_1061 rfl ?_
  refine zA_iaddB dL_law_1062 ⟨by omega, by omega⟩ ?_
  refine zA_sld rfl (by omega) (by omega) dL_law_1063 ?_
  refine zA_sload_n dL_law_1064 rfl ?_
  refine zA_iload_n dL_law_1065 rfl ?_
  refine zA_iconst dL_law_1066 rfl ?_
  refine zA_iaddB dL_law_1067 ⟨by omega, by omega⟩ ?_
  refine zA_sld rfl (by omega) (by omega) dL_law_1068 ?_
  refine zA_sload_n dL_law_1069 rfl ?_
  refine zA_iload_n dL_law_1070 rfl ?_
  refine zA_iconst dL_law_1071 rfl ?_
  refine zA_iaddB dL_law_1072 ⟨by omega, by omega⟩ ?_
  refine zA_sld rfl (by omega) (by omega) dL_law_1073 ?_
  refine zA_cVi (st := [zI v1]) (as := [zI (xs ((i : Int) + 1).toNat), zI (xs ((i : Int) + 2).toNat), zI (xs ((i : Int) + 3).toNat)]) kL_131 t_110 rfl rfl q1 rfl rfl rfl dL_law_1074 (zfitL rfl) (fun v2 μ2 q2 => ?_)
  exact zA_icmp_eq (tgt := 1177) dL_law_1077 rfl (fun _ => K μ2 q2.2) (fun q => absurd q2.1 q)
theorem lc_28 (L : Nat) (xs : Nat → Int) (i : Nat) (hi : i + 7 ≤ L) (hL : L ≤ 3584) (μ : zM) (n m t : Nat) (u : Int) (hI : zInv μ n m t u) (K : ∀ μ', zGood μ' → zA RL cL_law 4 room_1 (false, some (L, xs)) TF 131 μ' 1177 [some zS, some (zR 0), some (zR 110), some (zI (i : Int))] [] zPL) : zA RL cL_law 4 room_1 (false, some (L, xs)) TF 131 μ 1082 [some zS, some (zR 0), some (zR 110), some (zI (i : Int))] [] zPL := by
  refine zA_aload_n dL_law_1082 rfl ?_
  refine zA_cVi (st := []) (as := []) kL_132 t_0 rfl rfl (pr_tear μ  n m t u hI) rfl rfl rfl dL_law_1083 (zfitL rfl) (fun v1 μ1 q1 => ?_)
  refine zA_aload_n dL_law_1086 rfl ?_
  refine zA_cVi (st := [zI v1]) (as := []) kL_135 t_110 rfl rfl q1 rfl rfl rfl dL_law_1087 (zfitL rfl) (fun v2 μ2 q2 => ?_)
  exact zA_icmp_eq (tgt := 1177) dL_law_1090 rfl (fun _ => K μ2 q2.2) (fun q => absurd q2.1 q)
theorem lc_29 (L : Nat) (xs : Nat → Int) (i : Nat) (hi : i + 7 ≤ L) (hL : L ≤ 3584) (μ : zM) (n m t : Nat) (u : Int) (hI : zInv μ n m t u) (K : ∀ μ', zGood μ' → zA RL cL_law 4 room_1 (false, some (L, xs)) TF 131 μ' 1177 [some zS, some (zR 0), some (zR 110), some (zI (i : Int))] [] zPL) : zA RL cL_law 4 room_1 (false, some (L, xs)) TF 131 μ 1095 [some zS, some (zR 0), some (zR 110), some (zI (i : Int))] [] zPL := by
  refine zA_aload_n dL_law_1095 rfl ?_
  refine zA_cVi (st := []) (as := []) kL_136 t_0 rfl rfl (pr_judge μ  n m t u hI) rfl rfl rfl dL_law_1096 (zfitL rfl) (fun v1 μ1 q1 => ?_)
  refine zA_aload_n dL_law_1099 rfl ?_
  refine zA_cVi (st := [zI v1]) (as := []) kL_139 t_110 rfl rfl q1 rfl rfl rfl dL_law_1100 (zfitL rfl) (fun v2 μ2 q2 => ?_)
  exact zA_icmp_eq (tgt := 1177) dL_law_1103 rfl (fun _ => K μ2 q2.2) (fun q => absurd q2.1 q)
theorem lc_30 (L : Nat) (xs : Nat → Int) (i : Nat) (hi : i + 7 ≤ L) (hL : L ≤ 3584) (μ : zM) (n m t : Nat) (u : Int) (hI : zInv μ n m t u) (K : ∀ μ', zGood μ' → zA RL cL_law 4 room_1 (false, some (L, xs)) TF 131 μ' 1177 [some zS, some (zR 0), some (zR 110), some (zI (i : Int))] [] zPL) : zA RL cL_law 4 room_1 (false, some (L, xs)) TF 131 μ 1108 [some zS, some (zR 0), some (zR 110), some (zI (i : Int))] [] zPL := by
  refine zA_aload_n dL_law_1108 rfl ?_
  refine zA_sload_n dL_law_1109 rfl ?_
  refine zA_iload_n dL_law_1110 rfl ?_
  refine zA_iconst dL_law_1111 rfl ?_
  refine zA_iaddB dL_law_1112 ⟨by omega, by omega⟩ ?_
  refine zA_sld rfl (by omega) (by omega) dL_law_1113 ?_
  refine zA_cVi (st := []) (as := [zI (xs ((i : Int) + 1).toNat)]) kL_140 t_0 rfl rfl (pr_seed μ ((xs ((i : Int) + 1).toNat)) n m t u hI) rfl rfl rfl dL_law_1114 (zfitL rfl) (fun v1 μ1 q1 => ?_)
  refine zA_aload_n dL_law_1117 rfl ?_
  refine zA_sload_n dL_law_1118 rfl ?_
  refine zA_iload_n dL_law_1119 rfl ?_
  refine zA_iconst dL_law_1120 rfl ?_
  refine zA_iaddB dL_law_1121 ⟨by omega, by omega⟩ ?_
  refine zA_sld rfl (by omega) (by omega) dL_law_1122 ?_
  refine zA_cVi (st := [zI v1]) (as := [zI (xs ((i : Int) + 1).toNat)]) kL_143 t_110 rfl rfl q1 rfl rfl rfl dL_law_1123 (zfitL rfl) (fun v2 μ2 q2 => ?_)
  exact zA_icmp_eq (tgt := 1177) dL_law_1126 rfl (fun _ => K μ2 q2.2) (fun q => absurd q2.1 q)
theorem lc_31 (L : Nat) (xs : Nat → Int) (i : Nat) (hi : i + 7 ≤ L) (hL : L ≤ 3584) (μ : zM) (n m t : Nat) (u : Int) (hI : zInv μ n m t u) (K : ∀ μ', zGood μ' → zA RL cL_law 4 room_1 (false, some (L, xs)) TF 131 μ' 1177 [some zS, some (zR 0), some (zR 110), some (zI (i : Int))] [] zPL) : zA RL cL_law 4 room_1 (false, some (L, xs)) TF 131 μ 1131 [some zS, some (zR 0), some (zR 110), some (zI (i : Int))] [] zPL := by
  refine zA_aload_n dL_law_1131 rfl ?_
  refine zA_sload_n dL_law_1132 rfl ?_
  refine zA_iload_n dL_law_1133 rfl ?_
  refine zA_iconst dL_law_1134 rfl ?_
  refine zA_iaddB dL_law_1135 ⟨by omega, by omega⟩ ?_
  refine zA_sld rfl (by omega) (by omega) dL_law_1136 ?_
  refine zA_cVi (st := []) (as := [zI (xs ((i : Int) + 1).toNat)]) kL_144 t_0 rfl rfl (pr_keep μ ((xs ((i : Int) + 1).toNat)) n m t u hI) rfl rfl rfl dL_law_1137 (zfitL rfl) (fun v1 μ1 q1 => ?_)
  refine zA_aload_n dL_law_1140 rfl ?_
  refine zA_sload_n dL_law_1141 rfl ?_
  refine zA_iload_n dL_law_1142 rfl ?_
  refine zA_iconst dL_law_1143 rfl ?_
  refine zA_iaddB dL_law_1144 ⟨by omega, by omega⟩ ?_
  refine zA_sld rfl (by omega) (by omega) dL_law_1145 ?_
  refine zA_cVi (st := [zI v1]) (as := [zI (xs ((i : Int) + 1).toNat)]) kL_147 t_110 rfl rfl q1 rfl rfl rfl dL_law_1146 (zfitL rfl) (fun v2 μ2 q2 => ?_)
  exact zA_icmp_eq (tgt := 1177) dL_law_1149 rfl (fun _ => K μ2 q2.2) (fun q => absurd q2.1 q)
theorem lc_32 (L : Nat) (xs : Nat → Int) (i : Nat) (hi : i + 7 ≤ L) (hL : L ≤ 3584) (μ : zM) (n m t : Nat) (u : Int) (hI : zInv μ n m t u) (K : ∀ μ', zGood μ' → zA RL cL_law 4 room_1 (false, some (L, xs)) TF 131 μ' 1177 [some zS, some (zR 0), some (zR 110), some (zI (i : Int))] [] zPL) : zA RL cL_law 4 room_1 (false, some (L, xs)) TF 131 μ 1154 [some zS, some (zR 0), some (zR 110), some (zI (i : Int))] [] zPL := by
  refine zA_aload_n dL_law_1154 rfl ?_
  refine zA_sload_n dL_law_1155 rfl ?_
  refine zA_iload_n dL_law_1156 rfl ?_
  refine zA_iconst dL_law_1157 rfl ?_
  refine zA_iaddB dL_law_1158 ⟨by omega, by omega⟩ ?_
  refine zA_sld rfl (by omega) (by omega) dL_law_1159 ?_
  refine zA_cVi (st := []) (as := [zI (xs ((i : Int) + 1).toNat)]) kL_148 t_0 rfl rfl (pr_goBack μ ((xs ((i : Int) + 1).toNat)) n m t u hI) rfl rfl rfl dL_law_1160 (zfitL rfl) (fun v1 μ1 q1 => ?_)
  refine zA_aload_n dL_law_1163 rfl ?_
  refine zA_sload_n dL_law_1164 rfl ?_
  refine zA_iload_n dL_law_1165 rfl ?_
  refine zA_iconst dL_law_1166 rfl ?_
  refine zA_iaddB dL_law_1167 ⟨by omega, by omega⟩ ?_
  refine zA_sld rfl (by omega) (by omega) dL_law_1168 ?_
  refine zA_cVi (st := [zI v1]) (as := [zI (xs ((i : Int) + 1).toNat)]) kL_151 t_110 rfl rfl q1 rfl rfl rfl dL_law_1169 (zfitL rfl) (fun v2 μ2 q2 => ?_)
  exact zA_icmp_eq (tgt := 1177) dL_law_1172 rfl (fun _ => K μ2 q2.2) (fun q => absurd q2.1 q)
theorem law_loop (L : Nat) (xs : Nat → Int) (hL : L ≤ 3584) : ∀ (t0 i : Nat), L + 7 - i = t0 → i ≤ L + 7 → ∀ μ : zM, zGood μ → zA RL cL_law 4 room_1 (false, some (L, xs)) TF 131 μ 18 [some zS, some (zR 0), some (zR 110), some (zI (i : Int))] [] zPL := by
  intro t0
  induction t0 using Nat.strongRecOn with
  | ind t0 ih =>
    intro i hi0 hi μ hG
    obtain ⟨n, m, t, u, hI⟩ := hG
    refine zA_iload_n dL_law_18 rfl ?_
    refine zA_sload_n dL_law_19 rfl ?_
    refine zA_slen rfl dL_law_20 ?_
    refine zA_bipush dL_law_21 rfl ?_
    refine zA_isubB dL_law_23 ⟨by omega, by omega⟩ ?_
    refine zA_icmp_gt (tgt := 1183) dL_law_24 rfl (fun h24 => ?_) (fun h24 => ?_)
    · refine zA_iconst dL_law_1183 rfl ?_
      exact zA_iret dL_law_1184 (Nat.le_of_ble_eq_true rfl) (Nat.le_of_ble_eq_true rfl) rfl
    · have hiL : i + 7 ≤ L := by omega
      have K : ∀ μ', zGood μ' → zA RL cL_law 4 room_1 (false, some (L, xs)) TF 131 μ' 1177 [some zS, some (zR 0), some (zR 110), some (zI (i : Int))] [] zPL := by
        intro μ' hG'
        refine zA_iincB (ls' := [some zS, some (zR 0), some (zR 110), some (zI ((i : Int) + 7))]) dL_law_1177 rfl rfl ⟨by omega, by omega⟩ rfl ?_
        refine zA_goto (tgt := 18) dL_law_1180 rfl ?_
        exact ih _ (by omega) (i + 7) rfl (by omega) μ' hG'
      refine zA_sload_n dL_law_27 rfl ?_
      refine zA_iload_n dL_law_28 rfl ?_
      refine zA_sld rfl (by omega) (by omega) dL_law_29 ?_
      refine zA_bipush dL_law_30 rfl ?_
      refine zA_iand dL_law_32 ?_
      have hsw : zand (xs (i : Int).toNat) 63 = 0 ∨ zand (xs (i : Int).toNat) 63 = 1 ∨ zand (xs (i : Int).toNat) 63 = 2 ∨ zand (xs (i : Int).toNat) 63 = 3 ∨ zand (xs (i : Int).toNat) 63 = 4 ∨ zand (xs (i : Int).toNat) 63 = 5 ∨ zand (xs (i : Int).toNat) 63 = 6 ∨ zand (xs (i : Int).toNat) 63 = 7 ∨ zand (xs (i : Int).toNat) 63 = 8 ∨ zand (xs (i : Int).toNat) 63 = 9 ∨ zand (xs (i : Int).toNat) 63 = 10 ∨ zand (xs (i : Int).toNat) 63 = 11 ∨ zand (xs (i : Int).toNat) 63 = 12 ∨ zand (xs (i : Int).toNat) 63 = 13 ∨ zand (xs (i : Int).toNat) 63 = 14 ∨ zand (xs (i : Int).toNat) 63 = 15 ∨ zand (xs (i : Int).toNat) 63 = 16 ∨ zand (xs (i : Int).toNat) 63 = 17 ∨ zand (xs (i : Int).toNat) 63 = 18 ∨ zand (xs (i : Int).toNat) 63 = 19 ∨ zand (xs (i : Int).toNat) 63 = 20 ∨ zand (xs (i : Int).toNat) 63 = 21 ∨ zand (xs (i : Int).toNat) 63 = 22 ∨ zand (xs (i : Int).toNat) 63 = 23 ∨ zand (xs (i : Int).toNat) 63 = 24 ∨ zand (xs (i : Int).toNat) 63 = 25 ∨ zand (xs (i : Int).toNat) 63 = 26 ∨ zand (xs (i : Int).toNat) 63 = 27 ∨ zand (xs (i : Int).toNat) 63 = 28 ∨ zand (xs (i : Int).toNat) 63 = 29 ∨ zand (xs (i : Int).toNat) 63 = 30 ∨ zand (xs (i : Int).toNat) 63 = 31 ∨ zand (xs (i : Int).toNat) 63 = 32 ∨ (zand (xs (i : Int).toNat) 63 < 0 ∨ 32 < zand (xs (i : Int).toNat) 63) := by omega
      rcases hsw with hsw | hsw | hsw | hsw | hsw | hsw | hsw | hsw | hsw | hsw | hsw | hsw | hsw | hsw | hsw | hsw | hsw | hsw | hsw | hsw | hsw | hsw | hsw | hsw | hsw | hsw | hsw | hsw | hsw | hsw | hsw | hsw | hsw | hsw
      · refine zA_tinE (tgt := 180) hsw dL_law_33 (by decide) (by decide) rfl rfl ?_
        exact lc_0 L xs i (by omega) hL μ n m t u hI K
      · refine zA_tinE (tgt := 203) hsw dL_law_33 (by decide) (by decide) rfl rfl ?_
        exact lc_1 L xs i (by omega) hL μ n m t u hI K
      · refine zA_tinE (tgt := 216) hsw dL_law_33 (by decide) (by decide) rfl rfl ?_
        exact lc_2 L xs i (by omega) hL μ n m t u hI K
      · refine zA_tinE (tgt := 229) hsw dL_law_33 (by decide) (by decide) rfl rfl ?_
        exact lc_3 L xs i (by omega) hL μ n m t u hI K
      · refine zA_tinE (tgt := 252) hsw dL_law_33 (by decide) (by decide) rfl rfl ?_
        exact lc_4 L xs i (by omega) hL μ n m t u hI K
      · refine zA_tinE (tgt := 285) hsw dL_law_33 (by decide) (by decide) rfl rfl ?_
        exact lc_5 L xs i (by omega) hL μ n m t u hI K
      · refine zA_tinE (tgt := 318) hsw dL_law_33 (by decide) (by decide) rfl rfl ?_
        exact lc_6 L xs i (by omega) hL μ n m t u hI K
      · refine zA_tinE (tgt := 351) hsw dL_law_33 (by decide) (by decide) rfl rfl ?_
        exact lc_7 L xs i (by omega) hL μ n m t u hI K
      · refine zA_tinE (tgt := 374) hsw dL_law_33 (by decide) (by decide) rfl rfl ?_
        exact lc_8 L xs i (by omega) hL μ n m t u hI K
      · refine zA_tinE (tgt := 407) hsw dL_law_33 (by decide) (by decide) rfl rfl ?_
        exact lc_9 L xs i (by omega) hL μ n m t u hI K
      · refine zA_tinE (tgt := 456) hsw dL_law_33 (by decide) (by decide) rfl rfl ?_
        exact lc_10 L xs i (by omega) hL μ n m t u hI K
      · refine zA_tinE (tgt := 479) hsw dL_law_33 (by decide) (by decide) rfl rfl ?_
        exact lc_11 L xs i (by omega) hL μ n m t u hI K
      · refine zA_tinE (tgt := 492) hsw dL_law_33 (by decide) (by decide) rfl rfl ?_
        exact lc_12 L xs i (by omega) hL μ n m t u hI K
      · refine zA_tinE (tgt := 515) hsw dL_law_33 (by decide) (by decide) rfl rfl ?_
        exact lc_13 L xs i (by omega) hL μ n m t u hI K
      · refine zA_tinE (tgt := 528) hsw dL_law_33 (by decide) (by decide) rfl rfl ?_
        exact lc_14 L xs i (by omega) hL μ n m t u hI K
      · refine zA_tinE (tgt := 571) hsw dL_law_33 (by decide) (by decide) rfl rfl ?_
        exact lc_15 L xs i (by omega) hL μ n m t u hI K
      · refine zA_tinE (tgt := 604) hsw dL_law_33 (by decide) (by decide) rfl rfl ?_
        exact lc_16 L xs i (by omega) hL μ n m t u hI K
      · refine zA_tinE (tgt := 647) hsw dL_law_33 (by decide) (by decide) rfl rfl ?_
        exact lc_17 L xs i (by omega) hL μ n m t u hI K
      · refine zA_tinE (tgt := 722) hsw dL_law_33 (by decide) (by decide) rfl rfl ?_
        exact lc_18 L xs i (by omega) hL μ n m t u hI K
      · refine zA_tinE (tgt := 775) hsw dL_law_33 (by decide) (by decide) rfl rfl ?_
        exact lc_19 L xs i (by omega) hL μ n m t u hI K
      · refine zA_tinE (tgt := 828) hsw dL_law_33 (by decide) (by decide) rfl rfl ?_
        exact lc_20 L xs i (by omega) hL μ n m t u hI K
      · refine zA_tinE (tgt := 861) hsw dL_law_33 (by decide) (by decide) rfl rfl ?_
        exact lc_21 L xs i (by omega) hL μ n m t u hI K
      · refine zA_tinE (tgt := 894) hsw dL_law_33 (by decide) (by decide) rfl rfl ?_
        exact lc_22 L xs i (by omega) hL μ n m t u hI K
      · refine zA_tinE (tgt := 937) hsw dL_law_33 (by decide) (by decide) rfl rfl ?_
        exact lc_23 L xs i (by omega) hL μ n m t u hI K
      · refine zA_tinE (tgt := 970) hsw dL_law_33 (by decide) (by decide) rfl rfl ?_
        exact lc_24 L xs i (by omega) hL μ n m t u hI K
      · refine zA_tinE (tgt := 1013) hsw dL_law_33 (by decide) (by decide) rfl rfl ?_
        exact lc_25 L xs i (by omega) hL μ n m t u hI K
      · refine zA_tinE (tgt := 1026) hsw dL_law_33 (by decide) (by decide) rfl rfl ?_
        exact lc_26 L xs i (by omega) hL μ n m t u hI K
      · refine zA_tinE (tgt := 1039) hsw dL_law_33 (by decide) (by decide) rfl rfl ?_
        exact lc_27 L xs i (by omega) hL μ n m t u hI K
      · refine zA_tinE (tgt := 1082) hsw dL_law_33 (by decide) (by decide) rfl rfl ?_
        exact lc_28 L xs i (by omega) hL μ n m t u hI K
      · refine zA_tinE (tgt := 1095) hsw dL_law_33 (by decide) (by decide) rfl rfl ?_
        exact lc_29 L xs i (by omega) hL μ n m t u hI K
      · refine zA_tinE (tgt := 1108) hsw dL_law_33 (by decide) (by decide) rfl rfl ?_
        exact lc_30 L xs i (by omega) hL μ n m t u hI K
      · refine zA_tinE (tgt := 1131) hsw dL_law_33 (by decide) (by decide) rfl rfl ?_
        exact lc_31 L xs i (by omega) hL μ n m t u hI K
      · refine zA_tinE (tgt := 1154) hsw dL_law_33 (by decide) (by decide) rfl rfl ?_
        exact lc_32 L xs i (by omega) hL μ n m t u hI K
      · refine zA_tout (tgt := 1177) dL_law_33 hsw rfl ?_
        exact K μ ⟨n, m, t, u, hI⟩
theorem zGood_0 : zGood (zup (zup (zup (zup (zup (zup (fun _ _ => 0) 8 4 (-1)) 96 2 8) 99 2 15) 0 15 (-1)) 110 12 (-1)) 110 0 0) := by
  refine ⟨0, 0, 0, 0, ⟨⟨rfl, rfl, rfl, rfl, by decide, by decide, by decide, by decide, fun k hk => absurd hk (Nat.not_lt_zero _)⟩, ⟨rfl, rfl, rfl, rfl, by decide, by decide, by decide, by decide, fun k hk => absurd hk (Nat.not_lt_zero _)⟩, rfl, fun i hi => absurd hi.1 (Nat.not_lt_zero _), fun a ha => absurd ha (Nat.not_lt_zero _), fun k hk => absurd hk (Nat.not_lt_zero _), fun h => absurd h (Nat.lt_irrefl _)⟩, ⟨fun i hi => absurd hi.1 (Nat.not_lt_zero _), fun a ha => absurd ha (Nat.not_lt_zero _), rfl, rfl, rfl⟩, ⟨0, by decide, rfl, rfl, fun i hi => absurd hi (Nat.not_lt_zero _)⟩, ⟨rfl, rfl, by decide⟩, ⟨0, by decide, rfl, rfl, rfl, fun k hk => absurd hk (Nat.not_lt_zero _), fun k hk => absurd hk (Nat.not_lt_zero _)⟩, ⟨0, by decide, rfl, rfl, rfl, fun k hk => absurd hk (Nat.not_lt_zero _), fun k hk => absurd hk (Nat.not_lt_zero _)⟩, ⟨⟨0, by decide, rfl⟩, fun i hi => ⟨Or.inl rfl, ?_, fun q => absurd q (by show ¬ (0 : Int) = 1; decide)⟩⟩, ⟨0, 0, by decide, by decide, rfl, rfl, rfl, fun j hj => absurd hj (Nat.not_lt_zero _)⟩⟩
  show zbit 0 (i : Int) = 1 ↔ (0 : Int) = 1
  rw [zbit_z i (by omega)]
theorem law_start (L : Nat) (xs : Nat → Int) (hL : L ≤ 3584) : zA RL cL_law 4 room_1 (false, some (L, xs)) [] 0 (fun _ _ => 0) 0 [some zS, none, none, none] [] zPL := by
  refine zA_newW (L := 0) (T' := ((TF.take 1).set 0 (8, 16, [none, none, none, none, none, none, none, none, none, none, none, none, none, none, none, none]))) rfl rfl nL_7 rfl rfl (Nat.le_of_ble_eq_true rfl) (Nat.le_of_ble_eq_true rfl) dL_law_0 (by decide +kernel) ?_
  refine zA_dup dL_law_3 rfl ?_
  refine zA_init (st := [zR 0]) (as := []) (T' := (TF.take 110)) kL_9 (i_X8 0 (fun _ _ => 0)) rfl rfl rfl dL_law_4 ⟨(Nat.le_of_ble_eq_true rfl), (Nat.le_of_ble_eq_true rfl), (Nat.le_of_ble_eq_true rfl), (Nat.le_of_ble_eq_true rfl)⟩ (fun μ1 q1 => ?_)
  subst q1
  refine zA_astore_n (ls' := [some zS, some (zR 0), none, none]) dL_law_7 rfl rfl ?_
  refine zA_newW (L := 110) (T' := ((TF.take 111).set 110 (9, 42, [none, none, none, none, none, none, none, none, none, none, none, none, none, none, none, none, none, none, none, none, none, none, none, none, none, none, none, none, none, none, none, none, none, none, none, none, none, none, none, none, none, none]))) (by decide +kernel) rfl nL_10 rfl rfl (Nat.le_of_ble_eq_true rfl) (Nat.le_of_ble_eq_true rfl) dL_law_8 (by decide +kernel) ?_
  refine zA_dup dL_law_11 rfl ?_
  refine zA_init (st := [zR 110]) (as := []) (T' := (TF.take 131)) kL_12 (i_X9 0 _) rfl rfl rfl dL_law_12 ⟨(Nat.le_of_ble_eq_true rfl), (Nat.le_of_ble_eq_true rfl), (Nat.le_of_ble_eq_true rfl), (Nat.le_of_ble_eq_true rfl)⟩ (fun μ2 q2 => ?_)
  subst q2
  refine zA_astore_n (ls' := [some zS, some (zR 0), some (zR 110), none]) dL_law_15 rfl rfl ?_
  refine zA_iconst dL_law_16 rfl ?_
  refine zA_istore_n (ls' := [some zS, some (zR 0), some (zR 110), some (zI 0)]) dL_law_17 rfl rfl ?_
  refine zA_teq (T' := TF) (by decide +kernel) ?_
  exact law_loop L xs hL _ 0 rfl (Nat.zero_le _) _ zGood_0
