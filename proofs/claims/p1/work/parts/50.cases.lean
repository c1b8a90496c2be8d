set_option maxHeartbeats 4000000 in
set_option maxRecDepth 100000 in
theorem lc_0 {E : zCx} {l : Launch} {D : va_G} {cy : Nat → ClassId} {b x mm : Nat} {r : Nat → Nat} {xs : Nat → Int32} {La Lb : List Nat} {σ : Nat → va_E} {φ : Nat → Nat → Nat → Int32} {ρ : Nat → Nat → Int32} (hE : zOk E l D cy R_law code 4 room_1) (hs : zSc E b 7 xs) (hx : zOR cy La σ φ x) (hm : zModel cy Lb σ mm r) (hm0 : zMo0 φ ρ mm r) (hend : ∀ (L : List Nat) (σ : Nat → va_E) (φ : Nat → Nat → Nat → Int32) (ρ : Nat → Nat → Int32), zW E 1000 64000 L σ φ ρ 1608 [(3, .int 0), (2, .ref mm), (1, .ref x), (0, .ref b)] []) : zW E 800 60000 (La ++ Lb) σ φ ρ 212 [(3, .int 0), (2, .ref mm), (1, .ref x), (0, .ref b)] [] := by
  obtain ⟨SX, hxT⟩ := hx.at
  refine x_aload_n hE dL_law_212 rfl 2 rfl ?_
  refine x_aload_n hE dL_law_213 rfl 3 rfl ?_
  refine x_iload_n hE dL_law_214 rfl 0 rfl ?_
  refine x_iconst (v := 1) hE dL_law_215 (by decide) ?_
  refine x_iadd hE dL_law_216 ?_
  refine x_norm (y := 1) (by decide) ?_
  refine s_ld (iN := 1) hE hs (by decide) (by decide) (by omega) dL_law_217 ?_
  refine x_aload_n hE dL_law_218 rfl 3 rfl ?_
  refine x_iload_n hE dL_law_219 rfl 0 rfl ?_
  refine x_iconst (v := 2) hE dL_law_220 (by decide) ?_
  refine x_iadd hE dL_law_221 ?_
  refine x_norm (y := 2) (by decide) ?_
  refine s_ld (iN := 2) hE hs (by decide) (by decide) (by omega) dL_law_222 ?_
  refine x_aload_n hE dL_law_223 rfl 3 rfl ?_
  refine x_iload_n hE dL_law_224 rfl 0 rfl ?_
  refine x_iconst (v := 3) hE dL_law_225 (by decide) ?_
  refine x_iadd hE dL_law_226 ?_
  refine x_norm (y := 3) (by decide) ?_
  refine s_ld (iN := 3) hE hs (by decide) (by decide) (by omega) dL_law_227 ?_
  refine c_iK hE (r_VA (st := []) hE (o_field l D cy La σ φ ρ (xs 1) (xs 2) (xs 3) hx) q578 q579 q580 q113 q581 hxT rfl ⟨by decide, by decide, pn_X11_field⟩ ⟨Nat.le_of_ble_eq_true rfl, Nat.le_of_ble_eq_true rfl⟩ ⟨Nat.le_of_ble_eq_true rfl, Nat.le_of_ble_eq_true rfl⟩ rfl (Nat.le_of_ble_eq_true rfl) dL_law_228) (fun r1 u1 e1 => ?_)
  refine x_widen (k' := 900) (n' := 62000) (Nat.le_of_ble_eq_true rfl) (Nat.le_of_ble_eq_true rfl) ?_
  refine x_aload_n hE dL_law_231 rfl 1 rfl ?_
  refine x_aload_n hE dL_law_232 rfl 3 rfl ?_
  refine x_iload_n hE dL_law_233 rfl 0 rfl ?_
  refine x_iconst (v := 1) hE dL_law_234 (by decide) ?_
  refine x_iadd hE dL_law_235 ?_
  refine x_norm (y := 1) (by decide) ?_
  refine s_ld (iN := 1) hE hs (by decide) (by decide) (by omega) dL_law_236 ?_
  refine x_aload_n hE dL_law_237 rfl 3 rfl ?_
  refine x_iload_n hE dL_law_238 rfl 0 rfl ?_
  refine x_iconst (v := 2) hE dL_law_239 (by decide) ?_
  refine x_iadd hE dL_law_240 ?_
  refine x_norm (y := 2) (by decide) ?_
  refine s_ld (iN := 2) hE hs (by decide) (by decide) (by omega) dL_law_241 ?_
  refine x_aload_n hE dL_law_242 rfl 3 rfl ?_
  refine x_iload_n hE dL_law_243 rfl 0 rfl ?_
  refine x_iconst (v := 3) hE dL_law_244 (by decide) ?_
  refine x_iadd hE dL_law_245 ?_
  refine x_norm (y := 3) (by decide) ?_
  refine s_ld (iN := 3) hE hs (by decide) (by decide) (by omega) dL_law_246 ?_
  refine c_i hE (r_V (st := [.int r1]) hE (m_field l D cy Lb σ φ ρ (xs 1) (xs 2) (xs 3) hm hm0) q1554 q1555 q1556 q124 q1557 hm.1 rfl ⟨by decide, by decide, pn_X12_field⟩ ⟨Nat.le_of_ble_eq_true rfl, Nat.le_of_ble_eq_true rfl⟩ ⟨Nat.le_of_ble_eq_true rfl, Nat.le_of_ble_eq_true rfl⟩ rfl (Nat.le_of_ble_eq_true rfl) dL_law_247) (fun r2 L2 σ2 φ2 ρ2 e2 => ?_)
  refine x_widen (k' := 1000) (n' := 64000) (Nat.le_of_ble_eq_true rfl) (Nat.le_of_ble_eq_true rfl) ?_
  refine x_icmp_eq (tgt := 1608) hE dL_law_250 (by decide) (fun c_250 => ?_) (fun c_250 => absurd (e1.trans e2.symm) c_250)
  exact hend _ _ _ _
set_option maxHeartbeats 4000000 in
set_option maxRecDepth 100000 in
theorem lc_1 {E : zCx} {l : Launch} {D : va_G} {cy : Nat → ClassId} {b x mm : Nat} {r : Nat → Nat} {xs : Nat → Int32} {La Lb : List Nat} {σ : Nat → va_E} {φ : Nat → Nat → Nat → Int32} {ρ : Nat → Nat → Int32} (hE : zOk E l D cy R_law code 4 room_1) (hs : zSc E b 7 xs) (hx : zOR cy La σ φ x) (hm : zModel cy Lb σ mm r) (hm0 : zMo0 φ ρ mm r) (hend : ∀ (L : List Nat) (σ : Nat → va_E) (φ : Nat → Nat → Nat → Int32) (ρ : Nat → Nat → Int32), zW E 1000 64000 L σ φ ρ 1608 [(3, .int 0), (2, .ref mm), (1, .ref x), (0, .ref b)] []) : zW E 800 60000 (La ++ Lb) σ φ ρ 255 [(3, .int 0), (2, .ref mm), (1, .ref x), (0, .ref b)] [] := by
  obtain ⟨SX, hxT⟩ := hx.at
  refine x_aload_n hE dL_law_255 rfl 2 rfl ?_
  refine x_aload_n hE dL_law_256 rfl 3 rfl ?_
  refine x_iload_n hE dL_law_257 rfl 0 rfl ?_
  refine x_iconst (v := 1) hE dL_law_258 (by decide) ?_
  refine x_iadd hE dL_law_259 ?_
  refine x_norm (y := 1) (by decide) ?_
  refine s_ld (iN := 1) hE hs (by decide) (by decide) (by omega) dL_law_260 ?_
  refine x_aload_n hE dL_law_261 rfl 3 rfl ?_
  refine x_iload_n hE dL_law_262 rfl 0 rfl ?_
  refine x_iconst (v := 2) hE dL_law_263 (by decide) ?_
  refine x_iadd hE dL_law_264 ?_
  refine x_norm (y := 2) (by decide) ?_
  refine s_ld (iN := 2) hE hs (by decide) (by decide) (by omega) dL_law_265 ?_
  refine c_iK hE (r_VA (st := []) hE (o_road l D cy La σ φ ρ (xs 1) (xs 2) hx) q589 q590 q591 q113 q592 hxT rfl ⟨by decide, by decide, pn_X11_road⟩ ⟨Nat.le_of_ble_eq_true rfl, Nat.le_of_ble_eq_true rfl⟩ ⟨Nat.le_of_ble_eq_true rfl, Nat.le_of_ble_eq_true rfl⟩ rfl (Nat.le_of_ble_eq_true rfl) dL_law_266) (fun r1 u1 e1 => ?_)
  refine x_widen (k' := 900) (n' := 62000) (Nat.le_of_ble_eq_true rfl) (Nat.le_of_ble_eq_true rfl) ?_
  refine x_aload_n hE dL_law_269 rfl 1 rfl ?_
  refine x_aload_n hE dL_law_270 rfl 3 rfl ?_
  refine x_iload_n hE dL_law_271 rfl 0 rfl ?_
  refine x_iconst (v := 1) hE dL_law_272 (by decide) ?_
  refine x_iadd hE dL_law_273 ?_
  refine x_norm (y := 1) (by decide) ?_
  refine s_ld (iN := 1) hE hs (by decide) (by decide) (by omega) dL_law_274 ?_
  refine x_aload_n hE dL_law_275 rfl 3 rfl ?_
  refine x_iload_n hE dL_law_276 rfl 0 rfl ?_
  refine x_iconst (v := 2) hE dL_law_277 (by decide) ?_
  refine x_iadd hE dL_law_278 ?_
  refine x_norm (y := 2) (by decide) ?_
  refine s_ld (iN := 2) hE hs (by decide) (by decide) (by omega) dL_law_279 ?_
  refine c_i hE (r_V (st := [.int r1]) hE (m_road l D cy Lb σ φ ρ (xs 1) (xs 2) hm hm0) q1561 q1562 q1563 q124 q1564 hm.1 rfl ⟨by decide, by decide, pn_X12_road⟩ ⟨Nat.le_of_ble_eq_true rfl, Nat.le_of_ble_eq_true rfl⟩ ⟨Nat.le_of_ble_eq_true rfl, Nat.le_of_ble_eq_true rfl⟩ rfl (Nat.le_of_ble_eq_true rfl) dL_law_280) (fun r2 L2 σ2 φ2 ρ2 e2 => ?_)
  refine x_widen (k' := 1000) (n' := 64000) (Nat.le_of_ble_eq_true rfl) (Nat.le_of_ble_eq_true rfl) ?_
  refine x_icmp_eq (tgt := 1608) hE dL_law_283 (by decide) (fun c_283 => ?_) (fun c_283 => absurd (e1.trans e2.symm) c_283)
  exact hend _ _ _ _
set_option maxHeartbeats 4000000 in
set_option maxRecDepth 100000 in
theorem lc_2 {E : zCx} {l : Launch} {D : va_G} {cy : Nat → ClassId} {b x mm : Nat} {r : Nat → Nat} {xs : Nat → Int32} {La Lb : List Nat} {σ : Nat → va_E} {φ : Nat → Nat → Nat → Int32} {ρ : Nat → Nat → Int32} (hE : zOk E l D cy R_law code 4 room_1) (hs : zSc E b 7 xs) (hx : zOR cy La σ φ x) (hm : zModel cy Lb σ mm r) (hm0 : zMo0 φ ρ mm r) (hend : ∀ (L : List Nat) (σ : Nat → va_E) (φ : Nat → Nat → Nat → Int32) (ρ : Nat → Nat → Int32), zW E 1000 64000 L σ φ ρ 1608 [(3, .int 0), (2, .ref mm), (1, .ref x), (0, .ref b)] []) : zW E 800 60000 (La ++ Lb) σ φ ρ 288 [(3, .int 0), (2, .ref mm), (1, .ref x), (0, .ref b)] [] := by
  obtain ⟨SX, hxT⟩ := hx.at
  refine x_aload_n hE dL_law_288 rfl 2 rfl ?_
  refine x_aload_n hE dL_law_289 rfl 3 rfl ?_
  refine x_iload_n hE dL_law_290 rfl 0 rfl ?_
  refine x_iconst (v := 1) hE dL_law_291 (by decide) ?_
  refine x_iadd hE dL_law_292 ?_
  refine x_norm (y := 1) (by decide) ?_
  refine s_ld (iN := 1) hE hs (by decide) (by decide) (by omega) dL_law_293 ?_
  refine x_aload_n hE dL_law_294 rfl 3 rfl ?_
  refine x_iload_n hE dL_law_295 rfl 0 rfl ?_
  refine x_iconst (v := 2) hE dL_law_296 (by decide) ?_
  refine x_iadd hE dL_law_297 ?_
  refine x_norm (y := 2) (by decide) ?_
  refine s_ld (iN := 2) hE hs (by decide) (by decide) (by omega) dL_law_298 ?_
  refine x_aload_n hE dL_law_299 rfl 3 rfl ?_
  refine x_iload_n hE dL_law_300 rfl 0 rfl ?_
  refine x_iconst (v := 3) hE dL_law_301 (by decide) ?_
  refine x_iadd hE dL_law_302 ?_
  refine x_norm (y := 3) (by decide) ?_
  refine s_ld (iN := 3) hE hs (by decide) (by decide) (by omega) dL_law_303 ?_
  refine x_aload_n hE dL_law_304 rfl 3 rfl ?_
  refine x_iload_n hE dL_law_305 rfl 0 rfl ?_
  refine x_iconst (v := 4) hE dL_law_306 (by decide) ?_
  refine x_iadd hE dL_law_307 ?_
  refine x_norm (y := 4) (by decide) ?_
  refine s_ld (iN := 4) hE hs (by decide) (by decide) (by omega) dL_law_308 ?_
  refine c_iK hE (r_VA (st := []) hE (o_person l D cy La σ φ ρ (xs 1) (xs 2) (xs 3) (xs 4) hx) q605 q606 q607 q113 q608 hxT rfl ⟨by decide, by decide, pn_X11_person⟩ ⟨Nat.le_of_ble_eq_true rfl, Nat.le_of_ble_eq_true rfl⟩ ⟨Nat.le_of_ble_eq_true rfl, Nat.le_of_ble_eq_true rfl⟩ rfl (Nat.le_of_ble_eq_true rfl) dL_law_309) (fun r1 u1 e1 => ?_)
  refine x_widen (k' := 900) (n' := 62000) (Nat.le_of_ble_eq_true rfl) (Nat.le_of_ble_eq_true rfl) ?_
  refine x_aload_n hE dL_law_312 rfl 1 rfl ?_
  refine x_aload_n hE dL_law_313 rfl 3 rfl ?_
  refine x_iload_n hE dL_law_314 rfl 0 rfl ?_
  refine x_iconst (v := 1) hE dL_law_315 (by decide) ?_
  refine x_iadd hE dL_law_316 ?_
  refine x_norm (y := 1) (by decide) ?_
  refine s_ld (iN := 1) hE hs (by decide) (by decide) (by omega) dL_law_317 ?_
  refine x_aload_n hE dL_law_318 rfl 3 rfl ?_
  refine x_iload_n hE dL_law_319 rfl 0 rfl ?_
  refine x_iconst (v := 2) hE dL_law_320 (by decide) ?_
  refine x_iadd hE dL_law_321 ?_
  refine x_norm (y := 2) (by decide) ?_
  refine s_ld (iN := 2) hE hs (by decide) (by decide) (by omega) dL_law_322 ?_
  refine x_aload_n hE dL_law_323 rfl 3 rfl ?_
  refine x_iload_n hE dL_law_324 rfl 0 rfl ?_
  refine x_iconst (v := 3) hE dL_law_325 (by decide) ?_
  refine x_iadd hE dL_law_326 ?_
  refine x_norm (y := 3) (by decide) ?_
  refine s_ld (iN := 3) hE hs (by decide) (by decide) (by omega) dL_law_327 ?_
  refine x_aload_n hE dL_law_328 rfl 3 rfl ?_
  refine x_iload_n hE dL_law_329 rfl 0 rfl ?_
  refine x_iconst (v := 4) hE dL_law_330 (by decide) ?_
  refine x_iadd hE dL_law_331 ?_
  refine x_norm (y := 4) (by decide) ?_
  refine s_ld (iN := 4) hE hs (by decide) (by decide) (by omega) dL_law_332 ?_
  refine c_i hE (r_V (st := [.int r1]) hE (m_person l D cy Lb σ φ ρ (xs 1) (xs 2) (xs 3) (xs 4) hm hm0) q1576 q1577 q1578 q124 q1579 hm.1 rfl ⟨by decide, by decide, pn_X12_person⟩ ⟨Nat.le_of_ble_eq_true rfl, Nat.le_of_ble_eq_true rfl⟩ ⟨Nat.le_of_ble_eq_true rfl, Nat.le_of_ble_eq_true rfl⟩ rfl (Nat.le_of_ble_eq_true rfl) dL_law_333) (fun r2 L2 σ2 φ2 ρ2 e2 => ?_)
  refine x_widen (k' := 1000) (n' := 64000) (Nat.le_of_ble_eq_true rfl) (Nat.le_of_ble_eq_true rfl) ?_
  refine x_icmp_eq (tgt := 1608) hE dL_law_336 (by decide) (fun c_336 => ?_) (fun c_336 => absurd (e1.trans e2.symm) c_336)
  exact hend _ _ _ _
set_option maxHeartbeats 4000000 in
set_option maxRecDepth 100000 in
theorem lc_3 {E : zCx} {l : Launch} {D : va_G} {cy : Nat → ClassId} {b x mm : Nat} {r : Nat → Nat} {xs : Nat → Int32} {La Lb : List Nat} {σ : Nat → va_E} {φ : Nat → Nat → Nat → Int32} {ρ : Nat → Nat → Int32} (hE : zOk E l D cy R_law code 4 room_1) (hs : zSc E b 7 xs) (hx : zOR cy La σ φ x) (hm : zModel cy Lb σ mm r) (hm0 : zMo0 φ ρ mm r) (hend : ∀ (L : List Nat) (σ : Nat → va_E) (φ : Nat → Nat → Nat → Int32) (ρ : Nat → Nat → Int32), zW E 1000 64000 L σ φ ρ 1608 [(3, .int 0), (2, .ref mm), (1, .ref x), (0, .ref b)] []) : zW E 800 60000 (La ++ Lb) σ φ ρ 341 [(3, .int 0), (2, .ref mm), (1, .ref x), (0, .ref b)] [] := by
  obtain ⟨SX, hxT⟩ := hx.at
  refine x_aload_n hE dL_law_341 rfl 2 rfl ?_
  refine x_aload_n hE dL_law_342 rfl 3 rfl ?_
  refine x_iload_n hE dL_law_343 rfl 0 rfl ?_
  refine x_iconst (v := 1) hE dL_law_344 (by decide) ?_
  refine x_iadd hE dL_law_345 ?_
  refine x_norm (y := 1) (by decide) ?_
  refine s_ld (iN := 1) hE hs (by decide) (by decide) (by omega) dL_law_346 ?_
  refine x_aload_n hE dL_law_347 rfl 3 rfl ?_
  refine x_iload_n hE dL_law_348 rfl 0 rfl ?_
  refine x_iconst (v := 2) hE dL_law_349 (by decide) ?_
  refine x_iadd hE dL_law_350 ?_
  refine x_norm (y := 2) (by decide) ?_
  refine s_ld (iN := 2) hE hs (by decide) (by decide) (by omega) dL_law_351 ?_
  refine x_aload_n hE dL_law_352 rfl 3 rfl ?_
  refine x_iload_n hE dL_law_353 rfl 0 rfl ?_
  refine x_iconst (v := 3) hE dL_law_354 (by decide) ?_
  refine x_iadd hE dL_law_355 ?_
  refine x_norm (y := 3) (by decide) ?_
  refine s_ld (iN := 3) hE hs (by decide) (by decide) (by omega) dL_law_356 ?_
  refine x_aload_n hE dL_law_357 rfl 3 rfl ?_
  refine x_iload_n hE dL_law_358 rfl 0 rfl ?_
  refine x_iconst (v := 4) hE dL_law_359 (by decide) ?_
  refine x_iadd hE dL_law_360 ?_
  refine x_norm (y := 4) (by decide) ?_
  refine s_ld (iN := 4) hE hs (by decide) (by decide) (by omega) dL_law_361 ?_
  refine x_aload_n hE dL_law_362 rfl 3 rfl ?_
  refine x_iload_n hE dL_law_363 rfl 0 rfl ?_
  refine x_iconst (v := 5) hE dL_law_364 (by decide) ?_
  refine x_iadd hE dL_law_365 ?_
  refine x_norm (y := 5) (by decide) ?_
  refine s_ld (iN := 5) hE hs (by decide) (by decide) (by omega) dL_law_366 ?_
  refine c_iK hE (r_VA (st := []) hE (o_feed l D cy La σ φ ρ (xs 1) (xs 2) (xs 3) (xs 4) (xs 5) hx) q617 q618 q619 q113 q620 hxT rfl ⟨by decide, by decide, pn_X11_feed⟩ ⟨Nat.le_of_ble_eq_true rfl, Nat.le_of_ble_eq_true rfl⟩ ⟨Nat.le_of_ble_eq_true rfl, Nat.le_of_ble_eq_true rfl⟩ rfl (Nat.le_of_ble_eq_true rfl) dL_law_367) (fun r1 u1 e1 => ?_)
  refine x_widen (k' := 900) (n' := 62000) (Nat.le_of_ble_eq_true rfl) (Nat.le_of_ble_eq_true rfl) ?_
  refine x_aload_n hE dL_law_370 rfl 1 rfl ?_
  refine x_aload_n hE dL_law_371 rfl 3 rfl ?_
  refine x_iload_n hE dL_law_372 rfl 0 rfl ?_
  refine x_iconst (v := 1) hE dL_law_373 (by decide) ?_
  refine x_iadd hE dL_law_374 ?_
  refine x_norm (y := 1) (by decide) ?_
  refine s_ld (iN := 1) hE hs (by decide) (by decide) (by omega) dL_law_375 ?_
  refine x_aload_n hE dL_law_376 rfl 3 rfl ?_
  refine x_iload_n hE dL_law_377 rfl 0 rfl ?_
  refine x_iconst (v := 2) hE dL_law_378 (by decide) ?_
  refine x_iadd hE dL_law_379 ?_
  refine x_norm (y := 2) (by decide) ?_
  refine s_ld (iN := 2) hE hs (by decide) (by decide) (by omega) dL_law_380 ?_
  refine x_aload_n hE dL_law_381 rfl 3 rfl ?_
  refine x_iload_n hE dL_law_382 rfl 0 rfl ?_
  refine x_iconst (v := 3) hE dL_law_383 (by decide) ?_
  refine x_iadd hE dL_law_384 ?_
  refine x_norm (y := 3) (by decide) ?_
  refine s_ld (iN := 3) hE hs (by decide) (by decide) (by omega) dL_law_385 ?_
  refine x_aload_n hE dL_law_386 rfl 3 rfl ?_
  refine x_iload_n hE dL_law_387 rfl 0 rfl ?_
  refine x_iconst (v := 4) hE dL_law_388 (by decide) ?_
  refine x_iadd hE dL_law_389 ?_
  refine x_norm (y := 4) (by decide) ?_
  refine s_ld (iN := 4) hE hs (by decide) (by decide) (by omega) dL_law_390 ?_
  refine x_aload_n hE dL_law_391 rfl 3 rfl ?_
  refine x_iload_n hE dL_law_392 rfl 0 rfl ?_
  refine x_iconst (v := 5) hE dL_law_393 (by decide) ?_
  refine x_iadd hE dL_law_394 ?_
  refine x_norm (y := 5) (by decide) ?_
  refine s_ld (iN := 5) hE hs (by decide) (by decide) (by omega) dL_law_395 ?_
  refine c_i hE (r_V (st := [.int r1]) hE (m_feed l D cy Lb σ φ ρ (xs 1) (xs 2) (xs 3) (xs 4) (xs 5) hm hm0) q1584 q1585 q1586 q124 q1587 hm.1 rfl ⟨by decide, by decide, pn_X12_feed⟩ ⟨Nat.le_of_ble_eq_true rfl, Nat.le_of_ble_eq_true rfl⟩ ⟨Nat.le_of_ble_eq_true rfl, Nat.le_of_ble_eq_true rfl⟩ rfl (Nat.le_of_ble_eq_true rfl) dL_law_396) (fun r2 L2 σ2 φ2 ρ2 e2 => ?_)
  refine x_widen (k' := 1000) (n' := 64000) (Nat.le_of_ble_eq_true rfl) (Nat.le_of_ble_eq_true rfl) ?_
  refine x_icmp_eq (tgt := 1608) hE dL_law_399 (by decide) (fun c_399 => ?_) (fun c_399 => absurd (e1.trans e2.symm) c_399)
  exact hend _ _ _ _
set_option maxHeartbeats 4000000 in
set_option maxRecDepth 100000 in
theorem lc_4 {E : zCx} {l : Launch} {D : va_G} {cy : Nat → ClassId} {b x mm : Nat} {r : Nat → Nat} {xs : Nat → Int32} {La Lb : List Nat} {σ : Nat → va_E} {φ : Nat → Nat → Nat → Int32} {ρ : Nat → Nat → Int32} (hE : zOk E l D cy R_law code 4 room_1) (hs : zSc E b 7 xs) (hx : zOR cy La σ φ x) (hm : zModel cy Lb σ mm r) (hm0 : zMo0 φ ρ mm r) (hend : ∀ (L : List Nat) (σ : Nat → va_E) (φ : Nat → Nat → Nat → Int32) (ρ : Nat → Nat → Int32), zW E 1000 64000 L σ φ ρ 1608 [(3, .int 0), (2, .ref mm), (1, .ref x), (0, .ref b)] []) : zW E 800 60000 (La ++ Lb) σ φ ρ 404 [(3, .int 0), (2, .ref mm), (1, .ref x), (0, .ref b)] [] := by
  obtain ⟨SX, hxT⟩ := hx.at
  refine x_aload_n hE dL_law_404 rfl 2 rfl ?_
  refine x_aload_n hE dL_law_405 rfl 3 rfl ?_
  refine x_iload_n hE dL_law_406 rfl 0 rfl ?_
  refine x_iconst (v := 1) hE dL_law_407 (by decide) ?_
  refine x_iadd hE dL_law_408 ?_
  refine x_norm (y := 1) (by decide) ?_
  refine s_ld (iN := 1) hE hs (by decide) (by decide) (by omega) dL_law_409 ?_
  refine c_iK hE (r_VA (st := []) hE (o_end l D cy La σ φ ρ (xs 1) hx) q625 q626 q627 q113 q628 hxT rfl ⟨by decide, by decide, pn_X11_end⟩ ⟨Nat.le_of_ble_eq_true rfl, Nat.le_of_ble_eq_true rfl⟩ ⟨Nat.le_of_ble_eq_true rfl, Nat.le_of_ble_eq_true rfl⟩ rfl (Nat.le_of_ble_eq_true rfl) dL_law_410) (fun r1 u1 e1 => ?_)
  refine x_widen (k' := 900) (n' := 62000) (Nat.le_of_ble_eq_true rfl) (Nat.le_of_ble_eq_true rfl) ?_
  refine x_aload_n hE dL_law_413 rfl 1 rfl ?_
  refine x_aload_n hE dL_law_414 rfl 3 rfl ?_
  refine x_iload_n hE dL_law_415 rfl 0 rfl ?_
  refine x_iconst (v := 1) hE dL_law_416 (by decide) ?_
  refine x_iadd hE dL_law_417 ?_
  refine x_norm (y := 1) (by decide) ?_
  refine s_ld (iN := 1) hE hs (by decide) (by decide) (by omega) dL_law_418 ?_
  refine c_i hE (r_V (st := [.int r1]) hE (m_end l D cy Lb σ φ ρ (xs 1) hm hm0) q1592 q1593 q1594 q124 q1595 hm.1 rfl ⟨by decide, by decide, pn_X12_end⟩ ⟨Nat.le_of_ble_eq_true rfl, Nat.le_of_ble_eq_true rfl⟩ ⟨Nat.le_of_ble_eq_true rfl, Nat.le_of_ble_eq_true rfl⟩ rfl (Nat.le_of_ble_eq_true rfl) dL_law_419) (fun r2 L2 σ2 φ2 ρ2 e2 => ?_)
  refine x_widen (k' := 1000) (n' := 64000) (Nat.le_of_ble_eq_true rfl) (Nat.le_of_ble_eq_true rfl) ?_
  refine x_icmp_eq (tgt := 1608) hE dL_law_422 (by decide) (fun c_422 => ?_) (fun c_422 => absurd (e1.trans e2.symm) c_422)
  exact hend _ _ _ _
set_option maxHeartbeats 4000000 in
set_option maxRecDepth 100000 in
theorem lc_5 {E : zCx} {l : Launch} {D : va_G} {cy : Nat → ClassId} {b x mm : Nat} {r : Nat → Nat} {xs : Nat → Int32} {La Lb : List Nat} {σ : Nat → va_E} {φ : Nat → Nat → Nat → Int32} {ρ : Nat → Nat → Int32} (hE : zOk E l D cy R_law code 4 room_1) (hs : zSc E b 7 xs) (hx : zOR cy La σ φ x) (hm : zModel cy Lb σ mm r) (hm0 : zMo0 φ ρ mm r) (hend : ∀ (L : List Nat) (σ : Nat → va_E) (φ : Nat → Nat → Nat → Int32) (ρ : Nat → Nat → Int32), zW E 1000 64000 L σ φ ρ 1608 [(3, .int 0), (2, .ref mm), (1, .ref x), (0, .ref b)] []) : zW E 800 60000 (La ++ Lb) σ φ ρ 427 [(3, .int 0), (2, .ref mm), (1, .ref x), (0, .ref b)] [] := by
  obtain ⟨SX, hxT⟩ := hx.at
  refine x_aload_n hE dL_law_427 rfl 2 rfl ?_
  refine c_iK hE (r_VA (st := []) hE (o_text l D cy La σ φ ρ  hx) q629 q630 q631 q113 q632 hxT rfl ⟨by decide, by decide, pn_X11_text⟩ ⟨Nat.le_of_ble_eq_true rfl, Nat.le_of_ble_eq_true rfl⟩ ⟨Nat.le_of_ble_eq_true rfl, Nat.le_of_ble_eq_true rfl⟩ rfl (Nat.le_of_ble_eq_true rfl) dL_law_428) (fun r1 u1 e1 => ?_)
  refine x_widen (k' := 900) (n' := 62000) (Nat.le_of_ble_eq_true rfl) (Nat.le_of_ble_eq_true rfl) ?_
  refine x_aload_n hE dL_law_431 rfl 1 rfl ?_
  refine c_i hE (r_V (st := [.int r1]) hE (m_text l D cy Lb σ φ ρ  hm hm0) q1596 q1597 q1598 q124 q1599 hm.1 rfl ⟨by decide, by decide, pn_X12_text⟩ ⟨Nat.le_of_ble_eq_true rfl, Nat.le_of_ble_eq_true rfl⟩ ⟨Nat.le_of_ble_eq_true rfl, Nat.le_of_ble_eq_true rfl⟩ rfl (Nat.le_of_ble_eq_true rfl) dL_law_432) (fun r2 L2 σ2 φ2 ρ2 e2 => ?_)
  refine x_widen (k' := 1000) (n' := 64000) (Nat.le_of_ble_eq_true rfl) (Nat.le_of_ble_eq_true rfl) ?_
  refine x_icmp_eq (tgt := 1608) hE dL_law_435 (by decide) (fun c_435 => ?_) (fun c_435 => absurd (e1.trans e2.symm) c_435)
  exact hend _ _ _ _
set_option maxHeartbeats 4000000 in
set_option maxRecDepth 100000 in
theorem lc_6 {E : zCx} {l : Launch} {D : va_G} {cy : Nat → ClassId} {b x mm : Nat} {r : Nat → Nat} {xs : Nat → Int32} {La Lb : List Nat} {σ : Nat → va_E} {φ : Nat → Nat → Nat → Int32} {ρ : Nat → Nat → Int32} (hE : zOk E l D cy R_law code 4 room_1) (hs : zSc E b 7 xs) (hx : zOR cy La σ φ x) (hm : zModel cy Lb σ mm r) (hm0 : zMo0 φ ρ mm r) (hend : ∀ (L : List Nat) (σ : Nat → va_E) (φ : Nat → Nat → Nat → Int32) (ρ : Nat → Nat → Int32), zW E 1000 64000 L σ φ ρ 1608 [(3, .int 0), (2, .ref mm), (1, .ref x), (0, .ref b)] []) : zW E 800 60000 (La ++ Lb) σ φ ρ 440 [(3, .int 0), (2, .ref mm), (1, .ref x), (0, .ref b)] [] := by
  obtain ⟨SX, hxT⟩ := hx.at
  refine x_aload_n hE dL_law_440 rfl 2 rfl ?_
  refine x_aload_n hE dL_law_441 rfl 3 rfl ?_
  refine x_iload_n hE dL_law_442 rfl 0 rfl ?_
  refine x_iconst (v := 1) hE dL_law_443 (by decide) ?_
  refine x_iadd hE dL_law_444 ?_
  refine x_norm (y := 1) (by decide) ?_
  refine s_ld (iN := 1) hE hs (by decide) (by decide) (by omega) dL_law_445 ?_
  refine c_iK hE (r_VA (st := []) hE (o_fault l D cy La σ φ ρ (xs 1) hx) q930 q931 q932 q113 q933 hxT rfl ⟨by decide, by decide, pn_X11_fault⟩ ⟨Nat.le_of_ble_eq_true rfl, Nat.le_of_ble_eq_true rfl⟩ ⟨Nat.le_of_ble_eq_true rfl, Nat.le_of_ble_eq_true rfl⟩ rfl (Nat.le_of_ble_eq_true rfl) dL_law_446) (fun r1 u1 e1 => ?_)
  refine x_widen (k' := 900) (n' := 62000) (Nat.le_of_ble_eq_true rfl) (Nat.le_of_ble_eq_true rfl) ?_
  refine x_aload_n hE dL_law_449 rfl 1 rfl ?_
  refine x_aload_n hE dL_law_450 rfl 3 rfl ?_
  refine x_iload_n hE dL_law_451 rfl 0 rfl ?_
  refine x_iconst (v := 1) hE dL_law_452 (by decide) ?_
  refine x_iadd hE dL_law_453 ?_
  refine x_norm (y := 1) (by decide) ?_
  refine s_ld (iN := 1) hE hs (by decide) (by decide) (by omega) dL_law_454 ?_
  refine c_i hE (r_V (st := [.int r1]) hE (m_fault l D cy Lb σ φ ρ (xs 1) hm hm0) q1741 q1742 q1743 q124 q1744 hm.1 rfl ⟨by decide, by decide, pn_X12_fault⟩ ⟨Nat.le_of_ble_eq_true rfl, Nat.le_of_ble_eq_true rfl⟩ ⟨Nat.le_of_ble_eq_true rfl, Nat.le_of_ble_eq_true rfl⟩ rfl (Nat.le_of_ble_eq_true rfl) dL_law_455) (fun r2 L2 σ2 φ2 ρ2 e2 => ?_)
  refine x_widen (k' := 1000) (n' := 64000) (Nat.le_of_ble_eq_true rfl) (Nat.le_of_ble_eq_true rfl) ?_
  refine x_icmp_eq (tgt := 1608) hE dL_law_458 (by decide) (fun c_458 => ?_) (fun c_458 => absurd (e1.trans e2.symm) c_458)
  exact hend _ _ _ _
set_option maxHeartbeats 4000000 in
set_option maxRecDepth 100000 in
theorem lc_7 {E : zCx} {l : Launch} {D : va_G} {cy : Nat → ClassId} {b x mm : Nat} {r : Nat → Nat} {xs : Nat → Int32} {La Lb : List Nat} {σ : Nat → va_E} {φ : Nat → Nat → Nat → Int32} {ρ : Nat → Nat → Int32} (hE : zOk E l D cy R_law code 4 room_1) (hs : zSc E b 7 xs) (hx : zOR cy La σ φ x) (hm : zModel cy Lb σ mm r) (hm0 : zMo0 φ ρ mm r) (hend : ∀ (L : List Nat) (σ : Nat → va_E) (φ : Nat → Nat → Nat → Int32) (ρ : Nat → Nat → Int32), zW E 1000 64000 L σ φ ρ 1608 [(3, .int 0), (2, .ref mm), (1, .ref x), (0, .ref b)] []) : zW E 800 60000 (La ++ Lb) σ φ ρ 463 [(3, .int 0), (2, .ref mm), (1, .ref x), (0, .ref b)] [] := by
  obtain ⟨SX, hxT⟩ := hx.at
  refine x_aload_n hE dL_law_463 rfl 2 rfl ?_
  refine x_aload_n hE dL_law_464 rfl 3 rfl ?_
  refine x_iload_n hE dL_law_465 rfl 0 rfl ?_
  refine x_iconst (v := 1) hE dL_law_466 (by decide) ?_
  refine x_iadd hE dL_law_467 ?_
  refine x_norm (y := 1) (by decide) ?_
  refine s_ld (iN := 1) hE hs (by decide) (by decide) (by omega) dL_law_468 ?_
  refine c_iK hE (r_VA (st := []) hE (o_by l D cy La σ φ ρ (xs 1) hx) q934 q935 q936 q113 q937 hxT rfl ⟨by decide, by decide, pn_X11_by⟩ ⟨Nat.le_of_ble_eq_true rfl, Nat.le_of_ble_eq_true rfl⟩ ⟨Nat.le_of_ble_eq_true rfl, Nat.le_of_ble_eq_true rfl⟩ rfl (Nat.le_of_ble_eq_true rfl) dL_law_469) (fun r1 u1 e1 => ?_)
  refine x_widen (k' := 900) (n' := 62000) (Nat.le_of_ble_eq_true rfl) (Nat.le_of_ble_eq_true rfl) ?_
  refine x_aload_n hE dL_law_472 rfl 1 rfl ?_
  refine x_aload_n hE dL_law_473 rfl 3 rfl ?_
  refine x_iload_n hE dL_law_474 rfl 0 rfl ?_
  refine x_iconst (v := 1) hE dL_law_475 (by decide) ?_
  refine x_iadd hE dL_law_476 ?_
  refine x_norm (y := 1) (by decide) ?_
  refine s_ld (iN := 1) hE hs (by decide) (by decide) (by omega) dL_law_477 ?_
  refine c_i hE (r_V (st := [.int r1]) hE (m_by l D cy Lb σ φ ρ (xs 1) hm hm0) q1745 q1746 q1747 q124 q1748 hm.1 rfl ⟨by decide, by decide, pn_X12_by⟩ ⟨Nat.le_of_ble_eq_true rfl, Nat.le_of_ble_eq_true rfl⟩ ⟨Nat.le_of_ble_eq_true rfl, Nat.le_of_ble_eq_true rfl⟩ rfl (Nat.le_of_ble_eq_true rfl) dL_law_478) (fun r2 L2 σ2 φ2 ρ2 e2 => ?_)
  refine x_widen (k' := 1000) (n' := 64000) (Nat.le_of_ble_eq_true rfl) (Nat.le_of_ble_eq_true rfl) ?_
  refine x_icmp_eq (tgt := 1608) hE dL_law_481 (by decide) (fun c_481 => ?_) (fun c_481 => absurd (e1.trans e2.symm) c_481)
  exact hend _ _ _ _
set_option maxHeartbeats 4000000 in
set_option maxRecDepth 100000 in
theorem lc_8 {E : zCx} {l : Launch} {D : va_G} {cy : Nat → ClassId} {b x mm : Nat} {r : Nat → Nat} {xs : Nat → Int32} {La Lb : List Nat} {σ : Nat → va_E} {φ : Nat → Nat → Nat → Int32} {ρ : Nat → Nat → Int32} (hE : zOk E l D cy R_law code 4 room_1) (hs : zSc E b 7 xs) (hx : zOR cy La σ φ x) (hm : zModel cy Lb σ mm r) (hm0 : zMo0 φ ρ mm r) (hend : ∀ (L : List Nat) (σ : Nat → va_E) (φ : Nat → Nat → Nat → Int32) (ρ : Nat → Nat → Int32), zW E 1000 64000 L σ φ ρ 1608 [(3, .int 0), (2, .ref mm), (1, .ref x), (0, .ref b)] []) : zW E 800 60000 (La ++ Lb) σ φ ρ 486 [(3, .int 0), (2, .ref mm), (1, .ref x), (0, .ref b)] [] := by
  obtain ⟨SX, hxT⟩ := hx.at
  refine x_aload_n hE dL_law_486 rfl 2 rfl ?_
  refine x_aload_n hE dL_law_487 rfl 3 rfl ?_
  refine x_iload_n hE dL_law_488 rfl 0 rfl ?_
  refine x_iconst (v := 1) hE dL_law_489 (by decide) ?_
  refine x_iadd hE dL_law_490 ?_
  refine x_norm (y := 1) (by decide) ?_
  refine s_ld (iN := 1) hE hs (by decide) (by decide) (by omega) dL_law_491 ?_
  refine c_iK hE (r_VA (st := []) hE (o_hour l D cy La σ φ ρ (xs 1) hx) q942 q943 q944 q113 q945 hxT rfl ⟨by decide, by decide, pn_X11_hour⟩ ⟨Nat.le_of_ble_eq_true rfl, Nat.le_of_ble_eq_true rfl⟩ ⟨Nat.le_of_ble_eq_true rfl, Nat.le_of_ble_eq_true rfl⟩ rfl (Nat.le_of_ble_eq_true rfl) dL_law_492) (fun r1 u1 e1 => ?_)
  refine x_widen (k' := 900) (n' := 62000) (Nat.le_of_ble_eq_true rfl) (Nat.le_of_ble_eq_true rfl) ?_
  refine x_aload_n hE dL_law_495 rfl 1 rfl ?_
  refine x_aload_n hE dL_law_496 rfl 3 rfl ?_
  refine x_iload_n hE dL_law_497 rfl 0 rfl ?_
  refine x_iconst (v := 1) hE dL_law_498 (by decide) ?_
  refine x_iadd hE dL_law_499 ?_
  refine x_norm (y := 1) (by decide) ?_
  refine s_ld (iN := 1) hE hs (by decide) (by decide) (by omega) dL_law_500 ?_
  refine c_i hE (r_V (st := [.int r1]) hE (m_hour l D cy Lb σ φ ρ (xs 1) hm hm0) q1757 q1758 q1759 q124 q1760 hm.1 rfl ⟨by decide, by decide, pn_X12_hour⟩ ⟨Nat.le_of_ble_eq_true rfl, Nat.le_of_ble_eq_true rfl⟩ ⟨Nat.le_of_ble_eq_true rfl, Nat.le_of_ble_eq_true rfl⟩ rfl (Nat.le_of_ble_eq_true rfl) dL_law_501) (fun r2 L2 σ2 φ2 ρ2 e2 => ?_)
  refine x_widen (k' := 1000) (n' := 64000) (Nat.le_of_ble_eq_true rfl) (Nat.le_of_ble_eq_true rfl) ?_
  refine x_icmp_eq (tgt := 1608) hE dL_law_504 (by decide) (fun c_504 => ?_) (fun c_504 => absurd (e1.trans e2.symm) c_504)
  exact hend _ _ _ _
set_option maxHeartbeats 4000000 in
set_option maxRecDepth 100000 in
theorem lc_9 {E : zCx} {l : Launch} {D : va_G} {cy : Nat → ClassId} {b x mm : Nat} {r : Nat → Nat} {xs : Nat → Int32} {La Lb : List Nat} {σ : Nat → va_E} {φ : Nat → Nat → Nat → Int32} {ρ : Nat → Nat → Int32} (hE : zOk E l D cy R_law code 4 room_1) (hs : zSc E b 7 xs) (hx : zOR cy La σ φ x) (hm : zModel cy Lb σ mm r) (hm0 : zMo0 φ ρ mm r) (hend : ∀ (L : List Nat) (σ : Nat → va_E) (φ : Nat → Nat → Nat → Int32) (ρ : Nat → Nat → Int32), zW E 1000 64000 L σ φ ρ 1608 [(3, .int 0), (2, .ref mm), (1, .ref x), (0, .ref b)] []) : zW E 800 60000 (La ++ Lb) σ φ ρ 509 [(3, .int 0), (2, .ref mm), (1, .ref x), (0, .ref b)] [] := by
  obtain ⟨SX, hxT⟩ := hx.at
  refine x_aload_n hE dL_law_509 rfl 2 rfl ?_
  refine x_aload_n hE dL_law_510 rfl 3 rfl ?_
  refine x_iload_n hE dL_law_511 rfl 0 rfl ?_
  refine x_iconst (v := 1) hE dL_law_512 (by decide) ?_
  refine x_iadd hE dL_law_513 ?_
  refine x_norm (y := 1) (by decide) ?_
  refine s_ld (iN := 1) hE hs (by decide) (by decide) (by omega) dL_law_514 ?_
  refine x_aload_n hE dL_law_515 rfl 3 rfl ?_
  refine x_iload_n hE dL_law_516 rfl 0 rfl ?_
  refine x_iconst (v := 2) hE dL_law_517 (by decide) ?_
  refine x_iadd hE dL_law_518 ?_
  refine x_norm (y := 2) (by decide) ?_
  refine s_ld (iN := 2) hE hs (by decide) (by decide) (by omega) dL_law_519 ?_
  refine c_iK hE (r_VA (st := []) hE (o_work l D cy La σ φ ρ (xs 1) (xs 2) hx) q1028 q1029 q1030 q113 q1031 hxT rfl ⟨by decide, by decide, pn_X11_work⟩ ⟨Nat.le_of_ble_eq_true rfl, Nat.le_of_ble_eq_true rfl⟩ ⟨Nat.le_of_ble_eq_true rfl, Nat.le_of_ble_eq_true rfl⟩ rfl (Nat.le_of_ble_eq_true rfl) dL_law_520) (fun r1 u1 e1 => ?_)
  refine x_widen (k' := 900) (n' := 62000) (Nat.le_of_ble_eq_true rfl) (Nat.le_of_ble_eq_true rfl) ?_
  refine x_aload_n hE dL_law_523 rfl 1 rfl ?_
  refine x_aload_n hE dL_law_524 rfl 3 rfl ?_
  refine x_iload_n hE dL_law_525 rfl 0 rfl ?_
  refine x_iconst (v := 1) hE dL_law_526 (by decide) ?_
  refine x_iadd hE dL_law_527 ?_
  refine x_norm (y := 1) (by decide) ?_
  refine s_ld (iN := 1) hE hs (by decide) (by decide) (by omega) dL_law_528 ?_
  refine x_aload_n hE dL_law_529 rfl 3 rfl ?_
  refine x_iload_n hE dL_law_530 rfl 0 rfl ?_
  refine x_iconst (v := 2) hE dL_law_531 (by decide) ?_
  refine x_iadd hE dL_law_532 ?_
  refine x_norm (y := 2) (by decide) ?_
  refine s_ld (iN := 2) hE hs (by decide) (by decide) (by omega) dL_law_533 ?_
  refine c_i hE (r_V (st := [.int r1]) hE (m_work l D cy Lb σ φ ρ (xs 1) (xs 2) hm hm0) q1836 q1837 q1838 q124 q1839 hm.1 rfl ⟨by decide, by decide, pn_X12_work⟩ ⟨Nat.le_of_ble_eq_true rfl, Nat.le_of_ble_eq_true rfl⟩ ⟨Nat.le_of_ble_eq_true rfl, Nat.le_of_ble_eq_true rfl⟩ rfl (Nat.le_of_ble_eq_true rfl) dL_law_534) (fun r2 L2 σ2 φ2 ρ2 e2 => ?_)
  refine x_widen (k' := 1000) (n' := 64000) (Nat.le_of_ble_eq_true rfl) (Nat.le_of_ble_eq_true rfl) ?_
  refine x_icmp_eq (tgt := 1608) hE dL_law_537 (by decide) (fun c_537 => ?_) (fun c_537 => absurd (e1.trans e2.symm) c_537)
  exact hend _ _ _ _
set_option maxHeartbeats 4000000 in
set_option maxRecDepth 100000 in
theorem lc_10 {E : zCx} {l : Launch} {D : va_G} {cy : Nat → ClassId} {b x mm : Nat} {r : Nat → Nat} {xs : Nat → Int32} {La Lb : List Nat} {σ : Nat → va_E} {φ : Nat → Nat → Nat → Int32} {ρ : Nat → Nat → Int32} (hE : zOk E l D cy R_law code 4 room_1) (hs : zSc E b 7 xs) (hx : zOR cy La σ φ x) (hm : zModel cy Lb σ mm r) (hm0 : zMo0 φ ρ mm r) (hend : ∀ (L : List Nat) (σ : Nat → va_E) (φ : Nat → Nat → Nat → Int32) (ρ : Nat → Nat → Int32), zW E 1000 64000 L σ φ ρ 1608 [(3, .int 0), (2, .ref mm), (1, .ref x), (0, .ref b)] []) : zW E 800 60000 (La ++ Lb) σ φ ρ 542 [(3, .int 0), (2, .ref mm), (1, .ref x), (0, .ref b)] [] := by
  obtain ⟨SX, hxT⟩ := hx.at
  refine x_aload_n hE dL_law_542 rfl 2 rfl ?_
  refine x_aload_n hE dL_law_543 rfl 3 rfl ?_
  refine x_iload_n hE dL_law_544 rfl 0 rfl ?_
  refine x_iconst (v := 1) hE dL_law_545 (by decide) ?_
  refine x_iadd hE dL_law_546 ?_
  refine x_norm (y := 1) (by decide) ?_
  refine s_ld (iN := 1) hE hs (by decide) (by decide) (by omega) dL_law_547 ?_
  refine x_aload_n hE dL_law_548 rfl 3 rfl ?_
  refine x_iload_n hE dL_law_549 rfl 0 rfl ?_
  refine x_iconst (v := 2) hE dL_law_550 (by decide) ?_
  refine x_iadd hE dL_law_551 ?_
  refine x_norm (y := 2) (by decide) ?_
  refine s_ld (iN := 2) hE hs (by decide) (by decide) (by omega) dL_law_552 ?_
  refine c_iK hE (r_VA (st := []) hE (o_go l D cy La σ φ ρ (xs 1) (xs 2) hx) q1036 q1037 q1038 q113 q1039 hxT rfl ⟨by decide, by decide, pn_X11_go⟩ ⟨Nat.le_of_ble_eq_true rfl, Nat.le_of_ble_eq_true rfl⟩ ⟨Nat.le_of_ble_eq_true rfl, Nat.le_of_ble_eq_true rfl⟩ rfl (Nat.le_of_ble_eq_true rfl) dL_law_553) (fun r1 u1 e1 => ?_)
  refine x_widen (k' := 900) (n' := 62000) (Nat.le_of_ble_eq_true rfl) (Nat.le_of_ble_eq_true rfl) ?_
  refine x_aload_n hE dL_law_556 rfl 1 rfl ?_
  refine x_aload_n hE dL_law_557 rfl 3 rfl ?_
  refine x_iload_n hE dL_law_558 rfl 0 rfl ?_
  refine x_iconst (v := 1) hE dL_law_559 (by decide) ?_
  refine x_iadd hE dL_law_560 ?_
  refine x_norm (y := 1) (by decide) ?_
  refine s_ld (iN := 1) hE hs (by decide) (by decide) (by omega) dL_law_561 ?_
  refine x_aload_n hE dL_law_562 rfl 3 rfl ?_
  refine x_iload_n hE dL_law_563 rfl 0 rfl ?_
  refine x_iconst (v := 2) hE dL_law_564 (by decide) ?_
  refine x_iadd hE dL_law_565 ?_
  refine x_norm (y := 2) (by decide) ?_
  refine s_ld (iN := 2) hE hs (by decide) (by decide) (by omega) dL_law_566 ?_
  refine c_i hE (r_V (st := [.int r1]) hE (m_go l D cy Lb σ φ ρ (xs 1) (xs 2) hm hm0) q1844 q1845 q1846 q124 q1847 hm.1 rfl ⟨by decide, by decide, pn_X12_go⟩ ⟨Nat.le_of_ble_eq_true rfl, Nat.le_of_ble_eq_true rfl⟩ ⟨Nat.le_of_ble_eq_true rfl, Nat.le_of_ble_eq_true rfl⟩ rfl (Nat.le_of_ble_eq_true rfl) dL_law_567) (fun r2 L2 σ2 φ2 ρ2 e2 => ?_)
  refine x_widen (k' := 1000) (n' := 64000) (Nat.le_of_ble_eq_true rfl) (Nat.le_of_ble_eq_true rfl) ?_
  refine x_icmp_eq (tgt := 1608) hE dL_law_570 (by decide) (fun c_570 => ?_) (fun c_570 => absurd (e1.trans e2.symm) c_570)
  exact hend _ _ _ _
set_option maxHeartbeats 4000000 in
set_option maxRecDepth 100000 in
theorem lc_11 {E : zCx} {l : Launch} {D : va_G} {cy : Nat → ClassId} {b x mm : Nat} {r : Nat → Nat} {xs : Nat → Int32} {La Lb : List Nat} {σ : Nat → va_E} {φ : Nat → Nat → Nat → Int32} {ρ : Nat → Nat → Int32} (hE : zOk E l D cy R_law code 4 room_1) (hs : zSc E b 7 xs) (hx : zOR cy La σ φ x) (hm : zModel cy Lb σ mm r) (hm0 : zMo0 φ ρ mm r) (hend : ∀ (L : List Nat) (σ : Nat → va_E) (φ : Nat → Nat → Nat → Int32) (ρ : Nat → Nat → Int32), zW E 1000 64000 L σ φ ρ 1608 [(3, .int 0), (2, .ref mm), (1, .ref x), (0, .ref b)] []) : zW E 800 60000 (La ++ Lb) σ φ ρ 575 [(3, .int 0), (2, .ref mm), (1, .ref x), (0, .ref b)] [] := by
  obtain ⟨SX, hxT⟩ := hx.at
  refine x_aload_n hE dL_law_575 rfl 2 rfl ?_
  refine x_aload_n hE dL_law_576 rfl 3 rfl ?_
  refine x_iload_n hE dL_law_577 rfl 0 rfl ?_
  refine x_iconst (v := 1) hE dL_law_578 (by decide) ?_
  refine x_iadd hE dL_law_579 ?_
  refine x_norm (y := 1) (by decide) ?_
  refine s_ld (iN := 1) hE hs (by decide) (by decide) (by omega) dL_law_580 ?_
  refine x_aload_n hE dL_law_581 rfl 3 rfl ?_
  refine x_iload_n hE dL_law_582 rfl 0 rfl ?_
  refine x_iconst (v := 2) hE dL_law_583 (by decide) ?_
  refine x_iadd hE dL_law_584 ?_
  refine x_norm (y := 2) (by decide) ?_
  refine s_ld (iN := 2) hE hs (by decide) (by decide) (by omega) dL_law_585 ?_
  refine c_iK hE (r_VA (st := []) hE (o_shake l D cy La σ φ ρ (xs 1) (xs 2) hx) q1047 q1048 q1049 q113 q1050 hxT rfl ⟨by decide, by decide, pn_X11_shake⟩ ⟨Nat.le_of_ble_eq_true rfl, Nat.le_of_ble_eq_true rfl⟩ ⟨Nat.le_of_ble_eq_true rfl, Nat.le_of_ble_eq_true rfl⟩ rfl (Nat.le_of_ble_eq_true rfl) dL_law_586) (fun r1 u1 e1 => ?_)
  refine x_widen (k' := 900) (n' := 62000) (Nat.le_of_ble_eq_true rfl) (Nat.le_of_ble_eq_true rfl) ?_
  refine x_aload_n hE dL_law_589 rfl 1 rfl ?_
  refine x_aload_n hE dL_law_590 rfl 3 rfl ?_
  refine x_iload_n hE dL_law_591 rfl 0 rfl ?_
  refine x_iconst (v := 1) hE dL_law_592 (by decide) ?_
  refine x_iadd hE dL_law_593 ?_
  refine x_norm (y := 1) (by decide) ?_
  refine s_ld (iN := 1) hE hs (by decide) (by decide) (by omega) dL_law_594 ?_
  refine x_aload_n hE dL_law_595 rfl 3 rfl ?_
  refine x_iload_n hE dL_law_596 rfl 0 rfl ?_
  refine x_iconst (v := 2) hE dL_law_597 (by decide) ?_
  refine x_iadd hE dL_law_598 ?_
  refine x_norm (y := 2) (by decide) ?_
  refine s_ld (iN := 2) hE hs (by decide) (by decide) (by omega) dL_law_599 ?_
  refine c_i hE (r_V (st := [.int r1]) hE (m_shake l D cy Lb σ φ ρ (xs 1) (xs 2) hm hm0) q1852 q1853 q1854 q124 q1855 hm.1 rfl ⟨by decide, by decide, pn_X12_shake⟩ ⟨Nat.le_of_ble_eq_true rfl, Nat.le_of_ble_eq_true rfl⟩ ⟨Nat.le_of_ble_eq_true rfl, Nat.le_of_ble_eq_true rfl⟩ rfl (Nat.le_of_ble_eq_true rfl) dL_law_600) (fun r2 L2 σ2 φ2 ρ2 e2 => ?_)
  refine x_widen (k' := 1000) (n' := 64000) (Nat.le_of_ble_eq_true rfl) (Nat.le_of_ble_eq_true rfl) ?_
  refine x_icmp_eq (tgt := 1608) hE dL_law_603 (by decide) (fun c_603 => ?_) (fun c_603 => absurd (e1.trans e2.symm) c_603)
  exact hend _ _ _ _
set_option maxHeartbeats 4000000 in
set_option maxRecDepth 100000 in
theorem lc_12 {E : zCx} {l : Launch} {D : va_G} {cy : Nat → ClassId} {b x mm : Nat} {r : Nat → Nat} {xs : Nat → Int32} {La Lb : List Nat} {σ : Nat → va_E} {φ : Nat → Nat → Nat → Int32} {ρ : Nat → Nat → Int32} (hE : zOk E l D cy R_law code 4 room_1) (hs : zSc E b 7 xs) (hx : zOR cy La σ φ x) (hm : zModel cy Lb σ mm r) (hm0 : zMo0 φ ρ mm r) (hend : ∀ (L : List Nat) (σ : Nat → va_E) (φ : Nat → Nat → Nat → Int32) (ρ : Nat → Nat → Int32), zW E 1000 64000 L σ φ ρ 1608 [(3, .int 0), (2, .ref mm), (1, .ref x), (0, .ref b)] []) : zW E 800 60000 (La ++ Lb) σ φ ρ 608 [(3, .int 0), (2, .ref mm), (1, .ref x), (0, .ref b)] [] := by
  obtain ⟨SX, hxT⟩ := hx.at
  refine x_aload_n hE dL_law_608 rfl 2 rfl ?_
  refine x_aload_n hE dL_law_609 rfl 3 rfl ?_
  refine x_iload_n hE dL_law_610 rfl 0 rfl ?_
  refine x_iconst (v := 1) hE dL_law_611 (by decide) ?_
  refine x_iadd hE dL_law_612 ?_
  refine x_norm (y := 1) (by decide) ?_
  refine s_ld (iN := 1) hE hs (by decide) (by decide) (by omega) dL_law_613 ?_
  refine x_aload_n hE dL_law_614 rfl 3 rfl ?_
  refine x_iload_n hE dL_law_615 rfl 0 rfl ?_
  refine x_iconst (v := 2) hE dL_law_616 (by decide) ?_
  refine x_iadd hE dL_law_617 ?_
  refine x_norm (y := 2) (by decide) ?_
  refine s_ld (iN := 2) hE hs (by decide) (by decide) (by omega) dL_law_618 ?_
  refine x_aload_n hE dL_law_619 rfl 3 rfl ?_
  refine x_iload_n hE dL_law_620 rfl 0 rfl ?_
  refine x_iconst (v := 3) hE dL_law_621 (by decide) ?_
  refine x_iadd hE dL_law_622 ?_
  refine x_norm (y := 3) (by decide) ?_
  refine s_ld (iN := 3) hE hs (by decide) (by decide) (by omega) dL_law_623 ?_
  refine c_iK hE (r_VA (st := []) hE (o_steal l D cy La σ φ ρ (xs 1) (xs 2) (xs 3) hx) q1059 q1060 q1061 q113 q1062 hxT rfl ⟨by decide, by decide, pn_X11_steal⟩ ⟨Nat.le_of_ble_eq_true rfl, Nat.le_of_ble_eq_true rfl⟩ ⟨Nat.le_of_ble_eq_true rfl, Nat.le_of_ble_eq_true rfl⟩ rfl (Nat.le_of_ble_eq_true rfl) dL_law_624) (fun r1 u1 e1 => ?_)
  refine x_widen (k' := 900) (n' := 62000) (Nat.le_of_ble_eq_true rfl) (Nat.le_of_ble_eq_true rfl) ?_
  refine x_aload_n hE dL_law_627 rfl 1 rfl ?_
  refine x_aload_n hE dL_law_628 rfl 3 rfl ?_
  refine x_iload_n hE dL_law_629 rfl 0 rfl ?_
  refine x_iconst (v := 1) hE dL_law_630 (by decide) ?_
  refine x_iadd hE dL_law_631 ?_
  refine x_norm (y := 1) (by decide) ?_
  refine s_ld (iN := 1) hE hs (by decide) (by decide) (by omega) dL_law_632 ?_
  refine x_aload_n hE dL_law_633 rfl 3 rfl ?_
  refine x_iload_n hE dL_law_634 rfl 0 rfl ?_
  refine x_iconst (v := 2) hE dL_law_635 (by decide) ?_
  refine x_iadd hE dL_law_636 ?_
  refine x_norm (y := 2) (by decide) ?_
  refine s_ld (iN := 2) hE hs (by decide) (by decide) (by omega) dL_law_637 ?_
  refine x_aload_n hE dL_law_638 rfl 3 rfl ?_
  refine x_iload_n hE dL_law_639 rfl 0 rfl ?_
  refine x_iconst (v := 3) hE dL_law_640 (by decide) ?_
  refine x_iadd hE dL_law_641 ?_
  refine x_norm (y := 3) (by decide) ?_
  refine s_ld (iN := 3) hE hs (by decide) (by decide) (by omega) dL_law_642 ?_
  refine c_i hE (r_V (st := [.int r1]) hE (m_steal l D cy Lb σ φ ρ (xs 1) (xs 2) (xs 3) hm hm0) q1864 q1865 q1866 q124 q1867 hm.1 rfl ⟨by decide, by decide, pn_X12_steal⟩ ⟨Nat.le_of_ble_eq_true rfl, Nat.le_of_ble_eq_true rfl⟩ ⟨Nat.le_of_ble_eq_true rfl, Nat.le_of_ble_eq_true rfl⟩ rfl (Nat.le_of_ble_eq_true rfl) dL_law_643) (fun r2 L2 σ2 φ2 ρ2 e2 => ?_)
  refine x_widen (k' := 1000) (n' := 64000) (Nat.le_of_ble_eq_true rfl) (Nat.le_of_ble_eq_true rfl) ?_
  refine x_icmp_eq (tgt := 1608) hE dL_law_646 (by decide) (fun c_646 => ?_) (fun c_646 => absurd (e1.trans e2.symm) c_646)
  exact hend _ _ _ _
set_option maxHeartbeats 4000000 in
set_option maxRecDepth 100000 in
theorem lc_13 {E : zCx} {l : Launch} {D : va_G} {cy : Nat → ClassId} {b x mm : Nat} {r : Nat → Nat} {xs : Nat → Int32} {La Lb : List Nat} {σ : Nat → va_E} {φ : Nat → Nat → Nat → Int32} {ρ : Nat → Nat → Int32} (hE : zOk E l D cy R_law code 4 room_1) (hs : zSc E b 7 xs) (hx : zOR cy La σ φ x) (hm : zModel cy Lb σ mm r) (hm0 : zMo0 φ ρ mm r) (hend : ∀ (L : List Nat) (σ : Nat → va_E) (φ : Nat → Nat → Nat → Int32) (ρ : Nat → Nat → Int32), zW E 1000 64000 L σ φ ρ 1608 [(3, .int 0), (2, .ref mm), (1, .ref x), (0, .ref b)] []) : zW E 800 60000 (La ++ Lb) σ φ ρ 651 [(3, .int 0), (2, .ref mm), (1, .ref x), (0, .ref b)] [] := by
  obtain ⟨SX, hxT⟩ := hx.at
  refine x_aload_n hE dL_law_651 rfl 2 rfl ?_
  refine x_aload_n hE dL_law_652 rfl 3 rfl ?_
  refine x_iload_n hE dL_law_653 rfl 0 rfl ?_
  refine x_iconst (v := 1) hE dL_law_654 (by decide) ?_
  refine x_iadd hE dL_law_655 ?_
  refine x_norm (y := 1) (by decide) ?_
  refine s_ld (iN := 1) hE hs (by decide) (by decide) (by omega) dL_law_656 ?_
  refine x_aload_n hE dL_law_657 rfl 3 rfl ?_
  refine x_iload_n hE dL_law_658 rfl 0 rfl ?_
  refine x_iconst (v := 2) hE dL_law_659 (by decide) ?_
  refine x_iadd hE dL_law_660 ?_
  refine x_norm (y := 2) (by decide) ?_
  refine s_ld (iN := 2) hE hs (by decide) (by decide) (by omega) dL_law_661 ?_
  refine c_iK hE (r_VA (st := []) hE (o_pour l D cy La σ φ ρ (xs 1) (xs 2) hx) q1073 q1074 q1075 q113 q1076 hxT rfl ⟨by decide, by decide, pn_X11_pour⟩ ⟨Nat.le_of_ble_eq_true rfl, Nat.le_of_ble_eq_true rfl⟩ ⟨Nat.le_of_ble_eq_true rfl, Nat.le_of_ble_eq_true rfl⟩ rfl (Nat.le_of_ble_eq_true rfl) dL_law_662) (fun r1 u1 e1 => ?_)
  refine x_widen (k' := 900) (n' := 62000) (Nat.le_of_ble_eq_true rfl) (Nat.le_of_ble_eq_true rfl) ?_
  refine x_aload_n hE dL_law_665 rfl 1 rfl ?_
  refine x_aload_n hE dL_law_666 rfl 3 rfl ?_
  refine x_iload_n hE dL_law_667 rfl 0 rfl ?_
  refine x_iconst (v := 1) hE dL_law_668 (by decide) ?_
  refine x_iadd hE dL_law_669 ?_
  refine x_norm (y := 1) (by decide) ?_
  refine s_ld (iN := 1) hE hs (by decide) (by decide) (by omega) dL_law_670 ?_
  refine x_aload_n hE dL_law_671 rfl 3 rfl ?_
  refine x_iload_n hE dL_law_672 rfl 0 rfl ?_
  refine x_iconst (v := 2) hE dL_law_673 (by decide) ?_
  refine x_iadd hE dL_law_674 ?_
  refine x_norm (y := 2) (by decide) ?_
  refine s_ld (iN := 2) hE hs (by decide) (by decide) (by omega) dL_law_675 ?_
  refine c_i hE (r_V (st := [.int r1]) hE (m_pour l D cy Lb σ φ ρ (xs 1) (xs 2) hm hm0) q1876 q1877 q1878 q124 q1879 hm.1 rfl ⟨by decide, by decide, pn_X12_pour⟩ ⟨Nat.le_of_ble_eq_true rfl, Nat.le_of_ble_eq_true rfl⟩ ⟨Nat.le_of_ble_eq_true rfl, Nat.le_of_ble_eq_true rfl⟩ rfl (Nat.le_of_ble_eq_true rfl) dL_law_676) (fun r2 L2 σ2 φ2 ρ2 e2 => ?_)
  refine x_widen (k' := 1000) (n' := 64000) (Nat.le_of_ble_eq_true rfl) (Nat.le_of_ble_eq_true rfl) ?_
  refine x_icmp_eq (tgt := 1608) hE dL_law_679 (by decide) (fun c_679 => ?_) (fun c_679 => absurd (e1.trans e2.symm) c_679)
  exact hend _ _ _ _
