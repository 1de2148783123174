theorem lc_0 {G : GC} {E : SH} {b L X z0 i : Nat} {xs : Nat → Int32} {nm : String} (hX : XS G E X) (hM : MS G E (X + 138)) (hEz : E.1 = z0 + 156) (hL : L ≤ 3072) (hi : i + 6 ≤ L) {A : AA} {D : DD} {T : FT} {iv : IV} {lv : LV} (hI : Inv X A D T iv lv) (ih : ∀ A D T iv lv, Inv X A D T iv lv → AW G (mLw nm) room_1 ZL (XL G b L xs) z0 1281 [some (.ref b), some (.ref X), some (.ref (X + 138)), some (.int (nI i))] [] E iv lv) : AW G (mLw nm) room_1 ZL (XL G b L xs) z0 208 [some (.ref b), some (.ref X), some (.ref (X + 138)), some (.int (nI i))] [] E iv lv := by
  refine aw_aload_n dL_law_208 rfl ?_
  refine aw_aload_n dL_law_209 rfl ?_
  refine aw_iload_n dL_law_210 rfl ?_
  refine aw_iconst (v := nI 1) dL_law_211 kc_1 ?_
  refine aw_iadd dL_law_212 ?_
  rw [nI_add]
  refine aw_sld dL_law_213 rfl (by omega) hL ?_
  refine aw_aload_n dL_law_214 rfl ?_
  refine aw_iload_n dL_law_215 rfl ?_
  refine aw_iconst (v := nI 2) dL_law_216 kc_2 ?_
  refine aw_iadd dL_law_217 ?_
  rw [nI_add]
  refine aw_sld dL_law_218 rfl (by omega) hL ?_
  refine aw_sVi [_, _] dL_law_219 cvL_13 (XS.s0 hX) (x_row hX hI.1.1 hI.1.2.1 hI.2.2.1 (xs (i + 1)) (xs (i + 2))) rfl rfl (Nat.le_of_ble_eq_true rfl) (rbL (by omega) (by decide) (by decide)) (fun v1 i1 l1 q1 => ?_)
  replace q1 := QX_C q1 hI.1.2.2
  obtain ⟨n1, n2, n3⟩ := inv_M hI q1
  refine aw_aload_n dL_law_222 rfl ?_
  refine aw_aload_n dL_law_223 rfl ?_
  refine aw_iload_n dL_law_224 rfl ?_
  refine aw_iconst (v := nI 1) dL_law_225 kc_1 ?_
  refine aw_iadd dL_law_226 ?_
  rw [nI_add]
  refine aw_sld dL_law_227 rfl (by omega) hL ?_
  refine aw_aload_n dL_law_228 rfl ?_
  refine aw_iload_n dL_law_229 rfl ?_
  refine aw_iconst (v := nI 2) dL_law_230 kc_2 ?_
  refine aw_iadd dL_law_231 ?_
  rw [nI_add]
  refine aw_sld dL_law_232 rfl (by omega) hL ?_
  refine aw_sVi [_, _] dL_law_233 cvL_17 (MS.s0 hM) (m_row hM n1 n2 hI.2.2.1 (xs (i + 1)) (xs (i + 2))) rfl rfl (Nat.le_of_ble_eq_true rfl) (rbL (by omega) (by decide) (by decide)) (fun v2 i2 l2 q2 => ?_)
  replace q2 := QM_D q2 n3
  obtain ⟨e12, hI2⟩ := inv_QQ q1 q2 (D := D) (T := T) ⟨kw_row (xs (i + 1)) (xs (i + 2)) hI.2.2.1, hI.2.2.2⟩
  refine aw_icmp_eq (tgt := 1281) dL_law_236 rfl (fun h236 => ?_) (fun h236 => absurd e12 h236)
  exact ih _ _ _ _ _ hI2
theorem lc_1 {G : GC} {E : SH} {b L X z0 i : Nat} {xs : Nat → Int32} {nm : String} (hX : XS G E X) (hM : MS G E (X + 138)) (hEz : E.1 = z0 + 156) (hL : L ≤ 3072) (hi : i + 6 ≤ L) {A : AA} {D : DD} {T : FT} {iv : IV} {lv : LV} (hI : Inv X A D T iv lv) (ih : ∀ A D T iv lv, Inv X A D T iv lv → AW G (mLw nm) room_1 ZL (XL G b L xs) z0 1281 [some (.ref b), some (.ref X), some (.ref (X + 138)), some (.int (nI i))] [] E iv lv) : AW G (mLw nm) room_1 ZL (XL G b L xs) z0 241 [some (.ref b), some (.ref X), some (.ref (X + 138)), some (.int (nI i))] [] E iv lv := by
  refine aw_aload_n dL_law_241 rfl ?_
  refine aw_aload_n dL_law_242 rfl ?_
  refine aw_iload_n dL_law_243 rfl ?_
  refine aw_iconst (v := nI 1) dL_law_244 kc_1 ?_
  refine aw_iadd dL_law_245 ?_
  rw [nI_add]
  refine aw_sld dL_law_246 rfl (by omega) hL ?_
  refine aw_aload_n dL_law_247 rfl ?_
  refine aw_iload_n dL_law_248 rfl ?_
  refine aw_iconst (v := nI 2) dL_law_249 kc_2 ?_
  refine aw_iadd dL_law_250 ?_
  rw [nI_add]
  refine aw_sld dL_law_251 rfl (by omega) hL ?_
  refine aw_aload_n dL_law_252 rfl ?_
  refine aw_iload_n dL_law_253 rfl ?_
  refine aw_iconst (v := nI 3) dL_law_254 kc_3 ?_
  refine aw_iadd dL_law_255 ?_
  rw [nI_add]
  refine aw_sld dL_law_256 rfl (by omega) hL ?_
  refine aw_sVi [_, _, _] dL_law_257 cvL_18 (XS.s0 hX) (x_lay hX hI.1.1 hI.1.2.1 hI.2.2.1 (xs (i + 1)) (xs (i + 2)) (xs (i + 3))) rfl rfl (Nat.le_of_ble_eq_true rfl) (rbL (by omega) (by decide) (by decide)) (fun v1 i1 l1 q1 => ?_)
  replace q1 := QX_C q1 hI.1.2.2
  obtain ⟨n1, n2, n3⟩ := inv_M hI q1
  refine aw_aload_n dL_law_260 rfl ?_
  refine aw_aload_n dL_law_261 rfl ?_
  refine aw_iload_n dL_law_262 rfl ?_
  refine aw_iconst (v := nI 1) dL_law_263 kc_1 ?_
  refine aw_iadd dL_law_264 ?_
  rw [nI_add]
  refine aw_sld dL_law_265 rfl (by omega) hL ?_
  refine aw_aload_n dL_law_266 rfl ?_
  refine aw_iload_n dL_law_267 rfl ?_
  refine aw_iconst (v := nI 2) dL_law_268 kc_2 ?_
  refine aw_iadd dL_law_269 ?_
  rw [nI_add]
  refine aw_sld dL_law_270 rfl (by omega) hL ?_
  refine aw_aload_n dL_law_271 rfl ?_
  refine aw_iload_n dL_law_272 rfl ?_
  refine aw_iconst (v := nI 3) dL_law_273 kc_3 ?_
  refine aw_iadd dL_law_274 ?_
  rw [nI_add]
  refine aw_sld dL_law_275 rfl (by omega) hL ?_
  refine aw_sVi [_, _, _] dL_law_276 cvL_22 (MS.s0 hM) (m_lay hM n1 n2 hI.2.2.1 (xs (i + 1)) (xs (i + 2)) (xs (i + 3))) rfl rfl (Nat.le_of_ble_eq_true rfl) (rbL (by omega) (by decide) (by decide)) (fun v2 i2 l2 q2 => ?_)
  replace q2 := QM_D q2 n3
  obtain ⟨e12, hI2⟩ := inv_QQ q1 q2 (D := D) (T := T) ⟨kw_lay (xs (i + 1)) (xs (i + 2)) (xs (i + 3)) hI.2.2.1, hI.2.2.2⟩
  refine aw_icmp_eq (tgt := 1281) dL_law_279 rfl (fun h279 => ?_) (fun h279 => absurd e12 h279)
  exact ih _ _ _ _ _ hI2
theorem lc_2 {G : GC} {E : SH} {b L X z0 i : Nat} {xs : Nat → Int32} {nm : String} (hX : XS G E X) (hM : MS G E (X + 138)) (hEz : E.1 = z0 + 156) (hL : L ≤ 3072) (hi : i + 6 ≤ L) {A : AA} {D : DD} {T : FT} {iv : IV} {lv : LV} (hI : Inv X A D T iv lv) (ih : ∀ A D T iv lv, Inv X A D T iv lv → AW G (mLw nm) room_1 ZL (XL G b L xs) z0 1281 [some (.ref b), some (.ref X), some (.ref (X + 138)), some (.int (nI i))] [] E iv lv) : AW G (mLw nm) room_1 ZL (XL G b L xs) z0 284 [some (.ref b), some (.ref X), some (.ref (X + 138)), some (.int (nI i))] [] E iv lv := by
  refine aw_aload_n dL_law_284 rfl ?_
  refine aw_aload_n dL_law_285 rfl ?_
  refine aw_iload_n dL_law_286 rfl ?_
  refine aw_iconst (v := nI 1) dL_law_287 kc_1 ?_
  refine aw_iadd dL_law_288 ?_
  rw [nI_add]
  refine aw_sld dL_law_289 rfl (by omega) hL ?_
  refine aw_aload_n dL_law_290 rfl ?_
  refine aw_iload_n dL_law_291 rfl ?_
  refine aw_iconst (v := nI 2) dL_law_292 kc_2 ?_
  refine aw_iadd dL_law_293 ?_
  rw [nI_add]
  refine aw_sld dL_law_294 rfl (by omega) hL ?_
  refine aw_sVi [_, _] dL_law_295 cvL_23 (XS.s0 hX) (x_at hX hI.1.1 hI.1.2.1 hI.2.2.1 (xs (i + 1)) (xs (i + 2))) rfl rfl (Nat.le_of_ble_eq_true rfl) (rbL (by omega) (by decide) (by decide)) (fun v1 i1 l1 q1 => ?_)
  replace q1 := QX_C q1 hI.1.2.2
  obtain ⟨n1, n2, n3⟩ := inv_M hI q1
  refine aw_aload_n dL_law_298 rfl ?_
  refine aw_aload_n dL_law_299 rfl ?_
  refine aw_iload_n dL_law_300 rfl ?_
  refine aw_iconst (v := nI 1) dL_law_301 kc_1 ?_
  refine aw_iadd dL_law_302 ?_
  rw [nI_add]
  refine aw_sld dL_law_303 rfl (by omega) hL ?_
  refine aw_aload_n dL_law_304 rfl ?_
  refine aw_iload_n dL_law_305 rfl ?_
  refine aw_iconst (v := nI 2) dL_law_306 kc_2 ?_
  refine aw_iadd dL_law_307 ?_
  rw [nI_add]
  refine aw_sld dL_law_308 rfl (by omega) hL ?_
  refine aw_sVi [_, _] dL_law_309 cvL_26 (MS.s0 hM) (m_at hM n1 n2 hI.2.2.1 (xs (i + 1)) (xs (i + 2))) rfl rfl (Nat.le_of_ble_eq_true rfl) (rbL (by omega) (by decide) (by decide)) (fun v2 i2 l2 q2 => ?_)
  replace q2 := QM_D q2 n3
  obtain ⟨e12, hI2⟩ := inv_QQ q1 q2 (D := D) (T := T) ⟨kw_at (xs (i + 1)) (xs (i + 2)) hI.2.2.1, hI.2.2.2⟩
  refine aw_icmp_eq (tgt := 1281) dL_law_312 rfl (fun h312 => ?_) (fun h312 => absurd e12 h312)
  exact ih _ _ _ _ _ hI2
theorem lc_3 {G : GC} {E : SH} {b L X z0 i : Nat} {xs : Nat → Int32} {nm : String} (hX : XS G E X) (hM : MS G E (X + 138)) (hEz : E.1 = z0 + 156) (hL : L ≤ 3072) (hi : i + 6 ≤ L) {A : AA} {D : DD} {T : FT} {iv : IV} {lv : LV} (hI : Inv X A D T iv lv) (ih : ∀ A D T iv lv, Inv X A D T iv lv → AW G (mLw nm) room_1 ZL (XL G b L xs) z0 1281 [some (.ref b), some (.ref X), some (.ref (X + 138)), some (.int (nI i))] [] E iv lv) : AW G (mLw nm) room_1 ZL (XL G b L xs) z0 317 [some (.ref b), some (.ref X), some (.ref (X + 138)), some (.int (nI i))] [] E iv lv := by
  refine aw_aload_n dL_law_317 rfl ?_
  refine aw_aload_n dL_law_318 rfl ?_
  refine aw_iload_n dL_law_319 rfl ?_
  refine aw_iconst (v := nI 1) dL_law_320 kc_1 ?_
  refine aw_iadd dL_law_321 ?_
  rw [nI_add]
  refine aw_sld dL_law_322 rfl (by omega) hL ?_
  refine aw_sVi [_] dL_law_323 cvL_27 (XS.s0 hX) (x_tear hX hI.1.1 hI.1.2.1 hI.2.2.1 (xs (i + 1))) rfl rfl (Nat.le_of_ble_eq_true rfl) (rbL (by omega) (by decide) (by decide)) (fun v1 i1 l1 q1 => ?_)
  replace q1 := QX_C q1 hI.1.2.2
  obtain ⟨n1, n2, n3⟩ := inv_M hI q1
  refine aw_aload_n dL_law_326 rfl ?_
  refine aw_aload_n dL_law_327 rfl ?_
  refine aw_iload_n dL_law_328 rfl ?_
  refine aw_iconst (v := nI 1) dL_law_329 kc_1 ?_
  refine aw_iadd dL_law_330 ?_
  rw [nI_add]
  refine aw_sld dL_law_331 rfl (by omega) hL ?_
  refine aw_sVi [_] dL_law_332 cvL_31 (MS.s0 hM) (m_tear hM n1 n2 hI.2.2.1 (xs (i + 1))) rfl rfl (Nat.le_of_ble_eq_true rfl) (rbL (by omega) (by decide) (by decide)) (fun v2 i2 l2 q2 => ?_)
  replace q2 := QM_D q2 n3
  obtain ⟨e12, hI2⟩ := inv_QQ q1 q2 (D := D) (T := T) ⟨kw_tear (xs (i + 1)) hI.2.2.1, hI.2.2.2⟩
  refine aw_icmp_eq (tgt := 1281) dL_law_335 rfl (fun h335 => ?_) (fun h335 => absurd e12 h335)
  exact ih _ _ _ _ _ hI2
theorem lc_4 {G : GC} {E : SH} {b L X z0 i : Nat} {xs : Nat → Int32} {nm : String} (hX : XS G E X) (hM : MS G E (X + 138)) (hEz : E.1 = z0 + 156) (hL : L ≤ 3072) (hi : i + 6 ≤ L) {A : AA} {D : DD} {T : FT} {iv : IV} {lv : LV} (hI : Inv X A D T iv lv) (ih : ∀ A D T iv lv, Inv X A D T iv lv → AW G (mLw nm) room_1 ZL (XL G b L xs) z0 1281 [some (.ref b), some (.ref X), some (.ref (X + 138)), some (.int (nI i))] [] E iv lv) : AW G (mLw nm) room_1 ZL (XL G b L xs) z0 340 [some (.ref b), some (.ref X), some (.ref (X + 138)), some (.int (nI i))] [] E iv lv := by
  refine aw_aload_n dL_law_340 rfl ?_
  refine aw_aload_n dL_law_341 rfl ?_
  refine aw_iload_n dL_law_342 rfl ?_
  refine aw_iconst (v := nI 1) dL_law_343 kc_1 ?_
  refine aw_iadd dL_law_344 ?_
  rw [nI_add]
  refine aw_sld dL_law_345 rfl (by omega) hL ?_
  refine aw_aload_n dL_law_346 rfl ?_
  refine aw_iload_n dL_law_347 rfl ?_
  refine aw_iconst (v := nI 2) dL_law_348 kc_2 ?_
  refine aw_iadd dL_law_349 ?_
  rw [nI_add]
  refine aw_sld dL_law_350 rfl (by omega) hL ?_
  refine aw_aload_n dL_law_351 rfl ?_
  refine aw_iload_n dL_law_352 rfl ?_
  refine aw_iconst (v := nI 3) dL_law_353 kc_3 ?_
  refine aw_iadd dL_law_354 ?_
  rw [nI_add]
  refine aw_sld dL_law_355 rfl (by omega) hL ?_
  refine aw_aload_n dL_law_356 rfl ?_
  refine aw_iload_n dL_law_357 rfl ?_
  refine aw_iconst (v := nI 4) dL_law_358 kc_4 ?_
  refine aw_iadd dL_law_359 ?_
  rw [nI_add]
  refine aw_sld dL_law_360 rfl (by omega) hL ?_
  refine aw_aload_n dL_law_361 rfl ?_
  refine aw_iload_n dL_law_362 rfl ?_
  refine aw_iconst (v := nI 5) dL_law_363 kc_5 ?_
  refine aw_iadd dL_law_364 ?_
  rw [nI_add]
  refine aw_sld dL_law_365 rfl (by omega) hL ?_
  refine aw_sVi [_, _, _, _, _] dL_law_366 cvL_32 (XS.s0 hX) (x_copy hX hI.1.1 hI.1.2.1 hI.2.2.1 (xs (i + 1)) (xs (i + 2)) (xs (i + 3)) (xs (i + 4)) (xs (i + 5))) rfl rfl (Nat.le_of_ble_eq_true rfl) (rbL (by omega) (by decide) (by decide)) (fun v1 i1 l1 q1 => ?_)
  replace q1 := QX_C q1 hI.1.2.2
  obtain ⟨n1, n2, n3⟩ := inv_M hI q1
  refine aw_aload_n dL_law_369 rfl ?_
  refine aw_aload_n dL_law_370 rfl ?_
  refine aw_iload_n dL_law_371 rfl ?_
  refine aw_iconst (v := nI 1) dL_law_372 kc_1 ?_
  refine aw_iadd dL_law_373 ?_
  rw [nI_add]
  refine aw_sld dL_law_374 rfl (by omega) hL ?_
  refine aw_aload_n dL_law_375 rfl ?_
  refine aw_iload_n dL_law_376 rfl ?_
  refine aw_iconst (v := nI 2) dL_law_377 kc_2 ?_
  refine aw_iadd dL_law_378 ?_
  rw [nI_add]
  refine aw_sld dL_law_379 rfl (by omega) hL ?_
  refine aw_aload_n dL_law_380 rfl ?_
  refine aw_iload_n dL_law_381 rfl ?_
  refine aw_iconst (v := nI 3) dL_law_382 kc_3 ?_
  refine aw_iadd dL_law_383 ?_
  rw [nI_add]
  refine aw_sld dL_law_384 rfl (by omega) hL ?_
  refine aw_aload_n dL_law_385 rfl ?_
  refine aw_iload_n dL_law_386 rfl ?_
  refine aw_iconst (v := nI 4) dL_law_387 kc_4 ?_
  refine aw_iadd dL_law_388 ?_
  rw [nI_add]
  refine aw_sld dL_law_389 rfl (by omega) hL ?_
  refine aw_aload_n dL_law_390 rfl ?_
  refine aw_iload_n dL_law_391 rfl ?_
  refine aw_iconst (v := nI 5) dL_law_392 kc_5 ?_
  refine aw_iadd dL_law_393 ?_
  rw [nI_add]
  refine aw_sld dL_law_394 rfl (by omega) hL ?_
  refine aw_sVi [_, _, _, _, _] dL_law_395 cvL_36 (MS.s0 hM) (m_copy hM n1 n2 hI.2.2.1 (xs (i + 1)) (xs (i + 2)) (xs (i + 3)) (xs (i + 4)) (xs (i + 5))) rfl rfl (Nat.le_of_ble_eq_true rfl) (rbL (by omega) (by decide) (by decide)) (fun v2 i2 l2 q2 => ?_)
  replace q2 := QM_D q2 n3
  obtain ⟨e12, hI2⟩ := inv_QQ q1 q2 (D := D) (T := T) ⟨kw_copy (xs (i + 1)) (xs (i + 2)) (xs (i + 3)) (xs (i + 4)) (xs (i + 5)) hI.2.2.1, hI.2.2.2⟩
  refine aw_icmp_eq (tgt := 1281) dL_law_398 rfl (fun h398 => ?_) (fun h398 => absurd e12 h398)
  exact ih _ _ _ _ _ hI2
theorem lc_5 {G : GC} {E : SH} {b L X z0 i : Nat} {xs : Nat → Int32} {nm : String} (hX : XS G E X) (hM : MS G E (X + 138)) (hEz : E.1 = z0 + 156) (hL : L ≤ 3072) (hi : i + 6 ≤ L) {A : AA} {D : DD} {T : FT} {iv : IV} {lv : LV} (hI : Inv X A D T iv lv) (ih : ∀ A D T iv lv, Inv X A D T iv lv → AW G (mLw nm) room_1 ZL (XL G b L xs) z0 1281 [some (.ref b), some (.ref X), some (.ref (X + 138)), some (.int (nI i))] [] E iv lv) : AW G (mLw nm) room_1 ZL (XL G b L xs) z0 403 [some (.ref b), some (.ref X), some (.ref (X + 138)), some (.int (nI i))] [] E iv lv := by
  refine aw_aload_n dL_law_403 rfl ?_
  refine aw_aload_n dL_law_404 rfl ?_
  refine aw_iload_n dL_law_405 rfl ?_
  refine aw_iconst (v := nI 1) dL_law_406 kc_1 ?_
  refine aw_iadd dL_law_407 ?_
  rw [nI_add]
  refine aw_sld dL_law_408 rfl (by omega) hL ?_
  refine aw_sVi [_] dL_law_409 cvL_37 (XS.s0 hX) (x_mean hX hI.1.1 hI.1.2.1 hI.2.2.1 (xs (i + 1))) rfl rfl (Nat.le_of_ble_eq_true rfl) (rbL (by omega) (by decide) (by decide)) (fun v1 i1 l1 q1 => ?_)
  replace q1 := QX_C q1 hI.1.2.2
  obtain ⟨n1, n2, n3⟩ := inv_M hI q1
  refine aw_aload_n dL_law_412 rfl ?_
  refine aw_aload_n dL_law_413 rfl ?_
  refine aw_iload_n dL_law_414 rfl ?_
  refine aw_iconst (v := nI 1) dL_law_415 kc_1 ?_
  refine aw_iadd dL_law_416 ?_
  rw [nI_add]
  refine aw_sld dL_law_417 rfl (by omega) hL ?_
  refine aw_sVi [_] dL_law_418 cvL_40 (MS.s0 hM) (m_mean hM n1 n2 hI.2.2.1 (xs (i + 1))) rfl rfl (Nat.le_of_ble_eq_true rfl) (rbL (by omega) (by decide) (by decide)) (fun v2 i2 l2 q2 => ?_)
  replace q2 := QM_D q2 n3
  obtain ⟨e12, hI2⟩ := inv_QQ q1 q2 (D := D) (T := T) ⟨kw_mean (xs (i + 1)) hI.2.2.1, hI.2.2.2⟩
  refine aw_icmp_eq (tgt := 1281) dL_law_421 rfl (fun h421 => ?_) (fun h421 => absurd e12 h421)
  exact ih _ _ _ _ _ hI2
theorem lc_6 {G : GC} {E : SH} {b L X z0 i : Nat} {xs : Nat → Int32} {nm : String} (hX : XS G E X) (hM : MS G E (X + 138)) (hEz : E.1 = z0 + 156) (hL : L ≤ 3072) (hi : i + 6 ≤ L) {A : AA} {D : DD} {T : FT} {iv : IV} {lv : LV} (hI : Inv X A D T iv lv) (ih : ∀ A D T iv lv, Inv X A D T iv lv → AW G (mLw nm) room_1 ZL (XL G b L xs) z0 1281 [some (.ref b), some (.ref X), some (.ref (X + 138)), some (.int (nI i))] [] E iv lv) : AW G (mLw nm) room_1 ZL (XL G b L xs) z0 426 [some (.ref b), some (.ref X), some (.ref (X + 138)), some (.int (nI i))] [] E iv lv := by
  refine aw_aload_n dL_law_426 rfl ?_
  refine aw_aload_n dL_law_427 rfl ?_
  refine aw_iload_n dL_law_428 rfl ?_
  refine aw_iconst (v := nI 1) dL_law_429 kc_1 ?_
  refine aw_iadd dL_law_430 ?_
  rw [nI_add]
  refine aw_sld dL_law_431 rfl (by omega) hL ?_
  refine aw_aload_n dL_law_432 rfl ?_
  refine aw_iload_n dL_law_433 rfl ?_
  refine aw_iconst (v := nI 2) dL_law_434 kc_2 ?_
  refine aw_iadd dL_law_435 ?_
  rw [nI_add]
  refine aw_sld dL_law_436 rfl (by omega) hL ?_
  refine aw_sVi [_, _] dL_law_437 cvL_41 (XS.s0 hX) (x_text hX hI.1.1 hI.1.2.1 hI.2.2.1 (xs (i + 1)) (xs (i + 2))) rfl rfl (Nat.le_of_ble_eq_true rfl) (rbL (by omega) (by decide) (by decide)) (fun v1 i1 l1 q1 => ?_)
  replace q1 := QX_C q1 hI.1.2.2
  obtain ⟨n1, n2, n3⟩ := inv_M hI q1
  refine aw_aload_n dL_law_440 rfl ?_
  refine aw_aload_n dL_law_441 rfl ?_
  refine aw_iload_n dL_law_442 rfl ?_
  refine aw_iconst (v := nI 1) dL_law_443 kc_1 ?_
  refine aw_iadd dL_law_444 ?_
  rw [nI_add]
  refine aw_sld dL_law_445 rfl (by omega) hL ?_
  refine aw_aload_n dL_law_446 rfl ?_
  refine aw_iload_n dL_law_447 rfl ?_
  refine aw_iconst (v := nI 2) dL_law_448 kc_2 ?_
  refine aw_iadd dL_law_449 ?_
  rw [nI_add]
  refine aw_sld dL_law_450 rfl (by omega) hL ?_
  refine aw_sVi [_, _] dL_law_451 cvL_44 (MS.s0 hM) (m_text hM n1 n2 hI.2.2.1 (xs (i + 1)) (xs (i + 2))) rfl rfl (Nat.le_of_ble_eq_true rfl) (rbL (by omega) (by decide) (by decide)) (fun v2 i2 l2 q2 => ?_)
  replace q2 := QM_D q2 n3
  obtain ⟨e12, hI2⟩ := inv_QQ q1 q2 (D := D) (T := T) ⟨kw_text (xs (i + 1)) (xs (i + 2)) hI.2.2.1, hI.2.2.2⟩
  refine aw_icmp_eq (tgt := 1281) dL_law_454 rfl (fun h454 => ?_) (fun h454 => absurd e12 h454)
  exact ih _ _ _ _ _ hI2
theorem lc_7 {G : GC} {E : SH} {b L X z0 i : Nat} {xs : Nat → Int32} {nm : String} (hX : XS G E X) (hM : MS G E (X + 138)) (hEz : E.1 = z0 + 156) (hL : L ≤ 3072) (hi : i + 6 ≤ L) {A : AA} {D : DD} {T : FT} {iv : IV} {lv : LV} (hI : Inv X A D T iv lv) (ih : ∀ A D T iv lv, Inv X A D T iv lv → AW G (mLw nm) room_1 ZL (XL G b L xs) z0 1281 [some (.ref b), some (.ref X), some (.ref (X + 138)), some (.int (nI i))] [] E iv lv) : AW G (mLw nm) room_1 ZL (XL G b L xs) z0 459 [some (.ref b), some (.ref X), some (.ref (X + 138)), some (.int (nI i))] [] E iv lv := by
  refine aw_aload_n dL_law_459 rfl ?_
  refine aw_aload_n dL_law_460 rfl ?_
  refine aw_iload_n dL_law_461 rfl ?_
  refine aw_iconst (v := nI 1) dL_law_462 kc_1 ?_
  refine aw_iadd dL_law_463 ?_
  rw [nI_add]
  refine aw_sld dL_law_464 rfl (by omega) hL ?_
  refine aw_aload_n dL_law_465 rfl ?_
  refine aw_iload_n dL_law_466 rfl ?_
  refine aw_iconst (v := nI 2) dL_law_467 kc_2 ?_
  refine aw_iadd dL_law_468 ?_
  rw [nI_add]
  refine aw_sld dL_law_469 rfl (by omega) hL ?_
  refine aw_aload_n dL_law_470 rfl ?_
  refine aw_iload_n dL_law_471 rfl ?_
  refine aw_iconst (v := nI 3) dL_law_472 kc_3 ?_
  refine aw_iadd dL_law_473 ?_
  rw [nI_add]
  refine aw_sld dL_law_474 rfl (by omega) hL ?_
  refine aw_sVi [_, _, _] dL_law_475 cvL_45 (XS.s0 hX) (x_put hX hI.1.1 hI.1.2.1 hI.2.2.1 (xs (i + 1)) (xs (i + 2)) (xs (i + 3))) rfl rfl (Nat.le_of_ble_eq_true rfl) (rbL (by omega) (by decide) (by decide)) (fun v1 i1 l1 q1 => ?_)
  replace q1 := QX_C q1 hI.1.2.2
  obtain ⟨n1, n2, n3⟩ := inv_M hI q1
  refine aw_aload_n dL_law_478 rfl ?_
  refine aw_aload_n dL_law_479 rfl ?_
  refine aw_iload_n dL_law_480 rfl ?_
  refine aw_iconst (v := nI 1) dL_law_481 kc_1 ?_
  refine aw_iadd dL_law_482 ?_
  rw [nI_add]
  refine aw_sld dL_law_483 rfl (by omega) hL ?_
  refine aw_aload_n dL_law_484 rfl ?_
  refine aw_iload_n dL_law_485 rfl ?_
  refine aw_iconst (v := nI 2) dL_law_486 kc_2 ?_
  refine aw_iadd dL_law_487 ?_
  rw [nI_add]
  refine aw_sld dL_law_488 rfl (by omega) hL ?_
  refine aw_aload_n dL_law_489 rfl ?_
  refine aw_iload_n dL_law_490 rfl ?_
  refine aw_iconst (v := nI 3) dL_law_491 kc_3 ?_
  refine aw_iadd dL_law_492 ?_
  rw [nI_add]
  refine aw_sld dL_law_493 rfl (by omega) hL ?_
  refine aw_sVi [_, _, _] dL_law_494 cvL_48 (MS.s0 hM) (m_put hM n1 n2 hI.2.2.1 (xs (i + 1)) (xs (i + 2)) (xs (i + 3))) rfl rfl (Nat.le_of_ble_eq_true rfl) (rbL (by omega) (by decide) (by decide)) (fun v2 i2 l2 q2 => ?_)
  replace q2 := QM_D q2 n3
  obtain ⟨e12, hI2⟩ := inv_QQ q1 q2 (D := D) (T := T) ⟨kw_put (xs (i + 1)) (xs (i + 2)) (xs (i + 3)) hI.2.2.1, hI.2.2.2⟩
  refine aw_icmp_eq (tgt := 1281) dL_law_497 rfl (fun h497 => ?_) (fun h497 => absurd e12 h497)
  exact ih _ _ _ _ _ hI2
theorem lc_8 {G : GC} {E : SH} {b L X z0 i : Nat} {xs : Nat → Int32} {nm : String} (hX : XS G E X) (hM : MS G E (X + 138)) (hEz : E.1 = z0 + 156) (hL : L ≤ 3072) (hi : i + 6 ≤ L) {A : AA} {D : DD} {T : FT} {iv : IV} {lv : LV} (hI : Inv X A D T iv lv) (ih : ∀ A D T iv lv, Inv X A D T iv lv → AW G (mLw nm) room_1 ZL (XL G b L xs) z0 1281 [some (.ref b), some (.ref X), some (.ref (X + 138)), some (.int (nI i))] [] E iv lv) : AW G (mLw nm) room_1 ZL (XL G b L xs) z0 502 [some (.ref b), some (.ref X), some (.ref (X + 138)), some (.int (nI i))] [] E iv lv := by
  refine aw_aload_n dL_law_502 rfl ?_
  refine aw_aload_n dL_law_503 rfl ?_
  refine aw_iload_n dL_law_504 rfl ?_
  refine aw_iconst (v := nI 1) dL_law_505 kc_1 ?_
  refine aw_iadd dL_law_506 ?_
  rw [nI_add]
  refine aw_sld dL_law_507 rfl (by omega) hL ?_
  refine aw_sVi [_] dL_law_508 cvL_49 (XS.s0 hX) (x_fault hX hI.1.1 hI.1.2.1 hI.1.2.2 hI.2.2.2 hI.2.2.1 (xs (i + 1))) rfl rfl (Nat.le_of_ble_eq_true rfl) (rbL (by omega) (by decide) (by decide)) (fun v1 i1 l1 q1 => ?_)
  obtain ⟨n1, n2, n3⟩ := inv_M hI q1
  refine aw_aload_n dL_law_511 rfl ?_
  refine aw_aload_n dL_law_512 rfl ?_
  refine aw_iload_n dL_law_513 rfl ?_
  refine aw_iconst (v := nI 1) dL_law_514 kc_1 ?_
  refine aw_iadd dL_law_515 ?_
  rw [nI_add]
  refine aw_sld dL_law_516 rfl (by omega) hL ?_
  refine aw_sVi [_] dL_law_517 cvL_52 (MS.s0 hM) (m_fault hM n1 n2 n3 hI.2.2.2 hI.2.2.1 (xs (i + 1))) rfl rfl (Nat.le_of_ble_eq_true rfl) (rbL (by omega) (by decide) (by decide)) (fun v2 i2 l2 q2 => ?_)
  obtain ⟨e12, hI2⟩ := inv_QQ q1 q2 (kw_fault (xs (i + 1)) hI.2.2.1 hI.2.2.2)
  refine aw_icmp_eq (tgt := 1281) dL_law_520 rfl (fun h520 => ?_) (fun h520 => absurd e12 h520)
  exact ih _ _ _ _ _ hI2
theorem lc_9 {G : GC} {E : SH} {b L X z0 i : Nat} {xs : Nat → Int32} {nm : String} (hX : XS G E X) (hM : MS G E (X + 138)) (hEz : E.1 = z0 + 156) (hL : L ≤ 3072) (hi : i + 6 ≤ L) {A : AA} {D : DD} {T : FT} {iv : IV} {lv : LV} (hI : Inv X A D T iv lv) (ih : ∀ A D T iv lv, Inv X A D T iv lv → AW G (mLw nm) room_1 ZL (XL G b L xs) z0 1281 [some (.ref b), some (.ref X), some (.ref (X + 138)), some (.int (nI i))] [] E iv lv) : AW G (mLw nm) room_1 ZL (XL G b L xs) z0 525 [some (.ref b), some (.ref X), some (.ref (X + 138)), some (.int (nI i))] [] E iv lv := by
  refine aw_aload_n dL_law_525 rfl ?_
  refine aw_aload_n dL_law_526 rfl ?_
  refine aw_iload_n dL_law_527 rfl ?_
  refine aw_iconst (v := nI 1) dL_law_528 kc_1 ?_
  refine aw_iadd dL_law_529 ?_
  rw [nI_add]
  refine aw_sld dL_law_530 rfl (by omega) hL ?_
  refine aw_sVi [_] dL_law_531 cvL_53 (XS.s0 hX) (x_town hX hI.1.1 hI.1.2.1 hI.1.2.2 hI.2.2.2 hI.2.2.1 (xs (i + 1))) rfl rfl (Nat.le_of_ble_eq_true rfl) (rbL (by omega) (by decide) (by decide)) (fun v1 i1 l1 q1 => ?_)
  obtain ⟨n1, n2, n3⟩ := inv_M hI q1
  refine aw_aload_n dL_law_534 rfl ?_
  refine aw_aload_n dL_law_535 rfl ?_
  refine aw_iload_n dL_law_536 rfl ?_
  refine aw_iconst (v := nI 1) dL_law_537 kc_1 ?_
  refine aw_iadd dL_law_538 ?_
  rw [nI_add]
  refine aw_sld dL_law_539 rfl (by omega) hL ?_
  refine aw_sVi [_] dL_law_540 cvL_56 (MS.s0 hM) (m_town hM n1 n2 n3 hI.2.2.2 hI.2.2.1 (xs (i + 1))) rfl rfl (Nat.le_of_ble_eq_true rfl) (rbL (by omega) (by decide) (by decide)) (fun v2 i2 l2 q2 => ?_)
  obtain ⟨e12, hI2⟩ := inv_QQ q1 q2 (kw_town (xs (i + 1)) hI.2.2.1 hI.2.2.2)
  refine aw_icmp_eq (tgt := 1281) dL_law_543 rfl (fun h543 => ?_) (fun h543 => absurd e12 h543)
  exact ih _ _ _ _ _ hI2
theorem lc_10 {G : GC} {E : SH} {b L X z0 i : Nat} {xs : Nat → Int32} {nm : String} (hX : XS G E X) (hM : MS G E (X + 138)) (hEz : E.1 = z0 + 156) (hL : L ≤ 3072) (hi : i + 6 ≤ L) {A : AA} {D : DD} {T : FT} {iv : IV} {lv : LV} (hI : Inv X A D T iv lv) (ih : ∀ A D T iv lv, Inv X A D T iv lv → AW G (mLw nm) room_1 ZL (XL G b L xs) z0 1281 [some (.ref b), some (.ref X), some (.ref (X + 138)), some (.int (nI i))] [] E iv lv) : AW G (mLw nm) room_1 ZL (XL G b L xs) z0 548 [some (.ref b), some (.ref X), some (.ref (X + 138)), some (.int (nI i))] [] E iv lv := by
  refine aw_aload_n dL_law_548 rfl ?_
  refine aw_aload_n dL_law_549 rfl ?_
  refine aw_iload_n dL_law_550 rfl ?_
  refine aw_iconst (v := nI 1) dL_law_551 kc_1 ?_
  refine aw_iadd dL_law_552 ?_
  rw [nI_add]
  refine aw_sld dL_law_553 rfl (by omega) hL ?_
  refine aw_aload_n dL_law_554 rfl ?_
  refine aw_iload_n dL_law_555 rfl ?_
  refine aw_iconst (v := nI 2) dL_law_556 kc_2 ?_
  refine aw_iadd dL_law_557 ?_
  rw [nI_add]
  refine aw_sld dL_law_558 rfl (by omega) hL ?_
  refine aw_sVi [_, _] dL_law_559 cvL_57 (XS.s0 hX) (x_person hX hI.1.1 hI.1.2.1 hI.1.2.2 hI.2.2.2 (xs (i + 1)) (xs (i + 2))) rfl rfl (Nat.le_of_ble_eq_true rfl) (rbL (by omega) (by decide) (by decide)) (fun v1 i1 l1 q1 => ?_)
  obtain ⟨n1, n2, n3⟩ := inv_M hI q1
  refine aw_aload_n dL_law_562 rfl ?_
  refine aw_aload_n dL_law_563 rfl ?_
  refine aw_iload_n dL_law_564 rfl ?_
  refine aw_iconst (v := nI 1) dL_law_565 kc_1 ?_
  refine aw_iadd dL_law_566 ?_
  rw [nI_add]
  refine aw_sld dL_law_567 rfl (by omega) hL ?_
  refine aw_aload_n dL_law_568 rfl ?_
  refine aw_iload_n dL_law_569 rfl ?_
  refine aw_iconst (v := nI 2) dL_law_570 kc_2 ?_
  refine aw_iadd dL_law_571 ?_
  rw [nI_add]
  refine aw_sld dL_law_572 rfl (by omega) hL ?_
  refine aw_sVi [_, _] dL_law_573 cvL_60 (MS.s0 hM) (m_person hM n1 n2 n3 hI.2.2.2 (xs (i + 1)) (xs (i + 2))) rfl rfl (Nat.le_of_ble_eq_true rfl) (rbL (by omega) (by decide) (by decide)) (fun v2 i2 l2 q2 => ?_)
  obtain ⟨e12, hI2⟩ := inv_QQ q1 q2 (kw_person (xs (i + 1)) (xs (i + 2)) hI.2.2.1 hI.2.2.2)
  refine aw_icmp_eq (tgt := 1281) dL_law_576 rfl (fun h576 => ?_) (fun h576 => absurd e12 h576)
  exact ih _ _ _ _ _ hI2
theorem lc_11 {G : GC} {E : SH} {b L X z0 i : Nat} {xs : Nat → Int32} {nm : String} (hX : XS G E X) (hM : MS G E (X + 138)) (hEz : E.1 = z0 + 156) (hL : L ≤ 3072) (hi : i + 6 ≤ L) {A : AA} {D : DD} {T : FT} {iv : IV} {lv : LV} (hI : Inv X A D T iv lv) (ih : ∀ A D T iv lv, Inv X A D T iv lv → AW G (mLw nm) room_1 ZL (XL G b L xs) z0 1281 [some (.ref b), some (.ref X), some (.ref (X + 138)), some (.int (nI i))] [] E iv lv) : AW G (mLw nm) room_1 ZL (XL G b L xs) z0 581 [some (.ref b), some (.ref X), some (.ref (X + 138)), some (.int (nI i))] [] E iv lv := by
  refine aw_aload_n dL_law_581 rfl ?_
  refine aw_aload_n dL_law_582 rfl ?_
  refine aw_iload_n dL_law_583 rfl ?_
  refine aw_iconst (v := nI 1) dL_law_584 kc_1 ?_
  refine aw_iadd dL_law_585 ?_
  rw [nI_add]
  refine aw_sld dL_law_586 rfl (by omega) hL ?_
  refine aw_sVi [_] dL_law_587 cvL_61 (XS.s0 hX) (x_deep hX hI.1.1 hI.1.2.1 hI.1.2.2 hI.2.2.2 (xs (i + 1))) rfl rfl (Nat.le_of_ble_eq_true rfl) (rbL (by omega) (by decide) (by decide)) (fun v1 i1 l1 q1 => ?_)
  obtain ⟨n1, n2, n3⟩ := inv_M hI q1
  refine aw_aload_n dL_law_590 rfl ?_
  refine aw_aload_n dL_law_591 rfl ?_
  refine aw_iload_n dL_law_592 rfl ?_
  refine aw_iconst (v := nI 1) dL_law_593 kc_1 ?_
  refine aw_iadd dL_law_594 ?_
  rw [nI_add]
  refine aw_sld dL_law_595 rfl (by omega) hL ?_
  refine aw_sVi [_] dL_law_596 cvL_64 (MS.s0 hM) (m_deep hM n1 n2 n3 hI.2.2.2 (xs (i + 1))) rfl rfl (Nat.le_of_ble_eq_true rfl) (rbL (by omega) (by decide) (by decide)) (fun v2 i2 l2 q2 => ?_)
  obtain ⟨e12, hI2⟩ := inv_QQ q1 q2 (kw_deep (xs (i + 1)) hI.2.2.1 hI.2.2.2)
  refine aw_icmp_eq (tgt := 1281) dL_law_599 rfl (fun h599 => ?_) (fun h599 => absurd e12 h599)
  exact ih _ _ _ _ _ hI2
theorem lc_12 {G : GC} {E : SH} {b L X z0 i : Nat} {xs : Nat → Int32} {nm : String} (hX : XS G E X) (hM : MS G E (X + 138)) (hEz : E.1 = z0 + 156) (hL : L ≤ 3072) (hi : i + 6 ≤ L) {A : AA} {D : DD} {T : FT} {iv : IV} {lv : LV} (hI : Inv X A D T iv lv) (ih : ∀ A D T iv lv, Inv X A D T iv lv → AW G (mLw nm) room_1 ZL (XL G b L xs) z0 1281 [some (.ref b), some (.ref X), some (.ref (X + 138)), some (.int (nI i))] [] E iv lv) : AW G (mLw nm) room_1 ZL (XL G b L xs) z0 604 [some (.ref b), some (.ref X), some (.ref (X + 138)), some (.int (nI i))] [] E iv lv := by
  refine aw_aload_n dL_law_604 rfl ?_
  refine aw_aload_n dL_law_605 rfl ?_
  refine aw_iload_n dL_law_606 rfl ?_
  refine aw_iconst (v := nI 1) dL_law_607 kc_1 ?_
  refine aw_iadd dL_law_608 ?_
  rw [nI_add]
  refine aw_sld dL_law_609 rfl (by omega) hL ?_
  refine aw_aload_n dL_law_610 rfl ?_
  refine aw_iload_n dL_law_611 rfl ?_
  refine aw_iconst (v := nI 2) dL_law_612 kc_2 ?_
  refine aw_iadd dL_law_613 ?_
  rw [nI_add]
  refine aw_sld dL_law_614 rfl (by omega) hL ?_
  refine aw_sVi [_, _] dL_law_615 cvL_65 (XS.s0 hX) (x_mark hX hI.1.1 hI.1.2.1 hI.1.2.2 hI.2.2.2 (xs (i + 1)) (xs (i + 2))) rfl rfl (Nat.le_of_ble_eq_true rfl) (rbL (by omega) (by decide) (by decide)) (fun v1 i1 l1 q1 => ?_)
  obtain ⟨n1, n2, n3⟩ := inv_M hI q1
  refine aw_aload_n dL_law_618 rfl ?_
  refine aw_aload_n dL_law_619 rfl ?_
  refine aw_iload_n dL_law_620 rfl ?_
  refine aw_iconst (v := nI 1) dL_law_621 kc_1 ?_
  refine aw_iadd dL_law_622 ?_
  rw [nI_add]
  refine aw_sld dL_law_623 rfl (by omega) hL ?_
  refine aw_aload_n dL_law_624 rfl ?_
  refine aw_iload_n dL_law_625 rfl ?_
  refine aw_iconst (v := nI 2) dL_law_626 kc_2 ?_
  refine aw_iadd dL_law_627 ?_
  rw [nI_add]
  refine aw_sld dL_law_628 rfl (by omega) hL ?_
  refine aw_sVi [_, _] dL_law_629 cvL_68 (MS.s0 hM) (m_mark hM n1 n2 n3 hI.2.2.2 (xs (i + 1)) (xs (i + 2))) rfl rfl (Nat.le_of_ble_eq_true rfl) (rbL (by omega) (by decide) (by decide)) (fun v2 i2 l2 q2 => ?_)
  obtain ⟨e12, hI2⟩ := inv_QQ q1 q2 (kw_mark (xs (i + 1)) (xs (i + 2)) hI.2.2.1 hI.2.2.2)
  refine aw_icmp_eq (tgt := 1281) dL_law_632 rfl (fun h632 => ?_) (fun h632 => absurd e12 h632)
  exact ih _ _ _ _ _ hI2
theorem lc_13 {G : GC} {E : SH} {b L X z0 i : Nat} {xs : Nat → Int32} {nm : String} (hX : XS G E X) (hM : MS G E (X + 138)) (hEz : E.1 = z0 + 156) (hL : L ≤ 3072) (hi : i + 6 ≤ L) {A : AA} {D : DD} {T : FT} {iv : IV} {lv : LV} (hI : Inv X A D T iv lv) (ih : ∀ A D T iv lv, Inv X A D T iv lv → AW G (mLw nm) room_1 ZL (XL G b L xs) z0 1281 [some (.ref b), some (.ref X), some (.ref (X + 138)), some (.int (nI i))] [] E iv lv) : AW G (mLw nm) room_1 ZL (XL G b L xs) z0 637 [some (.ref b), some (.ref X), some (.ref (X + 138)), some (.int (nI i))] [] E iv lv := by
  refine aw_aload_n dL_law_637 rfl ?_
  refine aw_sVi [] dL_law_638 cvL_69 (XS.s0 hX) (x_day hX hI.1.1 hI.1.2.1 hI.1.2.2 hI.2.2.2) rfl rfl (Nat.le_of_ble_eq_true rfl) (rbL (by omega) (by decide) (by decide)) (fun v1 i1 l1 q1 => ?_)
  obtain ⟨n1, n2, n3⟩ := inv_M hI q1
  refine aw_aload_n dL_law_641 rfl ?_
  refine aw_sVi [] dL_law_642 cvL_73 (MS.s0 hM) (m_day hM n1 n2 n3 hI.2.2.2) rfl rfl (Nat.le_of_ble_eq_true rfl) (rbL (by omega) (by decide) (by decide)) (fun v2 i2 l2 q2 => ?_)
  obtain ⟨e12, hI2⟩ := inv_QQ q1 q2 (kw_day hI.2.2.1 hI.2.2.2)
  refine aw_icmp_eq (tgt := 1281) dL_law_645 rfl (fun h645 => ?_) (fun h645 => absurd e12 h645)
  exact ih _ _ _ _ _ hI2
theorem lc_14 {G : GC} {E : SH} {b L X z0 i : Nat} {xs : Nat → Int32} {nm : String} (hX : XS G E X) (hM : MS G E (X + 138)) (hEz : E.1 = z0 + 156) (hL : L ≤ 3072) (hi : i + 6 ≤ L) {A : AA} {D : DD} {T : FT} {iv : IV} {lv : LV} (hI : Inv X A D T iv lv) (ih : ∀ A D T iv lv, Inv X A D T iv lv → AW G (mLw nm) room_1 ZL (XL G b L xs) z0 1281 [some (.ref b), some (.ref X), some (.ref (X + 138)), some (.int (nI i))] [] E iv lv) : AW G (mLw nm) room_1 ZL (XL G b L xs) z0 650 [some (.ref b), some (.ref X), some (.ref (X + 138)), some (.int (nI i))] [] E iv lv := by
  refine aw_aload_n dL_law_650 rfl ?_
  refine aw_aload_n dL_law_651 rfl ?_
  refine aw_iload_n dL_law_652 rfl ?_
  refine aw_iconst (v := nI 1) dL_law_653 kc_1 ?_
  refine aw_iadd dL_law_654 ?_
  rw [nI_add]
  refine aw_sld dL_law_655 rfl (by omega) hL ?_
  refine aw_aload_n dL_law_656 rfl ?_
  refine aw_iload_n dL_law_657 rfl ?_
  refine aw_iconst (v := nI 2) dL_law_658 kc_2 ?_
  refine aw_iadd dL_law_659 ?_
  rw [nI_add]
  refine aw_sld dL_law_660 rfl (by omega) hL ?_
  refine aw_sVi [_, _] dL_law_661 cvL_74 (XS.s0 hX) (x_fall hX hI.1.1 hI.1.2.1 hI.1.2.2 hI.2.2.2 (xs (i + 1)) (xs (i + 2))) rfl rfl (Nat.le_of_ble_eq_true rfl) (rbL (by omega) (by decide) (by decide)) (fun v1 i1 l1 q1 => ?_)
  obtain ⟨n1, n2, n3⟩ := inv_M hI q1
  refine aw_aload_n dL_law_664 rfl ?_
  refine aw_aload_n dL_law_665 rfl ?_
  refine aw_iload_n dL_law_666 rfl ?_
  refine aw_iconst (v := nI 1) dL_law_667 kc_1 ?_
  refine aw_iadd dL_law_668 ?_
  rw [nI_add]
  refine aw_sld dL_law_669 rfl (by omega) hL ?_
  refine aw_aload_n dL_law_670 rfl ?_
  refine aw_iload_n dL_law_671 rfl ?_
  refine aw_iconst (v := nI 2) dL_law_672 kc_2 ?_
  refine aw_iadd dL_law_673 ?_
  rw [nI_add]
  refine aw_sld dL_law_674 rfl (by omega) hL ?_
  refine aw_sVi [_, _] dL_law_675 cvL_77 (MS.s0 hM) (m_fall hM n1 n2 n3 hI.2.2.2 (xs (i + 1)) (xs (i + 2))) rfl rfl (Nat.le_of_ble_eq_true rfl) (rbL (by omega) (by decide) (by decide)) (fun v2 i2 l2 q2 => ?_)
  obtain ⟨e12, hI2⟩ := inv_QQ q1 q2 (kw_fall (xs (i + 1)) (xs (i + 2)) hI.2.2.1 hI.2.2.2)
  refine aw_icmp_eq (tgt := 1281) dL_law_678 rfl (fun h678 => ?_) (fun h678 => absurd e12 h678)
  exact ih _ _ _ _ _ hI2
theorem lc_15 {G : GC} {E : SH} {b L X z0 i : Nat} {xs : Nat → Int32} {nm : String} (hX : XS G E X) (hM : MS G E (X + 138)) (hEz : E.1 = z0 + 156) (hL : L ≤ 3072) (hi : i + 6 ≤ L) {A : AA} {D : DD} {T : FT} {iv : IV} {lv : LV} (hI : Inv X A D T iv lv) (ih : ∀ A D T iv lv, Inv X A D T iv lv → AW G (mLw nm) room_1 ZL (XL G b L xs) z0 1281 [some (.ref b), some (.ref X), some (.ref (X + 138)), some (.int (nI i))] [] E iv lv) : AW G (mLw nm) room_1 ZL (XL G b L xs) z0 683 [some (.ref b), some (.ref X), some (.ref (X + 138)), some (.int (nI i))] [] E iv lv := by
  refine aw_aload_n dL_law_683 rfl ?_
  refine aw_aload_n dL_law_684 rfl ?_
  refine aw_iload_n dL_law_685 rfl ?_
  refine aw_iconst (v := nI 1) dL_law_686 kc_1 ?_
  refine aw_iadd dL_law_687 ?_
  rw [nI_add]
  refine aw_sld dL_law_688 rfl (by omega) hL ?_
  refine aw_sVi [_] dL_law_689 cvL_78 (XS.s0 hX) (x_wind hX hI.1.1 hI.1.2.1 hI.1.2.2 hI.2.2.2 (xs (i + 1))) rfl rfl (Nat.le_of_ble_eq_true rfl) (rbL (by omega) (by decide) (by decide)) (fun v1 i1 l1 q1 => ?_)
  obtain ⟨n1, n2, n3⟩ := inv_M hI q1
  refine aw_aload_n dL_law_692 rfl ?_
  refine aw_aload_n dL_law_693 rfl ?_
  refine aw_iload_n dL_law_694 rfl ?_
  refine aw_iconst (v := nI 1) dL_law_695 kc_1 ?_
  refine aw_iadd dL_law_696 ?_
  rw [nI_add]
  refine aw_sld dL_law_697 rfl (by omega) hL ?_
  refine aw_sVi [_] dL_law_698 cvL_81 (MS.s0 hM) (m_wind hM n1 n2 n3 hI.2.2.2 (xs (i + 1))) rfl rfl (Nat.le_of_ble_eq_true rfl) (rbL (by omega) (by decide) (by decide)) (fun v2 i2 l2 q2 => ?_)
  obtain ⟨e12, hI2⟩ := inv_QQ q1 q2 (kw_wind (xs (i + 1)) hI.2.2.1 hI.2.2.2)
  refine aw_icmp_eq (tgt := 1281) dL_law_701 rfl (fun h701 => ?_) (fun h701 => absurd e12 h701)
  exact ih _ _ _ _ _ hI2
theorem lc_16 {G : GC} {E : SH} {b L X z0 i : Nat} {xs : Nat → Int32} {nm : String} (hX : XS G E X) (hM : MS G E (X + 138)) (hEz : E.1 = z0 + 156) (hL : L ≤ 3072) (hi : i + 6 ≤ L) {A : AA} {D : DD} {T : FT} {iv : IV} {lv : LV} (hI : Inv X A D T iv lv) (ih : ∀ A D T iv lv, Inv X A D T iv lv → AW G (mLw nm) room_1 ZL (XL G b L xs) z0 1281 [some (.ref b), some (.ref X), some (.ref (X + 138)), some (.int (nI i))] [] E iv lv) : AW G (mLw nm) room_1 ZL (XL G b L xs) z0 706 [some (.ref b), some (.ref X), some (.ref (X + 138)), some (.int (nI i))] [] E iv lv := by
  refine aw_aload_n dL_law_706 rfl ?_
  refine aw_aload_n dL_law_707 rfl ?_
  refine aw_iload_n dL_law_708 rfl ?_
  refine aw_iconst (v := nI 1) dL_law_709 kc_1 ?_
  refine aw_iadd dL_law_710 ?_
  rw [nI_add]
  refine aw_sld dL_law_711 rfl (by omega) hL ?_
  refine aw_aload_n dL_law_712 rfl ?_
  refine aw_iload_n dL_law_713 rfl ?_
  refine aw_iconst (v := nI 2) dL_law_714 kc_2 ?_
  refine aw_iadd dL_law_715 ?_
  rw [nI_add]
  refine aw_sld dL_law_716 rfl (by omega) hL ?_
  refine aw_sVi [_, _] dL_law_717 cvL_82 (XS.s0 hX) (x_go hX hI.1.1 hI.1.2.1 hI.1.2.2 hI.2.2.2 (xs (i + 1)) (xs (i + 2))) rfl rfl (Nat.le_of_ble_eq_true rfl) (rbL (by omega) (by decide) (by decide)) (fun v1 i1 l1 q1 => ?_)
  obtain ⟨n1, n2, n3⟩ := inv_M hI q1
  refine aw_aload_n dL_law_720 rfl ?_
  refine aw_aload_n dL_law_721 rfl ?_
  refine aw_iload_n dL_law_722 rfl ?_
  refine aw_iconst (v := nI 1) dL_law_723 kc_1 ?_
  refine aw_iadd dL_law_724 ?_
  rw [nI_add]
  refine aw_sld dL_law_725 rfl (by omega) hL ?_
  refine aw_aload_n dL_law_726 rfl ?_
  refine aw_iload_n dL_law_727 rfl ?_
  refine aw_iconst (v := nI 2) dL_law_728 kc_2 ?_
  refine aw_iadd dL_law_729 ?_
  rw [nI_add]
  refine aw_sld dL_law_730 rfl (by omega) hL ?_
  refine aw_sVi [_, _] dL_law_731 cvL_85 (MS.s0 hM) (m_go hM n1 n2 n3 hI.2.2.2 (xs (i + 1)) (xs (i + 2))) rfl rfl (Nat.le_of_ble_eq_true rfl) (rbL (by omega) (by decide) (by decide)) (fun v2 i2 l2 q2 => ?_)
  obtain ⟨e12, hI2⟩ := inv_QQ q1 q2 (kw_go (xs (i + 1)) (xs (i + 2)) hI.2.2.1 hI.2.2.2)
  refine aw_icmp_eq (tgt := 1281) dL_law_734 rfl (fun h734 => ?_) (fun h734 => absurd e12 h734)
  exact ih _ _ _ _ _ hI2
theorem lc_17 {G : GC} {E : SH} {b L X z0 i : Nat} {xs : Nat → Int32} {nm : String} (hX : XS G E X) (hM : MS G E (X + 138)) (hEz : E.1 = z0 + 156) (hL : L ≤ 3072) (hi : i + 6 ≤ L) {A : AA} {D : DD} {T : FT} {iv : IV} {lv : LV} (hI : Inv X A D T iv lv) (ih : ∀ A D T iv lv, Inv X A D T iv lv → AW G (mLw nm) room_1 ZL (XL G b L xs) z0 1281 [some (.ref b), some (.ref X), some (.ref (X + 138)), some (.int (nI i))] [] E iv lv) : AW G (mLw nm) room_1 ZL (XL G b L xs) z0 739 [some (.ref b), some (.ref X), some (.ref (X + 138)), some (.int (nI i))] [] E iv lv := by
  refine aw_aload_n dL_law_739 rfl ?_
  refine aw_aload_n dL_law_740 rfl ?_
  refine aw_iload_n dL_law_741 rfl ?_
  refine aw_iconst (v := nI 1) dL_law_742 kc_1 ?_
  refine aw_iadd dL_law_743 ?_
  rw [nI_add]
  refine aw_sld dL_law_744 rfl (by omega) hL ?_
  refine aw_sVi [_] dL_law_745 cvL_86 (XS.s0 hX) (x_undo hX hI.1.1 hI.1.2.1 hI.1.2.2 hI.2.2.2 (xs (i + 1))) rfl rfl (Nat.le_of_ble_eq_true rfl) (rbL (by omega) (by decide) (by decide)) (fun v1 i1 l1 q1 => ?_)
  obtain ⟨n1, n2, n3⟩ := inv_M hI q1
  refine aw_aload_n dL_law_748 rfl ?_
  refine aw_aload_n dL_law_749 rfl ?_
  refine aw_iload_n dL_law_750 rfl ?_
  refine aw_iconst (v := nI 1) dL_law_751 kc_1 ?_
  refine aw_iadd dL_law_752 ?_
  rw [nI_add]
  refine aw_sld dL_law_753 rfl (by omega) hL ?_
  refine aw_sVi [_] dL_law_754 cvL_89 (MS.s0 hM) (m_undo hM n1 n2 n3 hI.2.2.2 (xs (i + 1))) rfl rfl (Nat.le_of_ble_eq_true rfl) (rbL (by omega) (by decide) (by decide)) (fun v2 i2 l2 q2 => ?_)
  obtain ⟨e12, hI2⟩ := inv_QQ q1 q2 (kw_undo (xs (i + 1)) hI.2.2.1 hI.2.2.2)
  refine aw_icmp_eq (tgt := 1281) dL_law_757 rfl (fun h757 => ?_) (fun h757 => absurd e12 h757)
  exact ih _ _ _ _ _ hI2
theorem lc_18 {G : GC} {E : SH} {b L X z0 i : Nat} {xs : Nat → Int32} {nm : String} (hX : XS G E X) (hM : MS G E (X + 138)) (hEz : E.1 = z0 + 156) (hL : L ≤ 3072) (hi : i + 6 ≤ L) {A : AA} {D : DD} {T : FT} {iv : IV} {lv : LV} (hI : Inv X A D T iv lv) (ih : ∀ A D T iv lv, Inv X A D T iv lv → AW G (mLw nm) room_1 ZL (XL G b L xs) z0 1281 [some (.ref b), some (.ref X), some (.ref (X + 138)), some (.int (nI i))] [] E iv lv) : AW G (mLw nm) room_1 ZL (XL G b L xs) z0 762 [some (.ref b), some (.ref X), some (.ref (X + 138)), some (.int (nI i))] [] E iv lv := by
  refine aw_aload_n dL_law_762 rfl ?_
  refine aw_aload_n dL_law_763 rfl ?_
  refine aw_iload_n dL_law_764 rfl ?_
  refine aw_iconst (v := nI 1) dL_law_765 kc_1 ?_
  refine aw_iadd dL_law_766 ?_
  rw [nI_add]
  refine aw_sld dL_law_767 rfl (by omega) hL ?_
  refine aw_sVi [_] dL_law_768 cvL_90 (XS.s0 hX) (x_keep hX hI.1.1 hI.1.2.1 hI.1.2.2 hI.2.2.2 (xs (i + 1))) rfl rfl (Nat.le_of_ble_eq_true rfl) (rbL (by omega) (by decide) (by decide)) (fun v1 i1 l1 q1 => ?_)
  obtain ⟨n1, n2, n3⟩ := inv_M hI q1
  refine aw_aload_n dL_law_771 rfl ?_
  refine aw_aload_n dL_law_772 rfl ?_
  refine aw_iload_n dL_law_773 rfl ?_
  refine aw_iconst (v := nI 1) dL_law_774 kc_1 ?_
  refine aw_iadd dL_law_775 ?_
  rw [nI_add]
  refine aw_sld dL_law_776 rfl (by omega) hL ?_
  refine aw_sVi [_] dL_law_777 cvL_93 (MS.s0 hM) (m_keep hM n1 n2 n3 hI.2.2.2 (xs (i + 1))) rfl rfl (Nat.le_of_ble_eq_true rfl) (rbL (by omega) (by decide) (by decide)) (fun v2 i2 l2 q2 => ?_)
  obtain ⟨e12, hI2⟩ := inv_QQ q1 q2 (kw_keep (xs (i + 1)) hI.2.2.1 hI.2.2.2)
  refine aw_icmp_eq (tgt := 1281) dL_law_780 rfl (fun h780 => ?_) (fun h780 => absurd e12 h780)
  exact ih _ _ _ _ _ hI2
theorem lc_19 {G : GC} {E : SH} {b L X z0 i : Nat} {xs : Nat → Int32} {nm : String} (hX : XS G E X) (hM : MS G E (X + 138)) (hEz : E.1 = z0 + 156) (hL : L ≤ 3072) (hi : i + 6 ≤ L) {A : AA} {D : DD} {T : FT} {iv : IV} {lv : LV} (hI : Inv X A D T iv lv) (ih : ∀ A D T iv lv, Inv X A D T iv lv → AW G (mLw nm) room_1 ZL (XL G b L xs) z0 1281 [some (.ref b), some (.ref X), some (.ref (X + 138)), some (.int (nI i))] [] E iv lv) : AW G (mLw nm) room_1 ZL (XL G b L xs) z0 785 [some (.ref b), some (.ref X), some (.ref (X + 138)), some (.int (nI i))] [] E iv lv := by
  refine aw_aload_n dL_law_785 rfl ?_
  refine aw_aload_n dL_law_786 rfl ?_
  refine aw_iload_n dL_law_787 rfl ?_
  refine aw_iconst (v := nI 1) dL_law_788 kc_1 ?_
  refine aw_iadd dL_law_789 ?_
  rw [nI_add]
  refine aw_sld dL_law_790 rfl (by omega) hL ?_
  refine aw_sVi [_] dL_law_791 cvL_94 (XS.s0 hX) (x_on hX hI.1.1 hI.1.2.1 hI.1.2.2 hI.2.2.2 (xs (i + 1))) rfl rfl (Nat.le_of_ble_eq_true rfl) (rbL (by omega) (by decide) (by decide)) (fun v1 i1 l1 q1 => ?_)
  obtain ⟨n1, n2, n3⟩ := inv_M hI q1
  refine aw_aload_n dL_law_794 rfl ?_
  refine aw_aload_n dL_law_795 rfl ?_
  refine aw_iload_n dL_law_796 rfl ?_
  refine aw_iconst (v := nI 1) dL_law_797 kc_1 ?_
  refine aw_iadd dL_law_798 ?_
  rw [nI_add]
  refine aw_sld dL_law_799 rfl (by omega) hL ?_
  refine aw_sVi [_] dL_law_800 cvL_97 (MS.s0 hM) (m_on hM n1 n2 n3 hI.2.2.2 (xs (i + 1))) rfl rfl (Nat.le_of_ble_eq_true rfl) (rbL (by omega) (by decide) (by decide)) (fun v2 i2 l2 q2 => ?_)
  obtain ⟨e12, hI2⟩ := inv_QQ q1 q2 (kw_on (xs (i + 1)) hI.2.2.1 hI.2.2.2)
  refine aw_icmp_eq (tgt := 1281) dL_law_803 rfl (fun h803 => ?_) (fun h803 => absurd e12 h803)
  exact ih _ _ _ _ _ hI2
theorem lc_20 {G : GC} {E : SH} {b L X z0 i : Nat} {xs : Nat → Int32} {nm : String} (hX : XS G E X) (hM : MS G E (X + 138)) (hEz : E.1 = z0 + 156) (hL : L ≤ 3072) (hi : i + 6 ≤ L) {A : AA} {D : DD} {T : FT} {iv : IV} {lv : LV} (hI : Inv X A D T iv lv) (ih : ∀ A D T iv lv, Inv X A D T iv lv → AW G (mLw nm) room_1 ZL (XL G b L xs) z0 1281 [some (.ref b), some (.ref X), some (.ref (X + 138)), some (.int (nI i))] [] E iv lv) : AW G (mLw nm) room_1 ZL (XL G b L xs) z0 808 [some (.ref b), some (.ref X), some (.ref (X + 138)), some (.int (nI i))] [] E iv lv := by
  refine aw_aload_n dL_law_808 rfl ?_
  refine aw_sVi [] dL_law_809 cvL_98 (XS.s0 hX) (x_meets hX hI.1.1 hI.1.2.1 hI.1.2.2 hI.2.2.2) rfl rfl (Nat.le_of_ble_eq_true rfl) (rbL (by omega) (by decide) (by decide)) (fun v1 i1 l1 q1 => ?_)
  obtain ⟨n1, n2, n3⟩ := inv_M hI q1
  refine aw_aload_n dL_law_812 rfl ?_
  refine aw_sVi [] dL_law_813 cvL_101 (MS.s0 hM) (m_meets hM n1 n2 n3 hI.2.2.2) rfl rfl (Nat.le_of_ble_eq_true rfl) (rbL (by omega) (by decide) (by decide)) (fun v2 i2 l2 q2 => ?_)
  obtain ⟨e12, hI2⟩ := inv_QQ q1 q2 (kw_meets hI.2.2.1 hI.2.2.2)
  refine aw_icmp_eq (tgt := 1281) dL_law_816 rfl (fun h816 => ?_) (fun h816 => absurd e12 h816)
  exact ih _ _ _ _ _ hI2
theorem lc_21 {G : GC} {E : SH} {b L X z0 i : Nat} {xs : Nat → Int32} {nm : String} (hX : XS G E X) (hM : MS G E (X + 138)) (hEz : E.1 = z0 + 156) (hL : L ≤ 3072) (hi : i + 6 ≤ L) {A : AA} {D : DD} {T : FT} {iv : IV} {lv : LV} (hI : Inv X A D T iv lv) (ih : ∀ A D T iv lv, Inv X A D T iv lv → AW G (mLw nm) room_1 ZL (XL G b L xs) z0 1281 [some (.ref b), some (.ref X), some (.ref (X + 138)), some (.int (nI i))] [] E iv lv) : AW G (mLw nm) room_1 ZL (XL G b L xs) z0 821 [some (.ref b), some (.ref X), some (.ref (X + 138)), some (.int (nI i))] [] E iv lv := by
  refine aw_aload_n dL_law_821 rfl ?_
  refine aw_aload_n dL_law_822 rfl ?_
  refine aw_iload_n dL_law_823 rfl ?_
  refine aw_iconst (v := nI 1) dL_law_824 kc_1 ?_
  refine aw_iadd dL_law_825 ?_
  rw [nI_add]
  refine aw_sld dL_law_826 rfl (by omega) hL ?_
  refine aw_aload_n dL_law_827 rfl ?_
  refine aw_iload_n dL_law_828 rfl ?_
  refine aw_iconst (v := nI 2) dL_law_829 kc_2 ?_
  refine aw_iadd dL_law_830 ?_
  rw [nI_add]
  refine aw_sld dL_law_831 rfl (by omega) hL ?_
  refine aw_sVi [_, _] dL_law_832 cvL_102 (XS.s0 hX) (x_later hX hI.1.1 hI.1.2.1 hI.1.2.2 hI.2.2.2 (xs (i + 1)) (xs (i + 2))) rfl rfl (Nat.le_of_ble_eq_true rfl) (rbL (by omega) (by decide) (by decide)) (fun v1 i1 l1 q1 => ?_)
  obtain ⟨n1, n2, n3⟩ := inv_M hI q1
  refine aw_aload_n dL_law_835 rfl ?_
  refine aw_aload_n dL_law_836 rfl ?_
  refine aw_iload_n dL_law_837 rfl ?_
  refine aw_iconst (v := nI 1) dL_law_838 kc_1 ?_
  refine aw_iadd dL_law_839 ?_
  rw [nI_add]
  refine aw_sld dL_law_840 rfl (by omega) hL ?_
  refine aw_aload_n dL_law_841 rfl ?_
  refine aw_iload_n dL_law_842 rfl ?_
  refine aw_iconst (v := nI 2) dL_law_843 kc_2 ?_
  refine aw_iadd dL_law_844 ?_
  rw [nI_add]
  refine aw_sld dL_law_845 rfl (by omega) hL ?_
  refine aw_sVi [_, _] dL_law_846 cvL_105 (MS.s0 hM) (m_later hM n1 n2 n3 hI.2.2.2 (xs (i + 1)) (xs (i + 2))) rfl rfl (Nat.le_of_ble_eq_true rfl) (rbL (by omega) (by decide) (by decide)) (fun v2 i2 l2 q2 => ?_)
  obtain ⟨e12, hI2⟩ := inv_QQ q1 q2 (kw_later (xs (i + 1)) (xs (i + 2)) hI.2.2.1 hI.2.2.2)
  refine aw_icmp_eq (tgt := 1281) dL_law_849 rfl (fun h849 => ?_) (fun h849 => absurd e12 h849)
  exact ih _ _ _ _ _ hI2
theorem lc_22 {G : GC} {E : SH} {b L X z0 i : Nat} {xs : Nat → Int32} {nm : String} (hX : XS G E X) (hM : MS G E (X + 138)) (hEz : E.1 = z0 + 156) (hL : L ≤ 3072) (hi : i + 6 ≤ L) {A : AA} {D : DD} {T : FT} {iv : IV} {lv : LV} (hI : Inv X A D T iv lv) (ih : ∀ A D T iv lv, Inv X A D T iv lv → AW G (mLw nm) room_1 ZL (XL G b L xs) z0 1281 [some (.ref b), some (.ref X), some (.ref (X + 138)), some (.int (nI i))] [] E iv lv) : AW G (mLw nm) room_1 ZL (XL G b L xs) z0 854 [some (.ref b), some (.ref X), some (.ref (X + 138)), some (.int (nI i))] [] E iv lv := by
  refine aw_aload_n dL_law_854 rfl ?_
  refine aw_sVi [] dL_law_855 cvL_106 (XS.s0 hX) (x_peace hX hI.1.1 hI.1.2.1 hI.1.2.2 hI.2.2.2) rfl rfl (Nat.le_of_ble_eq_true rfl) (rbL (by omega) (by decide) (by decide)) (fun v1 i1 l1 q1 => ?_)
  obtain ⟨n1, n2, n3⟩ := inv_M hI q1
  refine aw_aload_n dL_law_858 rfl ?_
  refine aw_sVi [] dL_law_859 cvL_109 (MS.s0 hM) (m_peace hM n1 n2 n3 hI.2.2.2) rfl rfl (Nat.le_of_ble_eq_true rfl) (rbL (by omega) (by decide) (by decide)) (fun v2 i2 l2 q2 => ?_)
  obtain ⟨e12, hI2⟩ := inv_QQ q1 q2 (kw_peace hI.2.2.1 hI.2.2.2)
  refine aw_icmp_eq (tgt := 1281) dL_law_862 rfl (fun h862 => ?_) (fun h862 => absurd e12 h862)
  exact ih _ _ _ _ _ hI2
theorem lc_23 {G : GC} {E : SH} {b L X z0 i : Nat} {xs : Nat → Int32} {nm : String} (hX : XS G E X) (hM : MS G E (X + 138)) (hEz : E.1 = z0 + 156) (hL : L ≤ 3072) (hi : i + 6 ≤ L) {A : AA} {D : DD} {T : FT} {iv : IV} {lv : LV} (hI : Inv X A D T iv lv) (ih : ∀ A D T iv lv, Inv X A D T iv lv → AW G (mLw nm) room_1 ZL (XL G b L xs) z0 1281 [some (.ref b), some (.ref X), some (.ref (X + 138)), some (.int (nI i))] [] E iv lv) : AW G (mLw nm) room_1 ZL (XL G b L xs) z0 867 [some (.ref b), some (.ref X), some (.ref (X + 138)), some (.int (nI i))] [] E iv lv := by
  refine aw_aload_n dL_law_867 rfl ?_
  refine aw_aload_n dL_law_868 rfl ?_
  refine aw_iload_n dL_law_869 rfl ?_
  refine aw_iconst (v := nI 1) dL_law_870 kc_1 ?_
  refine aw_iadd dL_law_871 ?_
  rw [nI_add]
  refine aw_sld dL_law_872 rfl (by omega) hL ?_
  refine aw_sVi [_] dL_law_873 cvL_110 (XS.s0 hX) (x_left hX hI.1.1 hI.1.2.1 hI.1.2.2 hI.2.2.2 (xs (i + 1))) rfl rfl (Nat.le_of_ble_eq_true rfl) (rbL (by omega) (by decide) (by decide)) (fun v1 i1 l1 q1 => ?_)
  obtain ⟨n1, n2, n3⟩ := inv_M hI q1
  refine aw_aload_n dL_law_876 rfl ?_
  refine aw_aload_n dL_law_877 rfl ?_
  refine aw_iload_n dL_law_878 rfl ?_
  refine aw_iconst (v := nI 1) dL_law_879 kc_1 ?_
  refine aw_iadd dL_law_880 ?_
  rw [nI_add]
  refine aw_sld dL_law_881 rfl (by omega) hL ?_
  refine aw_sVi [_] dL_law_882 cvL_113 (MS.s0 hM) (m_left hM n1 n2 n3 hI.2.2.2 (xs (i + 1))) rfl rfl (Nat.le_of_ble_eq_true rfl) (rbL (by omega) (by decide) (by decide)) (fun v2 i2 l2 q2 => ?_)
  obtain ⟨e12, hI2⟩ := inv_QQ q1 q2 (kw_left (xs (i + 1)) hI.2.2.1 hI.2.2.2)
  refine aw_icmp_eq (tgt := 1281) dL_law_885 rfl (fun h885 => ?_) (fun h885 => absurd e12 h885)
  exact ih _ _ _ _ _ hI2
theorem lc_24 {G : GC} {E : SH} {b L X z0 i : Nat} {xs : Nat → Int32} {nm : String} (hX : XS G E X) (hM : MS G E (X + 138)) (hEz : E.1 = z0 + 156) (hL : L ≤ 3072) (hi : i + 6 ≤ L) {A : AA} {D : DD} {T : FT} {iv : IV} {lv : LV} (hI : Inv X A D T iv lv) (ih : ∀ A D T iv lv, Inv X A D T iv lv → AW G (mLw nm) room_1 ZL (XL G b L xs) z0 1281 [some (.ref b), some (.ref X), some (.ref (X + 138)), some (.int (nI i))] [] E iv lv) : AW G (mLw nm) room_1 ZL (XL G b L xs) z0 890 [some (.ref b), some (.ref X), some (.ref (X + 138)), some (.int (nI i))] [] E iv lv := by
  refine aw_aload_n dL_law_890 rfl ?_
  refine aw_aload_n dL_law_891 rfl ?_
  refine aw_iload_n dL_law_892 rfl ?_
  refine aw_iconst (v := nI 1) dL_law_893 kc_1 ?_
  refine aw_iadd dL_law_894 ?_
  rw [nI_add]
  refine aw_sld dL_law_895 rfl (by omega) hL ?_
  refine aw_sVi [_] dL_law_896 cvL_114 (XS.s0 hX) (x_ash hX hI.1.1 hI.1.2.1 hI.1.2.2 hI.2.2.2 (xs (i + 1))) rfl rfl (Nat.le_of_ble_eq_true rfl) (rbL (by omega) (by decide) (by decide)) (fun v1 i1 l1 q1 => ?_)
  obtain ⟨n1, n2, n3⟩ := inv_M hI q1
  refine aw_aload_n dL_law_899 rfl ?_
  refine aw_aload_n dL_law_900 rfl ?_
  refine aw_iload_n dL_law_901 rfl ?_
  refine aw_iconst (v := nI 1) dL_law_902 kc_1 ?_
  refine aw_iadd dL_law_903 ?_
  rw [nI_add]
  refine aw_sld dL_law_904 rfl (by omega) hL ?_
  refine aw_sVi [_] dL_law_905 cvL_117 (MS.s0 hM) (m_ash hM n1 n2 n3 hI.2.2.2 (xs (i + 1))) rfl rfl (Nat.le_of_ble_eq_true rfl) (rbL (by omega) (by decide) (by decide)) (fun v2 i2 l2 q2 => ?_)
  obtain ⟨e12, hI2⟩ := inv_QQ q1 q2 (kw_ash (xs (i + 1)) hI.2.2.1 hI.2.2.2)
  refine aw_icmp_eq (tgt := 1281) dL_law_908 rfl (fun h908 => ?_) (fun h908 => absurd e12 h908)
  exact ih _ _ _ _ _ hI2
theorem lc_25 {G : GC} {E : SH} {b L X z0 i : Nat} {xs : Nat → Int32} {nm : String} (hX : XS G E X) (hM : MS G E (X + 138)) (hEz : E.1 = z0 + 156) (hL : L ≤ 3072) (hi : i + 6 ≤ L) {A : AA} {D : DD} {T : FT} {iv : IV} {lv : LV} (hI : Inv X A D T iv lv) (ih : ∀ A D T iv lv, Inv X A D T iv lv → AW G (mLw nm) room_1 ZL (XL G b L xs) z0 1281 [some (.ref b), some (.ref X), some (.ref (X + 138)), some (.int (nI i))] [] E iv lv) : AW G (mLw nm) room_1 ZL (XL G b L xs) z0 913 [some (.ref b), some (.ref X), some (.ref (X + 138)), some (.int (nI i))] [] E iv lv := by
  refine aw_aload_n dL_law_913 rfl ?_
  refine aw_aload_n dL_law_914 rfl ?_
  refine aw_iload_n dL_law_915 rfl ?_
  refine aw_iconst (v := nI 1) dL_law_916 kc_1 ?_
  refine aw_iadd dL_law_917 ?_
  rw [nI_add]
  refine aw_sld dL_law_918 rfl (by omega) hL ?_
  refine aw_sVi [_] dL_law_919 cvL_118 (XS.s0 hX) (x_best hX hI.1.1 hI.1.2.1 hI.1.2.2 hI.2.2.2 (xs (i + 1))) rfl rfl (Nat.le_of_ble_eq_true rfl) (rbL (by omega) (by decide) (by decide)) (fun v1 i1 l1 q1 => ?_)
  obtain ⟨n1, n2, n3⟩ := inv_M hI q1
  refine aw_aload_n dL_law_922 rfl ?_
  refine aw_aload_n dL_law_923 rfl ?_
  refine aw_iload_n dL_law_924 rfl ?_
  refine aw_iconst (v := nI 1) dL_law_925 kc_1 ?_
  refine aw_iadd dL_law_926 ?_
  rw [nI_add]
  refine aw_sld dL_law_927 rfl (by omega) hL ?_
  refine aw_sVi [_] dL_law_928 cvL_121 (MS.s0 hM) (m_best hM n1 n2 n3 hI.2.2.2 (xs (i + 1))) rfl rfl (Nat.le_of_ble_eq_true rfl) (rbL (by omega) (by decide) (by decide)) (fun v2 i2 l2 q2 => ?_)
  obtain ⟨e12, hI2⟩ := inv_QQ q1 q2 (kw_best (xs (i + 1)) hI.2.2.1 hI.2.2.2)
  refine aw_icmp_eq (tgt := 1281) dL_law_931 rfl (fun h931 => ?_) (fun h931 => absurd e12 h931)
  exact ih _ _ _ _ _ hI2
theorem lc_26 {G : GC} {E : SH} {b L X z0 i : Nat} {xs : Nat → Int32} {nm : String} (hX : XS G E X) (hM : MS G E (X + 138)) (hEz : E.1 = z0 + 156) (hL : L ≤ 3072) (hi : i + 6 ≤ L) {A : AA} {D : DD} {T : FT} {iv : IV} {lv : LV} (hI : Inv X A D T iv lv) (ih : ∀ A D T iv lv, Inv X A D T iv lv → AW G (mLw nm) room_1 ZL (XL G b L xs) z0 1281 [some (.ref b), some (.ref X), some (.ref (X + 138)), some (.int (nI i))] [] E iv lv) : AW G (mLw nm) room_1 ZL (XL G b L xs) z0 936 [some (.ref b), some (.ref X), some (.ref (X + 138)), some (.int (nI i))] [] E iv lv := by
  refine aw_aload_n dL_law_936 rfl ?_
  refine aw_aload_n dL_law_937 rfl ?_
  refine aw_iload_n dL_law_938 rfl ?_
  refine aw_iconst (v := nI 1) dL_law_939 kc_1 ?_
  refine aw_iadd dL_law_940 ?_
  rw [nI_add]
  refine aw_sld dL_law_941 rfl (by omega) hL ?_
  refine aw_aload_n dL_law_942 rfl ?_
  refine aw_iload_n dL_law_943 rfl ?_
  refine aw_iconst (v := nI 2) dL_law_944 kc_2 ?_
  refine aw_iadd dL_law_945 ?_
  rw [nI_add]
  refine aw_sld dL_law_946 rfl (by omega) hL ?_
  refine aw_sVi [_, _] dL_law_947 cvL_122 (XS.s0 hX) (x_kinds hX hI.1.1 hI.1.2.1 hI.1.2.2 hI.2.2.2 hI.2.2.1 (xs (i + 1)) (xs (i + 2))) rfl rfl (Nat.le_of_ble_eq_true rfl) (rbL (by omega) (by decide) (by decide)) (fun v1 i1 l1 q1 => ?_)
  obtain ⟨n1, n2, n3⟩ := inv_M hI q1
  refine aw_aload_n dL_law_950 rfl ?_
  refine aw_aload_n dL_law_951 rfl ?_
  refine aw_iload_n dL_law_952 rfl ?_
  refine aw_iconst (v := nI 1) dL_law_953 kc_1 ?_
  refine aw_iadd dL_law_954 ?_
  rw [nI_add]
  refine aw_sld dL_law_955 rfl (by omega) hL ?_
  refine aw_aload_n dL_law_956 rfl ?_
  refine aw_iload_n dL_law_957 rfl ?_
  refine aw_iconst (v := nI 2) dL_law_958 kc_2 ?_
  refine aw_iadd dL_law_959 ?_
  rw [nI_add]
  refine aw_sld dL_law_960 rfl (by omega) hL ?_
  refine aw_sVi [_, _] dL_law_961 cvL_125 (MS.s0 hM) (m_kinds hM n1 n2 n3 hI.2.2.2 hI.2.2.1 (xs (i + 1)) (xs (i + 2))) rfl rfl (Nat.le_of_ble_eq_true rfl) (rbL (by omega) (by decide) (by decide)) (fun v2 i2 l2 q2 => ?_)
  obtain ⟨e12, hI2⟩ := inv_QQ q1 q2 (kw_kinds (xs (i + 1)) (xs (i + 2)) hI.2.2.1 hI.2.2.2)
  refine aw_icmp_eq (tgt := 1281) dL_law_964 rfl (fun h964 => ?_) (fun h964 => absurd e12 h964)
  exact ih _ _ _ _ _ hI2
theorem lc_27 {G : GC} {E : SH} {b L X z0 i : Nat} {xs : Nat → Int32} {nm : String} (hX : XS G E X) (hM : MS G E (X + 138)) (hEz : E.1 = z0 + 156) (hL : L ≤ 3072) (hi : i + 6 ≤ L) {A : AA} {D : DD} {T : FT} {iv : IV} {lv : LV} (hI : Inv X A D T iv lv) (ih : ∀ A D T iv lv, Inv X A D T iv lv → AW G (mLw nm) room_1 ZL (XL G b L xs) z0 1281 [some (.ref b), some (.ref X), some (.ref (X + 138)), some (.int (nI i))] [] E iv lv) : AW G (mLw nm) room_1 ZL (XL G b L xs) z0 969 [some (.ref b), some (.ref X), some (.ref (X + 138)), some (.int (nI i))] [] E iv lv := by
  refine aw_aload_n dL_law_969 rfl ?_
  refine aw_aload_n dL_law_970 rfl ?_
  refine aw_iload_n dL_law_971 rfl ?_
  refine aw_iconst (v := nI 1) dL_law_972 kc_1 ?_
  refine aw_iadd dL_law_973 ?_
  rw [nI_add]
  refine aw_sld dL_law_974 rfl (by omega) hL ?_
  refine aw_aload_n dL_law_975 rfl ?_
  refine aw_iload_n dL_law_976 rfl ?_
  refine aw_iconst (v := nI 2) dL_law_977 kc_2 ?_
  refine aw_iadd dL_law_978 ?_
  rw [nI_add]
  refine aw_sld dL_law_979 rfl (by omega) hL ?_
  refine aw_sVi [_, _] dL_law_980 cvL_126 (XS.s0 hX) (x_highs hX hI.1.1 hI.1.2.1 hI.1.2.2 hI.2.2.2 hI.2.2.1 (xs (i + 1)) (xs (i + 2))) rfl rfl (Nat.le_of_ble_eq_true rfl) (rbL (by omega) (by decide) (by decide)) (fun v1 i1 l1 q1 => ?_)
  obtain ⟨n1, n2, n3⟩ := inv_M hI q1
  refine aw_aload_n dL_law_983 rfl ?_
  refine aw_aload_n dL_law_984 rfl ?_
  refine aw_iload_n dL_law_985 rfl ?_
  refine aw_iconst (v := nI 1) dL_law_986 kc_1 ?_
  refine aw_iadd dL_law_987 ?_
  rw [nI_add]
  refine aw_sld dL_law_988 rfl (by omega) hL ?_
  refine aw_aload_n dL_law_989 rfl ?_
  refine aw_iload_n dL_law_990 rfl ?_
  refine aw_iconst (v := nI 2) dL_law_991 kc_2 ?_
  refine aw_iadd dL_law_992 ?_
  rw [nI_add]
  refine aw_sld dL_law_993 rfl (by omega) hL ?_
  refine aw_sVi [_, _] dL_law_994 cvL_129 (MS.s0 hM) (m_highs hM n1 n2 n3 hI.2.2.2 hI.2.2.1 (xs (i + 1)) (xs (i + 2))) rfl rfl (Nat.le_of_ble_eq_true rfl) (rbL (by omega) (by decide) (by decide)) (fun v2 i2 l2 q2 => ?_)
  obtain ⟨e12, hI2⟩ := inv_QQ q1 q2 (kw_highs (xs (i + 1)) (xs (i + 2)) hI.2.2.1 hI.2.2.2)
  refine aw_icmp_eq (tgt := 1281) dL_law_997 rfl (fun h997 => ?_) (fun h997 => absurd e12 h997)
  exact ih _ _ _ _ _ hI2
theorem lc_28 {G : GC} {E : SH} {b L X z0 i : Nat} {xs : Nat → Int32} {nm : String} (hX : XS G E X) (hM : MS G E (X + 138)) (hEz : E.1 = z0 + 156) (hL : L ≤ 3072) (hi : i + 6 ≤ L) {A : AA} {D : DD} {T : FT} {iv : IV} {lv : LV} (hI : Inv X A D T iv lv) (ih : ∀ A D T iv lv, Inv X A D T iv lv → AW G (mLw nm) room_1 ZL (XL G b L xs) z0 1281 [some (.ref b), some (.ref X), some (.ref (X + 138)), some (.int (nI i))] [] E iv lv) : AW G (mLw nm) room_1 ZL (XL G b L xs) z0 1002 [some (.ref b), some (.ref X), some (.ref (X + 138)), some (.int (nI i))] [] E iv lv := by
  refine aw_aload_n dL_law_1002 rfl ?_
  refine aw_aload_n dL_law_1003 rfl ?_
  refine aw_iload_n dL_law_1004 rfl ?_
  refine aw_iconst (v := nI 1) dL_law_1005 kc_1 ?_
  refine aw_iadd dL_law_1006 ?_
  rw [nI_add]
  refine aw_sld dL_law_1007 rfl (by omega) hL ?_
  refine aw_aload_n dL_law_1008 rfl ?_
  refine aw_iload_n dL_law_1009 rfl ?_
  refine aw_iconst (v := nI 2) dL_law_1010 kc_2 ?_
  refine aw_iadd dL_law_1011 ?_
  rw [nI_add]
  refine aw_sld dL_law_1012 rfl (by omega) hL ?_
  refine aw_sVi [_, _] dL_law_1013 cvL_130 (XS.s0 hX) (x_test hX hI.1.1 hI.1.2.1 hI.1.2.2 hI.2.2.2 hI.2.2.1 (xs (i + 1)) (xs (i + 2))) rfl rfl (Nat.le_of_ble_eq_true rfl) (rbL (by omega) (by decide) (by decide)) (fun v1 i1 l1 q1 => ?_)
  obtain ⟨n1, n2, n3⟩ := inv_M hI q1
  refine aw_aload_n dL_law_1016 rfl ?_
  refine aw_aload_n dL_law_1017 rfl ?_
  refine aw_iload_n dL_law_1018 rfl ?_
  refine aw_iconst (v := nI 1) dL_law_1019 kc_1 ?_
  refine aw_iadd dL_law_1020 ?_
  rw [nI_add]
  refine aw_sld dL_law_1021 rfl (by omega) hL ?_
  refine aw_aload_n dL_law_1022 rfl ?_
  refine aw_iload_n dL_law_1023 rfl ?_
  refine aw_iconst (v := nI 2) dL_law_1024 kc_2 ?_
  refine aw_iadd dL_law_1025 ?_
  rw [nI_add]
  refine aw_sld dL_law_1026 rfl (by omega) hL ?_
  refine aw_sVi [_, _] dL_law_1027 cvL_133 (MS.s0 hM) (m_test hM n1 n2 n3 hI.2.2.2 hI.2.2.1 (xs (i + 1)) (xs (i + 2))) rfl rfl (Nat.le_of_ble_eq_true rfl) (rbL (by omega) (by decide) (by decide)) (fun v2 i2 l2 q2 => ?_)
  obtain ⟨e12, hI2⟩ := inv_QQ q1 q2 (kw_test (xs (i + 1)) (xs (i + 2)) hI.2.2.1 hI.2.2.2)
  refine aw_icmp_eq (tgt := 1281) dL_law_1030 rfl (fun h1030 => ?_) (fun h1030 => absurd e12 h1030)
  exact ih _ _ _ _ _ hI2
theorem lc_29 {G : GC} {E : SH} {b L X z0 i : Nat} {xs : Nat → Int32} {nm : String} (hX : XS G E X) (hM : MS G E (X + 138)) (hEz : E.1 = z0 + 156) (hL : L ≤ 3072) (hi : i + 6 ≤ L) {A : AA} {D : DD} {T : FT} {iv : IV} {lv : LV} (hI : Inv X A D T iv lv) (ih : ∀ A D T iv lv, Inv X A D T iv lv → AW G (mLw nm) room_1 ZL (XL G b L xs) z0 1281 [some (.ref b), some (.ref X), some (.ref (X + 138)), some (.int (nI i))] [] E iv lv) : AW G (mLw nm) room_1 ZL (XL G b L xs) z0 1035 [some (.ref b), some (.ref X), some (.ref (X + 138)), some (.int (nI i))] [] E iv lv := by
  refine aw_aload_n dL_law_1035 rfl ?_
  refine aw_aload_n dL_law_1036 rfl ?_
  refine aw_iload_n dL_law_1037 rfl ?_
  refine aw_iconst (v := nI 1) dL_law_1038 kc_1 ?_
  refine aw_iadd dL_law_1039 ?_
  rw [nI_add]
  refine aw_sld dL_law_1040 rfl (by omega) hL ?_
  refine aw_sVi [_] dL_law_1041 cvL_134 (XS.s0 hX) (x_duel hX hI.1.1 hI.1.2.1 hI.1.2.2 hI.2.2.2 (xs (i + 1))) rfl rfl (Nat.le_of_ble_eq_true rfl) (rbL (by omega) (by decide) (by decide)) (fun v1 i1 l1 q1 => ?_)
  obtain ⟨n1, n2, n3⟩ := inv_M hI q1
  refine aw_aload_n dL_law_1044 rfl ?_
  refine aw_aload_n dL_law_1045 rfl ?_
  refine aw_iload_n dL_law_1046 rfl ?_
  refine aw_iconst (v := nI 1) dL_law_1047 kc_1 ?_
  refine aw_iadd dL_law_1048 ?_
  rw [nI_add]
  refine aw_sld dL_law_1049 rfl (by omega) hL ?_
  refine aw_sVi [_] dL_law_1050 cvL_137 (MS.s0 hM) (m_duel hM n1 n2 n3 hI.2.2.2 (xs (i + 1))) rfl rfl (Nat.le_of_ble_eq_true rfl) (rbL (by omega) (by decide) (by decide)) (fun v2 i2 l2 q2 => ?_)
  obtain ⟨e12, hI2⟩ := inv_QQ q1 q2 (kw_duel (xs (i + 1)) hI.2.2.1 hI.2.2.2)
  refine aw_icmp_eq (tgt := 1281) dL_law_1053 rfl (fun h1053 => ?_) (fun h1053 => absurd e12 h1053)
  exact ih _ _ _ _ _ hI2
theorem lc_30 {G : GC} {E : SH} {b L X z0 i : Nat} {xs : Nat → Int32} {nm : String} (hX : XS G E X) (hM : MS G E (X + 138)) (hEz : E.1 = z0 + 156) (hL : L ≤ 3072) (hi : i + 6 ≤ L) {A : AA} {D : DD} {T : FT} {iv : IV} {lv : LV} (hI : Inv X A D T iv lv) (ih : ∀ A D T iv lv, Inv X A D T iv lv → AW G (mLw nm) room_1 ZL (XL G b L xs) z0 1281 [some (.ref b), some (.ref X), some (.ref (X + 138)), some (.int (nI i))] [] E iv lv) : AW G (mLw nm) room_1 ZL (XL G b L xs) z0 1058 [some (.ref b), some (.ref X), some (.ref (X + 138)), some (.int (nI i))] [] E iv lv := by
  refine aw_aload_n dL_law_1058 rfl ?_
  refine aw_aload_n dL_law_1059 rfl ?_
  refine aw_iload_n dL_law_1060 rfl ?_
  refine aw_iconst (v := nI 1) dL_law_1061 kc_1 ?_
  refine aw_iadd dL_law_1062 ?_
  rw [nI_add]
  refine aw_sld dL_law_1063 rfl (by omega) hL ?_
  refine aw_aload_n dL_law_1064 rfl ?_
  refine aw_iload_n dL_law_1065 rfl ?_
  refine aw_iconst (v := nI 2) dL_law_1066 kc_2 ?_
  refine aw_iadd dL_law_1067 ?_
  rw [nI_add]
  refine aw_sld dL_law_1068 rfl (by omega) hL ?_
  refine aw_aload_n dL_law_1069 rfl ?_
  refine aw_iload_n dL_law_1070 rfl ?_
  refine aw_iconst (v := nI 3) dL_law_1071 kc_3 ?_
  refine aw_iadd dL_law_1072 ?_
  rw [nI_add]
  refine aw_sld dL_law_1073 rfl (by omega) hL ?_
  refine aw_sVi [_, _, _] dL_law_1074 cvL_138 (XS.s0 hX) (x_odds hX hI.1.1 hI.1.2.1 hI.1.2.2 hI.2.2.2 (xs (i + 1)) (xs (i + 2)) (xs (i + 3))) rfl rfl (Nat.le_of_ble_eq_true rfl) (rbL (by omega) (by decide) (by decide)) (fun v1 i1 l1 q1 => ?_)
  obtain ⟨n1, n2, n3⟩ := inv_M hI q1
  refine aw_aload_n dL_law_1077 rfl ?_
  refine aw_aload_n dL_law_1078 rfl ?_
  refine aw_iload_n dL_law_1079 rfl ?_
  refine aw_iconst (v := nI 1) dL_law_1080 kc_1 ?_
  refine aw_iadd dL_law_1081 ?_
  rw [nI_add]
  refine aw_sld dL_law_1082 rfl (by omega) hL ?_
  refine aw_aload_n dL_law_1083 rfl ?_
  refine aw_iload_n dL_law_1084 rfl ?_
  refine aw_iconst (v := nI 2) dL_law_1085 kc_2 ?_
  refine aw_iadd dL_law_1086 ?_
  rw [nI_add]
  refine aw_sld dL_law_1087 rfl (by omega) hL ?_
  refine aw_aload_n dL_law_1088 rfl ?_
  refine aw_iload_n dL_law_1089 rfl ?_
  refine aw_iconst (v := nI 3) dL_law_1090 kc_3 ?_
  refine aw_iadd dL_law_1091 ?_
  rw [nI_add]
  refine aw_sld dL_law_1092 rfl (by omega) hL ?_
  refine aw_sVi [_, _, _] dL_law_1093 cvL_141 (MS.s0 hM) (m_odds hM n1 n2 n3 hI.2.2.2 (xs (i + 1)) (xs (i + 2)) (xs (i + 3))) rfl rfl (Nat.le_of_ble_eq_true rfl) (rbL (by omega) (by decide) (by decide)) (fun v2 i2 l2 q2 => ?_)
  obtain ⟨e12, hI2⟩ := inv_QQ q1 q2 (kw_odds (xs (i + 1)) (xs (i + 2)) (xs (i + 3)) hI.2.2.1 hI.2.2.2)
  refine aw_icmp_eq (tgt := 1281) dL_law_1096 rfl (fun h1096 => ?_) (fun h1096 => absurd e12 h1096)
  exact ih _ _ _ _ _ hI2
theorem lc_31 {G : GC} {E : SH} {b L X z0 i : Nat} {xs : Nat → Int32} {nm : String} (hX : XS G E X) (hM : MS G E (X + 138)) (hEz : E.1 = z0 + 156) (hL : L ≤ 3072) (hi : i + 6 ≤ L) {A : AA} {D : DD} {T : FT} {iv : IV} {lv : LV} (hI : Inv X A D T iv lv) (ih : ∀ A D T iv lv, Inv X A D T iv lv → AW G (mLw nm) room_1 ZL (XL G b L xs) z0 1281 [some (.ref b), some (.ref X), some (.ref (X + 138)), some (.int (nI i))] [] E iv lv) : AW G (mLw nm) room_1 ZL (XL G b L xs) z0 1101 [some (.ref b), some (.ref X), some (.ref (X + 138)), some (.int (nI i))] [] E iv lv := by
  refine aw_aload_n dL_law_1101 rfl ?_
  refine aw_aload_n dL_law_1102 rfl ?_
  refine aw_iload_n dL_law_1103 rfl ?_
  refine aw_iconst (v := nI 1) dL_law_1104 kc_1 ?_
  refine aw_iadd dL_law_1105 ?_
  rw [nI_add]
  refine aw_sld dL_law_1106 rfl (by omega) hL ?_
  refine aw_aload_n dL_law_1107 rfl ?_
  refine aw_iload_n dL_law_1108 rfl ?_
  refine aw_iconst (v := nI 2) dL_law_1109 kc_2 ?_
  refine aw_iadd dL_law_1110 ?_
  rw [nI_add]
  refine aw_sld dL_law_1111 rfl (by omega) hL ?_
  refine aw_sVi [_, _] dL_law_1112 cvL_142 (XS.s0 hX) (x_mid hX hI.1.1 hI.1.2.1 hI.1.2.2 hI.2.2.2 (xs (i + 1)) (xs (i + 2))) rfl rfl (Nat.le_of_ble_eq_true rfl) (rbL (by omega) (by decide) (by decide)) (fun v1 i1 l1 q1 => ?_)
  obtain ⟨n1, n2, n3⟩ := inv_M hI q1
  refine aw_aload_n dL_law_1115 rfl ?_
  refine aw_aload_n dL_law_1116 rfl ?_
  refine aw_iload_n dL_law_1117 rfl ?_
  refine aw_iconst (v := nI 1) dL_law_1118 kc_1 ?_
  refine aw_iadd dL_law_1119 ?_
  rw [nI_add]
  refine aw_sld dL_law_1120 rfl (by omega) hL ?_
  refine aw_aload_n dL_law_1121 rfl ?_
  refine aw_iload_n dL_law_1122 rfl ?_
  refine aw_iconst (v := nI 2) dL_law_1123 kc_2 ?_
  refine aw_iadd dL_law_1124 ?_
  rw [nI_add]
  refine aw_sld dL_law_1125 rfl (by omega) hL ?_
  refine aw_sVi [_, _] dL_law_1126 cvL_145 (MS.s0 hM) (m_mid hM n1 n2 n3 hI.2.2.2 (xs (i + 1)) (xs (i + 2))) rfl rfl (Nat.le_of_ble_eq_true rfl) (rbL (by omega) (by decide) (by decide)) (fun v2 i2 l2 q2 => ?_)
  obtain ⟨e12, hI2⟩ := inv_QQ q1 q2 (kw_mid (xs (i + 1)) (xs (i + 2)) hI.2.2.1 hI.2.2.2)
  refine aw_icmp_eq (tgt := 1281) dL_law_1129 rfl (fun h1129 => ?_) (fun h1129 => absurd e12 h1129)
  exact ih _ _ _ _ _ hI2
theorem lc_32 {G : GC} {E : SH} {b L X z0 i : Nat} {xs : Nat → Int32} {nm : String} (hX : XS G E X) (hM : MS G E (X + 138)) (hEz : E.1 = z0 + 156) (hL : L ≤ 3072) (hi : i + 6 ≤ L) {A : AA} {D : DD} {T : FT} {iv : IV} {lv : LV} (hI : Inv X A D T iv lv) (ih : ∀ A D T iv lv, Inv X A D T iv lv → AW G (mLw nm) room_1 ZL (XL G b L xs) z0 1281 [some (.ref b), some (.ref X), some (.ref (X + 138)), some (.int (nI i))] [] E iv lv) : AW G (mLw nm) room_1 ZL (XL G b L xs) z0 1134 [some (.ref b), some (.ref X), some (.ref (X + 138)), some (.int (nI i))] [] E iv lv := by
  refine aw_aload_n dL_law_1134 rfl ?_
  refine aw_aload_n dL_law_1135 rfl ?_
  refine aw_iload_n dL_law_1136 rfl ?_
  refine aw_iconst (v := nI 1) dL_law_1137 kc_1 ?_
  refine aw_iadd dL_law_1138 ?_
  rw [nI_add]
  refine aw_sld dL_law_1139 rfl (by omega) hL ?_
  refine aw_aload_n dL_law_1140 rfl ?_
  refine aw_iload_n dL_law_1141 rfl ?_
  refine aw_iconst (v := nI 2) dL_law_1142 kc_2 ?_
  refine aw_iadd dL_law_1143 ?_
  rw [nI_add]
  refine aw_sld dL_law_1144 rfl (by omega) hL ?_
  refine aw_sVi [_, _] dL_law_1145 cvL_146 (XS.s0 hX) (x_lots hX hI.1.1 hI.1.2.1 hI.1.2.2 hI.2.2.2 (xs (i + 1)) (xs (i + 2))) rfl rfl (Nat.le_of_ble_eq_true rfl) (rbL (by omega) (by decide) (by decide)) (fun v1 i1 l1 q1 => ?_)
  obtain ⟨n1, n2, n3⟩ := inv_M hI q1
  refine aw_aload_n dL_law_1148 rfl ?_
  refine aw_aload_n dL_law_1149 rfl ?_
  refine aw_iload_n dL_law_1150 rfl ?_
  refine aw_iconst (v := nI 1) dL_law_1151 kc_1 ?_
  refine aw_iadd dL_law_1152 ?_
  rw [nI_add]
  refine aw_sld dL_law_1153 rfl (by omega) hL ?_
  refine aw_aload_n dL_law_1154 rfl ?_
  refine aw_iload_n dL_law_1155 rfl ?_
  refine aw_iconst (v := nI 2) dL_law_1156 kc_2 ?_
  refine aw_iadd dL_law_1157 ?_
  rw [nI_add]
  refine aw_sld dL_law_1158 rfl (by omega) hL ?_
  refine aw_sVi [_, _] dL_law_1159 cvL_149 (MS.s0 hM) (m_lots hM n1 n2 n3 hI.2.2.2 (xs (i + 1)) (xs (i + 2))) rfl rfl (Nat.le_of_ble_eq_true rfl) (rbL (by omega) (by decide) (by decide)) (fun v2 i2 l2 q2 => ?_)
  obtain ⟨e12, hI2⟩ := inv_QQ q1 q2 (kw_lots (xs (i + 1)) (xs (i + 2)) hI.2.2.1 hI.2.2.2)
  refine aw_icmp_eq (tgt := 1281) dL_law_1162 rfl (fun h1162 => ?_) (fun h1162 => absurd e12 h1162)
  exact ih _ _ _ _ _ hI2
theorem lc_33 {G : GC} {E : SH} {b L X z0 i : Nat} {xs : Nat → Int32} {nm : String} (hX : XS G E X) (hM : MS G E (X + 138)) (hEz : E.1 = z0 + 156) (hL : L ≤ 3072) (hi : i + 6 ≤ L) {A : AA} {D : DD} {T : FT} {iv : IV} {lv : LV} (hI : Inv X A D T iv lv) (ih : ∀ A D T iv lv, Inv X A D T iv lv → AW G (mLw nm) room_1 ZL (XL G b L xs) z0 1281 [some (.ref b), some (.ref X), some (.ref (X + 138)), some (.int (nI i))] [] E iv lv) : AW G (mLw nm) room_1 ZL (XL G b L xs) z0 1167 [some (.ref b), some (.ref X), some (.ref (X + 138)), some (.int (nI i))] [] E iv lv := by
  refine aw_aload_n dL_law_1167 rfl ?_
  refine aw_xVi [] dL_law_1168 cvL_150 (XS.s0 hX) (x_asked hX hI.1.1) rfl rfl (Nat.le_of_ble_eq_true rfl) (rbL (by omega) (by decide) (by decide)) ?_
  refine aw_aload_n dL_law_1171 rfl ?_
  refine aw_xVi [] dL_law_1172 cvL_153 (MS.s0 hM) (m_asked hM hI.2.1.1) rfl rfl (Nat.le_of_ble_eq_true rfl) (rbL (by omega) (by decide) (by decide)) ?_
  refine aw_icmp_eq (tgt := 1281) dL_law_1175 rfl (fun h1175 => ?_) (fun h1175 => absurd rfl h1175)
  exact ih _ _ _ _ _ hI
theorem lc_34 {G : GC} {E : SH} {b L X z0 i : Nat} {xs : Nat → Int32} {nm : String} (hX : XS G E X) (hM : MS G E (X + 138)) (hEz : E.1 = z0 + 156) (hL : L ≤ 3072) (hi : i + 6 ≤ L) {A : AA} {D : DD} {T : FT} {iv : IV} {lv : LV} (hI : Inv X A D T iv lv) (ih : ∀ A D T iv lv, Inv X A D T iv lv → AW G (mLw nm) room_1 ZL (XL G b L xs) z0 1281 [some (.ref b), some (.ref X), some (.ref (X + 138)), some (.int (nI i))] [] E iv lv) : AW G (mLw nm) room_1 ZL (XL G b L xs) z0 1180 [some (.ref b), some (.ref X), some (.ref (X + 138)), some (.int (nI i))] [] E iv lv := by
  refine aw_aload_n dL_law_1180 rfl ?_
  refine aw_xVl [] dL_law_1181 cvL_154 (XS.s0 hX) (x_upper hX hI.1.1) rfl rfl (Nat.le_of_ble_eq_true rfl) (rbL (by omega) (by decide) (by decide)) ?_
  refine aw_aload_n dL_law_1184 rfl ?_
  refine aw_xVl [] dL_law_1185 cvL_158 (MS.s0 hM) (m_upper hM hI.2.1.1) rfl rfl (Nat.le_of_ble_eq_true rfl) (rbL (by omega) (by decide) (by decide)) ?_
  refine aw_lcmp dL_law_1188 ?_
  refine aw_if_eq (tgt := 1281) dL_law_1189 rfl (fun h1189 => ?_) (fun h1189 => absurd ((lg_cmp_eq _ _).mpr rfl) h1189)
  exact ih _ _ _ _ _ hI
theorem lc_35 {G : GC} {E : SH} {b L X z0 i : Nat} {xs : Nat → Int32} {nm : String} (hX : XS G E X) (hM : MS G E (X + 138)) (hEz : E.1 = z0 + 156) (hL : L ≤ 3072) (hi : i + 6 ≤ L) {A : AA} {D : DD} {T : FT} {iv : IV} {lv : LV} (hI : Inv X A D T iv lv) (ih : ∀ A D T iv lv, Inv X A D T iv lv → AW G (mLw nm) room_1 ZL (XL G b L xs) z0 1281 [some (.ref b), some (.ref X), some (.ref (X + 138)), some (.int (nI i))] [] E iv lv) : AW G (mLw nm) room_1 ZL (XL G b L xs) z0 1194 [some (.ref b), some (.ref X), some (.ref (X + 138)), some (.int (nI i))] [] E iv lv := by
  refine aw_aload_n dL_law_1194 rfl ?_
  refine aw_xVl [] dL_law_1195 cvL_159 (XS.s0 hX) (x_lower hX hI.1.1) rfl rfl (Nat.le_of_ble_eq_true rfl) (rbL (by omega) (by decide) (by decide)) ?_
  refine aw_aload_n dL_law_1198 rfl ?_
  refine aw_xVl [] dL_law_1199 cvL_162 (MS.s0 hM) (m_lower hM hI.2.1.1) rfl rfl (Nat.le_of_ble_eq_true rfl) (rbL (by omega) (by decide) (by decide)) ?_
  refine aw_lcmp dL_law_1202 ?_
  refine aw_if_eq (tgt := 1281) dL_law_1203 rfl (fun h1203 => ?_) (fun h1203 => absurd ((lg_cmp_eq _ _).mpr rfl) h1203)
  exact ih _ _ _ _ _ hI
theorem lc_36 {G : GC} {E : SH} {b L X z0 i : Nat} {xs : Nat → Int32} {nm : String} (hX : XS G E X) (hM : MS G E (X + 138)) (hEz : E.1 = z0 + 156) (hL : L ≤ 3072) (hi : i + 6 ≤ L) {A : AA} {D : DD} {T : FT} {iv : IV} {lv : LV} (hI : Inv X A D T iv lv) (ih : ∀ A D T iv lv, Inv X A D T iv lv → AW G (mLw nm) room_1 ZL (XL G b L xs) z0 1281 [some (.ref b), some (.ref X), some (.ref (X + 138)), some (.int (nI i))] [] E iv lv) : AW G (mLw nm) room_1 ZL (XL G b L xs) z0 1208 [some (.ref b), some (.ref X), some (.ref (X + 138)), some (.int (nI i))] [] E iv lv := by
  by_cases hb : bad (xs (i + 1)) 12
  · skip
    refine aw_aload_n dL_law_1208 rfl ?_
    refine aw_aload_n dL_law_1209 rfl ?_
    refine aw_iload_n dL_law_1210 rfl ?_
    refine aw_iconst (v := nI 1) dL_law_1211 kc_1 ?_
    refine aw_iadd dL_law_1212 ?_
    rw [nI_add]
    refine aw_sld dL_law_1213 rfl (by omega) hL ?_
    refine aw_xVi [_] dL_law_1214 cvL_163 (XS.s0 hX) (e_cntB (xs (i + 1)) hb) rfl rfl (Nat.le_of_ble_eq_true rfl) (rbL (by omega) (by decide) (by decide)) ?_
    refine aw_aload_n dL_law_1217 rfl ?_
    refine aw_aload_n dL_law_1218 rfl ?_
    refine aw_iload_n dL_law_1219 rfl ?_
    refine aw_iconst (v := nI 1) dL_law_1220 kc_1 ?_
    refine aw_iadd dL_law_1221 ?_
    rw [nI_add]
    refine aw_sld dL_law_1222 rfl (by omega) hL ?_
    refine aw_xVi [_] dL_law_1223 cvL_166 (MS.s0 hM) (m_countB (xs (i + 1)) hb) rfl rfl (Nat.le_of_ble_eq_true rfl) (rbL (by omega) (by decide) (by decide)) ?_
    refine aw_icmp_eq (tgt := 1281) dL_law_1226 rfl (fun h1226 => ?_) (fun h1226 => absurd rfl h1226)
    exact ih _ _ _ _ _ hI
  · obtain ⟨j, hj, hw⟩ := ix_of hb (by decide)
    refine aw_aload_n dL_law_1208 rfl ?_
    refine aw_aload_n dL_law_1209 rfl ?_
    refine aw_iload_n dL_law_1210 rfl ?_
    refine aw_iconst (v := nI 1) dL_law_1211 kc_1 ?_
    refine aw_iadd dL_law_1212 ?_
    rw [nI_add]
    refine aw_sld dL_law_1213 rfl (by omega) hL ?_
    rw [hw]
    refine aw_xVi [_] dL_law_1214 cvL_163 (XS.s0 hX) (e_cnt hX hI.1.2.1 hI.2.2.1 hI.1.2.2 hI.2.2.2 hj) rfl rfl (Nat.le_of_ble_eq_true rfl) (rbL (by omega) (by decide) (by decide)) ?_
    refine aw_aload_n dL_law_1217 rfl ?_
    refine aw_aload_n dL_law_1218 rfl ?_
    refine aw_iload_n dL_law_1219 rfl ?_
    refine aw_iconst (v := nI 1) dL_law_1220 kc_1 ?_
    refine aw_iadd dL_law_1221 ?_
    rw [nI_add]
    refine aw_sld dL_law_1222 rfl (by omega) hL ?_
    rw [hw]
    refine aw_xVi [_] dL_law_1223 cvL_166 (MS.s0 hM) (m_count hM hI.2.1.2.1 hI.2.2.1 hI.2.1.2.2 hI.2.2.2 hj) rfl rfl (Nat.le_of_ble_eq_true rfl) (rbL (by omega) (by decide) (by decide)) ?_
    refine aw_icmp_eq (tgt := 1281) dL_law_1226 rfl (fun h1226 => ?_) (fun h1226 => absurd rfl h1226)
    exact ih _ _ _ _ _ hI
theorem lc_37 {G : GC} {E : SH} {b L X z0 i : Nat} {xs : Nat → Int32} {nm : String} (hX : XS G E X) (hM : MS G E (X + 138)) (hEz : E.1 = z0 + 156) (hL : L ≤ 3072) (hi : i + 6 ≤ L) {A : AA} {D : DD} {T : FT} {iv : IV} {lv : LV} (hI : Inv X A D T iv lv) (ih : ∀ A D T iv lv, Inv X A D T iv lv → AW G (mLw nm) room_1 ZL (XL G b L xs) z0 1281 [some (.ref b), some (.ref X), some (.ref (X + 138)), some (.int (nI i))] [] E iv lv) : AW G (mLw nm) room_1 ZL (XL G b L xs) z0 1231 [some (.ref b), some (.ref X), some (.ref (X + 138)), some (.int (nI i))] [] E iv lv := by
  refine aw_aload_n dL_law_1231 rfl ?_
  refine aw_xVi [] dL_law_1232 cvL_167 (XS.s0 hX) (x_finding hX hI.1.1) rfl rfl (Nat.le_of_ble_eq_true rfl) (rbL (by omega) (by decide) (by decide)) ?_
  refine aw_aload_n dL_law_1235 rfl ?_
  refine aw_xVi [] dL_law_1236 cvL_170 (MS.s0 hM) (m_finding hM hI.2.1.1) rfl rfl (Nat.le_of_ble_eq_true rfl) (rbL (by omega) (by decide) (by decide)) ?_
  refine aw_icmp_eq (tgt := 1281) dL_law_1239 rfl (fun h1239 => ?_) (fun h1239 => absurd rfl h1239)
  exact ih _ _ _ _ _ hI
theorem lc_38 {G : GC} {E : SH} {b L X z0 i : Nat} {xs : Nat → Int32} {nm : String} (hX : XS G E X) (hM : MS G E (X + 138)) (hEz : E.1 = z0 + 156) (hL : L ≤ 3072) (hi : i + 6 ≤ L) {A : AA} {D : DD} {T : FT} {iv : IV} {lv : LV} (hI : Inv X A D T iv lv) (ih : ∀ A D T iv lv, Inv X A D T iv lv → AW G (mLw nm) room_1 ZL (XL G b L xs) z0 1281 [some (.ref b), some (.ref X), some (.ref (X + 138)), some (.int (nI i))] [] E iv lv) : AW G (mLw nm) room_1 ZL (XL G b L xs) z0 1244 [some (.ref b), some (.ref X), some (.ref (X + 138)), some (.int (nI i))] [] E iv lv := by
  refine aw_aload_n dL_law_1244 rfl ?_
  refine aw_aload_n dL_law_1245 rfl ?_
  refine aw_iload_n dL_law_1246 rfl ?_
  refine aw_iconst (v := nI 1) dL_law_1247 kc_1 ?_
  refine aw_iadd dL_law_1248 ?_
  rw [nI_add]
  refine aw_sld dL_law_1249 rfl (by omega) hL ?_
  refine aw_xVi [_] dL_law_1250 cvL_171 (XS.s0 hX) (x_findings hX hI.1.1 (xs (i + 1))) rfl rfl (Nat.le_of_ble_eq_true rfl) (rbL (by omega) (by decide) (by decide)) ?_
  refine aw_aload_n dL_law_1253 rfl ?_
  refine aw_aload_n dL_law_1254 rfl ?_
  refine aw_iload_n dL_law_1255 rfl ?_
  refine aw_iconst (v := nI 1) dL_law_1256 kc_1 ?_
  refine aw_iadd dL_law_1257 ?_
  rw [nI_add]
  refine aw_sld dL_law_1258 rfl (by omega) hL ?_
  refine aw_xVi [_] dL_law_1259 cvL_174 (MS.s0 hM) (m_findings hM hI.2.1.1 (xs (i + 1))) rfl rfl (Nat.le_of_ble_eq_true rfl) (rbL (by omega) (by decide) (by decide)) ?_
  refine aw_icmp_eq (tgt := 1281) dL_law_1262 rfl (fun h1262 => ?_) (fun h1262 => absurd rfl h1262)
  exact ih _ _ _ _ _ hI
theorem lc_39 {G : GC} {E : SH} {b L X z0 i : Nat} {xs : Nat → Int32} {nm : String} (hX : XS G E X) (hM : MS G E (X + 138)) (hEz : E.1 = z0 + 156) (hL : L ≤ 3072) (hi : i + 6 ≤ L) {A : AA} {D : DD} {T : FT} {iv : IV} {lv : LV} (hI : Inv X A D T iv lv) (ih : ∀ A D T iv lv, Inv X A D T iv lv → AW G (mLw nm) room_1 ZL (XL G b L xs) z0 1281 [some (.ref b), some (.ref X), some (.ref (X + 138)), some (.int (nI i))] [] E iv lv) : AW G (mLw nm) room_1 ZL (XL G b L xs) z0 1267 [some (.ref b), some (.ref X), some (.ref (X + 138)), some (.int (nI i))] [] E iv lv := by
  refine aw_aload_n dL_law_1267 rfl ?_
  refine aw_xVl [] dL_law_1268 cvL_175 (XS.s0 hX) (x_digest hX hI.1.2.1 hI.2.2.1 hI.1.2.2 hI.2.2.2) rfl rfl (Nat.le_of_ble_eq_true rfl) (rbL (by omega) (by decide) (by decide)) ?_
  refine aw_aload_n dL_law_1271 rfl ?_
  refine aw_sVl [] dL_law_1272 cvL_178 (MS.s0 hM) (m_digest hM hI.2.1.2.1 hI.2.2.1 hI.2.1.2.2 hI.2.2.2) rfl rfl (Nat.le_of_ble_eq_true rfl) (rbL (by omega) (by decide) (by decide)) (fun v2 i2 l2 q2 => ?_)
  obtain ⟨rfl, rfl, h8, h9⟩ := q2
  refine aw_lcmp dL_law_1275 ?_
  refine aw_if_eq (tgt := 1281) dL_law_1276 rfl (fun h1276 => ?_) (fun h1276 => absurd ((lg_cmp_eq _ _).mpr rfl) h1276)
  exact ih _ _ _ _ _ (inv_dg hI h8 h9)
theorem lw_cmp {i L : Nat} (hi : i < 2 ^ 30) (hL : L < 2 ^ 30) : nI L - nI 6 < nI i ↔ L < i + 6 := by
  rw [Int32.lt_iff_toInt_lt, pk_sub_toInt hL (by decide), nI_toInt (by omega)]
  omega
theorem law_loop {G : GC} {E : SH} {b L X z0 : Nat} {xs : Nat → Int32} {nm : String} (hX : XS G E X) (hM : MS G E (X + 138)) (hEz : E.1 = z0 + 156) (hL : L ≤ 3072) : ∀ (c i : Nat) (A : AA) (D : DD) (T : FT) (iv : IV) (lv : LV), L ≤ i + c → i ≤ 3072 → Inv X A D T iv lv → AW G (mLw nm) room_1 ZL (XL G b L xs) z0 18 [some (.ref b), some (.ref X), some (.ref (X + 138)), some (.int (nI i))] [] E iv lv := by
  intro c
  induction c with
  | zero =>
    intro i A D T iv lv hc hi hI
    refine aw_iload_n dL_law_18 rfl ?_
    refine aw_aload_n dL_law_19 rfl ?_
    refine aw_slen dL_law_20 ?_
    refine aw_bipush (v := nI 6) dL_law_21 kb_6 ?_
    refine aw_isub dL_law_23 ?_
    refine aw_icmp_gt (tgt := 1287) dL_law_24 rfl (fun h24 => ?_) (fun h24 => absurd ((lw_cmp (by omega) (by omega)).mpr (by omega)) h24)
    refine aw_iconst (v := nI 1) dL_law_1287 kc_1 ?_
    exact aw_lawret dL_law_1288 (by omega)
  | succ c ih =>
    intro i A D T iv lv hc hi hI
    by_cases h6 : i + 6 ≤ L
    · skip
      refine aw_iload_n dL_law_18 rfl ?_
      refine aw_aload_n dL_law_19 rfl ?_
      refine aw_slen dL_law_20 ?_
      refine aw_bipush (v := nI 6) dL_law_21 kb_6 ?_
      refine aw_isub dL_law_23 ?_
      refine aw_icmp_gt (tgt := 1287) dL_law_24 rfl (fun h24 => absurd h24 (fun q => absurd ((lw_cmp (by omega) (by omega)).mp q) (by omega))) (fun h24 => ?_)
      refine aw_aload_n dL_law_27 rfl ?_
      refine aw_iload_n dL_law_28 rfl ?_
      refine aw_sld dL_law_29 rfl (by omega) hL ?_
      refine aw_bipush (v := nI 63) dL_law_30 kb_63 ?_
      refine aw_iand dL_law_32 ?_
      have hnx : ∀ A D T iv lv, Inv X A D T iv lv → AW G (mLw nm) room_1 ZL (XL G b L xs) z0 1281 [some (.ref b), some (.ref X), some (.ref (X + 138)), some (.int (nI i))] [] E iv lv := fun A D T iv lv hI2 => by
        refine aw_iinc (v := nI (i + 6)) (lo' := [_,_,_,_]) dL_law_1281 rfl (nI_add i 6) rfl ?_
        refine aw_goto (tgt := 18) dL_law_1284 rfl ?_
        exact ih (i + 6) A D T iv lv (by omega) (by omega) hI2
      obtain ⟨j, hj, ej⟩ := pk_andE (xs i) (m := nI 63) 6 rfl
      rw [ej]
      by_cases h40 : j < 40
      · rcases (show j = 0 ∨ j = 1 ∨ j = 2 ∨ j = 3 ∨ j = 4 ∨ j = 5 ∨ j = 6 ∨ j = 7 ∨ j = 8 ∨ j = 9 ∨ j = 10 ∨ j = 11 ∨ j = 12 ∨ j = 13 ∨ j = 14 ∨ j = 15 ∨ j = 16 ∨ j = 17 ∨ j = 18 ∨ j = 19 ∨ j = 20 ∨ j = 21 ∨ j = 22 ∨ j = 23 ∨ j = 24 ∨ j = 25 ∨ j = 26 ∨ j = 27 ∨ j = 28 ∨ j = 29 ∨ j = 30 ∨ j = 31 ∨ j = 32 ∨ j = 33 ∨ j = 34 ∨ j = 35 ∨ j = 36 ∨ j = 37 ∨ j = 38 ∨ j = 39 from by omega) with rfl | rfl | rfl | rfl | rfl | rfl | rfl | rfl | rfl | rfl | rfl | rfl | rfl | rfl | rfl | rfl | rfl | rfl | rfl | rfl | rfl | rfl | rfl | rfl | rfl | rfl | rfl | rfl | rfl | rfl | rfl | rfl | rfl | rfl | rfl | rfl | rfl | rfl | rfl | rfl
        · exact aw_tableIn (off := 175) (tgt := 208) dL_law_33 (by decide) (by decide) (by decide) rfl (lc_0 hX hM hEz hL (by omega) hI hnx)
        · exact aw_tableIn (off := 208) (tgt := 241) dL_law_33 (by decide) (by decide) (by decide) rfl (lc_1 hX hM hEz hL (by omega) hI hnx)
        · exact aw_tableIn (off := 251) (tgt := 284) dL_law_33 (by decide) (by decide) (by decide) rfl (lc_2 hX hM hEz hL (by omega) hI hnx)
        · exact aw_tableIn (off := 284) (tgt := 317) dL_law_33 (by decide) (by decide) (by decide) rfl (lc_3 hX hM hEz hL (by omega) hI hnx)
        · exact aw_tableIn (off := 307) (tgt := 340) dL_law_33 (by decide) (by decide) (by decide) rfl (lc_4 hX hM hEz hL (by omega) hI hnx)
        · exact aw_tableIn (off := 370) (tgt := 403) dL_law_33 (by decide) (by decide) (by decide) rfl (lc_5 hX hM hEz hL (by omega) hI hnx)
        · exact aw_tableIn (off := 393) (tgt := 426) dL_law_33 (by decide) (by decide) (by decide) rfl (lc_6 hX hM hEz hL (by omega) hI hnx)
        · exact aw_tableIn (off := 426) (tgt := 459) dL_law_33 (by decide) (by decide) (by decide) rfl (lc_7 hX hM hEz hL (by omega) hI hnx)
        · exact aw_tableIn (off := 469) (tgt := 502) dL_law_33 (by decide) (by decide) (by decide) rfl (lc_8 hX hM hEz hL (by omega) hI hnx)
        · exact aw_tableIn (off := 492) (tgt := 525) dL_law_33 (by decide) (by decide) (by decide) rfl (lc_9 hX hM hEz hL (by omega) hI hnx)
        · exact aw_tableIn (off := 515) (tgt := 548) dL_law_33 (by decide) (by decide) (by decide) rfl (lc_10 hX hM hEz hL (by omega) hI hnx)
        · exact aw_tableIn (off := 548) (tgt := 581) dL_law_33 (by decide) (by decide) (by decide) rfl (lc_11 hX hM hEz hL (by omega) hI hnx)
        · exact aw_tableIn (off := 571) (tgt := 604) dL_law_33 (by decide) (by decide) (by decide) rfl (lc_12 hX hM hEz hL (by omega) hI hnx)
        · exact aw_tableIn (off := 604) (tgt := 637) dL_law_33 (by decide) (by decide) (by decide) rfl (lc_13 hX hM hEz hL (by omega) hI hnx)
        · exact aw_tableIn (off := 617) (tgt := 650) dL_law_33 (by decide) (by decide) (by decide) rfl (lc_14 hX hM hEz hL (by omega) hI hnx)
        · exact aw_tableIn (off := 650) (tgt := 683) dL_law_33 (by decide) (by decide) (by decide) rfl (lc_15 hX hM hEz hL (by omega) hI hnx)
        · exact aw_tableIn (off := 673) (tgt := 706) dL_law_33 (by decide) (by decide) (by decide) rfl (lc_16 hX hM hEz hL (by omega) hI hnx)
        · exact aw_tableIn (off := 706) (tgt := 739) dL_law_33 (by decide) (by decide) (by decide) rfl (lc_17 hX hM hEz hL (by omega) hI hnx)
        · exact aw_tableIn (off := 729) (tgt := 762) dL_law_33 (by decide) (by decide) (by decide) rfl (lc_18 hX hM hEz hL (by omega) hI hnx)
        · exact aw_tableIn (off := 752) (tgt := 785) dL_law_33 (by decide) (by decide) (by decide) rfl (lc_19 hX hM hEz hL (by omega) hI hnx)
        · exact aw_tableIn (off := 775) (tgt := 808) dL_law_33 (by decide) (by decide) (by decide) rfl (lc_20 hX hM hEz hL (by omega) hI hnx)
        · exact aw_tableIn (off := 788) (tgt := 821) dL_law_33 (by decide) (by decide) (by decide) rfl (lc_21 hX hM hEz hL (by omega) hI hnx)
        · exact aw_tableIn (off := 821) (tgt := 854) dL_law_33 (by decide) (by decide) (by decide) rfl (lc_22 hX hM hEz hL (by omega) hI hnx)
        · exact aw_tableIn (off := 834) (tgt := 867) dL_law_33 (by decide) (by decide) (by decide) rfl (lc_23 hX hM hEz hL (by omega) hI hnx)
        · exact aw_tableIn (off := 857) (tgt := 890) dL_law_33 (by decide) (by decide) (by decide) rfl (lc_24 hX hM hEz hL (by omega) hI hnx)
        · exact aw_tableIn (off := 880) (tgt := 913) dL_law_33 (by decide) (by decide) (by decide) rfl (lc_25 hX hM hEz hL (by omega) hI hnx)
        · exact aw_tableIn (off := 903) (tgt := 936) dL_law_33 (by decide) (by decide) (by decide) rfl (lc_26 hX hM hEz hL (by omega) hI hnx)
        · exact aw_tableIn (off := 936) (tgt := 969) dL_law_33 (by decide) (by decide) (by decide) rfl (lc_27 hX hM hEz hL (by omega) hI hnx)
        · exact aw_tableIn (off := 969) (tgt := 1002) dL_law_33 (by decide) (by decide) (by decide) rfl (lc_28 hX hM hEz hL (by omega) hI hnx)
        · exact aw_tableIn (off := 1002) (tgt := 1035) dL_law_33 (by decide) (by decide) (by decide) rfl (lc_29 hX hM hEz hL (by omega) hI hnx)
        · exact aw_tableIn (off := 1025) (tgt := 1058) dL_law_33 (by decide) (by decide) (by decide) rfl (lc_30 hX hM hEz hL (by omega) hI hnx)
        · exact aw_tableIn (off := 1068) (tgt := 1101) dL_law_33 (by decide) (by decide) (by decide) rfl (lc_31 hX hM hEz hL (by omega) hI hnx)
        · exact aw_tableIn (off := 1101) (tgt := 1134) dL_law_33 (by decide) (by decide) (by decide) rfl (lc_32 hX hM hEz hL (by omega) hI hnx)
        · exact aw_tableIn (off := 1134) (tgt := 1167) dL_law_33 (by decide) (by decide) (by decide) rfl (lc_33 hX hM hEz hL (by omega) hI hnx)
        · exact aw_tableIn (off := 1147) (tgt := 1180) dL_law_33 (by decide) (by decide) (by decide) rfl (lc_34 hX hM hEz hL (by omega) hI hnx)
        · exact aw_tableIn (off := 1161) (tgt := 1194) dL_law_33 (by decide) (by decide) (by decide) rfl (lc_35 hX hM hEz hL (by omega) hI hnx)
        · exact aw_tableIn (off := 1175) (tgt := 1208) dL_law_33 (by decide) (by decide) (by decide) rfl (lc_36 hX hM hEz hL (by omega) hI hnx)
        · exact aw_tableIn (off := 1198) (tgt := 1231) dL_law_33 (by decide) (by decide) (by decide) rfl (lc_37 hX hM hEz hL (by omega) hI hnx)
        · exact aw_tableIn (off := 1211) (tgt := 1244) dL_law_33 (by decide) (by decide) (by decide) rfl (lc_38 hX hM hEz hL (by omega) hI hnx)
        · exact aw_tableIn (off := 1234) (tgt := 1267) dL_law_33 (by decide) (by decide) (by decide) rfl (lc_39 hX hM hEz hL (by omega) hI hnx)
      · refine aw_tableOut (tgt := 1281) dL_law_33 (Or.inr (by rw [nI_toInt (by omega)]; omega)) rfl ?_
        exact hnx A D T iv lv hI
    · skip
      refine aw_iload_n dL_law_18 rfl ?_
      refine aw_aload_n dL_law_19 rfl ?_
      refine aw_slen dL_law_20 ?_
      refine aw_bipush (v := nI 6) dL_law_21 kb_6 ?_
      refine aw_isub dL_law_23 ?_
      refine aw_icmp_gt (tgt := 1287) dL_law_24 rfl (fun h24 => ?_) (fun h24 => absurd ((lw_cmp (by omega) (by omega)).mpr (by omega)) h24)
      refine aw_iconst (v := nI 1) dL_law_1287 kc_1 ?_
      exact aw_lawret dL_law_1288 (by omega)
