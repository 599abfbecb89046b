set_option maxHeartbeats 4000000 in
set_option maxRecDepth 100000 in
theorem lc_house {κ : GC} {cy : Nat → ClassId} {Z : (Nat → Prop) → State → Heap → Prop} {aStr aByt : Nat → Nat} {bS L : Nat} {xs : Nat → Int32} (hW : LawX κ cy Z aStr aByt bS L xs) {h0 : Nat} {b : Nat → Nat} {ε : Ev} {σ : Sg} {μ : Mg} {x : Nat → Nat → Int32} (hR : Rel ε σ μ) {n1 n2 i : Nat} (hi : i + 6 ≤ L) (hn1 : n1 ≤ 600000) (hn2 : n2 ≤ 7302250) (K : ∀ (σ2 : Sg) (μ2 : Mg) (x2 : Nat → Nat → Int32), Rel ε σ2 μ2 → GW κ n1 n2 (cW cy h0 b ε σ2 μ2.1 μ2.2.1 μ2.2.2 x2) 1368 (lvL bS (sAd ε 0) h0 i) []) : GW κ n1 n2 (cW cy h0 b ε σ μ.1 μ.2.1 μ.2.2 x) 208 (lvL bS (sAd ε 0) h0 i) [] := by
  obtain ⟨hX, hN, hS, hzo, hzs, hL⟩ := hW
  obtain ⟨res, σ2, μ2, e1, e2, hR2⟩ := house_ok hR (xs (i + 1)) (xs (i + 2)) (xs (i + 3)) (xs (i + 4))
  refine g_aload_n hX 2 rfl rfl dL_law_208 ?_
  refine l_arg hX hS 1 1 (by decide) (by omega) hL dL_law_209 dL_law_210 dL_law_211 dL_law_212 dL_law_213 ?_
  refine l_arg hX hS 2 2 (by decide) (by omega) hL dL_law_214 dL_law_215 dL_law_216 dL_law_217 dL_law_218 ?_
  refine l_arg hX hS 3 3 (by decide) (by omega) hL dL_law_219 dL_law_220 dL_law_221 dL_law_222 dL_law_223 ?_
  refine l_arg hX hS 4 4 (by decide) (by omega) hL dL_law_224 dL_law_225 dL_law_226 dL_law_227 dL_law_228 ?_
  refine c_call6 (c := 0) (C := fun ε σ => cW cy h0 b ε σ μ.1 μ.2.1 μ.2.2 x) hX (cw_lens _ _ _ _) hzo rfl [.int (xs (i + 1)), .int (xs (i + 2)), .int (xs (i + 3)), .int (xs (i + 4))] [] (ct_X6_house _ _ _ _ hzo hzs (cw_lens _ _ _ _) ε (xs (i + 1)) (xs (i + 2)) (xs (i + 3)) (xs (i + 4)) σ σ2 res e1) kX6_house tMet_L_13 rfl rfl (Nat.le_of_ble_eq_true rfl) (Nat.le_of_ble_eq_true rfl) ⟨hn1, hn2⟩ rfl rfl (Nat.le_of_ble_eq_true rfl) dL_law_229 ?_
  refine g_aload_n hX 1 rfl rfl dL_law_232 ?_
  refine l_arg hX hS 1 1 (by decide) (by omega) hL dL_law_233 dL_law_234 dL_law_235 dL_law_236 dL_law_237 ?_
  refine l_arg hX hS 2 2 (by decide) (by omega) hL dL_law_238 dL_law_239 dL_law_240 dL_law_241 dL_law_242 ?_
  refine l_arg hX hS 3 3 (by decide) (by omega) hL dL_law_243 dL_law_244 dL_law_245 dL_law_246 dL_law_247 ?_
  refine l_arg hX hS 4 4 (by decide) (by omega) hL dL_law_248 dL_law_249 dL_law_250 dL_law_251 dL_law_252 ?_
  refine l_callM (C := fun v s r x => cW cy h0 b ε σ2 v s r x) hX hzo (cw_mlens ε σ2) [.int (xs (i + 1)), .int (xs (i + 2)), .int (xs (i + 3)), .int (xs (i + 4))] [.int res] (ct_X7_house _ _ _ _ hzo (cw_mlens ε σ2) (xs (i + 1)) (xs (i + 2)) (xs (i + 3)) (xs (i + 4)) μ μ2 x res e2) kX7_house tMet_L_17 rfl rfl (Nat.le_of_ble_eq_true rfl) (Nat.le_of_ble_eq_true rfl) ⟨hn1, hn2⟩ rfl (Nat.le_of_ble_eq_true rfl) dL_law_253 ?_
  rintro _ _ ⟨rfl, x2, rfl⟩
  exact g_icmp_eq hX 1368 (by decide) dL_law_256 (fun _ => K σ2 μ2 x2 hR2) (fun z => absurd rfl z)
set_option maxHeartbeats 4000000 in
set_option maxRecDepth 100000 in
theorem lc_told {κ : GC} {cy : Nat → ClassId} {Z : (Nat → Prop) → State → Heap → Prop} {aStr aByt : Nat → Nat} {bS L : Nat} {xs : Nat → Int32} (hW : LawX κ cy Z aStr aByt bS L xs) {h0 : Nat} {b : Nat → Nat} {ε : Ev} {σ : Sg} {μ : Mg} {x : Nat → Nat → Int32} (hR : Rel ε σ μ) {n1 n2 i : Nat} (hi : i + 6 ≤ L) (hn1 : n1 ≤ 600000) (hn2 : n2 ≤ 7302250) (K : ∀ (σ2 : Sg) (μ2 : Mg) (x2 : Nat → Nat → Int32), Rel ε σ2 μ2 → GW κ n1 n2 (cW cy h0 b ε σ2 μ2.1 μ2.2.1 μ2.2.2 x2) 1368 (lvL bS (sAd ε 0) h0 i) []) : GW κ n1 n2 (cW cy h0 b ε σ μ.1 μ.2.1 μ.2.2 x) 261 (lvL bS (sAd ε 0) h0 i) [] := by
  obtain ⟨hX, hN, hS, hzo, hzs, hL⟩ := hW
  obtain ⟨res, σ2, μ2, e1, e2, hR2⟩ := told_ok hR (xs (i + 1)) (xs (i + 2))
  refine g_aload_n hX 2 rfl rfl dL_law_261 ?_
  refine l_arg hX hS 1 1 (by decide) (by omega) hL dL_law_262 dL_law_263 dL_law_264 dL_law_265 dL_law_266 ?_
  refine l_arg hX hS 2 2 (by decide) (by omega) hL dL_law_267 dL_law_268 dL_law_269 dL_law_270 dL_law_271 ?_
  refine c_call6 (c := 0) (C := fun ε σ => cW cy h0 b ε σ μ.1 μ.2.1 μ.2.2 x) hX (cw_lens _ _ _ _) hzo rfl [.int (xs (i + 1)), .int (xs (i + 2))] [] (ct_X6_told _ _ _ _ hzo hzs (cw_lens _ _ _ _) ε (xs (i + 1)) (xs (i + 2)) σ σ2 res e1) kX6_told tMet_L_18 rfl rfl (Nat.le_of_ble_eq_true rfl) (Nat.le_of_ble_eq_true rfl) ⟨hn1, hn2⟩ rfl rfl (Nat.le_of_ble_eq_true rfl) dL_law_272 ?_
  refine g_aload_n hX 1 rfl rfl dL_law_275 ?_
  refine l_arg hX hS 1 1 (by decide) (by omega) hL dL_law_276 dL_law_277 dL_law_278 dL_law_279 dL_law_280 ?_
  refine l_arg hX hS 2 2 (by decide) (by omega) hL dL_law_281 dL_law_282 dL_law_283 dL_law_284 dL_law_285 ?_
  refine l_callM (C := fun v s r x => cW cy h0 b ε σ2 v s r x) hX hzo (cw_mlens ε σ2) [.int (xs (i + 1)), .int (xs (i + 2))] [.int res] (ct_X7_told _ _ _ _ hzo (cw_mlens ε σ2) (xs (i + 1)) (xs (i + 2)) μ μ2 x res e2) kX7_told tMet_L_22 rfl rfl (Nat.le_of_ble_eq_true rfl) (Nat.le_of_ble_eq_true rfl) ⟨hn1, hn2⟩ rfl (Nat.le_of_ble_eq_true rfl) dL_law_286 ?_
  rintro _ _ ⟨rfl, x2, rfl⟩
  exact g_icmp_eq hX 1368 (by decide) dL_law_289 (fun _ => K σ2 μ2 x2 hR2) (fun z => absurd rfl z)
set_option maxHeartbeats 4000000 in
set_option maxRecDepth 100000 in
theorem lc_as {κ : GC} {cy : Nat → ClassId} {Z : (Nat → Prop) → State → Heap → Prop} {aStr aByt : Nat → Nat} {bS L : Nat} {xs : Nat → Int32} (hW : LawX κ cy Z aStr aByt bS L xs) {h0 : Nat} {b : Nat → Nat} {ε : Ev} {σ : Sg} {μ : Mg} {x : Nat → Nat → Int32} (hR : Rel ε σ μ) {n1 n2 i : Nat} (hi : i + 6 ≤ L) (hn1 : n1 ≤ 600000) (hn2 : n2 ≤ 7302250) (K : ∀ (σ2 : Sg) (μ2 : Mg) (x2 : Nat → Nat → Int32), Rel ε σ2 μ2 → GW κ n1 n2 (cW cy h0 b ε σ2 μ2.1 μ2.2.1 μ2.2.2 x2) 1368 (lvL bS (sAd ε 0) h0 i) []) : GW κ n1 n2 (cW cy h0 b ε σ μ.1 μ.2.1 μ.2.2 x) 294 (lvL bS (sAd ε 0) h0 i) [] := by
  obtain ⟨hX, hN, hS, hzo, hzs, hL⟩ := hW
  obtain ⟨res, σ2, μ2, e1, e2, hR2⟩ := as_ok hR (xs (i + 1)) (xs (i + 2))
  refine g_aload_n hX 2 rfl rfl dL_law_294 ?_
  refine l_arg hX hS 1 1 (by decide) (by omega) hL dL_law_295 dL_law_296 dL_law_297 dL_law_298 dL_law_299 ?_
  refine l_arg hX hS 2 2 (by decide) (by omega) hL dL_law_300 dL_law_301 dL_law_302 dL_law_303 dL_law_304 ?_
  refine c_call6 (c := 0) (C := fun ε σ => cW cy h0 b ε σ μ.1 μ.2.1 μ.2.2 x) hX (cw_lens _ _ _ _) hzo rfl [.int (xs (i + 1)), .int (xs (i + 2))] [] (ct_X6_as _ _ _ _ hzo hzs (cw_lens _ _ _ _) ε (xs (i + 1)) (xs (i + 2)) σ σ2 res e1) kX6_as tMet_L_23 rfl rfl (Nat.le_of_ble_eq_true rfl) (Nat.le_of_ble_eq_true rfl) ⟨hn1, hn2⟩ rfl rfl (Nat.le_of_ble_eq_true rfl) dL_law_305 ?_
  refine g_aload_n hX 1 rfl rfl dL_law_308 ?_
  refine l_arg hX hS 1 1 (by decide) (by omega) hL dL_law_309 dL_law_310 dL_law_311 dL_law_312 dL_law_313 ?_
  refine l_arg hX hS 2 2 (by decide) (by omega) hL dL_law_314 dL_law_315 dL_law_316 dL_law_317 dL_law_318 ?_
  refine l_callM (C := fun v s r x => cW cy h0 b ε σ2 v s r x) hX hzo (cw_mlens ε σ2) [.int (xs (i + 1)), .int (xs (i + 2))] [.int res] (ct_X7_as _ _ _ _ hzo (cw_mlens ε σ2) (xs (i + 1)) (xs (i + 2)) μ μ2 x res e2) kX7_as tMet_L_26 rfl rfl (Nat.le_of_ble_eq_true rfl) (Nat.le_of_ble_eq_true rfl) ⟨hn1, hn2⟩ rfl (Nat.le_of_ble_eq_true rfl) dL_law_319 ?_
  rintro _ _ ⟨rfl, x2, rfl⟩
  exact g_icmp_eq hX 1368 (by decide) dL_law_322 (fun _ => K σ2 μ2 x2 hR2) (fun z => absurd rfl z)
set_option maxHeartbeats 4000000 in
set_option maxRecDepth 100000 in
theorem lc_turns {κ : GC} {cy : Nat → ClassId} {Z : (Nat → Prop) → State → Heap → Prop} {aStr aByt : Nat → Nat} {bS L : Nat} {xs : Nat → Int32} (hW : LawX κ cy Z aStr aByt bS L xs) {h0 : Nat} {b : Nat → Nat} {ε : Ev} {σ : Sg} {μ : Mg} {x : Nat → Nat → Int32} (hR : Rel ε σ μ) {n1 n2 i : Nat} (hi : i + 6 ≤ L) (hn1 : n1 ≤ 600000) (hn2 : n2 ≤ 7302250) (K : ∀ (σ2 : Sg) (μ2 : Mg) (x2 : Nat → Nat → Int32), Rel ε σ2 μ2 → GW κ n1 n2 (cW cy h0 b ε σ2 μ2.1 μ2.2.1 μ2.2.2 x2) 1368 (lvL bS (sAd ε 0) h0 i) []) : GW κ n1 n2 (cW cy h0 b ε σ μ.1 μ.2.1 μ.2.2 x) 327 (lvL bS (sAd ε 0) h0 i) [] := by
  obtain ⟨hX, hN, hS, hzo, hzs, hL⟩ := hW
  obtain ⟨res, σ2, μ2, e1, e2, hR2⟩ := turns_ok hR (xs (i + 1)) (xs (i + 2))
  refine g_aload_n hX 2 rfl rfl dL_law_327 ?_
  refine l_arg hX hS 1 1 (by decide) (by omega) hL dL_law_328 dL_law_329 dL_law_330 dL_law_331 dL_law_332 ?_
  refine l_arg hX hS 2 2 (by decide) (by omega) hL dL_law_333 dL_law_334 dL_law_335 dL_law_336 dL_law_337 ?_
  refine c_call6 (c := 0) (C := fun ε σ => cW cy h0 b ε σ μ.1 μ.2.1 μ.2.2 x) hX (cw_lens _ _ _ _) hzo rfl [.int (xs (i + 1)), .int (xs (i + 2))] [] (ct_X6_turns _ _ _ _ hzo hzs (cw_lens _ _ _ _) ε (xs (i + 1)) (xs (i + 2)) σ σ2 res e1) kX6_turns tMet_L_27 rfl rfl (Nat.le_of_ble_eq_true rfl) (Nat.le_of_ble_eq_true rfl) ⟨hn1, hn2⟩ rfl rfl (Nat.le_of_ble_eq_true rfl) dL_law_338 ?_
  refine g_aload_n hX 1 rfl rfl dL_law_341 ?_
  refine l_arg hX hS 1 1 (by decide) (by omega) hL dL_law_342 dL_law_343 dL_law_344 dL_law_345 dL_law_346 ?_
  refine l_arg hX hS 2 2 (by decide) (by omega) hL dL_law_347 dL_law_348 dL_law_349 dL_law_350 dL_law_351 ?_
  refine l_callM (C := fun v s r x => cW cy h0 b ε σ2 v s r x) hX hzo (cw_mlens ε σ2) [.int (xs (i + 1)), .int (xs (i + 2))] [.int res] (ct_X7_turns _ _ _ _ hzo (cw_mlens ε σ2) (xs (i + 1)) (xs (i + 2)) μ μ2 x res e2) kX7_turns tMet_L_30 rfl rfl (Nat.le_of_ble_eq_true rfl) (Nat.le_of_ble_eq_true rfl) ⟨hn1, hn2⟩ rfl (Nat.le_of_ble_eq_true rfl) dL_law_352 ?_
  rintro _ _ ⟨rfl, x2, rfl⟩
  exact g_icmp_eq hX 1368 (by decide) dL_law_355 (fun _ => K σ2 μ2 x2 hR2) (fun z => absurd rfl z)
set_option maxHeartbeats 4000000 in
set_option maxRecDepth 100000 in
theorem lc_set {κ : GC} {cy : Nat → ClassId} {Z : (Nat → Prop) → State → Heap → Prop} {aStr aByt : Nat → Nat} {bS L : Nat} {xs : Nat → Int32} (hW : LawX κ cy Z aStr aByt bS L xs) {h0 : Nat} {b : Nat → Nat} {ε : Ev} {σ : Sg} {μ : Mg} {x : Nat → Nat → Int32} (hR : Rel ε σ μ) {n1 n2 i : Nat} (hi : i + 6 ≤ L) (hn1 : n1 ≤ 600000) (hn2 : n2 ≤ 7302250) (K : ∀ (σ2 : Sg) (μ2 : Mg) (x2 : Nat → Nat → Int32), Rel ε σ2 μ2 → GW κ n1 n2 (cW cy h0 b ε σ2 μ2.1 μ2.2.1 μ2.2.2 x2) 1368 (lvL bS (sAd ε 0) h0 i) []) : GW κ n1 n2 (cW cy h0 b ε σ μ.1 μ.2.1 μ.2.2 x) 360 (lvL bS (sAd ε 0) h0 i) [] := by
  obtain ⟨hX, hN, hS, hzo, hzs, hL⟩ := hW
  obtain ⟨res, σ2, μ2, e1, e2, hR2⟩ := set_ok hR (xs (i + 1)) (xs (i + 2)) (xs (i + 3))
  refine g_aload_n hX 2 rfl rfl dL_law_360 ?_
  refine l_arg hX hS 1 1 (by decide) (by omega) hL dL_law_361 dL_law_362 dL_law_363 dL_law_364 dL_law_365 ?_
  refine l_arg hX hS 2 2 (by decide) (by omega) hL dL_law_366 dL_law_367 dL_law_368 dL_law_369 dL_law_370 ?_
  refine l_arg hX hS 3 3 (by decide) (by omega) hL dL_law_371 dL_law_372 dL_law_373 dL_law_374 dL_law_375 ?_
  refine c_call6 (c := 0) (C := fun ε σ => cW cy h0 b ε σ μ.1 μ.2.1 μ.2.2 x) hX (cw_lens _ _ _ _) hzo rfl [.int (xs (i + 1)), .int (xs (i + 2)), .int (xs (i + 3))] [] (ct_X6_set _ _ _ _ hzo hzs (cw_lens _ _ _ _) ε (xs (i + 1)) (xs (i + 2)) (xs (i + 3)) σ σ2 res e1) kX6_set tMet_L_31 rfl rfl (Nat.le_of_ble_eq_true rfl) (Nat.le_of_ble_eq_true rfl) ⟨hn1, hn2⟩ rfl rfl (Nat.le_of_ble_eq_true rfl) dL_law_376 ?_
  refine g_aload_n hX 1 rfl rfl dL_law_379 ?_
  refine l_arg hX hS 1 1 (by decide) (by omega) hL dL_law_380 dL_law_381 dL_law_382 dL_law_383 dL_law_384 ?_
  refine l_arg hX hS 2 2 (by decide) (by omega) hL dL_law_385 dL_law_386 dL_law_387 dL_law_388 dL_law_389 ?_
  refine l_arg hX hS 3 3 (by decide) (by omega) hL dL_law_390 dL_law_391 dL_law_392 dL_law_393 dL_law_394 ?_
  refine l_callM (C := fun v s r x => cW cy h0 b ε σ2 v s r x) hX hzo (cw_mlens ε σ2) [.int (xs (i + 1)), .int (xs (i + 2)), .int (xs (i + 3))] [.int res] (ct_X7_set _ _ _ _ hzo (cw_mlens ε σ2) (xs (i + 1)) (xs (i + 2)) (xs (i + 3)) μ μ2 x res e2) kX7_set tMet_L_35 rfl rfl (Nat.le_of_ble_eq_true rfl) (Nat.le_of_ble_eq_true rfl) ⟨hn1, hn2⟩ rfl (Nat.le_of_ble_eq_true rfl) dL_law_395 ?_
  rintro _ _ ⟨rfl, x2, rfl⟩
  exact g_icmp_eq hX 1368 (by decide) dL_law_398 (fun _ => K σ2 μ2 x2 hR2) (fun z => absurd rfl z)
set_option maxHeartbeats 4000000 in
set_option maxRecDepth 100000 in
theorem lc_fells {κ : GC} {cy : Nat → ClassId} {Z : (Nat → Prop) → State → Heap → Prop} {aStr aByt : Nat → Nat} {bS L : Nat} {xs : Nat → Int32} (hW : LawX κ cy Z aStr aByt bS L xs) {h0 : Nat} {b : Nat → Nat} {ε : Ev} {σ : Sg} {μ : Mg} {x : Nat → Nat → Int32} (hR : Rel ε σ μ) {n1 n2 i : Nat} (hi : i + 6 ≤ L) (hn1 : n1 ≤ 600000) (hn2 : n2 ≤ 7302250) (K : ∀ (σ2 : Sg) (μ2 : Mg) (x2 : Nat → Nat → Int32), Rel ε σ2 μ2 → GW κ n1 n2 (cW cy h0 b ε σ2 μ2.1 μ2.2.1 μ2.2.2 x2) 1368 (lvL bS (sAd ε 0) h0 i) []) : GW κ n1 n2 (cW cy h0 b ε σ μ.1 μ.2.1 μ.2.2 x) 403 (lvL bS (sAd ε 0) h0 i) [] := by
  obtain ⟨hX, hN, hS, hzo, hzs, hL⟩ := hW
  obtain ⟨res, σ2, μ2, e1, e2, hR2⟩ := fells_ok hR (xs (i + 1))
  refine g_aload_n hX 2 rfl rfl dL_law_403 ?_
  refine l_arg hX hS 1 1 (by decide) (by omega) hL dL_law_404 dL_law_405 dL_law_406 dL_law_407 dL_law_408 ?_
  refine c_call6 (c := 0) (C := fun ε σ => cW cy h0 b ε σ μ.1 μ.2.1 μ.2.2 x) hX (cw_lens _ _ _ _) hzo rfl [.int (xs (i + 1))] [] (ct_X6_fells _ _ _ _ hzo hzs (cw_lens _ _ _ _) ε (xs (i + 1)) σ σ2 res e1) kX6_fells tMet_L_36 rfl rfl (Nat.le_of_ble_eq_true rfl) (Nat.le_of_ble_eq_true rfl) ⟨hn1, hn2⟩ rfl rfl (Nat.le_of_ble_eq_true rfl) dL_law_409 ?_
  refine g_aload_n hX 1 rfl rfl dL_law_412 ?_
  refine l_arg hX hS 1 1 (by decide) (by omega) hL dL_law_413 dL_law_414 dL_law_415 dL_law_416 dL_law_417 ?_
  refine l_callM (C := fun v s r x => cW cy h0 b ε σ2 v s r x) hX hzo (cw_mlens ε σ2) [.int (xs (i + 1))] [.int res] (ct_X7_fells _ _ _ _ hzo (cw_mlens ε σ2) (xs (i + 1)) μ μ2 x res e2) kX7_fells tMet_L_40 rfl rfl (Nat.le_of_ble_eq_true rfl) (Nat.le_of_ble_eq_true rfl) ⟨hn1, hn2⟩ rfl (Nat.le_of_ble_eq_true rfl) dL_law_418 ?_
  rintro _ _ ⟨rfl, x2, rfl⟩
  exact g_icmp_eq hX 1368 (by decide) dL_law_421 (fun _ => K σ2 μ2 x2 hR2) (fun z => absurd rfl z)
set_option maxHeartbeats 4000000 in
set_option maxRecDepth 100000 in
theorem lc_raises {κ : GC} {cy : Nat → ClassId} {Z : (Nat → Prop) → State → Heap → Prop} {aStr aByt : Nat → Nat} {bS L : Nat} {xs : Nat → Int32} (hW : LawX κ cy Z aStr aByt bS L xs) {h0 : Nat} {b : Nat → Nat} {ε : Ev} {σ : Sg} {μ : Mg} {x : Nat → Nat → Int32} (hR : Rel ε σ μ) {n1 n2 i : Nat} (hi : i + 6 ≤ L) (hn1 : n1 ≤ 600000) (hn2 : n2 ≤ 7302250) (K : ∀ (σ2 : Sg) (μ2 : Mg) (x2 : Nat → Nat → Int32), Rel ε σ2 μ2 → GW κ n1 n2 (cW cy h0 b ε σ2 μ2.1 μ2.2.1 μ2.2.2 x2) 1368 (lvL bS (sAd ε 0) h0 i) []) : GW κ n1 n2 (cW cy h0 b ε σ μ.1 μ.2.1 μ.2.2 x) 426 (lvL bS (sAd ε 0) h0 i) [] := by
  obtain ⟨hX, hN, hS, hzo, hzs, hL⟩ := hW
  obtain ⟨res, σ2, μ2, e1, e2, hR2⟩ := raises_ok hR (xs (i + 1))
  refine g_aload_n hX 2 rfl rfl dL_law_426 ?_
  refine l_arg hX hS 1 1 (by decide) (by omega) hL dL_law_427 dL_law_428 dL_law_429 dL_law_430 dL_law_431 ?_
  refine c_call6 (c := 0) (C := fun ε σ => cW cy h0 b ε σ μ.1 μ.2.1 μ.2.2 x) hX (cw_lens _ _ _ _) hzo rfl [.int (xs (i + 1))] [] (ct_X6_raises _ _ _ _ hzo hzs (cw_lens _ _ _ _) ε (xs (i + 1)) σ σ2 res e1) kX6_raises tMet_L_41 rfl rfl (Nat.le_of_ble_eq_true rfl) (Nat.le_of_ble_eq_true rfl) ⟨hn1, hn2⟩ rfl rfl (Nat.le_of_ble_eq_true rfl) dL_law_432 ?_
  refine g_aload_n hX 1 rfl rfl dL_law_435 ?_
  refine l_arg hX hS 1 1 (by decide) (by omega) hL dL_law_436 dL_law_437 dL_law_438 dL_law_439 dL_law_440 ?_
  refine l_callM (C := fun v s r x => cW cy h0 b ε σ2 v s r x) hX hzo (cw_mlens ε σ2) [.int (xs (i + 1))] [.int res] (ct_X7_raises _ _ _ _ hzo (cw_mlens ε σ2) (xs (i + 1)) μ μ2 x res e2) kX7_raises tMet_L_44 rfl rfl (Nat.le_of_ble_eq_true rfl) (Nat.le_of_ble_eq_true rfl) ⟨hn1, hn2⟩ rfl (Nat.le_of_ble_eq_true rfl) dL_law_441 ?_
  rintro _ _ ⟨rfl, x2, rfl⟩
  exact g_icmp_eq hX 1368 (by decide) dL_law_444 (fun _ => K σ2 μ2 x2 hR2) (fun z => absurd rfl z)
set_option maxHeartbeats 4000000 in
set_option maxRecDepth 100000 in
theorem lc_snow {κ : GC} {cy : Nat → ClassId} {Z : (Nat → Prop) → State → Heap → Prop} {aStr aByt : Nat → Nat} {bS L : Nat} {xs : Nat → Int32} (hW : LawX κ cy Z aStr aByt bS L xs) {h0 : Nat} {b : Nat → Nat} {ε : Ev} {σ : Sg} {μ : Mg} {x : Nat → Nat → Int32} (hR : Rel ε σ μ) {n1 n2 i : Nat} (hi : i + 6 ≤ L) (hn1 : n1 ≤ 600000) (hn2 : n2 ≤ 7302250) (K : ∀ (σ2 : Sg) (μ2 : Mg) (x2 : Nat → Nat → Int32), Rel ε σ2 μ2 → GW κ n1 n2 (cW cy h0 b ε σ2 μ2.1 μ2.2.1 μ2.2.2 x2) 1368 (lvL bS (sAd ε 0) h0 i) []) : GW κ n1 n2 (cW cy h0 b ε σ μ.1 μ.2.1 μ.2.2 x) 449 (lvL bS (sAd ε 0) h0 i) [] := by
  obtain ⟨hX, hN, hS, hzo, hzs, hL⟩ := hW
  obtain ⟨res, σ2, μ2, e1, e2, hR2⟩ := snow_ok hR (xs (i + 1))
  refine g_aload_n hX 2 rfl rfl dL_law_449 ?_
  refine l_arg hX hS 1 1 (by decide) (by omega) hL dL_law_450 dL_law_451 dL_law_452 dL_law_453 dL_law_454 ?_
  refine c_call6 (c := 0) (C := fun ε σ => cW cy h0 b ε σ μ.1 μ.2.1 μ.2.2 x) hX (cw_lens _ _ _ _) hzo rfl [.int (xs (i + 1))] [] (ct_X6_snow _ _ _ _ hzo hzs (cw_lens _ _ _ _) ε (xs (i + 1)) σ σ2 res e1) kX6_snow tMet_L_45 rfl rfl (Nat.le_of_ble_eq_true rfl) (Nat.le_of_ble_eq_true rfl) ⟨hn1, hn2⟩ rfl rfl (Nat.le_of_ble_eq_true rfl) dL_law_455 ?_
  refine g_aload_n hX 1 rfl rfl dL_law_458 ?_
  refine l_arg hX hS 1 1 (by decide) (by omega) hL dL_law_459 dL_law_460 dL_law_461 dL_law_462 dL_law_463 ?_
  refine l_callM (C := fun v s r x => cW cy h0 b ε σ2 v s r x) hX hzo (cw_mlens ε σ2) [.int (xs (i + 1))] [.int res] (ct_X7_snow _ _ _ _ hzo (cw_mlens ε σ2) (xs (i + 1)) μ μ2 x res e2) kX7_snow tMet_L_48 rfl rfl (Nat.le_of_ble_eq_true rfl) (Nat.le_of_ble_eq_true rfl) ⟨hn1, hn2⟩ rfl (Nat.le_of_ble_eq_true rfl) dL_law_464 ?_
  rintro _ _ ⟨rfl, x2, rfl⟩
  exact g_icmp_eq hX 1368 (by decide) dL_law_467 (fun _ => K σ2 μ2 x2 hR2) (fun z => absurd rfl z)
set_option maxHeartbeats 4000000 in
set_option maxRecDepth 100000 in
theorem lc_deal {κ : GC} {cy : Nat → ClassId} {Z : (Nat → Prop) → State → Heap → Prop} {aStr aByt : Nat → Nat} {bS L : Nat} {xs : Nat → Int32} (hW : LawX κ cy Z aStr aByt bS L xs) {h0 : Nat} {b : Nat → Nat} {ε : Ev} {σ : Sg} {μ : Mg} {x : Nat → Nat → Int32} (hR : Rel ε σ μ) {n1 n2 i : Nat} (hi : i + 6 ≤ L) (hn1 : n1 ≤ 600000) (hn2 : n2 ≤ 7302250) (K : ∀ (σ2 : Sg) (μ2 : Mg) (x2 : Nat → Nat → Int32), Rel ε σ2 μ2 → GW κ n1 n2 (cW cy h0 b ε σ2 μ2.1 μ2.2.1 μ2.2.2 x2) 1368 (lvL bS (sAd ε 0) h0 i) []) : GW κ n1 n2 (cW cy h0 b ε σ μ.1 μ.2.1 μ.2.2 x) 472 (lvL bS (sAd ε 0) h0 i) [] := by
  obtain ⟨hX, hN, hS, hzo, hzs, hL⟩ := hW
  obtain ⟨res, σ2, μ2, e1, e2, hR2⟩ := deal_ok hR (xs (i + 1))
  refine g_aload_n hX 2 rfl rfl dL_law_472 ?_
  refine l_arg hX hS 1 1 (by decide) (by omega) hL dL_law_473 dL_law_474 dL_law_475 dL_law_476 dL_law_477 ?_
  refine c_call6 (c := 0) (C := fun ε σ => cW cy h0 b ε σ μ.1 μ.2.1 μ.2.2 x) hX (cw_lens _ _ _ _) hzo rfl [.int (xs (i + 1))] [] (ct_X6_deal _ _ _ _ hzo hzs (cw_lens _ _ _ _) ε (xs (i + 1)) σ σ2 res e1) kX6_deal tMet_L_49 rfl rfl (Nat.le_of_ble_eq_true rfl) (Nat.le_of_ble_eq_true rfl) ⟨hn1, hn2⟩ rfl rfl (Nat.le_of_ble_eq_true rfl) dL_law_478 ?_
  refine g_aload_n hX 1 rfl rfl dL_law_481 ?_
  refine l_arg hX hS 1 1 (by decide) (by omega) hL dL_law_482 dL_law_483 dL_law_484 dL_law_485 dL_law_486 ?_
  refine l_callM (C := fun v s r x => cW cy h0 b ε σ2 v s r x) hX hzo (cw_mlens ε σ2) [.int (xs (i + 1))] [.int res] (ct_X7_deal _ _ _ _ hzo (cw_mlens ε σ2) (xs (i + 1)) μ μ2 x res e2) kX7_deal tMet_L_52 rfl rfl (Nat.le_of_ble_eq_true rfl) (Nat.le_of_ble_eq_true rfl) ⟨hn1, hn2⟩ rfl (Nat.le_of_ble_eq_true rfl) dL_law_487 ?_
  rintro _ _ ⟨rfl, x2, rfl⟩
  exact g_icmp_eq hX 1368 (by decide) dL_law_490 (fun _ => K σ2 μ2 x2 hR2) (fun z => absurd rfl z)
set_option maxHeartbeats 4000000 in
set_option maxRecDepth 100000 in
theorem lc_seed {κ : GC} {cy : Nat → ClassId} {Z : (Nat → Prop) → State → Heap → Prop} {aStr aByt : Nat → Nat} {bS L : Nat} {xs : Nat → Int32} (hW : LawX κ cy Z aStr aByt bS L xs) {h0 : Nat} {b : Nat → Nat} {ε : Ev} {σ : Sg} {μ : Mg} {x : Nat → Nat → Int32} (hR : Rel ε σ μ) {n1 n2 i : Nat} (hi : i + 6 ≤ L) (hn1 : n1 ≤ 600000) (hn2 : n2 ≤ 7302250) (K : ∀ (σ2 : Sg) (μ2 : Mg) (x2 : Nat → Nat → Int32), Rel ε σ2 μ2 → GW κ n1 n2 (cW cy h0 b ε σ2 μ2.1 μ2.2.1 μ2.2.2 x2) 1368 (lvL bS (sAd ε 0) h0 i) []) : GW κ n1 n2 (cW cy h0 b ε σ μ.1 μ.2.1 μ.2.2 x) 495 (lvL bS (sAd ε 0) h0 i) [] := by
  obtain ⟨hX, hN, hS, hzo, hzs, hL⟩ := hW
  obtain ⟨res, σ2, μ2, e1, e2, hR2⟩ := seed_ok hR (xs (i + 1))
  refine g_aload_n hX 2 rfl rfl dL_law_495 ?_
  refine l_arg hX hS 1 1 (by decide) (by omega) hL dL_law_496 dL_law_497 dL_law_498 dL_law_499 dL_law_500 ?_
  refine c_call6 (c := 0) (C := fun ε σ => cW cy h0 b ε σ μ.1 μ.2.1 μ.2.2 x) hX (cw_lens _ _ _ _) hzo rfl [.int (xs (i + 1))] [] (ct_X6_seed _ _ _ _ hzo hzs (cw_lens _ _ _ _) ε (xs (i + 1)) σ σ2 res e1) kX6_seed tMet_L_53 rfl rfl (Nat.le_of_ble_eq_true rfl) (Nat.le_of_ble_eq_true rfl) ⟨hn1, hn2⟩ rfl rfl (Nat.le_of_ble_eq_true rfl) dL_law_501 ?_
  refine g_aload_n hX 1 rfl rfl dL_law_504 ?_
  refine l_arg hX hS 1 1 (by decide) (by omega) hL dL_law_505 dL_law_506 dL_law_507 dL_law_508 dL_law_509 ?_
  refine l_callM (C := fun v s r x => cW cy h0 b ε σ2 v s r x) hX hzo (cw_mlens ε σ2) [.int (xs (i + 1))] [.int res] (ct_X7_seed _ _ _ _ hzo (cw_mlens ε σ2) (xs (i + 1)) μ μ2 x res e2) kX7_seed tMet_L_56 rfl rfl (Nat.le_of_ble_eq_true rfl) (Nat.le_of_ble_eq_true rfl) ⟨hn1, hn2⟩ rfl (Nat.le_of_ble_eq_true rfl) dL_law_510 ?_
  rintro _ _ ⟨rfl, x2, rfl⟩
  exact g_icmp_eq hX 1368 (by decide) dL_law_513 (fun _ => K σ2 μ2 x2 hR2) (fun z => absurd rfl z)
