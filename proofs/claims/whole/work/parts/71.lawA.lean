set_option maxHeartbeats 4000000 in
set_option maxRecDepth 100000 in
theorem lw_c0 {p : Program} {l : Launch} {e : Env} {s : State} {m : MethodId} {args : Array Value} {below : List Frame} {meth : Method} {c : Code} {Q : State → Prop} {Γ : Gm} {A : Nat → Prop} {σ : Mm} {H : Heap} {locs : List Loc} {ls : Array Slot} {b L : Nat} {xs : Nat → Int32} {i : Int} (zC : CallFix p m c cL_law 4 s args tb RL) (hG : GM Γ A σ s H locs) (hI : IC σ) (hR : Rel2 σ σ) (hX : va_X b L xs s s.heap) (hbl : b < s.heap.size) (hbA : ¬ A b) (hL : L ≤ 384) (hi : 0 ≤ i ∧ i + 6 ≤ L) (hl : lv_has ls 4 [(3, .int (zI i)), (2, .ref (aM Γ)), (1, .ref (aL Γ)), (0, .ref b)])
    (kk : ∀ (σ2 : Mm) (H : Heap) (locs : List Loc), GM Γ A σ2 s H locs → IC σ2 → Rel2 σ2 σ2 → W p l e room_1 s m args below meth c H locs 57 1284 Q (F0 m 2015 ls [])) : W p l e room_1 s m args below meth c H locs 57 1284 Q (F0 m 256 ls []) := by
  refine lv_aload_n zC.1 zC.2.1 dL_law_256 rfl (lv_at hl 2 rfl) ?_
  refine lv_aload_n zC.1 zC.2.1 dL_law_257 rfl (lv_at hl 3 rfl) ?_
  refine lv_iload_n zC.1 zC.2.1 dL_law_258 rfl (lv_at hl 0 rfl) ?_
  refine zr_iconst zC dL_law_259 ?_
  refine zr_iadd zC dL_law_260 ?_
  refine zl_sld zC hG hX hbl hbA hL (by omega) dL_law_261 ?_
  refine lv_aload_n zC.1 zC.2.1 dL_law_262 rfl (lv_at hl 3 rfl) ?_
  refine lv_iload_n zC.1 zC.2.1 dL_law_263 rfl (lv_at hl 0 rfl) ?_
  refine zr_iconst zC dL_law_264 ?_
  refine zr_iadd zC dL_law_265 ?_
  refine zl_sld zC hG hX hbl hbA hL (by omega) dL_law_266 ?_
  refine zr_callV zC hG (c_X4_row (σ := σ) (r := xv xs (i + 1)) (n := xv xs (i + 2)) hI (xv_r _ _) (xv_r _ _)) mt_X4_row wl_L_13 pL rfl rfl ⟨Nat.le_of_ble_eq_true rfl, Nat.le_of_ble_eq_true rfl⟩ rfl hl.1 rfl (Nat.le_of_ble_eq_true rfl) dL_law_267 ⟨Nat.le_of_ble_eq_true rfl, Nat.le_of_ble_eq_true rfl⟩ (fun H locs hG => ?_)
  have hJ : JC σ (mC_row σ (xv xs (i + 1)) (xv xs (i + 2))) := jc_row hI
  refine lv_aload_n zC.1 zC.2.1 dL_law_270 rfl (lv_at hl 1 rfl) ?_
  refine lv_aload_n zC.1 zC.2.1 dL_law_271 rfl (lv_at hl 3 rfl) ?_
  refine lv_iload_n zC.1 zC.2.1 dL_law_272 rfl (lv_at hl 0 rfl) ?_
  refine zr_iconst zC dL_law_273 ?_
  refine zr_iadd zC dL_law_274 ?_
  refine zl_sld zC hG hX hbl hbA hL (by omega) dL_law_275 ?_
  refine lv_aload_n zC.1 zC.2.1 dL_law_276 rfl (lv_at hl 3 rfl) ?_
  refine lv_iload_n zC.1 zC.2.1 dL_law_277 rfl (lv_at hl 0 rfl) ?_
  refine zr_iconst zC dL_law_278 ?_
  refine zr_iadd zC dL_law_279 ?_
  refine zl_sld zC hG hX hbl hbA hL (by omega) dL_law_280 ?_
  refine zm_callV zC hG (c_X5_row (τ := σ) (σ := mC_row σ (xv xs (i + 1)) (xv xs (i + 2))) (r := xv xs (i + 1)) (n := xv xs (i + 2)) (rl_f hR hJ.2) hI (xv_r _ _) (xv_r _ _)) mt_X5_row wl_L_17 pM rfl rfl ⟨Nat.le_of_ble_eq_true rfl, Nat.le_of_ble_eq_true rfl⟩ rfl hl.1 rfl (Nat.le_of_ble_eq_true rfl) dL_law_281 ⟨Nat.le_of_ble_eq_true rfl, Nat.le_of_ble_eq_true rfl⟩ (fun σ2 H locs hR2 hC2 hG => ?_)
  refine lv_icmp_eq (tgt := 2015) zC.1 zC.2.1 dL_law_284 (by decide) (fun _ => ?_) (fun cX => absurd rfl cX)
  obtain ⟨hI2, hR3⟩ := nx hJ.1 hR2 hC2
  exact kk σ2 H locs hG hI2 hR3
set_option maxHeartbeats 4000000 in
set_option maxRecDepth 100000 in
theorem lw_c1 {p : Program} {l : Launch} {e : Env} {s : State} {m : MethodId} {args : Array Value} {below : List Frame} {meth : Method} {c : Code} {Q : State → Prop} {Γ : Gm} {A : Nat → Prop} {σ : Mm} {H : Heap} {locs : List Loc} {ls : Array Slot} {b L : Nat} {xs : Nat → Int32} {i : Int} (zC : CallFix p m c cL_law 4 s args tb RL) (hG : GM Γ A σ s H locs) (hI : IC σ) (hR : Rel2 σ σ) (hX : va_X b L xs s s.heap) (hbl : b < s.heap.size) (hbA : ¬ A b) (hL : L ≤ 384) (hi : 0 ≤ i ∧ i + 6 ≤ L) (hl : lv_has ls 4 [(3, .int (zI i)), (2, .ref (aM Γ)), (1, .ref (aL Γ)), (0, .ref b)])
    (kk : ∀ (σ2 : Mm) (H : Heap) (locs : List Loc), GM Γ A σ2 s H locs → IC σ2 → Rel2 σ2 σ2 → W p l e room_1 s m args below meth c H locs 57 1284 Q (F0 m 2015 ls [])) : W p l e room_1 s m args below meth c H locs 57 1284 Q (F0 m 289 ls []) := by
  refine lv_aload_n zC.1 zC.2.1 dL_law_289 rfl (lv_at hl 2 rfl) ?_
  refine lv_aload_n zC.1 zC.2.1 dL_law_290 rfl (lv_at hl 3 rfl) ?_
  refine lv_iload_n zC.1 zC.2.1 dL_law_291 rfl (lv_at hl 0 rfl) ?_
  refine zr_iconst zC dL_law_292 ?_
  refine zr_iadd zC dL_law_293 ?_
  refine zl_sld zC hG hX hbl hbA hL (by omega) dL_law_294 ?_
  refine lv_aload_n zC.1 zC.2.1 dL_law_295 rfl (lv_at hl 3 rfl) ?_
  refine lv_iload_n zC.1 zC.2.1 dL_law_296 rfl (lv_at hl 0 rfl) ?_
  refine zr_iconst zC dL_law_297 ?_
  refine zr_iadd zC dL_law_298 ?_
  refine zl_sld zC hG hX hbl hbA hL (by omega) dL_law_299 ?_
  refine lv_aload_n zC.1 zC.2.1 dL_law_300 rfl (lv_at hl 3 rfl) ?_
  refine lv_iload_n zC.1 zC.2.1 dL_law_301 rfl (lv_at hl 0 rfl) ?_
  refine zr_iconst zC dL_law_302 ?_
  refine zr_iadd zC dL_law_303 ?_
  refine zl_sld zC hG hX hbl hbA hL (by omega) dL_law_304 ?_
  refine zr_callV zC hG (c_X4_lay (σ := σ) (r := xv xs (i + 1)) (x := xv xs (i + 2)) (v := xv xs (i + 3)) hI (xv_r _ _) (xv_r _ _) (xv_r _ _)) mt_X4_lay wl_L_18 pL rfl rfl ⟨Nat.le_of_ble_eq_true rfl, Nat.le_of_ble_eq_true rfl⟩ rfl hl.1 rfl (Nat.le_of_ble_eq_true rfl) dL_law_305 ⟨Nat.le_of_ble_eq_true rfl, Nat.le_of_ble_eq_true rfl⟩ (fun H locs hG => ?_)
  have hJ : JC σ (mC_lay σ (xv xs (i + 1)) (xv xs (i + 2)) (xv xs (i + 3))) := jc_lay hI (xv_r _ _)
  refine lv_aload_n zC.1 zC.2.1 dL_law_308 rfl (lv_at hl 1 rfl) ?_
  refine lv_aload_n zC.1 zC.2.1 dL_law_309 rfl (lv_at hl 3 rfl) ?_
  refine lv_iload_n zC.1 zC.2.1 dL_law_310 rfl (lv_at hl 0 rfl) ?_
  refine zr_iconst zC dL_law_311 ?_
  refine zr_iadd zC dL_law_312 ?_
  refine zl_sld zC hG hX hbl hbA hL (by omega) dL_law_313 ?_
  refine lv_aload_n zC.1 zC.2.1 dL_law_314 rfl (lv_at hl 3 rfl) ?_
  refine lv_iload_n zC.1 zC.2.1 dL_law_315 rfl (lv_at hl 0 rfl) ?_
  refine zr_iconst zC dL_law_316 ?_
  refine zr_iadd zC dL_law_317 ?_
  refine zl_sld zC hG hX hbl hbA hL (by omega) dL_law_318 ?_
  refine lv_aload_n zC.1 zC.2.1 dL_law_319 rfl (lv_at hl 3 rfl) ?_
  refine lv_iload_n zC.1 zC.2.1 dL_law_320 rfl (lv_at hl 0 rfl) ?_
  refine zr_iconst zC dL_law_321 ?_
  refine zr_iadd zC dL_law_322 ?_
  refine zl_sld zC hG hX hbl hbA hL (by omega) dL_law_323 ?_
  refine zm_callV zC hG (c_X5_lay (τ := σ) (σ := mC_lay σ (xv xs (i + 1)) (xv xs (i + 2)) (xv xs (i + 3))) (r := xv xs (i + 1)) (x := xv xs (i + 2)) (v := xv xs (i + 3)) (rl_f hR hJ.2) hI (xv_r _ _) (xv_r _ _) (xv_r _ _)) mt_X5_lay wl_L_22 pM rfl rfl ⟨Nat.le_of_ble_eq_true rfl, Nat.le_of_ble_eq_true rfl⟩ rfl hl.1 rfl (Nat.le_of_ble_eq_true rfl) dL_law_324 ⟨Nat.le_of_ble_eq_true rfl, Nat.le_of_ble_eq_true rfl⟩ (fun σ2 H locs hR2 hC2 hG => ?_)
  refine lv_icmp_eq (tgt := 2015) zC.1 zC.2.1 dL_law_327 (by decide) (fun _ => ?_) (fun cX => absurd rfl cX)
  obtain ⟨hI2, hR3⟩ := nx hJ.1 hR2 hC2
  exact kk σ2 H locs hG hI2 hR3
set_option maxHeartbeats 4000000 in
set_option maxRecDepth 100000 in
theorem lw_c2 {p : Program} {l : Launch} {e : Env} {s : State} {m : MethodId} {args : Array Value} {below : List Frame} {meth : Method} {c : Code} {Q : State → Prop} {Γ : Gm} {A : Nat → Prop} {σ : Mm} {H : Heap} {locs : List Loc} {ls : Array Slot} {b L : Nat} {xs : Nat → Int32} {i : Int} (zC : CallFix p m c cL_law 4 s args tb RL) (hG : GM Γ A σ s H locs) (hI : IC σ) (hR : Rel2 σ σ) (hX : va_X b L xs s s.heap) (hbl : b < s.heap.size) (hbA : ¬ A b) (hL : L ≤ 384) (hi : 0 ≤ i ∧ i + 6 ≤ L) (hl : lv_has ls 4 [(3, .int (zI i)), (2, .ref (aM Γ)), (1, .ref (aL Γ)), (0, .ref b)])
    (kk : ∀ (σ2 : Mm) (H : Heap) (locs : List Loc), GM Γ A σ2 s H locs → IC σ2 → Rel2 σ2 σ2 → W p l e room_1 s m args below meth c H locs 57 1284 Q (F0 m 2015 ls [])) : W p l e room_1 s m args below meth c H locs 57 1284 Q (F0 m 332 ls []) := by
  refine lv_aload_n zC.1 zC.2.1 dL_law_332 rfl (lv_at hl 2 rfl) ?_
  refine lv_aload_n zC.1 zC.2.1 dL_law_333 rfl (lv_at hl 3 rfl) ?_
  refine lv_iload_n zC.1 zC.2.1 dL_law_334 rfl (lv_at hl 0 rfl) ?_
  refine zr_iconst zC dL_law_335 ?_
  refine zr_iadd zC dL_law_336 ?_
  refine zl_sld zC hG hX hbl hbA hL (by omega) dL_law_337 ?_
  refine lv_aload_n zC.1 zC.2.1 dL_law_338 rfl (lv_at hl 3 rfl) ?_
  refine lv_iload_n zC.1 zC.2.1 dL_law_339 rfl (lv_at hl 0 rfl) ?_
  refine zr_iconst zC dL_law_340 ?_
  refine zr_iadd zC dL_law_341 ?_
  refine zl_sld zC hG hX hbl hbA hL (by omega) dL_law_342 ?_
  refine zr_callV zC hG (c_X4_at (σ := σ) (r := xv xs (i + 1)) (x := xv xs (i + 2)) hI (xv_r _ _) (xv_r _ _)) mt_X4_at wl_L_23 pL rfl rfl ⟨Nat.le_of_ble_eq_true rfl, Nat.le_of_ble_eq_true rfl⟩ rfl hl.1 rfl (Nat.le_of_ble_eq_true rfl) dL_law_343 ⟨Nat.le_of_ble_eq_true rfl, Nat.le_of_ble_eq_true rfl⟩ (fun H locs hG => ?_)
  have hJ : JC σ (mC_at σ (xv xs (i + 1)) (xv xs (i + 2))) := jc_at hI
  refine lv_aload_n zC.1 zC.2.1 dL_law_346 rfl (lv_at hl 1 rfl) ?_
  refine lv_aload_n zC.1 zC.2.1 dL_law_347 rfl (lv_at hl 3 rfl) ?_
  refine lv_iload_n zC.1 zC.2.1 dL_law_348 rfl (lv_at hl 0 rfl) ?_
  refine zr_iconst zC dL_law_349 ?_
  refine zr_iadd zC dL_law_350 ?_
  refine zl_sld zC hG hX hbl hbA hL (by omega) dL_law_351 ?_
  refine lv_aload_n zC.1 zC.2.1 dL_law_352 rfl (lv_at hl 3 rfl) ?_
  refine lv_iload_n zC.1 zC.2.1 dL_law_353 rfl (lv_at hl 0 rfl) ?_
  refine zr_iconst zC dL_law_354 ?_
  refine zr_iadd zC dL_law_355 ?_
  refine zl_sld zC hG hX hbl hbA hL (by omega) dL_law_356 ?_
  refine zm_callV zC hG (c_X5_at (τ := σ) (σ := mC_at σ (xv xs (i + 1)) (xv xs (i + 2))) (r := xv xs (i + 1)) (x := xv xs (i + 2)) (rl_f hR hJ.2) hI (xv_r _ _) (xv_r _ _)) mt_X5_at wl_L_26 pM rfl rfl ⟨Nat.le_of_ble_eq_true rfl, Nat.le_of_ble_eq_true rfl⟩ rfl hl.1 rfl (Nat.le_of_ble_eq_true rfl) dL_law_357 ⟨Nat.le_of_ble_eq_true rfl, Nat.le_of_ble_eq_true rfl⟩ (fun σ2 H locs hR2 hC2 hG => ?_)
  refine lv_icmp_eq (tgt := 2015) zC.1 zC.2.1 dL_law_360 (by decide) (fun _ => ?_) (fun cX => absurd rfl cX)
  obtain ⟨hI2, hR3⟩ := nx hJ.1 hR2 hC2
  exact kk σ2 H locs hG hI2 hR3
set_option maxHeartbeats 4000000 in
set_option maxRecDepth 100000 in
theorem lw_c3 {p : Program} {l : Launch} {e : Env} {s : State} {m : MethodId} {args : Array Value} {below : List Frame} {meth : Method} {c : Code} {Q : State → Prop} {Γ : Gm} {A : Nat → Prop} {σ : Mm} {H : Heap} {locs : List Loc} {ls : Array Slot} {b L : Nat} {xs : Nat → Int32} {i : Int} (zC : CallFix p m c cL_law 4 s args tb RL) (hG : GM Γ A σ s H locs) (hI : IC σ) (hR : Rel2 σ σ) (hX : va_X b L xs s s.heap) (hbl : b < s.heap.size) (hbA : ¬ A b) (hL : L ≤ 384) (hi : 0 ≤ i ∧ i + 6 ≤ L) (hl : lv_has ls 4 [(3, .int (zI i)), (2, .ref (aM Γ)), (1, .ref (aL Γ)), (0, .ref b)])
    (kk : ∀ (σ2 : Mm) (H : Heap) (locs : List Loc), GM Γ A σ2 s H locs → IC σ2 → Rel2 σ2 σ2 → W p l e room_1 s m args below meth c H locs 57 1284 Q (F0 m 2015 ls [])) : W p l e room_1 s m args below meth c H locs 57 1284 Q (F0 m 365 ls []) := by
  refine lv_aload_n zC.1 zC.2.1 dL_law_365 rfl (lv_at hl 2 rfl) ?_
  refine lv_aload_n zC.1 zC.2.1 dL_law_366 rfl (lv_at hl 3 rfl) ?_
  refine lv_iload_n zC.1 zC.2.1 dL_law_367 rfl (lv_at hl 0 rfl) ?_
  refine zr_iconst zC dL_law_368 ?_
  refine zr_iadd zC dL_law_369 ?_
  refine zl_sld zC hG hX hbl hbA hL (by omega) dL_law_370 ?_
  refine zr_callV zC hG (c_X4_tear (σ := σ) (r := xv xs (i + 1)) hI (xv_r _ _)) mt_X4_tear wl_L_27 pL rfl rfl ⟨Nat.le_of_ble_eq_true rfl, Nat.le_of_ble_eq_true rfl⟩ rfl hl.1 rfl (Nat.le_of_ble_eq_true rfl) dL_law_371 ⟨Nat.le_of_ble_eq_true rfl, Nat.le_of_ble_eq_true rfl⟩ (fun H locs hG => ?_)
  have hJ : JC σ (mC_tear σ (xv xs (i + 1))) := jc_tear hI
  refine lv_aload_n zC.1 zC.2.1 dL_law_374 rfl (lv_at hl 1 rfl) ?_
  refine lv_aload_n zC.1 zC.2.1 dL_law_375 rfl (lv_at hl 3 rfl) ?_
  refine lv_iload_n zC.1 zC.2.1 dL_law_376 rfl (lv_at hl 0 rfl) ?_
  refine zr_iconst zC dL_law_377 ?_
  refine zr_iadd zC dL_law_378 ?_
  refine zl_sld zC hG hX hbl hbA hL (by omega) dL_law_379 ?_
  refine zm_callV zC hG (c_X5_tear (τ := σ) (σ := mC_tear σ (xv xs (i + 1))) (r := xv xs (i + 1)) (rl_f hR hJ.2) hI (xv_r _ _)) mt_X5_tear wl_L_31 pM rfl rfl ⟨Nat.le_of_ble_eq_true rfl, Nat.le_of_ble_eq_true rfl⟩ rfl hl.1 rfl (Nat.le_of_ble_eq_true rfl) dL_law_380 ⟨Nat.le_of_ble_eq_true rfl, Nat.le_of_ble_eq_true rfl⟩ (fun σ2 H locs hR2 hC2 hG => ?_)
  refine lv_icmp_eq (tgt := 2015) zC.1 zC.2.1 dL_law_383 (by decide) (fun _ => ?_) (fun cX => absurd rfl cX)
  obtain ⟨hI2, hR3⟩ := nx hJ.1 hR2 hC2
  exact kk σ2 H locs hG hI2 hR3
set_option maxHeartbeats 4000000 in
set_option maxRecDepth 100000 in
theorem lw_c4 {p : Program} {l : Launch} {e : Env} {s : State} {m : MethodId} {args : Array Value} {below : List Frame} {meth : Method} {c : Code} {Q : State → Prop} {Γ : Gm} {A : Nat → Prop} {σ : Mm} {H : Heap} {locs : List Loc} {ls : Array Slot} {b L : Nat} {xs : Nat → Int32} {i : Int} (zC : CallFix p m c cL_law 4 s args tb RL) (hG : GM Γ A σ s H locs) (hI : IC σ) (hR : Rel2 σ σ) (hX : va_X b L xs s s.heap) (hbl : b < s.heap.size) (hbA : ¬ A b) (hL : L ≤ 384) (hi : 0 ≤ i ∧ i + 6 ≤ L) (hl : lv_has ls 4 [(3, .int (zI i)), (2, .ref (aM Γ)), (1, .ref (aL Γ)), (0, .ref b)])
    (kk : ∀ (σ2 : Mm) (H : Heap) (locs : List Loc), GM Γ A σ2 s H locs → IC σ2 → Rel2 σ2 σ2 → W p l e room_1 s m args below meth c H locs 57 1284 Q (F0 m 2015 ls [])) : W p l e room_1 s m args below meth c H locs 57 1284 Q (F0 m 388 ls []) := by
  refine lv_aload_n zC.1 zC.2.1 dL_law_388 rfl (lv_at hl 2 rfl) ?_
  refine lv_aload_n zC.1 zC.2.1 dL_law_389 rfl (lv_at hl 3 rfl) ?_
  refine lv_iload_n zC.1 zC.2.1 dL_law_390 rfl (lv_at hl 0 rfl) ?_
  refine zr_iconst zC dL_law_391 ?_
  refine zr_iadd zC dL_law_392 ?_
  refine zl_sld zC hG hX hbl hbA hL (by omega) dL_law_393 ?_
  refine lv_aload_n zC.1 zC.2.1 dL_law_394 rfl (lv_at hl 3 rfl) ?_
  refine lv_iload_n zC.1 zC.2.1 dL_law_395 rfl (lv_at hl 0 rfl) ?_
  refine zr_iconst zC dL_law_396 ?_
  refine zr_iadd zC dL_law_397 ?_
  refine zl_sld zC hG hX hbl hbA hL (by omega) dL_law_398 ?_
  refine lv_aload_n zC.1 zC.2.1 dL_law_399 rfl (lv_at hl 3 rfl) ?_
  refine lv_iload_n zC.1 zC.2.1 dL_law_400 rfl (lv_at hl 0 rfl) ?_
  refine zr_iconst zC dL_law_401 ?_
  refine zr_iadd zC dL_law_402 ?_
  refine zl_sld zC hG hX hbl hbA hL (by omega) dL_law_403 ?_
  refine lv_aload_n zC.1 zC.2.1 dL_law_404 rfl (lv_at hl 3 rfl) ?_
  refine lv_iload_n zC.1 zC.2.1 dL_law_405 rfl (lv_at hl 0 rfl) ?_
  refine zr_iconst zC dL_law_406 ?_
  refine zr_iadd zC dL_law_407 ?_
  refine zl_sld zC hG hX hbl hbA hL (by omega) dL_law_408 ?_
  refine lv_aload_n zC.1 zC.2.1 dL_law_409 rfl (lv_at hl 3 rfl) ?_
  refine lv_iload_n zC.1 zC.2.1 dL_law_410 rfl (lv_at hl 0 rfl) ?_
  refine zr_iconst zC dL_law_411 ?_
  refine zr_iadd zC dL_law_412 ?_
  refine zl_sld zC hG hX hbl hbA hL (by omega) dL_law_413 ?_
  refine zr_callV zC hG (c_X4_copy (σ := σ) (r := xv xs (i + 1)) (x := xv xs (i + 2)) (y := xv xs (i + 3)) (j := xv xs (i + 4)) (n := xv xs (i + 5)) hI (xv_r _ _) (xv_r _ _) (xv_r _ _) (xv_r _ _) (xv_r _ _)) mt_X4_copy wl_L_32 pL rfl rfl ⟨Nat.le_of_ble_eq_true rfl, Nat.le_of_ble_eq_true rfl⟩ rfl hl.1 rfl (Nat.le_of_ble_eq_true rfl) dL_law_414 ⟨Nat.le_of_ble_eq_true rfl, Nat.le_of_ble_eq_true rfl⟩ (fun H locs hG => ?_)
  have hJ : JC σ (mC_copy σ (xv xs (i + 1)) (xv xs (i + 2)) (xv xs (i + 3)) (xv xs (i + 4)) (xv xs (i + 5))) := jc_copy hI
  refine lv_aload_n zC.1 zC.2.1 dL_law_417 rfl (lv_at hl 1 rfl) ?_
  refine lv_aload_n zC.1 zC.2.1 dL_law_418 rfl (lv_at hl 3 rfl) ?_
  refine lv_iload_n zC.1 zC.2.1 dL_law_419 rfl (lv_at hl 0 rfl) ?_
  refine zr_iconst zC dL_law_420 ?_
  refine zr_iadd zC dL_law_421 ?_
  refine zl_sld zC hG hX hbl hbA hL (by omega) dL_law_422 ?_
  refine lv_aload_n zC.1 zC.2.1 dL_law_423 rfl (lv_at hl 3 rfl) ?_
  refine lv_iload_n zC.1 zC.2.1 dL_law_424 rfl (lv_at hl 0 rfl) ?_
  refine zr_iconst zC dL_law_425 ?_
  refine zr_iadd zC dL_law_426 ?_
  refine zl_sld zC hG hX hbl hbA hL (by omega) dL_law_427 ?_
  refine lv_aload_n zC.1 zC.2.1 dL_law_428 rfl (lv_at hl 3 rfl) ?_
  refine lv_iload_n zC.1 zC.2.1 dL_law_429 rfl (lv_at hl 0 rfl) ?_
  refine zr_iconst zC dL_law_430 ?_
  refine zr_iadd zC dL_law_431 ?_
  refine zl_sld zC hG hX hbl hbA hL (by omega) dL_law_432 ?_
  refine lv_aload_n zC.1 zC.2.1 dL_law_433 rfl (lv_at hl 3 rfl) ?_
  refine lv_iload_n zC.1 zC.2.1 dL_law_434 rfl (lv_at hl 0 rfl) ?_
  refine zr_iconst zC dL_law_435 ?_
  refine zr_iadd zC dL_law_436 ?_
  refine zl_sld zC hG hX hbl hbA hL (by omega) dL_law_437 ?_
  refine lv_aload_n zC.1 zC.2.1 dL_law_438 rfl (lv_at hl 3 rfl) ?_
  refine lv_iload_n zC.1 zC.2.1 dL_law_439 rfl (lv_at hl 0 rfl) ?_
  refine zr_iconst zC dL_law_440 ?_
  refine zr_iadd zC dL_law_441 ?_
  refine zl_sld zC hG hX hbl hbA hL (by omega) dL_law_442 ?_
  refine zm_callV zC hG (c_X5_copy (τ := σ) (σ := mC_copy σ (xv xs (i + 1)) (xv xs (i + 2)) (xv xs (i + 3)) (xv xs (i + 4)) (xv xs (i + 5))) (r := xv xs (i + 1)) (x := xv xs (i + 2)) (y := xv xs (i + 3)) (j := xv xs (i + 4)) (n := xv xs (i + 5)) (rl_f hR hJ.2) hI (xv_r _ _) (xv_r _ _) (xv_r _ _) (xv_r _ _) (xv_r _ _)) mt_X5_copy wl_L_36 pM rfl rfl ⟨Nat.le_of_ble_eq_true rfl, Nat.le_of_ble_eq_true rfl⟩ rfl hl.1 rfl (Nat.le_of_ble_eq_true rfl) dL_law_443 ⟨Nat.le_of_ble_eq_true rfl, Nat.le_of_ble_eq_true rfl⟩ (fun σ2 H locs hR2 hC2 hG => ?_)
  refine lv_icmp_eq (tgt := 2015) zC.1 zC.2.1 dL_law_446 (by decide) (fun _ => ?_) (fun cX => absurd rfl cX)
  obtain ⟨hI2, hR3⟩ := nx hJ.1 hR2 hC2
  exact kk σ2 H locs hG hI2 hR3
set_option maxHeartbeats 4000000 in
set_option maxRecDepth 100000 in
theorem lw_c5 {p : Program} {l : Launch} {e : Env} {s : State} {m : MethodId} {args : Array Value} {below : List Frame} {meth : Method} {c : Code} {Q : State → Prop} {Γ : Gm} {A : Nat → Prop} {σ : Mm} {H : Heap} {locs : List Loc} {ls : Array Slot} {b L : Nat} {xs : Nat → Int32} {i : Int} (zC : CallFix p m c cL_law 4 s args tb RL) (hG : GM Γ A σ s H locs) (hI : IC σ) (hR : Rel2 σ σ) (hX : va_X b L xs s s.heap) (hbl : b < s.heap.size) (hbA : ¬ A b) (hL : L ≤ 384) (hi : 0 ≤ i ∧ i + 6 ≤ L) (hl : lv_has ls 4 [(3, .int (zI i)), (2, .ref (aM Γ)), (1, .ref (aL Γ)), (0, .ref b)])
    (kk : ∀ (σ2 : Mm) (H : Heap) (locs : List Loc), GM Γ A σ2 s H locs → IC σ2 → Rel2 σ2 σ2 → W p l e room_1 s m args below meth c H locs 57 1284 Q (F0 m 2015 ls [])) : W p l e room_1 s m args below meth c H locs 57 1284 Q (F0 m 451 ls []) := by
  refine lv_aload_n zC.1 zC.2.1 dL_law_451 rfl (lv_at hl 2 rfl) ?_
  refine lv_aload_n zC.1 zC.2.1 dL_law_452 rfl (lv_at hl 3 rfl) ?_
  refine lv_iload_n zC.1 zC.2.1 dL_law_453 rfl (lv_at hl 0 rfl) ?_
  refine zr_iconst zC dL_law_454 ?_
  refine zr_iadd zC dL_law_455 ?_
  refine zl_sld zC hG hX hbl hbA hL (by omega) dL_law_456 ?_
  refine zr_callV zC hG (c_X4_mean (σ := σ) (r := xv xs (i + 1)) hI (xv_r _ _)) mt_X4_mean wl_L_37 pL rfl rfl ⟨Nat.le_of_ble_eq_true rfl, Nat.le_of_ble_eq_true rfl⟩ rfl hl.1 rfl (Nat.le_of_ble_eq_true rfl) dL_law_457 ⟨Nat.le_of_ble_eq_true rfl, Nat.le_of_ble_eq_true rfl⟩ (fun H locs hG => ?_)
  have hJ : JC σ (mC_mean σ (xv xs (i + 1))) := jc_mean hI
  refine lv_aload_n zC.1 zC.2.1 dL_law_460 rfl (lv_at hl 1 rfl) ?_
  refine lv_aload_n zC.1 zC.2.1 dL_law_461 rfl (lv_at hl 3 rfl) ?_
  refine lv_iload_n zC.1 zC.2.1 dL_law_462 rfl (lv_at hl 0 rfl) ?_
  refine zr_iconst zC dL_law_463 ?_
  refine zr_iadd zC dL_law_464 ?_
  refine zl_sld zC hG hX hbl hbA hL (by omega) dL_law_465 ?_
  refine zm_callV zC hG (c_X5_mean (τ := σ) (σ := mC_mean σ (xv xs (i + 1))) (r := xv xs (i + 1)) (rl_f hR hJ.2) hI (xv_r _ _)) mt_X5_mean wl_L_40 pM rfl rfl ⟨Nat.le_of_ble_eq_true rfl, Nat.le_of_ble_eq_true rfl⟩ rfl hl.1 rfl (Nat.le_of_ble_eq_true rfl) dL_law_466 ⟨Nat.le_of_ble_eq_true rfl, Nat.le_of_ble_eq_true rfl⟩ (fun σ2 H locs hR2 hC2 hG => ?_)
  refine lv_icmp_eq (tgt := 2015) zC.1 zC.2.1 dL_law_469 (by decide) (fun _ => ?_) (fun cX => absurd rfl cX)
  obtain ⟨hI2, hR3⟩ := nx hJ.1 hR2 hC2
  exact kk σ2 H locs hG hI2 hR3
set_option maxHeartbeats 4000000 in
set_option maxRecDepth 100000 in
theorem lw_c6 {p : Program} {l : Launch} {e : Env} {s : State} {m : MethodId} {args : Array Value} {below : List Frame} {meth : Method} {c : Code} {Q : State → Prop} {Γ : Gm} {A : Nat → Prop} {σ : Mm} {H : Heap} {locs : List Loc} {ls : Array Slot} {b L : Nat} {xs : Nat → Int32} {i : Int} (zC : CallFix p m c cL_law 4 s args tb RL) (hG : GM Γ A σ s H locs) (hI : IC σ) (hR : Rel2 σ σ) (hX : va_X b L xs s s.heap) (hbl : b < s.heap.size) (hbA : ¬ A b) (hL : L ≤ 384) (hi : 0 ≤ i ∧ i + 6 ≤ L) (hl : lv_has ls 4 [(3, .int (zI i)), (2, .ref (aM Γ)), (1, .ref (aL Γ)), (0, .ref b)])
    (kk : ∀ (σ2 : Mm) (H : Heap) (locs : List Loc), GM Γ A σ2 s H locs → IC σ2 → Rel2 σ2 σ2 → W p l e room_1 s m args below meth c H locs 57 1284 Q (F0 m 2015 ls [])) : W p l e room_1 s m args below meth c H locs 57 1284 Q (F0 m 474 ls []) := by
  refine lv_aload_n zC.1 zC.2.1 dL_law_474 rfl (lv_at hl 2 rfl) ?_
  refine lv_aload_n zC.1 zC.2.1 dL_law_475 rfl (lv_at hl 3 rfl) ?_
  refine lv_iload_n zC.1 zC.2.1 dL_law_476 rfl (lv_at hl 0 rfl) ?_
  refine zr_iconst zC dL_law_477 ?_
  refine zr_iadd zC dL_law_478 ?_
  refine zl_sld zC hG hX hbl hbA hL (by omega) dL_law_479 ?_
  refine lv_aload_n zC.1 zC.2.1 dL_law_480 rfl (lv_at hl 3 rfl) ?_
  refine lv_iload_n zC.1 zC.2.1 dL_law_481 rfl (lv_at hl 0 rfl) ?_
  refine zr_iconst zC dL_law_482 ?_
  refine zr_iadd zC dL_law_483 ?_
  refine zl_sld zC hG hX hbl hbA hL (by omega) dL_law_484 ?_
  refine zr_callV zC hG (c_X4_text (σ := σ) (t := xv xs (i + 1)) (n := xv xs (i + 2)) hI (xv_r _ _) (xv_r _ _)) mt_X4_text wl_L_41 pL rfl rfl ⟨Nat.le_of_ble_eq_true rfl, Nat.le_of_ble_eq_true rfl⟩ rfl hl.1 rfl (Nat.le_of_ble_eq_true rfl) dL_law_485 ⟨Nat.le_of_ble_eq_true rfl, Nat.le_of_ble_eq_true rfl⟩ (fun H locs hG => ?_)
  have hJ : JC σ (mC_text σ (xv xs (i + 1)) (xv xs (i + 2))) := jc_text hI
  refine lv_aload_n zC.1 zC.2.1 dL_law_488 rfl (lv_at hl 1 rfl) ?_
  refine lv_aload_n zC.1 zC.2.1 dL_law_489 rfl (lv_at hl 3 rfl) ?_
  refine lv_iload_n zC.1 zC.2.1 dL_law_490 rfl (lv_at hl 0 rfl) ?_
  refine zr_iconst zC dL_law_491 ?_
  refine zr_iadd zC dL_law_492 ?_
  refine zl_sld zC hG hX hbl hbA hL (by omega) dL_law_493 ?_
  refine lv_aload_n zC.1 zC.2.1 dL_law_494 rfl (lv_at hl 3 rfl) ?_
  refine lv_iload_n zC.1 zC.2.1 dL_law_495 rfl (lv_at hl 0 rfl) ?_
  refine zr_iconst zC dL_law_496 ?_
  refine zr_iadd zC dL_law_497 ?_
  refine zl_sld zC hG hX hbl hbA hL (by omega) dL_law_498 ?_
  refine zm_callV zC hG (c_X5_text (τ := σ) (σ := mC_text σ (xv xs (i + 1)) (xv xs (i + 2))) (t := xv xs (i + 1)) (n := xv xs (i + 2)) (rl_f hR hJ.2) hI (xv_r _ _) (xv_r _ _)) mt_X5_text wl_L_44 pM rfl rfl ⟨Nat.le_of_ble_eq_true rfl, Nat.le_of_ble_eq_true rfl⟩ rfl hl.1 rfl (Nat.le_of_ble_eq_true rfl) dL_law_499 ⟨Nat.le_of_ble_eq_true rfl, Nat.le_of_ble_eq_true rfl⟩ (fun σ2 H locs hR2 hC2 hG => ?_)
  refine lv_icmp_eq (tgt := 2015) zC.1 zC.2.1 dL_law_502 (by decide) (fun _ => ?_) (fun cX => absurd rfl cX)
  obtain ⟨hI2, hR3⟩ := nx hJ.1 hR2 hC2
  exact kk σ2 H locs hG hI2 hR3
set_option maxHeartbeats 4000000 in
set_option maxRecDepth 100000 in
theorem lw_c7 {p : Program} {l : Launch} {e : Env} {s : State} {m : MethodId} {args : Array Value} {below : List Frame} {meth : Method} {c : Code} {Q : State → Prop} {Γ : Gm} {A : Nat → Prop} {σ : Mm} {H : Heap} {locs : List Loc} {ls : Array Slot} {b L : Nat} {xs : Nat → Int32} {i : Int} (zC : CallFix p m c cL_law 4 s args tb RL) (hG : GM Γ A σ s H locs) (hI : IC σ) (hR : Rel2 σ σ) (hX : va_X b L xs s s.heap) (hbl : b < s.heap.size) (hbA : ¬ A b) (hL : L ≤ 384) (hi : 0 ≤ i ∧ i + 6 ≤ L) (hl : lv_has ls 4 [(3, .int (zI i)), (2, .ref (aM Γ)), (1, .ref (aL Γ)), (0, .ref b)])
    (kk : ∀ (σ2 : Mm) (H : Heap) (locs : List Loc), GM Γ A σ2 s H locs → IC σ2 → Rel2 σ2 σ2 → W p l e room_1 s m args below meth c H locs 57 1284 Q (F0 m 2015 ls [])) : W p l e room_1 s m args below meth c H locs 57 1284 Q (F0 m 507 ls []) := by
  refine lv_aload_n zC.1 zC.2.1 dL_law_507 rfl (lv_at hl 2 rfl) ?_
  refine lv_aload_n zC.1 zC.2.1 dL_law_508 rfl (lv_at hl 3 rfl) ?_
  refine lv_iload_n zC.1 zC.2.1 dL_law_509 rfl (lv_at hl 0 rfl) ?_
  refine zr_iconst zC dL_law_510 ?_
  refine zr_iadd zC dL_law_511 ?_
  refine zl_sld zC hG hX hbl hbA hL (by omega) dL_law_512 ?_
  refine lv_aload_n zC.1 zC.2.1 dL_law_513 rfl (lv_at hl 3 rfl) ?_
  refine lv_iload_n zC.1 zC.2.1 dL_law_514 rfl (lv_at hl 0 rfl) ?_
  refine zr_iconst zC dL_law_515 ?_
  refine zr_iadd zC dL_law_516 ?_
  refine zl_sld zC hG hX hbl hbA hL (by omega) dL_law_517 ?_
  refine lv_aload_n zC.1 zC.2.1 dL_law_518 rfl (lv_at hl 3 rfl) ?_
  refine lv_iload_n zC.1 zC.2.1 dL_law_519 rfl (lv_at hl 0 rfl) ?_
  refine zr_iconst zC dL_law_520 ?_
  refine zr_iadd zC dL_law_521 ?_
  refine zl_sld zC hG hX hbl hbA hL (by omega) dL_law_522 ?_
  refine zr_callV zC hG (c_X4_put (σ := σ) (t := xv xs (i + 1)) (x := xv xs (i + 2)) (v := xv xs (i + 3)) hI (xv_r _ _) (xv_r _ _) (xv_r _ _)) mt_X4_put wl_L_45 pL rfl rfl ⟨Nat.le_of_ble_eq_true rfl, Nat.le_of_ble_eq_true rfl⟩ rfl hl.1 rfl (Nat.le_of_ble_eq_true rfl) dL_law_523 ⟨Nat.le_of_ble_eq_true rfl, Nat.le_of_ble_eq_true rfl⟩ (fun H locs hG => ?_)
  have hJ : JC σ (mC_put σ (xv xs (i + 1)) (xv xs (i + 2)) (xv xs (i + 3))) := jc_put hI
  refine lv_aload_n zC.1 zC.2.1 dL_law_526 rfl (lv_at hl 1 rfl) ?_
  refine lv_aload_n zC.1 zC.2.1 dL_law_527 rfl (lv_at hl 3 rfl) ?_
  refine lv_iload_n zC.1 zC.2.1 dL_law_528 rfl (lv_at hl 0 rfl) ?_
  refine zr_iconst zC dL_law_529 ?_
  refine zr_iadd zC dL_law_530 ?_
  refine zl_sld zC hG hX hbl hbA hL (by omega) dL_law_531 ?_
  refine lv_aload_n zC.1 zC.2.1 dL_law_532 rfl (lv_at hl 3 rfl) ?_
  refine lv_iload_n zC.1 zC.2.1 dL_law_533 rfl (lv_at hl 0 rfl) ?_
  refine zr_iconst zC dL_law_534 ?_
  refine zr_iadd zC dL_law_535 ?_
  refine zl_sld zC hG hX hbl hbA hL (by omega) dL_law_536 ?_
  refine lv_aload_n zC.1 zC.2.1 dL_law_537 rfl (lv_at hl 3 rfl) ?_
  refine lv_iload_n zC.1 zC.2.1 dL_law_538 rfl (lv_at hl 0 rfl) ?_
  refine zr_iconst zC dL_law_539 ?_
  refine zr_iadd zC dL_law_540 ?_
  refine zl_sld zC hG hX hbl hbA hL (by omega) dL_law_541 ?_
  refine zm_callV zC hG (c_X5_put (τ := σ) (σ := mC_put σ (xv xs (i + 1)) (xv xs (i + 2)) (xv xs (i + 3))) (t := xv xs (i + 1)) (x := xv xs (i + 2)) (v := xv xs (i + 3)) (rl_f hR hJ.2) hI (xv_r _ _) (xv_r _ _) (xv_r _ _)) mt_X5_put wl_L_48 pM rfl rfl ⟨Nat.le_of_ble_eq_true rfl, Nat.le_of_ble_eq_true rfl⟩ rfl hl.1 rfl (Nat.le_of_ble_eq_true rfl) dL_law_542 ⟨Nat.le_of_ble_eq_true rfl, Nat.le_of_ble_eq_true rfl⟩ (fun σ2 H locs hR2 hC2 hG => ?_)
  refine lv_icmp_eq (tgt := 2015) zC.1 zC.2.1 dL_law_545 (by decide) (fun _ => ?_) (fun cX => absurd rfl cX)
  obtain ⟨hI2, hR3⟩ := nx hJ.1 hR2 hC2
  exact kk σ2 H locs hG hI2 hR3
set_option maxHeartbeats 4000000 in
set_option maxRecDepth 100000 in
theorem lw_c8 {p : Program} {l : Launch} {e : Env} {s : State} {m : MethodId} {args : Array Value} {below : List Frame} {meth : Method} {c : Code} {Q : State → Prop} {Γ : Gm} {A : Nat → Prop} {σ : Mm} {H : Heap} {locs : List Loc} {ls : Array Slot} {b L : Nat} {xs : Nat → Int32} {i : Int} (zC : CallFix p m c cL_law 4 s args tb RL) (hG : GM Γ A σ s H locs) (hI : IC σ) (hR : Rel2 σ σ) (hX : va_X b L xs s s.heap) (hbl : b < s.heap.size) (hbA : ¬ A b) (hL : L ≤ 384) (hi : 0 ≤ i ∧ i + 6 ≤ L) (hl : lv_has ls 4 [(3, .int (zI i)), (2, .ref (aM Γ)), (1, .ref (aL Γ)), (0, .ref b)])
    (kk : ∀ (σ2 : Mm) (H : Heap) (locs : List Loc), GM Γ A σ2 s H locs → IC σ2 → Rel2 σ2 σ2 → W p l e room_1 s m args below meth c H locs 57 1284 Q (F0 m 2015 ls [])) : W p l e room_1 s m args below meth c H locs 57 1284 Q (F0 m 550 ls []) := by
  refine lv_aload_n zC.1 zC.2.1 dL_law_550 rfl (lv_at hl 2 rfl) ?_
  refine lv_aload_n zC.1 zC.2.1 dL_law_551 rfl (lv_at hl 3 rfl) ?_
  refine lv_iload_n zC.1 zC.2.1 dL_law_552 rfl (lv_at hl 0 rfl) ?_
  refine zr_iconst zC dL_law_553 ?_
  refine zr_iadd zC dL_law_554 ?_
  refine zl_sld zC hG hX hbl hbA hL (by omega) dL_law_555 ?_
  refine zr_callV zC hG (c_X4_fault (σ := σ) (t := xv xs (i + 1)) hI (xv_r _ _)) mt_X4_fault wl_L_49 pL rfl rfl ⟨Nat.le_of_ble_eq_true rfl, Nat.le_of_ble_eq_true rfl⟩ rfl hl.1 rfl (Nat.le_of_ble_eq_true rfl) dL_law_556 ⟨Nat.le_of_ble_eq_true rfl, Nat.le_of_ble_eq_true rfl⟩ (fun H locs hG => ?_)
  have hJ : JC σ (mC_fault σ (xv xs (i + 1))) := jc_fault hI
  refine lv_aload_n zC.1 zC.2.1 dL_law_559 rfl (lv_at hl 1 rfl) ?_
  refine lv_aload_n zC.1 zC.2.1 dL_law_560 rfl (lv_at hl 3 rfl) ?_
  refine lv_iload_n zC.1 zC.2.1 dL_law_561 rfl (lv_at hl 0 rfl) ?_
  refine zr_iconst zC dL_law_562 ?_
  refine zr_iadd zC dL_law_563 ?_
  refine zl_sld zC hG hX hbl hbA hL (by omega) dL_law_564 ?_
  refine zm_callV zC hG (c_X5_fault (τ := σ) (σ := mC_fault σ (xv xs (i + 1))) (t := xv xs (i + 1)) (rl_f hR hJ.2) hI (xv_r _ _)) mt_X5_fault wl_L_52 pM rfl rfl ⟨Nat.le_of_ble_eq_true rfl, Nat.le_of_ble_eq_true rfl⟩ rfl hl.1 rfl (Nat.le_of_ble_eq_true rfl) dL_law_565 ⟨Nat.le_of_ble_eq_true rfl, Nat.le_of_ble_eq_true rfl⟩ (fun σ2 H locs hR2 hC2 hG => ?_)
  refine lv_icmp_eq (tgt := 2015) zC.1 zC.2.1 dL_law_568 (by decide) (fun _ => ?_) (fun cX => absurd rfl cX)
  obtain ⟨hI2, hR3⟩ := nx hJ.1 hR2 hC2
  exact kk σ2 H locs hG hI2 hR3
set_option maxHeartbeats 4000000 in
set_option maxRecDepth 100000 in
theorem lw_c9 {p : Program} {l : Launch} {e : Env} {s : State} {m : MethodId} {args : Array Value} {below : List Frame} {meth : Method} {c : Code} {Q : State → Prop} {Γ : Gm} {A : Nat → Prop} {σ : Mm} {H : Heap} {locs : List Loc} {ls : Array Slot} {b L : Nat} {xs : Nat → Int32} {i : Int} (zC : CallFix p m c cL_law 4 s args tb RL) (hG : GM Γ A σ s H locs) (hI : IC σ) (hR : Rel2 σ σ) (hX : va_X b L xs s s.heap) (hbl : b < s.heap.size) (hbA : ¬ A b) (hL : L ≤ 384) (hi : 0 ≤ i ∧ i + 6 ≤ L) (hl : lv_has ls 4 [(3, .int (zI i)), (2, .ref (aM Γ)), (1, .ref (aL Γ)), (0, .ref b)])
    (kk : ∀ (σ2 : Mm) (H : Heap) (locs : List Loc), GM Γ A σ2 s H locs → IC σ2 → Rel2 σ2 σ2 → W p l e room_1 s m args below meth c H locs 57 1284 Q (F0 m 2015 ls [])) : W p l e room_1 s m args below meth c H locs 57 1284 Q (F0 m 573 ls []) := by
  refine lv_aload_n zC.1 zC.2.1 dL_law_573 rfl (lv_at hl 2 rfl) ?_
  refine lv_aload_n zC.1 zC.2.1 dL_law_574 rfl (lv_at hl 3 rfl) ?_
  refine lv_iload_n zC.1 zC.2.1 dL_law_575 rfl (lv_at hl 0 rfl) ?_
  refine zr_iconst zC dL_law_576 ?_
  refine zr_iadd zC dL_law_577 ?_
  refine zl_sld zC hG hX hbl hbA hL (by omega) dL_law_578 ?_
  refine zr_callV zC hG (c_X4_almanac (σ := σ) (t := xv xs (i + 1)) hI (xv_r _ _)) mt_X4_almanac wl_L_53 pL rfl rfl ⟨Nat.le_of_ble_eq_true rfl, Nat.le_of_ble_eq_true rfl⟩ rfl hl.1 rfl (Nat.le_of_ble_eq_true rfl) dL_law_579 ⟨Nat.le_of_ble_eq_true rfl, Nat.le_of_ble_eq_true rfl⟩ (fun H locs hG => ?_)
  have hJ : JC σ (mC_almanac σ (xv xs (i + 1))) := jc_almanac hI
  refine lv_aload_n zC.1 zC.2.1 dL_law_582 rfl (lv_at hl 1 rfl) ?_
  refine lv_aload_n zC.1 zC.2.1 dL_law_583 rfl (lv_at hl 3 rfl) ?_
  refine lv_iload_n zC.1 zC.2.1 dL_law_584 rfl (lv_at hl 0 rfl) ?_
  refine zr_iconst zC dL_law_585 ?_
  refine zr_iadd zC dL_law_586 ?_
  refine zl_sld zC hG hX hbl hbA hL (by omega) dL_law_587 ?_
  refine zm_callV zC hG (c_X5_almanac (τ := σ) (σ := mC_almanac σ (xv xs (i + 1))) (t := xv xs (i + 1)) (rl_f hR hJ.2) hI (xv_r _ _)) mt_X5_almanac wl_L_56 pM rfl rfl ⟨Nat.le_of_ble_eq_true rfl, Nat.le_of_ble_eq_true rfl⟩ rfl hl.1 rfl (Nat.le_of_ble_eq_true rfl) dL_law_588 ⟨Nat.le_of_ble_eq_true rfl, Nat.le_of_ble_eq_true rfl⟩ (fun σ2 H locs hR2 hC2 hG => ?_)
  refine lv_icmp_eq (tgt := 2015) zC.1 zC.2.1 dL_law_591 (by decide) (fun _ => ?_) (fun cX => absurd rfl cX)
  obtain ⟨hI2, hR3⟩ := nx hJ.1 hR2 hC2
  exact kk σ2 H locs hG hI2 hR3
set_option maxHeartbeats 4000000 in
set_option maxRecDepth 100000 in
theorem lw_c10 {p : Program} {l : Launch} {e : Env} {s : State} {m : MethodId} {args : Array Value} {below : List Frame} {meth : Method} {c : Code} {Q : State → Prop} {Γ : Gm} {A : Nat → Prop} {σ : Mm} {H : Heap} {locs : List Loc} {ls : Array Slot} {b L : Nat} {xs : Nat → Int32} {i : Int} (zC : CallFix p m c cL_law 4 s args tb RL) (hG : GM Γ A σ s H locs) (hI : IC σ) (hR : Rel2 σ σ) (hX : va_X b L xs s s.heap) (hbl : b < s.heap.size) (hbA : ¬ A b) (hL : L ≤ 384) (hi : 0 ≤ i ∧ i + 6 ≤ L) (hl : lv_has ls 4 [(3, .int (zI i)), (2, .ref (aM Γ)), (1, .ref (aL Γ)), (0, .ref b)])
    (kk : ∀ (σ2 : Mm) (H : Heap) (locs : List Loc), GM Γ A σ2 s H locs → IC σ2 → Rel2 σ2 σ2 → W p l e room_1 s m args below meth c H locs 57 1284 Q (F0 m 2015 ls [])) : W p l e room_1 s m args below meth c H locs 57 1284 Q (F0 m 596 ls []) := by
  refine lv_aload_n zC.1 zC.2.1 dL_law_596 rfl (lv_at hl 2 rfl) ?_
  refine lv_aload_n zC.1 zC.2.1 dL_law_597 rfl (lv_at hl 3 rfl) ?_
  refine lv_iload_n zC.1 zC.2.1 dL_law_598 rfl (lv_at hl 0 rfl) ?_
  refine zr_iconst zC dL_law_599 ?_
  refine zr_iadd zC dL_law_600 ?_
  refine zl_sld zC hG hX hbl hbA hL (by omega) dL_law_601 ?_
  refine lv_aload_n zC.1 zC.2.1 dL_law_602 rfl (lv_at hl 3 rfl) ?_
  refine lv_iload_n zC.1 zC.2.1 dL_law_603 rfl (lv_at hl 0 rfl) ?_
  refine zr_iconst zC dL_law_604 ?_
  refine zr_iadd zC dL_law_605 ?_
  refine zl_sld zC hG hX hbl hbA hL (by omega) dL_law_606 ?_
  refine zr_callV zC hG (c_X4_town (σ := σ) (c := xv xs (i + 1)) (w := xv xs (i + 2)) hI (xv_r _ _) (xv_r _ _)) mt_X4_town wl_L_57 pL rfl rfl ⟨Nat.le_of_ble_eq_true rfl, Nat.le_of_ble_eq_true rfl⟩ rfl hl.1 rfl (Nat.le_of_ble_eq_true rfl) dL_law_607 ⟨Nat.le_of_ble_eq_true rfl, Nat.le_of_ble_eq_true rfl⟩ (fun H locs hG => ?_)
  have hJ : JC σ (mC_town σ (xv xs (i + 1)) (xv xs (i + 2))) := jc_town hI
  refine lv_aload_n zC.1 zC.2.1 dL_law_610 rfl (lv_at hl 1 rfl) ?_
  refine lv_aload_n zC.1 zC.2.1 dL_law_611 rfl (lv_at hl 3 rfl) ?_
  refine lv_iload_n zC.1 zC.2.1 dL_law_612 rfl (lv_at hl 0 rfl) ?_
  refine zr_iconst zC dL_law_613 ?_
  refine zr_iadd zC dL_law_614 ?_
  refine zl_sld zC hG hX hbl hbA hL (by omega) dL_law_615 ?_
  refine lv_aload_n zC.1 zC.2.1 dL_law_616 rfl (lv_at hl 3 rfl) ?_
  refine lv_iload_n zC.1 zC.2.1 dL_law_617 rfl (lv_at hl 0 rfl) ?_
  refine zr_iconst zC dL_law_618 ?_
  refine zr_iadd zC dL_law_619 ?_
  refine zl_sld zC hG hX hbl hbA hL (by omega) dL_law_620 ?_
  refine zm_callV zC hG (c_X5_town (τ := σ) (σ := mC_town σ (xv xs (i + 1)) (xv xs (i + 2))) (c := xv xs (i + 1)) (w := xv xs (i + 2)) (rl_f hR hJ.2) hI (xv_r _ _) (xv_r _ _)) mt_X5_town wl_L_60 pM rfl rfl ⟨Nat.le_of_ble_eq_true rfl, Nat.le_of_ble_eq_true rfl⟩ rfl hl.1 rfl (Nat.le_of_ble_eq_true rfl) dL_law_621 ⟨Nat.le_of_ble_eq_true rfl, Nat.le_of_ble_eq_true rfl⟩ (fun σ2 H locs hR2 hC2 hG => ?_)
  refine lv_icmp_eq (tgt := 2015) zC.1 zC.2.1 dL_law_624 (by decide) (fun _ => ?_) (fun cX => absurd rfl cX)
  obtain ⟨hI2, hR3⟩ := nx hJ.1 hR2 hC2
  exact kk σ2 H locs hG hI2 hR3
set_option maxHeartbeats 4000000 in
set_option maxRecDepth 100000 in
theorem lw_c11 {p : Program} {l : Launch} {e : Env} {s : State} {m : MethodId} {args : Array Value} {below : List Frame} {meth : Method} {c : Code} {Q : State → Prop} {Γ : Gm} {A : Nat → Prop} {σ : Mm} {H : Heap} {locs : List Loc} {ls : Array Slot} {b L : Nat} {xs : Nat → Int32} {i : Int} (zC : CallFix p m c cL_law 4 s args tb RL) (hG : GM Γ A σ s H locs) (hI : IC σ) (hR : Rel2 σ σ) (hX : va_X b L xs s s.heap) (hbl : b < s.heap.size) (hbA : ¬ A b) (hL : L ≤ 384) (hi : 0 ≤ i ∧ i + 6 ≤ L) (hl : lv_has ls 4 [(3, .int (zI i)), (2, .ref (aM Γ)), (1, .ref (aL Γ)), (0, .ref b)])
    (kk : ∀ (σ2 : Mm) (H : Heap) (locs : List Loc), GM Γ A σ2 s H locs → IC σ2 → Rel2 σ2 σ2 → W p l e room_1 s m args below meth c H locs 57 1284 Q (F0 m 2015 ls [])) : W p l e room_1 s m args below meth c H locs 57 1284 Q (F0 m 629 ls []) := by
  refine lv_aload_n zC.1 zC.2.1 dL_law_629 rfl (lv_at hl 2 rfl) ?_
  refine lv_aload_n zC.1 zC.2.1 dL_law_630 rfl (lv_at hl 3 rfl) ?_
  refine lv_iload_n zC.1 zC.2.1 dL_law_631 rfl (lv_at hl 0 rfl) ?_
  refine zr_iconst zC dL_law_632 ?_
  refine zr_iadd zC dL_law_633 ?_
  refine zl_sld zC hG hX hbl hbA hL (by omega) dL_law_634 ?_
  refine lv_aload_n zC.1 zC.2.1 dL_law_635 rfl (lv_at hl 3 rfl) ?_
  refine lv_iload_n zC.1 zC.2.1 dL_law_636 rfl (lv_at hl 0 rfl) ?_
  refine zr_iconst zC dL_law_637 ?_
  refine zr_iadd zC dL_law_638 ?_
  refine zl_sld zC hG hX hbl hbA hL (by omega) dL_law_639 ?_
  refine zr_callV zC hG (c_X4_mark (σ := σ) (c := xv xs (i + 1)) (w := xv xs (i + 2)) hI (xv_r _ _) (xv_r _ _)) mt_X4_mark wl_L_61 pL rfl rfl ⟨Nat.le_of_ble_eq_true rfl, Nat.le_of_ble_eq_true rfl⟩ rfl hl.1 rfl (Nat.le_of_ble_eq_true rfl) dL_law_640 ⟨Nat.le_of_ble_eq_true rfl, Nat.le_of_ble_eq_true rfl⟩ (fun H locs hG => ?_)
  have hJ : JC σ (mC_mark σ (xv xs (i + 1)) (xv xs (i + 2))) := jc_mark hI
  refine lv_aload_n zC.1 zC.2.1 dL_law_643 rfl (lv_at hl 1 rfl) ?_
  refine lv_aload_n zC.1 zC.2.1 dL_law_644 rfl (lv_at hl 3 rfl) ?_
  refine lv_iload_n zC.1 zC.2.1 dL_law_645 rfl (lv_at hl 0 rfl) ?_
  refine zr_iconst zC dL_law_646 ?_
  refine zr_iadd zC dL_law_647 ?_
  refine zl_sld zC hG hX hbl hbA hL (by omega) dL_law_648 ?_
  refine lv_aload_n zC.1 zC.2.1 dL_law_649 rfl (lv_at hl 3 rfl) ?_
  refine lv_iload_n zC.1 zC.2.1 dL_law_650 rfl (lv_at hl 0 rfl) ?_
  refine zr_iconst zC dL_law_651 ?_
  refine zr_iadd zC dL_law_652 ?_
  refine zl_sld zC hG hX hbl hbA hL (by omega) dL_law_653 ?_
  refine zm_callV zC hG (c_X5_mark (τ := σ) (σ := mC_mark σ (xv xs (i + 1)) (xv xs (i + 2))) (c := xv xs (i + 1)) (w := xv xs (i + 2)) (rl_f hR hJ.2) hI (xv_r _ _) (xv_r _ _)) mt_X5_mark wl_L_64 pM rfl rfl ⟨Nat.le_of_ble_eq_true rfl, Nat.le_of_ble_eq_true rfl⟩ rfl hl.1 rfl (Nat.le_of_ble_eq_true rfl) dL_law_654 ⟨Nat.le_of_ble_eq_true rfl, Nat.le_of_ble_eq_true rfl⟩ (fun σ2 H locs hR2 hC2 hG => ?_)
  refine lv_icmp_eq (tgt := 2015) zC.1 zC.2.1 dL_law_657 (by decide) (fun _ => ?_) (fun cX => absurd rfl cX)
  obtain ⟨hI2, hR3⟩ := nx hJ.1 hR2 hC2
  exact kk σ2 H locs hG hI2 hR3
set_option maxHeartbeats 4000000 in
set_option maxRecDepth 100000 in
theorem lw_c12 {p : Program} {l : Launch} {e : Env} {s : State} {m : MethodId} {args : Array Value} {below : List Frame} {meth : Method} {c : Code} {Q : State → Prop} {Γ : Gm} {A : Nat → Prop} {σ : Mm} {H : Heap} {locs : List Loc} {ls : Array Slot} {b L : Nat} {xs : Nat → Int32} {i : Int} (zC : CallFix p m c cL_law 4 s args tb RL) (hG : GM Γ A σ s H locs) (hI : IC σ) (hR : Rel2 σ σ) (hX : va_X b L xs s s.heap) (hbl : b < s.heap.size) (hbA : ¬ A b) (hL : L ≤ 384) (hi : 0 ≤ i ∧ i + 6 ≤ L) (hl : lv_has ls 4 [(3, .int (zI i)), (2, .ref (aM Γ)), (1, .ref (aL Γ)), (0, .ref b)])
    (kk : ∀ (σ2 : Mm) (H : Heap) (locs : List Loc), GM Γ A σ2 s H locs → IC σ2 → Rel2 σ2 σ2 → W p l e room_1 s m args below meth c H locs 57 1284 Q (F0 m 2015 ls [])) : W p l e room_1 s m args below meth c H locs 57 1284 Q (F0 m 662 ls []) := by
  refine lv_aload_n zC.1 zC.2.1 dL_law_662 rfl (lv_at hl 2 rfl) ?_
  refine lv_aload_n zC.1 zC.2.1 dL_law_663 rfl (lv_at hl 3 rfl) ?_
  refine lv_iload_n zC.1 zC.2.1 dL_law_664 rfl (lv_at hl 0 rfl) ?_
  refine zr_iconst zC dL_law_665 ?_
  refine zr_iadd zC dL_law_666 ?_
  refine zl_sld zC hG hX hbl hbA hL (by omega) dL_law_667 ?_
  refine lv_aload_n zC.1 zC.2.1 dL_law_668 rfl (lv_at hl 3 rfl) ?_
  refine lv_iload_n zC.1 zC.2.1 dL_law_669 rfl (lv_at hl 0 rfl) ?_
  refine zr_iconst zC dL_law_670 ?_
  refine zr_iadd zC dL_law_671 ?_
  refine zl_sld zC hG hX hbl hbA hL (by omega) dL_law_672 ?_
  refine zr_callV zC hG (c_X4_order (σ := σ) (c := xv xs (i + 1)) (d := xv xs (i + 2)) hI (xv_r _ _) (xv_r _ _)) mt_X4_order wl_L_65 pL rfl rfl ⟨Nat.le_of_ble_eq_true rfl, Nat.le_of_ble_eq_true rfl⟩ rfl hl.1 rfl (Nat.le_of_ble_eq_true rfl) dL_law_673 ⟨Nat.le_of_ble_eq_true rfl, Nat.le_of_ble_eq_true rfl⟩ (fun H locs hG => ?_)
  have hJ : JC σ (mC_order σ (xv xs (i + 1)) (xv xs (i + 2))) := jc_order hI
  refine lv_aload_n zC.1 zC.2.1 dL_law_676 rfl (lv_at hl 1 rfl) ?_
  refine lv_aload_n zC.1 zC.2.1 dL_law_677 rfl (lv_at hl 3 rfl) ?_
  refine lv_iload_n zC.1 zC.2.1 dL_law_678 rfl (lv_at hl 0 rfl) ?_
  refine zr_iconst zC dL_law_679 ?_
  refine zr_iadd zC dL_law_680 ?_
  refine zl_sld zC hG hX hbl hbA hL (by omega) dL_law_681 ?_
  refine lv_aload_n zC.1 zC.2.1 dL_law_682 rfl (lv_at hl 3 rfl) ?_
  refine lv_iload_n zC.1 zC.2.1 dL_law_683 rfl (lv_at hl 0 rfl) ?_
  refine zr_iconst zC dL_law_684 ?_
  refine zr_iadd zC dL_law_685 ?_
  refine zl_sld zC hG hX hbl hbA hL (by omega) dL_law_686 ?_
  refine zm_callV zC hG (c_X5_order (τ := σ) (σ := mC_order σ (xv xs (i + 1)) (xv xs (i + 2))) (c := xv xs (i + 1)) (d := xv xs (i + 2)) (rl_f hR hJ.2) hI (xv_r _ _) (xv_r _ _)) mt_X5_order wl_L_68 pM rfl rfl ⟨Nat.le_of_ble_eq_true rfl, Nat.le_of_ble_eq_true rfl⟩ rfl hl.1 rfl (Nat.le_of_ble_eq_true rfl) dL_law_687 ⟨Nat.le_of_ble_eq_true rfl, Nat.le_of_ble_eq_true rfl⟩ (fun σ2 H locs hR2 hC2 hG => ?_)
  refine lv_icmp_eq (tgt := 2015) zC.1 zC.2.1 dL_law_690 (by decide) (fun _ => ?_) (fun cX => absurd rfl cX)
  obtain ⟨hI2, hR3⟩ := nx hJ.1 hR2 hC2
  exact kk σ2 H locs hG hI2 hR3
set_option maxHeartbeats 4000000 in
set_option maxRecDepth 100000 in
theorem lw_c13 {p : Program} {l : Launch} {e : Env} {s : State} {m : MethodId} {args : Array Value} {below : List Frame} {meth : Method} {c : Code} {Q : State → Prop} {Γ : Gm} {A : Nat → Prop} {σ : Mm} {H : Heap} {locs : List Loc} {ls : Array Slot} {b L : Nat} {xs : Nat → Int32} {i : Int} (zC : CallFix p m c cL_law 4 s args tb RL) (hG : GM Γ A σ s H locs) (hI : IC σ) (hR : Rel2 σ σ) (hX : va_X b L xs s s.heap) (hbl : b < s.heap.size) (hbA : ¬ A b) (hL : L ≤ 384) (hi : 0 ≤ i ∧ i + 6 ≤ L) (hl : lv_has ls 4 [(3, .int (zI i)), (2, .ref (aM Γ)), (1, .ref (aL Γ)), (0, .ref b)])
    (kk : ∀ (σ2 : Mm) (H : Heap) (locs : List Loc), GM Γ A σ2 s H locs → IC σ2 → Rel2 σ2 σ2 → W p l e room_1 s m args below meth c H locs 57 1284 Q (F0 m 2015 ls [])) : W p l e room_1 s m args below meth c H locs 57 1284 Q (F0 m 695 ls []) := by
  refine lv_aload_n zC.1 zC.2.1 dL_law_695 rfl (lv_at hl 2 rfl) ?_
  refine lv_aload_n zC.1 zC.2.1 dL_law_696 rfl (lv_at hl 3 rfl) ?_
  refine lv_iload_n zC.1 zC.2.1 dL_law_697 rfl (lv_at hl 0 rfl) ?_
  refine zr_iconst zC dL_law_698 ?_
  refine zr_iadd zC dL_law_699 ?_
  refine zl_sld zC hG hX hbl hbA hL (by omega) dL_law_700 ?_
  refine lv_aload_n zC.1 zC.2.1 dL_law_701 rfl (lv_at hl 3 rfl) ?_
  refine lv_iload_n zC.1 zC.2.1 dL_law_702 rfl (lv_at hl 0 rfl) ?_
  refine zr_iconst zC dL_law_703 ?_
  refine zr_iadd zC dL_law_704 ?_
  refine zl_sld zC hG hX hbl hbA hL (by omega) dL_law_705 ?_
  refine zr_callV zC hG (c_X4_gap (σ := σ) (c := xv xs (i + 1)) (v := xv xs (i + 2)) hI (xv_r _ _) (xv_r _ _)) mt_X4_gap wl_L_69 pL rfl rfl ⟨Nat.le_of_ble_eq_true rfl, Nat.le_of_ble_eq_true rfl⟩ rfl hl.1 rfl (Nat.le_of_ble_eq_true rfl) dL_law_706 ⟨Nat.le_of_ble_eq_true rfl, Nat.le_of_ble_eq_true rfl⟩ (fun H locs hG => ?_)
  have hJ : JC σ (mC_gap σ (xv xs (i + 1)) (xv xs (i + 2))) := jc_gap hI
  refine lv_aload_n zC.1 zC.2.1 dL_law_709 rfl (lv_at hl 1 rfl) ?_
  refine lv_aload_n zC.1 zC.2.1 dL_law_710 rfl (lv_at hl 3 rfl) ?_
  refine lv_iload_n zC.1 zC.2.1 dL_law_711 rfl (lv_at hl 0 rfl) ?_
  refine zr_iconst zC dL_law_712 ?_
  refine zr_iadd zC dL_law_713 ?_
  refine zl_sld zC hG hX hbl hbA hL (by omega) dL_law_714 ?_
  refine lv_aload_n zC.1 zC.2.1 dL_law_715 rfl (lv_at hl 3 rfl) ?_
  refine lv_iload_n zC.1 zC.2.1 dL_law_716 rfl (lv_at hl 0 rfl) ?_
  refine zr_iconst zC dL_law_717 ?_
  refine zr_iadd zC dL_law_718 ?_
  refine zl_sld zC hG hX hbl hbA hL (by omega) dL_law_719 ?_
  refine zm_callV zC hG (c_X5_gap (τ := σ) (σ := mC_gap σ (xv xs (i + 1)) (xv xs (i + 2))) (c := xv xs (i + 1)) (v := xv xs (i + 2)) (rl_f hR hJ.2) hI (xv_r _ _) (xv_r _ _)) mt_X5_gap wl_L_72 pM rfl rfl ⟨Nat.le_of_ble_eq_true rfl, Nat.le_of_ble_eq_true rfl⟩ rfl hl.1 rfl (Nat.le_of_ble_eq_true rfl) dL_law_720 ⟨Nat.le_of_ble_eq_true rfl, Nat.le_of_ble_eq_true rfl⟩ (fun σ2 H locs hR2 hC2 hG => ?_)
  refine lv_icmp_eq (tgt := 2015) zC.1 zC.2.1 dL_law_723 (by decide) (fun _ => ?_) (fun cX => absurd rfl cX)
  obtain ⟨hI2, hR3⟩ := nx hJ.1 hR2 hC2
  exact kk σ2 H locs hG hI2 hR3
set_option maxHeartbeats 4000000 in
set_option maxRecDepth 100000 in
theorem lw_c14 {p : Program} {l : Launch} {e : Env} {s : State} {m : MethodId} {args : Array Value} {below : List Frame} {meth : Method} {c : Code} {Q : State → Prop} {Γ : Gm} {A : Nat → Prop} {σ : Mm} {H : Heap} {locs : List Loc} {ls : Array Slot} {b L : Nat} {xs : Nat → Int32} {i : Int} (zC : CallFix p m c cL_law 4 s args tb RL) (hG : GM Γ A σ s H locs) (hI : IC σ) (hR : Rel2 σ σ) (hX : va_X b L xs s s.heap) (hbl : b < s.heap.size) (hbA : ¬ A b) (hL : L ≤ 384) (hi : 0 ≤ i ∧ i + 6 ≤ L) (hl : lv_has ls 4 [(3, .int (zI i)), (2, .ref (aM Γ)), (1, .ref (aL Γ)), (0, .ref b)])
    (kk : ∀ (σ2 : Mm) (H : Heap) (locs : List Loc), GM Γ A σ2 s H locs → IC σ2 → Rel2 σ2 σ2 → W p l e room_1 s m args below meth c H locs 57 1284 Q (F0 m 2015 ls [])) : W p l e room_1 s m args below meth c H locs 57 1284 Q (F0 m 728 ls []) := by
  refine lv_aload_n zC.1 zC.2.1 dL_law_728 rfl (lv_at hl 2 rfl) ?_
  refine lv_aload_n zC.1 zC.2.1 dL_law_729 rfl (lv_at hl 3 rfl) ?_
  refine lv_iload_n zC.1 zC.2.1 dL_law_730 rfl (lv_at hl 0 rfl) ?_
  refine zr_iconst zC dL_law_731 ?_
  refine zr_iadd zC dL_law_732 ?_
  refine zl_sld zC hG hX hbl hbA hL (by omega) dL_law_733 ?_
  refine lv_aload_n zC.1 zC.2.1 dL_law_734 rfl (lv_at hl 3 rfl) ?_
  refine lv_iload_n zC.1 zC.2.1 dL_law_735 rfl (lv_at hl 0 rfl) ?_
  refine zr_iconst zC dL_law_736 ?_
  refine zr_iadd zC dL_law_737 ?_
  refine zl_sld zC hG hX hbl hbA hL (by omega) dL_law_738 ?_
  refine zr_callV zC hG (c_X4_leap (σ := σ) (c := xv xs (i + 1)) (v := xv xs (i + 2)) hI (xv_r _ _) (xv_r _ _)) mt_X4_leap wl_L_73 pL rfl rfl ⟨Nat.le_of_ble_eq_true rfl, Nat.le_of_ble_eq_true rfl⟩ rfl hl.1 rfl (Nat.le_of_ble_eq_true rfl) dL_law_739 ⟨Nat.le_of_ble_eq_true rfl, Nat.le_of_ble_eq_true rfl⟩ (fun H locs hG => ?_)
  have hJ : JC σ (mC_leap σ (xv xs (i + 1)) (xv xs (i + 2))) := jc_leap hI
  refine lv_aload_n zC.1 zC.2.1 dL_law_742 rfl (lv_at hl 1 rfl) ?_
  refine lv_aload_n zC.1 zC.2.1 dL_law_743 rfl (lv_at hl 3 rfl) ?_
  refine lv_iload_n zC.1 zC.2.1 dL_law_744 rfl (lv_at hl 0 rfl) ?_
  refine zr_iconst zC dL_law_745 ?_
  refine zr_iadd zC dL_law_746 ?_
  refine zl_sld zC hG hX hbl hbA hL (by omega) dL_law_747 ?_
  refine lv_aload_n zC.1 zC.2.1 dL_law_748 rfl (lv_at hl 3 rfl) ?_
  refine lv_iload_n zC.1 zC.2.1 dL_law_749 rfl (lv_at hl 0 rfl) ?_
  refine zr_iconst zC dL_law_750 ?_
  refine zr_iadd zC dL_law_751 ?_
  refine zl_sld zC hG hX hbl hbA hL (by omega) dL_law_752 ?_
  refine zm_callV zC hG (c_X5_leap (τ := σ) (σ := mC_leap σ (xv xs (i + 1)) (xv xs (i + 2))) (c := xv xs (i + 1)) (v := xv xs (i + 2)) (rl_f hR hJ.2) hI (xv_r _ _) (xv_r _ _)) mt_X5_leap wl_L_76 pM rfl rfl ⟨Nat.le_of_ble_eq_true rfl, Nat.le_of_ble_eq_true rfl⟩ rfl hl.1 rfl (Nat.le_of_ble_eq_true rfl) dL_law_753 ⟨Nat.le_of_ble_eq_true rfl, Nat.le_of_ble_eq_true rfl⟩ (fun σ2 H locs hR2 hC2 hG => ?_)
  refine lv_icmp_eq (tgt := 2015) zC.1 zC.2.1 dL_law_756 (by decide) (fun _ => ?_) (fun cX => absurd rfl cX)
  obtain ⟨hI2, hR3⟩ := nx hJ.1 hR2 hC2
  exact kk σ2 H locs hG hI2 hR3
set_option maxHeartbeats 4000000 in
set_option maxRecDepth 100000 in
theorem lw_c15 {p : Program} {l : Launch} {e : Env} {s : State} {m : MethodId} {args : Array Value} {below : List Frame} {meth : Method} {c : Code} {Q : State → Prop} {Γ : Gm} {A : Nat → Prop} {σ : Mm} {H : Heap} {locs : List Loc} {ls : Array Slot} {b L : Nat} {xs : Nat → Int32} {i : Int} (zC : CallFix p m c cL_law 4 s args tb RL) (hG : GM Γ A σ s H locs) (hI : IC σ) (hR : Rel2 σ σ) (hX : va_X b L xs s s.heap) (hbl : b < s.heap.size) (hbA : ¬ A b) (hL : L ≤ 384) (hi : 0 ≤ i ∧ i + 6 ≤ L) (hl : lv_has ls 4 [(3, .int (zI i)), (2, .ref (aM Γ)), (1, .ref (aL Γ)), (0, .ref b)])
    (kk : ∀ (σ2 : Mm) (H : Heap) (locs : List Loc), GM Γ A σ2 s H locs → IC σ2 → Rel2 σ2 σ2 → W p l e room_1 s m args below meth c H locs 57 1284 Q (F0 m 2015 ls [])) : W p l e room_1 s m args below meth c H locs 57 1284 Q (F0 m 761 ls []) := by
  refine lv_aload_n zC.1 zC.2.1 dL_law_761 rfl (lv_at hl 2 rfl) ?_
  refine lv_aload_n zC.1 zC.2.1 dL_law_762 rfl (lv_at hl 3 rfl) ?_
  refine lv_iload_n zC.1 zC.2.1 dL_law_763 rfl (lv_at hl 0 rfl) ?_
  refine zr_iconst zC dL_law_764 ?_
  refine zr_iadd zC dL_law_765 ?_
  refine zl_sld zC hG hX hbl hbA hL (by omega) dL_law_766 ?_
  refine zr_callV zC hG (c_X4_go (σ := σ) (n := xv xs (i + 1)) hI (xv_r _ _)) mt_X4_go wl_L_77 pL rfl rfl ⟨Nat.le_of_ble_eq_true rfl, Nat.le_of_ble_eq_true rfl⟩ rfl hl.1 rfl (Nat.le_of_ble_eq_true rfl) dL_law_767 ⟨Nat.le_of_ble_eq_true rfl, Nat.le_of_ble_eq_true rfl⟩ (fun H locs hG => ?_)
  have hJ : JC σ (mC_go σ (xv xs (i + 1))) := jc_go hI
  refine lv_aload_n zC.1 zC.2.1 dL_law_770 rfl (lv_at hl 1 rfl) ?_
  refine lv_aload_n zC.1 zC.2.1 dL_law_771 rfl (lv_at hl 3 rfl) ?_
  refine lv_iload_n zC.1 zC.2.1 dL_law_772 rfl (lv_at hl 0 rfl) ?_
  refine zr_iconst zC dL_law_773 ?_
  refine zr_iadd zC dL_law_774 ?_
  refine zl_sld zC hG hX hbl hbA hL (by omega) dL_law_775 ?_
  refine zm_callV zC hG (c_X5_go (τ := σ) (σ := mC_go σ (xv xs (i + 1))) (n := xv xs (i + 1)) (rl_f hR hJ.2) hI (xv_r _ _)) mt_X5_go wl_L_80 pM rfl rfl ⟨Nat.le_of_ble_eq_true rfl, Nat.le_of_ble_eq_true rfl⟩ rfl hl.1 rfl (Nat.le_of_ble_eq_true rfl) dL_law_776 ⟨Nat.le_of_ble_eq_true rfl, Nat.le_of_ble_eq_true rfl⟩ (fun σ2 H locs hR2 hC2 hG => ?_)
  refine lv_icmp_eq (tgt := 2015) zC.1 zC.2.1 dL_law_779 (by decide) (fun _ => ?_) (fun cX => absurd rfl cX)
  obtain ⟨hI2, hR3⟩ := nx hJ.1 hR2 hC2
  exact kk σ2 H locs hG hI2 hR3
set_option maxHeartbeats 4000000 in
set_option maxRecDepth 100000 in
theorem lw_c16 {p : Program} {l : Launch} {e : Env} {s : State} {m : MethodId} {args : Array Value} {below : List Frame} {meth : Method} {c : Code} {Q : State → Prop} {Γ : Gm} {A : Nat → Prop} {σ : Mm} {H : Heap} {locs : List Loc} {ls : Array Slot} {b L : Nat} {xs : Nat → Int32} {i : Int} (zC : CallFix p m c cL_law 4 s args tb RL) (hG : GM Γ A σ s H locs) (hI : IC σ) (hR : Rel2 σ σ) (hX : va_X b L xs s s.heap) (hbl : b < s.heap.size) (hbA : ¬ A b) (hL : L ≤ 384) (hi : 0 ≤ i ∧ i + 6 ≤ L) (hl : lv_has ls 4 [(3, .int (zI i)), (2, .ref (aM Γ)), (1, .ref (aL Γ)), (0, .ref b)])
    (kk : ∀ (σ2 : Mm) (H : Heap) (locs : List Loc), GM Γ A σ2 s H locs → IC σ2 → Rel2 σ2 σ2 → W p l e room_1 s m args below meth c H locs 57 1284 Q (F0 m 2015 ls [])) : W p l e room_1 s m args below meth c H locs 57 1284 Q (F0 m 784 ls []) := by
  refine lv_aload_n zC.1 zC.2.1 dL_law_784 rfl (lv_at hl 2 rfl) ?_
  refine lv_aload_n zC.1 zC.2.1 dL_law_785 rfl (lv_at hl 3 rfl) ?_
  refine lv_iload_n zC.1 zC.2.1 dL_law_786 rfl (lv_at hl 0 rfl) ?_
  refine zr_iconst zC dL_law_787 ?_
  refine zr_iadd zC dL_law_788 ?_
  refine zl_sld zC hG hX hbl hbA hL (by omega) dL_law_789 ?_
  refine zr_callV zC hG (c_X4_back (σ := σ) (n := xv xs (i + 1)) hI (xv_r _ _)) mt_X4_back wl_L_81 pL rfl rfl ⟨Nat.le_of_ble_eq_true rfl, Nat.le_of_ble_eq_true rfl⟩ rfl hl.1 rfl (Nat.le_of_ble_eq_true rfl) dL_law_790 ⟨Nat.le_of_ble_eq_true rfl, Nat.le_of_ble_eq_true rfl⟩ (fun H locs hG => ?_)
  have hJ : JC σ (mC_back σ (xv xs (i + 1))) := jc_back hI
  refine lv_aload_n zC.1 zC.2.1 dL_law_793 rfl (lv_at hl 1 rfl) ?_
  refine lv_aload_n zC.1 zC.2.1 dL_law_794 rfl (lv_at hl 3 rfl) ?_
  refine lv_iload_n zC.1 zC.2.1 dL_law_795 rfl (lv_at hl 0 rfl) ?_
  refine zr_iconst zC dL_law_796 ?_
  refine zr_iadd zC dL_law_797 ?_
  refine zl_sld zC hG hX hbl hbA hL (by omega) dL_law_798 ?_
  refine zm_callV zC hG (c_X5_back (τ := σ) (σ := mC_back σ (xv xs (i + 1))) (n := xv xs (i + 1)) (rl_f hR hJ.2) hI (xv_r _ _)) mt_X5_back wl_L_84 pM rfl rfl ⟨Nat.le_of_ble_eq_true rfl, Nat.le_of_ble_eq_true rfl⟩ rfl hl.1 rfl (Nat.le_of_ble_eq_true rfl) dL_law_799 ⟨Nat.le_of_ble_eq_true rfl, Nat.le_of_ble_eq_true rfl⟩ (fun σ2 H locs hR2 hC2 hG => ?_)
  refine lv_icmp_eq (tgt := 2015) zC.1 zC.2.1 dL_law_802 (by decide) (fun _ => ?_) (fun cX => absurd rfl cX)
  obtain ⟨hI2, hR3⟩ := nx hJ.1 hR2 hC2
  exact kk σ2 H locs hG hI2 hR3
set_option maxHeartbeats 4000000 in
set_option maxRecDepth 100000 in
theorem lw_c17 {p : Program} {l : Launch} {e : Env} {s : State} {m : MethodId} {args : Array Value} {below : List Frame} {meth : Method} {c : Code} {Q : State → Prop} {Γ : Gm} {A : Nat → Prop} {σ : Mm} {H : Heap} {locs : List Loc} {ls : Array Slot} {b L : Nat} {xs : Nat → Int32} {i : Int} (zC : CallFix p m c cL_law 4 s args tb RL) (hG : GM Γ A σ s H locs) (hI : IC σ) (hR : Rel2 σ σ) (hX : va_X b L xs s s.heap) (hbl : b < s.heap.size) (hbA : ¬ A b) (hL : L ≤ 384) (hi : 0 ≤ i ∧ i + 6 ≤ L) (hl : lv_has ls 4 [(3, .int (zI i)), (2, .ref (aM Γ)), (1, .ref (aL Γ)), (0, .ref b)])
    (kk : ∀ (σ2 : Mm) (H : Heap) (locs : List Loc), GM Γ A σ2 s H locs → IC σ2 → Rel2 σ2 σ2 → W p l e room_1 s m args below meth c H locs 57 1284 Q (F0 m 2015 ls [])) : W p l e room_1 s m args below meth c H locs 57 1284 Q (F0 m 807 ls []) := by
  refine lv_aload_n zC.1 zC.2.1 dL_law_807 rfl (lv_at hl 2 rfl) ?_
  refine lv_aload_n zC.1 zC.2.1 dL_law_808 rfl (lv_at hl 3 rfl) ?_
  refine lv_iload_n zC.1 zC.2.1 dL_law_809 rfl (lv_at hl 0 rfl) ?_
  refine zr_iconst zC dL_law_810 ?_
  refine zr_iadd zC dL_law_811 ?_
  refine zl_sld zC hG hX hbl hbA hL (by omega) dL_law_812 ?_
  refine zr_callV zC hG (c_X4_keep (σ := σ) (k := xv xs (i + 1)) hI (xv_r _ _)) mt_X4_keep wl_L_85 pL rfl rfl ⟨Nat.le_of_ble_eq_true rfl, Nat.le_of_ble_eq_true rfl⟩ rfl hl.1 rfl (Nat.le_of_ble_eq_true rfl) dL_law_813 ⟨Nat.le_of_ble_eq_true rfl, Nat.le_of_ble_eq_true rfl⟩ (fun H locs hG => ?_)
  have hJ : JC σ (mC_keep σ (xv xs (i + 1))) := jc_keep hI
  refine lv_aload_n zC.1 zC.2.1 dL_law_816 rfl (lv_at hl 1 rfl) ?_
  refine lv_aload_n zC.1 zC.2.1 dL_law_817 rfl (lv_at hl 3 rfl) ?_
  refine lv_iload_n zC.1 zC.2.1 dL_law_818 rfl (lv_at hl 0 rfl) ?_
  refine zr_iconst zC dL_law_819 ?_
  refine zr_iadd zC dL_law_820 ?_
  refine zl_sld zC hG hX hbl hbA hL (by omega) dL_law_821 ?_
  refine zm_callV zC hG (c_X5_keep (τ := σ) (σ := mC_keep σ (xv xs (i + 1))) (k := xv xs (i + 1)) (rl_f hR hJ.2) hI (xv_r _ _)) mt_X5_keep wl_L_88 pM rfl rfl ⟨Nat.le_of_ble_eq_true rfl, Nat.le_of_ble_eq_true rfl⟩ rfl hl.1 rfl (Nat.le_of_ble_eq_true rfl) dL_law_822 ⟨Nat.le_of_ble_eq_true rfl, Nat.le_of_ble_eq_true rfl⟩ (fun σ2 H locs hR2 hC2 hG => ?_)
  refine lv_icmp_eq (tgt := 2015) zC.1 zC.2.1 dL_law_825 (by decide) (fun _ => ?_) (fun cX => absurd rfl cX)
  obtain ⟨hI2, hR3⟩ := nx hJ.1 hR2 hC2
  exact kk σ2 H locs hG hI2 hR3
set_option maxHeartbeats 4000000 in
set_option maxRecDepth 100000 in
theorem lw_c18 {p : Program} {l : Launch} {e : Env} {s : State} {m : MethodId} {args : Array Value} {below : List Frame} {meth : Method} {c : Code} {Q : State → Prop} {Γ : Gm} {A : Nat → Prop} {σ : Mm} {H : Heap} {locs : List Loc} {ls : Array Slot} {b L : Nat} {xs : Nat → Int32} {i : Int} (zC : CallFix p m c cL_law 4 s args tb RL) (hG : GM Γ A σ s H locs) (hI : IC σ) (hR : Rel2 σ σ) (hX : va_X b L xs s s.heap) (hbl : b < s.heap.size) (hbA : ¬ A b) (hL : L ≤ 384) (hi : 0 ≤ i ∧ i + 6 ≤ L) (hl : lv_has ls 4 [(3, .int (zI i)), (2, .ref (aM Γ)), (1, .ref (aL Γ)), (0, .ref b)])
    (kk : ∀ (σ2 : Mm) (H : Heap) (locs : List Loc), GM Γ A σ2 s H locs → IC σ2 → Rel2 σ2 σ2 → W p l e room_1 s m args below meth c H locs 57 1284 Q (F0 m 2015 ls [])) : W p l e room_1 s m args below meth c H locs 57 1284 Q (F0 m 830 ls []) := by
  refine lv_aload_n zC.1 zC.2.1 dL_law_830 rfl (lv_at hl 2 rfl) ?_
  refine lv_aload_n zC.1 zC.2.1 dL_law_831 rfl (lv_at hl 3 rfl) ?_
  refine lv_iload_n zC.1 zC.2.1 dL_law_832 rfl (lv_at hl 0 rfl) ?_
  refine zr_iconst zC dL_law_833 ?_
  refine zr_iadd zC dL_law_834 ?_
  refine zl_sld zC hG hX hbl hbA hL (by omega) dL_law_835 ?_
  refine zr_callV zC hG (c_X4_on (σ := σ) (k := xv xs (i + 1)) hI (xv_r _ _)) mt_X4_on wl_L_89 pL rfl rfl ⟨Nat.le_of_ble_eq_true rfl, Nat.le_of_ble_eq_true rfl⟩ rfl hl.1 rfl (Nat.le_of_ble_eq_true rfl) dL_law_836 ⟨Nat.le_of_ble_eq_true rfl, Nat.le_of_ble_eq_true rfl⟩ (fun H locs hG => ?_)
  have hJ : JC σ (mC_on σ (xv xs (i + 1))) := jc_on hI
  refine lv_aload_n zC.1 zC.2.1 dL_law_839 rfl (lv_at hl 1 rfl) ?_
  refine lv_aload_n zC.1 zC.2.1 dL_law_840 rfl (lv_at hl 3 rfl) ?_
  refine lv_iload_n zC.1 zC.2.1 dL_law_841 rfl (lv_at hl 0 rfl) ?_
  refine zr_iconst zC dL_law_842 ?_
  refine zr_iadd zC dL_law_843 ?_
  refine zl_sld zC hG hX hbl hbA hL (by omega) dL_law_844 ?_
  refine zm_callV zC hG (c_X5_on (τ := σ) (σ := mC_on σ (xv xs (i + 1))) (k := xv xs (i + 1)) (rl_f hR hJ.2) hI (xv_r _ _)) mt_X5_on wl_L_92 pM rfl rfl ⟨Nat.le_of_ble_eq_true rfl, Nat.le_of_ble_eq_true rfl⟩ rfl hl.1 rfl (Nat.le_of_ble_eq_true rfl) dL_law_845 ⟨Nat.le_of_ble_eq_true rfl, Nat.le_of_ble_eq_true rfl⟩ (fun σ2 H locs hR2 hC2 hG => ?_)
  refine lv_icmp_eq (tgt := 2015) zC.1 zC.2.1 dL_law_848 (by decide) (fun _ => ?_) (fun cX => absurd rfl cX)
  obtain ⟨hI2, hR3⟩ := nx hJ.1 hR2 hC2
  exact kk σ2 H locs hG hI2 hR3
set_option maxHeartbeats 4000000 in
set_option maxRecDepth 100000 in
theorem lw_c19 {p : Program} {l : Launch} {e : Env} {s : State} {m : MethodId} {args : Array Value} {below : List Frame} {meth : Method} {c : Code} {Q : State → Prop} {Γ : Gm} {A : Nat → Prop} {σ : Mm} {H : Heap} {locs : List Loc} {ls : Array Slot} {b L : Nat} {xs : Nat → Int32} {i : Int} (zC : CallFix p m c cL_law 4 s args tb RL) (hG : GM Γ A σ s H locs) (hI : IC σ) (hR : Rel2 σ σ) (hX : va_X b L xs s s.heap) (hbl : b < s.heap.size) (hbA : ¬ A b) (hL : L ≤ 384) (hi : 0 ≤ i ∧ i + 6 ≤ L) (hl : lv_has ls 4 [(3, .int (zI i)), (2, .ref (aM Γ)), (1, .ref (aL Γ)), (0, .ref b)])
    (kk : ∀ (σ2 : Mm) (H : Heap) (locs : List Loc), GM Γ A σ2 s H locs → IC σ2 → Rel2 σ2 σ2 → W p l e room_1 s m args below meth c H locs 57 1284 Q (F0 m 2015 ls [])) : W p l e room_1 s m args below meth c H locs 57 1284 Q (F0 m 853 ls []) := by
  refine lv_aload_n zC.1 zC.2.1 dL_law_853 rfl (lv_at hl 2 rfl) ?_
  refine lv_aload_n zC.1 zC.2.1 dL_law_854 rfl (lv_at hl 3 rfl) ?_
  refine lv_iload_n zC.1 zC.2.1 dL_law_855 rfl (lv_at hl 0 rfl) ?_
  refine zr_iconst zC dL_law_856 ?_
  refine zr_iadd zC dL_law_857 ?_
  refine zl_sld zC hG hX hbl hbA hL (by omega) dL_law_858 ?_
  refine lv_aload_n zC.1 zC.2.1 dL_law_859 rfl (lv_at hl 3 rfl) ?_
  refine lv_iload_n zC.1 zC.2.1 dL_law_860 rfl (lv_at hl 0 rfl) ?_
  refine zr_iconst zC dL_law_861 ?_
  refine zr_iadd zC dL_law_862 ?_
  refine zl_sld zC hG hX hbl hbA hL (by omega) dL_law_863 ?_
  refine zr_callV zC hG (c_X4_date (σ := σ) (c := xv xs (i + 1)) (d := xv xs (i + 2)) hI (xv_r _ _) (xv_r _ _)) mt_X4_date wl_L_93 pL rfl rfl ⟨Nat.le_of_ble_eq_true rfl, Nat.le_of_ble_eq_true rfl⟩ rfl hl.1 rfl (Nat.le_of_ble_eq_true rfl) dL_law_864 ⟨Nat.le_of_ble_eq_true rfl, Nat.le_of_ble_eq_true rfl⟩ (fun H locs hG => ?_)
  have hJ : JC σ σ := j_r hI
  refine lv_aload_n zC.1 zC.2.1 dL_law_867 rfl (lv_at hl 1 rfl) ?_
  refine lv_aload_n zC.1 zC.2.1 dL_law_868 rfl (lv_at hl 3 rfl) ?_
  refine lv_iload_n zC.1 zC.2.1 dL_law_869 rfl (lv_at hl 0 rfl) ?_
  refine zr_iconst zC dL_law_870 ?_
  refine zr_iadd zC dL_law_871 ?_
  refine zl_sld zC hG hX hbl hbA hL (by omega) dL_law_872 ?_
  refine lv_aload_n zC.1 zC.2.1 dL_law_873 rfl (lv_at hl 3 rfl) ?_
  refine lv_iload_n zC.1 zC.2.1 dL_law_874 rfl (lv_at hl 0 rfl) ?_
  refine zr_iconst zC dL_law_875 ?_
  refine zr_iadd zC dL_law_876 ?_
  refine zl_sld zC hG hX hbl hbA hL (by omega) dL_law_877 ?_
  refine zm_callV zC hG (c_X5_date (τ := σ) (σ := σ) (c := xv xs (i + 1)) (d := xv xs (i + 2)) (rl_f hR hJ.2) hI (xv_r _ _) (xv_r _ _)) mt_X5_date wl_L_96 pM rfl rfl ⟨Nat.le_of_ble_eq_true rfl, Nat.le_of_ble_eq_true rfl⟩ rfl hl.1 rfl (Nat.le_of_ble_eq_true rfl) dL_law_878 ⟨Nat.le_of_ble_eq_true rfl, Nat.le_of_ble_eq_true rfl⟩ (fun σ2 H locs hR2 hC2 hG => ?_)
  refine lv_icmp_eq (tgt := 2015) zC.1 zC.2.1 dL_law_881 (by decide) (fun _ => ?_) (fun cX => absurd rfl cX)
  obtain ⟨hI2, hR3⟩ := nx hI hR2 hC2
  exact kk σ2 H locs hG hI2 hR3
set_option maxHeartbeats 4000000 in
set_option maxRecDepth 100000 in
theorem lw_c20 {p : Program} {l : Launch} {e : Env} {s : State} {m : MethodId} {args : Array Value} {below : List Frame} {meth : Method} {c : Code} {Q : State → Prop} {Γ : Gm} {A : Nat → Prop} {σ : Mm} {H : Heap} {locs : List Loc} {ls : Array Slot} {b L : Nat} {xs : Nat → Int32} {i : Int} (zC : CallFix p m c cL_law 4 s args tb RL) (hG : GM Γ A σ s H locs) (hI : IC σ) (hR : Rel2 σ σ) (hX : va_X b L xs s s.heap) (hbl : b < s.heap.size) (hbA : ¬ A b) (hL : L ≤ 384) (hi : 0 ≤ i ∧ i + 6 ≤ L) (hl : lv_has ls 4 [(3, .int (zI i)), (2, .ref (aM Γ)), (1, .ref (aL Γ)), (0, .ref b)])
    (kk : ∀ (σ2 : Mm) (H : Heap) (locs : List Loc), GM Γ A σ2 s H locs → IC σ2 → Rel2 σ2 σ2 → W p l e room_1 s m args below meth c H locs 57 1284 Q (F0 m 2015 ls [])) : W p l e room_1 s m args below meth c H locs 57 1284 Q (F0 m 886 ls []) := by
  refine lv_aload_n zC.1 zC.2.1 dL_law_886 rfl (lv_at hl 2 rfl) ?_
  refine lv_aload_n zC.1 zC.2.1 dL_law_887 rfl (lv_at hl 3 rfl) ?_
  refine lv_iload_n zC.1 zC.2.1 dL_law_888 rfl (lv_at hl 0 rfl) ?_
  refine zr_iconst zC dL_law_889 ?_
  refine zr_iadd zC dL_law_890 ?_
  refine zl_sld zC hG hX hbl hbA hL (by omega) dL_law_891 ?_
  refine lv_aload_n zC.1 zC.2.1 dL_law_892 rfl (lv_at hl 3 rfl) ?_
  refine lv_iload_n zC.1 zC.2.1 dL_law_893 rfl (lv_at hl 0 rfl) ?_
  refine zr_iconst zC dL_law_894 ?_
  refine zr_iadd zC dL_law_895 ?_
  refine zl_sld zC hG hX hbl hbA hL (by omega) dL_law_896 ?_
  refine zr_callV zC hG (c_X4_day (σ := σ) (c := xv xs (i + 1)) (t := xv xs (i + 2)) hI (xv_r _ _) (xv_r _ _)) mt_X4_day wl_L_97 pL rfl rfl ⟨Nat.le_of_ble_eq_true rfl, Nat.le_of_ble_eq_true rfl⟩ rfl hl.1 rfl (Nat.le_of_ble_eq_true rfl) dL_law_897 ⟨Nat.le_of_ble_eq_true rfl, Nat.le_of_ble_eq_true rfl⟩ (fun H locs hG => ?_)
  have hJ : JC σ (mC_day σ (xv xs (i + 1)) (xv xs (i + 2))) := jc_day hI
  refine lv_aload_n zC.1 zC.2.1 dL_law_900 rfl (lv_at hl 1 rfl) ?_
  refine lv_aload_n zC.1 zC.2.1 dL_law_901 rfl (lv_at hl 3 rfl) ?_
  refine lv_iload_n zC.1 zC.2.1 dL_law_902 rfl (lv_at hl 0 rfl) ?_
  refine zr_iconst zC dL_law_903 ?_
  refine zr_iadd zC dL_law_904 ?_
  refine zl_sld zC hG hX hbl hbA hL (by omega) dL_law_905 ?_
  refine lv_aload_n zC.1 zC.2.1 dL_law_906 rfl (lv_at hl 3 rfl) ?_
  refine lv_iload_n zC.1 zC.2.1 dL_law_907 rfl (lv_at hl 0 rfl) ?_
  refine zr_iconst zC dL_law_908 ?_
  refine zr_iadd zC dL_law_909 ?_
  refine zl_sld zC hG hX hbl hbA hL (by omega) dL_law_910 ?_
  refine zm_callV zC hG (c_X5_day (τ := σ) (σ := mC_day σ (xv xs (i + 1)) (xv xs (i + 2))) (c := xv xs (i + 1)) (t := xv xs (i + 2)) (rl_f hR hJ.2) hI (xv_r _ _) (xv_r _ _)) mt_X5_day wl_L_100 pM rfl rfl ⟨Nat.le_of_ble_eq_true rfl, Nat.le_of_ble_eq_true rfl⟩ rfl hl.1 rfl (Nat.le_of_ble_eq_true rfl) dL_law_911 ⟨Nat.le_of_ble_eq_true rfl, Nat.le_of_ble_eq_true rfl⟩ (fun σ2 H locs hR2 hC2 hG => ?_)
  refine lv_icmp_eq (tgt := 2015) zC.1 zC.2.1 dL_law_914 (by decide) (fun _ => ?_) (fun cX => absurd rfl cX)
  obtain ⟨hI2, hR3⟩ := nx hJ.1 hR2 hC2
  exact kk σ2 H locs hG hI2 hR3
set_option maxHeartbeats 4000000 in
set_option maxRecDepth 100000 in
theorem lw_c21 {p : Program} {l : Launch} {e : Env} {s : State} {m : MethodId} {args : Array Value} {below : List Frame} {meth : Method} {c : Code} {Q : State → Prop} {Γ : Gm} {A : Nat → Prop} {σ : Mm} {H : Heap} {locs : List Loc} {ls : Array Slot} {b L : Nat} {xs : Nat → Int32} {i : Int} (zC : CallFix p m c cL_law 4 s args tb RL) (hG : GM Γ A σ s H locs) (hI : IC σ) (hR : Rel2 σ σ) (hX : va_X b L xs s s.heap) (hbl : b < s.heap.size) (hbA : ¬ A b) (hL : L ≤ 384) (hi : 0 ≤ i ∧ i + 6 ≤ L) (hl : lv_has ls 4 [(3, .int (zI i)), (2, .ref (aM Γ)), (1, .ref (aL Γ)), (0, .ref b)])
    (kk : ∀ (σ2 : Mm) (H : Heap) (locs : List Loc), GM Γ A σ2 s H locs → IC σ2 → Rel2 σ2 σ2 → W p l e room_1 s m args below meth c H locs 57 1284 Q (F0 m 2015 ls [])) : W p l e room_1 s m args below meth c H locs 57 1284 Q (F0 m 919 ls []) := by
  refine lv_aload_n zC.1 zC.2.1 dL_law_919 rfl (lv_at hl 2 rfl) ?_
  refine lv_aload_n zC.1 zC.2.1 dL_law_920 rfl (lv_at hl 3 rfl) ?_
  refine lv_iload_n zC.1 zC.2.1 dL_law_921 rfl (lv_at hl 0 rfl) ?_
  refine zr_iconst zC dL_law_922 ?_
  refine zr_iadd zC dL_law_923 ?_
  refine zl_sld zC hG hX hbl hbA hL (by omega) dL_law_924 ?_
  refine lv_aload_n zC.1 zC.2.1 dL_law_925 rfl (lv_at hl 3 rfl) ?_
  refine lv_iload_n zC.1 zC.2.1 dL_law_926 rfl (lv_at hl 0 rfl) ?_
  refine zr_iconst zC dL_law_927 ?_
  refine zr_iadd zC dL_law_928 ?_
  refine zl_sld zC hG hX hbl hbA hL (by omega) dL_law_929 ?_
  refine zr_callV zC hG (c_X4_year (σ := σ) (c := xv xs (i + 1)) (y := xv xs (i + 2)) hI (xv_r _ _) (xv_r _ _)) mt_X4_year wl_L_101 pL rfl rfl ⟨Nat.le_of_ble_eq_true rfl, Nat.le_of_ble_eq_true rfl⟩ rfl hl.1 rfl (Nat.le_of_ble_eq_true rfl) dL_law_930 ⟨Nat.le_of_ble_eq_true rfl, Nat.le_of_ble_eq_true rfl⟩ (fun H locs hG => ?_)
  have hJ : JC σ (mC_year σ (xv xs (i + 1)) (xv xs (i + 2))) := jc_year hI
  refine lv_aload_n zC.1 zC.2.1 dL_law_933 rfl (lv_at hl 1 rfl) ?_
  refine lv_aload_n zC.1 zC.2.1 dL_law_934 rfl (lv_at hl 3 rfl) ?_
  refine lv_iload_n zC.1 zC.2.1 dL_law_935 rfl (lv_at hl 0 rfl) ?_
  refine zr_iconst zC dL_law_936 ?_
  refine zr_iadd zC dL_law_937 ?_
  refine zl_sld zC hG hX hbl hbA hL (by omega) dL_law_938 ?_
  refine lv_aload_n zC.1 zC.2.1 dL_law_939 rfl (lv_at hl 3 rfl) ?_
  refine lv_iload_n zC.1 zC.2.1 dL_law_940 rfl (lv_at hl 0 rfl) ?_
  refine zr_iconst zC dL_law_941 ?_
  refine zr_iadd zC dL_law_942 ?_
  refine zl_sld zC hG hX hbl hbA hL (by omega) dL_law_943 ?_
  refine zm_callV zC hG (c_X5_year (τ := σ) (σ := mC_year σ (xv xs (i + 1)) (xv xs (i + 2))) (c := xv xs (i + 1)) (y := xv xs (i + 2)) (rl_f hR hJ.2) hI (xv_r _ _) (xv_r _ _)) mt_X5_year wl_L_104 pM rfl rfl ⟨Nat.le_of_ble_eq_true rfl, Nat.le_of_ble_eq_true rfl⟩ rfl hl.1 rfl (Nat.le_of_ble_eq_true rfl) dL_law_944 ⟨Nat.le_of_ble_eq_true rfl, Nat.le_of_ble_eq_true rfl⟩ (fun σ2 H locs hR2 hC2 hG => ?_)
  refine lv_icmp_eq (tgt := 2015) zC.1 zC.2.1 dL_law_947 (by decide) (fun _ => ?_) (fun cX => absurd rfl cX)
  obtain ⟨hI2, hR3⟩ := nx hJ.1 hR2 hC2
  exact kk σ2 H locs hG hI2 hR3
set_option maxHeartbeats 4000000 in
set_option maxRecDepth 100000 in
theorem lw_c22 {p : Program} {l : Launch} {e : Env} {s : State} {m : MethodId} {args : Array Value} {below : List Frame} {meth : Method} {c : Code} {Q : State → Prop} {Γ : Gm} {A : Nat → Prop} {σ : Mm} {H : Heap} {locs : List Loc} {ls : Array Slot} {b L : Nat} {xs : Nat → Int32} {i : Int} (zC : CallFix p m c cL_law 4 s args tb RL) (hG : GM Γ A σ s H locs) (hI : IC σ) (hR : Rel2 σ σ) (hX : va_X b L xs s s.heap) (hbl : b < s.heap.size) (hbA : ¬ A b) (hL : L ≤ 384) (hi : 0 ≤ i ∧ i + 6 ≤ L) (hl : lv_has ls 4 [(3, .int (zI i)), (2, .ref (aM Γ)), (1, .ref (aL Γ)), (0, .ref b)])
    (kk : ∀ (σ2 : Mm) (H : Heap) (locs : List Loc), GM Γ A σ2 s H locs → IC σ2 → Rel2 σ2 σ2 → W p l e room_1 s m args below meth c H locs 57 1284 Q (F0 m 2015 ls [])) : W p l e room_1 s m args below meth c H locs 57 1284 Q (F0 m 952 ls []) := by
  refine lv_aload_n zC.1 zC.2.1 dL_law_952 rfl (lv_at hl 2 rfl) ?_
  refine lv_aload_n zC.1 zC.2.1 dL_law_953 rfl (lv_at hl 3 rfl) ?_
  refine lv_iload_n zC.1 zC.2.1 dL_law_954 rfl (lv_at hl 0 rfl) ?_
  refine zr_iconst zC dL_law_955 ?_
  refine zr_iadd zC dL_law_956 ?_
  refine zl_sld zC hG hX hbl hbA hL (by omega) dL_law_957 ?_
  refine lv_aload_n zC.1 zC.2.1 dL_law_958 rfl (lv_at hl 3 rfl) ?_
  refine lv_iload_n zC.1 zC.2.1 dL_law_959 rfl (lv_at hl 0 rfl) ?_
  refine zr_iconst zC dL_law_960 ?_
  refine zr_iadd zC dL_law_961 ?_
  refine zl_sld zC hG hX hbl hbA hL (by omega) dL_law_962 ?_
  refine lv_aload_n zC.1 zC.2.1 dL_law_963 rfl (lv_at hl 3 rfl) ?_
  refine lv_iload_n zC.1 zC.2.1 dL_law_964 rfl (lv_at hl 0 rfl) ?_
  refine zr_iconst zC dL_law_965 ?_
  refine zr_iadd zC dL_law_966 ?_
  refine zl_sld zC hG hX hbl hbA hL (by omega) dL_law_967 ?_
  refine zr_callV zC hG (c_X4_same (σ := σ) (c := xv xs (i + 1)) (t := xv xs (i + 2)) (d := xv xs (i + 3)) hI (xv_r _ _) (xv_r _ _) (xv_r _ _)) mt_X4_same wl_L_105 pL rfl rfl ⟨Nat.le_of_ble_eq_true rfl, Nat.le_of_ble_eq_true rfl⟩ rfl hl.1 rfl (Nat.le_of_ble_eq_true rfl) dL_law_968 ⟨Nat.le_of_ble_eq_true rfl, Nat.le_of_ble_eq_true rfl⟩ (fun H locs hG => ?_)
  have hJ : JC σ (mC_same σ (xv xs (i + 1)) (xv xs (i + 2)) (xv xs (i + 3))) := jc_same hI
  refine lv_aload_n zC.1 zC.2.1 dL_law_971 rfl (lv_at hl 1 rfl) ?_
  refine lv_aload_n zC.1 zC.2.1 dL_law_972 rfl (lv_at hl 3 rfl) ?_
  refine lv_iload_n zC.1 zC.2.1 dL_law_973 rfl (lv_at hl 0 rfl) ?_
  refine zr_iconst zC dL_law_974 ?_
  refine zr_iadd zC dL_law_975 ?_
  refine zl_sld zC hG hX hbl hbA hL (by omega) dL_law_976 ?_
  refine lv_aload_n zC.1 zC.2.1 dL_law_977 rfl (lv_at hl 3 rfl) ?_
  refine lv_iload_n zC.1 zC.2.1 dL_law_978 rfl (lv_at hl 0 rfl) ?_
  refine zr_iconst zC dL_law_979 ?_
  refine zr_iadd zC dL_law_980 ?_
  refine zl_sld zC hG hX hbl hbA hL (by omega) dL_law_981 ?_
  refine lv_aload_n zC.1 zC.2.1 dL_law_982 rfl (lv_at hl 3 rfl) ?_
  refine lv_iload_n zC.1 zC.2.1 dL_law_983 rfl (lv_at hl 0 rfl) ?_
  refine zr_iconst zC dL_law_984 ?_
  refine zr_iadd zC dL_law_985 ?_
  refine zl_sld zC hG hX hbl hbA hL (by omega) dL_law_986 ?_
  refine zm_callV zC hG (c_X5_same (τ := σ) (σ := mC_same σ (xv xs (i + 1)) (xv xs (i + 2)) (xv xs (i + 3))) (c := xv xs (i + 1)) (t := xv xs (i + 2)) (d := xv xs (i + 3)) (rl_f hR hJ.2) hI (xv_r _ _) (xv_r _ _) (xv_r _ _)) mt_X5_same wl_L_108 pM rfl rfl ⟨Nat.le_of_ble_eq_true rfl, Nat.le_of_ble_eq_true rfl⟩ rfl hl.1 rfl (Nat.le_of_ble_eq_true rfl) dL_law_987 ⟨Nat.le_of_ble_eq_true rfl, Nat.le_of_ble_eq_true rfl⟩ (fun σ2 H locs hR2 hC2 hG => ?_)
  refine lv_icmp_eq (tgt := 2015) zC.1 zC.2.1 dL_law_990 (by decide) (fun _ => ?_) (fun cX => absurd rfl cX)
  obtain ⟨hI2, hR3⟩ := nx hJ.1 hR2 hC2
  exact kk σ2 H locs hG hI2 hR3
set_option maxHeartbeats 4000000 in
set_option maxRecDepth 100000 in
theorem lw_c23 {p : Program} {l : Launch} {e : Env} {s : State} {m : MethodId} {args : Array Value} {below : List Frame} {meth : Method} {c : Code} {Q : State → Prop} {Γ : Gm} {A : Nat → Prop} {σ : Mm} {H : Heap} {locs : List Loc} {ls : Array Slot} {b L : Nat} {xs : Nat → Int32} {i : Int} (zC : CallFix p m c cL_law 4 s args tb RL) (hG : GM Γ A σ s H locs) (hI : IC σ) (hR : Rel2 σ σ) (hX : va_X b L xs s s.heap) (hbl : b < s.heap.size) (hbA : ¬ A b) (hL : L ≤ 384) (hi : 0 ≤ i ∧ i + 6 ≤ L) (hl : lv_has ls 4 [(3, .int (zI i)), (2, .ref (aM Γ)), (1, .ref (aL Γ)), (0, .ref b)])
    (kk : ∀ (σ2 : Mm) (H : Heap) (locs : List Loc), GM Γ A σ2 s H locs → IC σ2 → Rel2 σ2 σ2 → W p l e room_1 s m args below meth c H locs 57 1284 Q (F0 m 2015 ls [])) : W p l e room_1 s m args below meth c H locs 57 1284 Q (F0 m 995 ls []) := by
  refine lv_aload_n zC.1 zC.2.1 dL_law_995 rfl (lv_at hl 2 rfl) ?_
  refine lv_aload_n zC.1 zC.2.1 dL_law_996 rfl (lv_at hl 3 rfl) ?_
  refine lv_iload_n zC.1 zC.2.1 dL_law_997 rfl (lv_at hl 0 rfl) ?_
  refine zr_iconst zC dL_law_998 ?_
  refine zr_iadd zC dL_law_999 ?_
  refine zl_sld zC hG hX hbl hbA hL (by omega) dL_law_1000 ?_
  refine lv_aload_n zC.1 zC.2.1 dL_law_1001 rfl (lv_at hl 3 rfl) ?_
  refine lv_iload_n zC.1 zC.2.1 dL_law_1002 rfl (lv_at hl 0 rfl) ?_
  refine zr_iconst zC dL_law_1003 ?_
  refine zr_iadd zC dL_law_1004 ?_
  refine zl_sld zC hG hX hbl hbA hL (by omega) dL_law_1005 ?_
  refine lv_aload_n zC.1 zC.2.1 dL_law_1006 rfl (lv_at hl 3 rfl) ?_
  refine lv_iload_n zC.1 zC.2.1 dL_law_1007 rfl (lv_at hl 0 rfl) ?_
  refine zr_iconst zC dL_law_1008 ?_
  refine zr_iadd zC dL_law_1009 ?_
  refine zl_sld zC hG hX hbl hbA hL (by omega) dL_law_1010 ?_
  refine zr_callV zC hG (c_X4_between (σ := σ) (c := xv xs (i + 1)) (a := xv xs (i + 2)) (b := xv xs (i + 3)) hI (xv_r _ _) (xv_r _ _) (xv_r _ _)) mt_X4_between wl_L_109 pL rfl rfl ⟨Nat.le_of_ble_eq_true rfl, Nat.le_of_ble_eq_true rfl⟩ rfl hl.1 rfl (Nat.le_of_ble_eq_true rfl) dL_law_1011 ⟨Nat.le_of_ble_eq_true rfl, Nat.le_of_ble_eq_true rfl⟩ (fun H locs hG => ?_)
  have hJ : JC σ (mC_between σ (xv xs (i + 1)) (xv xs (i + 2)) (xv xs (i + 3))) := jc_between hI
  refine lv_aload_n zC.1 zC.2.1 dL_law_1014 rfl (lv_at hl 1 rfl) ?_
  refine lv_aload_n zC.1 zC.2.1 dL_law_1015 rfl (lv_at hl 3 rfl) ?_
  refine lv_iload_n zC.1 zC.2.1 dL_law_1016 rfl (lv_at hl 0 rfl) ?_
  refine zr_iconst zC dL_law_1017 ?_
  refine zr_iadd zC dL_law_1018 ?_
  refine zl_sld zC hG hX hbl hbA hL (by omega) dL_law_1019 ?_
  refine lv_aload_n zC.1 zC.2.1 dL_law_1020 rfl (lv_at hl 3 rfl) ?_
  refine lv_iload_n zC.1 zC.2.1 dL_law_1021 rfl (lv_at hl 0 rfl) ?_
  refine zr_iconst zC dL_law_1022 ?_
  refine zr_iadd zC dL_law_1023 ?_
  refine zl_sld zC hG hX hbl hbA hL (by omega) dL_law_1024 ?_
  refine lv_aload_n zC.1 zC.2.1 dL_law_1025 rfl (lv_at hl 3 rfl) ?_
  refine lv_iload_n zC.1 zC.2.1 dL_law_1026 rfl (lv_at hl 0 rfl) ?_
  refine zr_iconst zC dL_law_1027 ?_
  refine zr_iadd zC dL_law_1028 ?_
  refine zl_sld zC hG hX hbl hbA hL (by omega) dL_law_1029 ?_
  refine zm_callV zC hG (c_X5_between (τ := σ) (σ := mC_between σ (xv xs (i + 1)) (xv xs (i + 2)) (xv xs (i + 3))) (c := xv xs (i + 1)) (a := xv xs (i + 2)) (b := xv xs (i + 3)) (rl_f hR hJ.2) hI (xv_r _ _) (xv_r _ _) (xv_r _ _)) mt_X5_between wl_L_112 pM rfl rfl ⟨Nat.le_of_ble_eq_true rfl, Nat.le_of_ble_eq_true rfl⟩ rfl hl.1 rfl (Nat.le_of_ble_eq_true rfl) dL_law_1030 ⟨Nat.le_of_ble_eq_true rfl, Nat.le_of_ble_eq_true rfl⟩ (fun σ2 H locs hR2 hC2 hG => ?_)
  refine lv_icmp_eq (tgt := 2015) zC.1 zC.2.1 dL_law_1033 (by decide) (fun _ => ?_) (fun cX => absurd rfl cX)
  obtain ⟨hI2, hR3⟩ := nx hJ.1 hR2 hC2
  exact kk σ2 H locs hG hI2 hR3
set_option maxHeartbeats 4000000 in
set_option maxRecDepth 100000 in
theorem lw_c24 {p : Program} {l : Launch} {e : Env} {s : State} {m : MethodId} {args : Array Value} {below : List Frame} {meth : Method} {c : Code} {Q : State → Prop} {Γ : Gm} {A : Nat → Prop} {σ : Mm} {H : Heap} {locs : List Loc} {ls : Array Slot} {b L : Nat} {xs : Nat → Int32} {i : Int} (zC : CallFix p m c cL_law 4 s args tb RL) (hG : GM Γ A σ s H locs) (hI : IC σ) (hR : Rel2 σ σ) (hX : va_X b L xs s s.heap) (hbl : b < s.heap.size) (hbA : ¬ A b) (hL : L ≤ 384) (hi : 0 ≤ i ∧ i + 6 ≤ L) (hl : lv_has ls 4 [(3, .int (zI i)), (2, .ref (aM Γ)), (1, .ref (aL Γ)), (0, .ref b)])
    (kk : ∀ (σ2 : Mm) (H : Heap) (locs : List Loc), GM Γ A σ2 s H locs → IC σ2 → Rel2 σ2 σ2 → W p l e room_1 s m args below meth c H locs 57 1284 Q (F0 m 2015 ls [])) : W p l e room_1 s m args below meth c H locs 57 1284 Q (F0 m 1038 ls []) := by
  refine lv_aload_n zC.1 zC.2.1 dL_law_1038 rfl (lv_at hl 2 rfl) ?_
  refine lv_aload_n zC.1 zC.2.1 dL_law_1039 rfl (lv_at hl 3 rfl) ?_
  refine lv_iload_n zC.1 zC.2.1 dL_law_1040 rfl (lv_at hl 0 rfl) ?_
  refine zr_iconst zC dL_law_1041 ?_
  refine zr_iadd zC dL_law_1042 ?_
  refine zl_sld zC hG hX hbl hbA hL (by omega) dL_law_1043 ?_
  refine lv_aload_n zC.1 zC.2.1 dL_law_1044 rfl (lv_at hl 3 rfl) ?_
  refine lv_iload_n zC.1 zC.2.1 dL_law_1045 rfl (lv_at hl 0 rfl) ?_
  refine zr_iconst zC dL_law_1046 ?_
  refine zr_iadd zC dL_law_1047 ?_
  refine zl_sld zC hG hX hbl hbA hL (by omega) dL_law_1048 ?_
  refine zr_callV zC hG (c_X4_where (σ := σ) (d := xv xs (i + 1)) (t := xv xs (i + 2)) hI (xv_r _ _) (xv_r _ _)) mt_X4_where wl_L_113 pL rfl rfl ⟨Nat.le_of_ble_eq_true rfl, Nat.le_of_ble_eq_true rfl⟩ rfl hl.1 rfl (Nat.le_of_ble_eq_true rfl) dL_law_1049 ⟨Nat.le_of_ble_eq_true rfl, Nat.le_of_ble_eq_true rfl⟩ (fun H locs hG => ?_)
  have hJ : JC σ (mC_where σ (xv xs (i + 1)) (xv xs (i + 2))) := jc_where hI
  refine lv_aload_n zC.1 zC.2.1 dL_law_1052 rfl (lv_at hl 1 rfl) ?_
  refine lv_aload_n zC.1 zC.2.1 dL_law_1053 rfl (lv_at hl 3 rfl) ?_
  refine lv_iload_n zC.1 zC.2.1 dL_law_1054 rfl (lv_at hl 0 rfl) ?_
  refine zr_iconst zC dL_law_1055 ?_
  refine zr_iadd zC dL_law_1056 ?_
  refine zl_sld zC hG hX hbl hbA hL (by omega) dL_law_1057 ?_
  refine lv_aload_n zC.1 zC.2.1 dL_law_1058 rfl (lv_at hl 3 rfl) ?_
  refine lv_iload_n zC.1 zC.2.1 dL_law_1059 rfl (lv_at hl 0 rfl) ?_
  refine zr_iconst zC dL_law_1060 ?_
  refine zr_iadd zC dL_law_1061 ?_
  refine zl_sld zC hG hX hbl hbA hL (by omega) dL_law_1062 ?_
  refine zm_callV zC hG (c_X5_where (τ := σ) (σ := mC_where σ (xv xs (i + 1)) (xv xs (i + 2))) (d := xv xs (i + 1)) (t := xv xs (i + 2)) (rl_f hR hJ.2) hI (xv_r _ _) (xv_r _ _)) mt_X5_where wl_L_116 pM rfl rfl ⟨Nat.le_of_ble_eq_true rfl, Nat.le_of_ble_eq_true rfl⟩ rfl hl.1 rfl (Nat.le_of_ble_eq_true rfl) dL_law_1063 ⟨Nat.le_of_ble_eq_true rfl, Nat.le_of_ble_eq_true rfl⟩ (fun σ2 H locs hR2 hC2 hG => ?_)
  refine lv_icmp_eq (tgt := 2015) zC.1 zC.2.1 dL_law_1066 (by decide) (fun _ => ?_) (fun cX => absurd rfl cX)
  obtain ⟨hI2, hR3⟩ := nx hJ.1 hR2 hC2
  exact kk σ2 H locs hG hI2 hR3
set_option maxHeartbeats 4000000 in
set_option maxRecDepth 100000 in
theorem lw_c25 {p : Program} {l : Launch} {e : Env} {s : State} {m : MethodId} {args : Array Value} {below : List Frame} {meth : Method} {c : Code} {Q : State → Prop} {Γ : Gm} {A : Nat → Prop} {σ : Mm} {H : Heap} {locs : List Loc} {ls : Array Slot} {b L : Nat} {xs : Nat → Int32} {i : Int} (zC : CallFix p m c cL_law 4 s args tb RL) (hG : GM Γ A σ s H locs) (hI : IC σ) (hR : Rel2 σ σ) (hX : va_X b L xs s s.heap) (hbl : b < s.heap.size) (hbA : ¬ A b) (hL : L ≤ 384) (hi : 0 ≤ i ∧ i + 6 ≤ L) (hl : lv_has ls 4 [(3, .int (zI i)), (2, .ref (aM Γ)), (1, .ref (aL Γ)), (0, .ref b)])
    (kk : ∀ (σ2 : Mm) (H : Heap) (locs : List Loc), GM Γ A σ2 s H locs → IC σ2 → Rel2 σ2 σ2 → W p l e room_1 s m args below meth c H locs 57 1284 Q (F0 m 2015 ls [])) : W p l e room_1 s m args below meth c H locs 57 1284 Q (F0 m 1071 ls []) := by
  refine lv_aload_n zC.1 zC.2.1 dL_law_1071 rfl (lv_at hl 2 rfl) ?_
  refine lv_aload_n zC.1 zC.2.1 dL_law_1072 rfl (lv_at hl 3 rfl) ?_
  refine lv_iload_n zC.1 zC.2.1 dL_law_1073 rfl (lv_at hl 0 rfl) ?_
  refine zr_iconst zC dL_law_1074 ?_
  refine zr_iadd zC dL_law_1075 ?_
  refine zl_sld zC hG hX hbl hbA hL (by omega) dL_law_1076 ?_
  refine lv_aload_n zC.1 zC.2.1 dL_law_1077 rfl (lv_at hl 3 rfl) ?_
  refine lv_iload_n zC.1 zC.2.1 dL_law_1078 rfl (lv_at hl 0 rfl) ?_
  refine zr_iconst zC dL_law_1079 ?_
  refine zr_iadd zC dL_law_1080 ?_
  refine zl_sld zC hG hX hbl hbA hL (by omega) dL_law_1081 ?_
  refine zr_callV zC hG (c_X4_left (σ := σ) (c := xv xs (i + 1)) (r := xv xs (i + 2)) hI (xv_r _ _) (xv_r _ _)) mt_X4_left wl_L_117 pL rfl rfl ⟨Nat.le_of_ble_eq_true rfl, Nat.le_of_ble_eq_true rfl⟩ rfl hl.1 rfl (Nat.le_of_ble_eq_true rfl) dL_law_1082 ⟨Nat.le_of_ble_eq_true rfl, Nat.le_of_ble_eq_true rfl⟩ (fun H locs hG => ?_)
  have hJ : JC σ (mC_left σ (xv xs (i + 1)) (xv xs (i + 2))) := jc_left hI
  refine lv_aload_n zC.1 zC.2.1 dL_law_1085 rfl (lv_at hl 1 rfl) ?_
  refine lv_aload_n zC.1 zC.2.1 dL_law_1086 rfl (lv_at hl 3 rfl) ?_
  refine lv_iload_n zC.1 zC.2.1 dL_law_1087 rfl (lv_at hl 0 rfl) ?_
  refine zr_iconst zC dL_law_1088 ?_
  refine zr_iadd zC dL_law_1089 ?_
  refine zl_sld zC hG hX hbl hbA hL (by omega) dL_law_1090 ?_
  refine lv_aload_n zC.1 zC.2.1 dL_law_1091 rfl (lv_at hl 3 rfl) ?_
  refine lv_iload_n zC.1 zC.2.1 dL_law_1092 rfl (lv_at hl 0 rfl) ?_
  refine zr_iconst zC dL_law_1093 ?_
  refine zr_iadd zC dL_law_1094 ?_
  refine zl_sld zC hG hX hbl hbA hL (by omega) dL_law_1095 ?_
  refine zm_callV zC hG (c_X5_left (τ := σ) (σ := mC_left σ (xv xs (i + 1)) (xv xs (i + 2))) (c := xv xs (i + 1)) (r := xv xs (i + 2)) (rl_f hR hJ.2) hI (xv_r _ _) (xv_r _ _)) mt_X5_left wl_L_120 pM rfl rfl ⟨Nat.le_of_ble_eq_true rfl, Nat.le_of_ble_eq_true rfl⟩ rfl hl.1 rfl (Nat.le_of_ble_eq_true rfl) dL_law_1096 ⟨Nat.le_of_ble_eq_true rfl, Nat.le_of_ble_eq_true rfl⟩ (fun σ2 H locs hR2 hC2 hG => ?_)
  refine lv_icmp_eq (tgt := 2015) zC.1 zC.2.1 dL_law_1099 (by decide) (fun _ => ?_) (fun cX => absurd rfl cX)
  obtain ⟨hI2, hR3⟩ := nx hJ.1 hR2 hC2
  exact kk σ2 H locs hG hI2 hR3
set_option maxHeartbeats 4000000 in
set_option maxRecDepth 100000 in
theorem lw_c26 {p : Program} {l : Launch} {e : Env} {s : State} {m : MethodId} {args : Array Value} {below : List Frame} {meth : Method} {c : Code} {Q : State → Prop} {Γ : Gm} {A : Nat → Prop} {σ : Mm} {H : Heap} {locs : List Loc} {ls : Array Slot} {b L : Nat} {xs : Nat → Int32} {i : Int} (zC : CallFix p m c cL_law 4 s args tb RL) (hG : GM Γ A σ s H locs) (hI : IC σ) (hR : Rel2 σ σ) (hX : va_X b L xs s s.heap) (hbl : b < s.heap.size) (hbA : ¬ A b) (hL : L ≤ 384) (hi : 0 ≤ i ∧ i + 6 ≤ L) (hl : lv_has ls 4 [(3, .int (zI i)), (2, .ref (aM Γ)), (1, .ref (aL Γ)), (0, .ref b)])
    (kk : ∀ (σ2 : Mm) (H : Heap) (locs : List Loc), GM Γ A σ2 s H locs → IC σ2 → Rel2 σ2 σ2 → W p l e room_1 s m args below meth c H locs 57 1284 Q (F0 m 2015 ls [])) : W p l e room_1 s m args below meth c H locs 57 1284 Q (F0 m 1104 ls []) := by
  refine lv_aload_n zC.1 zC.2.1 dL_law_1104 rfl (lv_at hl 2 rfl) ?_
  refine lv_aload_n zC.1 zC.2.1 dL_law_1105 rfl (lv_at hl 3 rfl) ?_
  refine lv_iload_n zC.1 zC.2.1 dL_law_1106 rfl (lv_at hl 0 rfl) ?_
  refine zr_iconst zC dL_law_1107 ?_
  refine zr_iadd zC dL_law_1108 ?_
  refine zl_sld zC hG hX hbl hbA hL (by omega) dL_law_1109 ?_
  refine lv_aload_n zC.1 zC.2.1 dL_law_1110 rfl (lv_at hl 3 rfl) ?_
  refine lv_iload_n zC.1 zC.2.1 dL_law_1111 rfl (lv_at hl 0 rfl) ?_
  refine zr_iconst zC dL_law_1112 ?_
  refine zr_iadd zC dL_law_1113 ?_
  refine zl_sld zC hG hX hbl hbA hL (by omega) dL_law_1114 ?_
  refine lv_aload_n zC.1 zC.2.1 dL_law_1115 rfl (lv_at hl 3 rfl) ?_
  refine lv_iload_n zC.1 zC.2.1 dL_law_1116 rfl (lv_at hl 0 rfl) ?_
  refine zr_iconst zC dL_law_1117 ?_
  refine zr_iadd zC dL_law_1118 ?_
  refine zl_sld zC hG hX hbl hbA hL (by omega) dL_law_1119 ?_
  refine lv_aload_n zC.1 zC.2.1 dL_law_1120 rfl (lv_at hl 3 rfl) ?_
  refine lv_iload_n zC.1 zC.2.1 dL_law_1121 rfl (lv_at hl 0 rfl) ?_
  refine zr_iconst zC dL_law_1122 ?_
  refine zr_iadd zC dL_law_1123 ?_
  refine zl_sld zC hG hX hbl hbA hL (by omega) dL_law_1124 ?_
  refine zr_callV zC hG (c_X4_dates (σ := σ) (c := xv xs (i + 1)) (a := xv xs (i + 2)) (b := xv xs (i + 3)) (r := xv xs (i + 4)) hI (xv_r _ _) (xv_r _ _) (xv_r _ _) (xv_r _ _)) mt_X4_dates wl_L_121 pL rfl rfl ⟨Nat.le_of_ble_eq_true rfl, Nat.le_of_ble_eq_true rfl⟩ rfl hl.1 rfl (Nat.le_of_ble_eq_true rfl) dL_law_1125 ⟨Nat.le_of_ble_eq_true rfl, Nat.le_of_ble_eq_true rfl⟩ (fun H locs hG => ?_)
  have hJ : JC σ (mC_dates σ (xv xs (i + 1)) (xv xs (i + 2)) (xv xs (i + 3)) (xv xs (i + 4))) := jc_dates hI
  refine lv_aload_n zC.1 zC.2.1 dL_law_1128 rfl (lv_at hl 1 rfl) ?_
  refine lv_aload_n zC.1 zC.2.1 dL_law_1129 rfl (lv_at hl 3 rfl) ?_
  refine lv_iload_n zC.1 zC.2.1 dL_law_1130 rfl (lv_at hl 0 rfl) ?_
  refine zr_iconst zC dL_law_1131 ?_
  refine zr_iadd zC dL_law_1132 ?_
  refine zl_sld zC hG hX hbl hbA hL (by omega) dL_law_1133 ?_
  refine lv_aload_n zC.1 zC.2.1 dL_law_1134 rfl (lv_at hl 3 rfl) ?_
  refine lv_iload_n zC.1 zC.2.1 dL_law_1135 rfl (lv_at hl 0 rfl) ?_
  refine zr_iconst zC dL_law_1136 ?_
  refine zr_iadd zC dL_law_1137 ?_
  refine zl_sld zC hG hX hbl hbA hL (by omega) dL_law_1138 ?_
  refine lv_aload_n zC.1 zC.2.1 dL_law_1139 rfl (lv_at hl 3 rfl) ?_
  refine lv_iload_n zC.1 zC.2.1 dL_law_1140 rfl (lv_at hl 0 rfl) ?_
  refine zr_iconst zC dL_law_1141 ?_
  refine zr_iadd zC dL_law_1142 ?_
  refine zl_sld zC hG hX hbl hbA hL (by omega) dL_law_1143 ?_
  refine lv_aload_n zC.1 zC.2.1 dL_law_1144 rfl (lv_at hl 3 rfl) ?_
  refine lv_iload_n zC.1 zC.2.1 dL_law_1145 rfl (lv_at hl 0 rfl) ?_
  refine zr_iconst zC dL_law_1146 ?_
  refine zr_iadd zC dL_law_1147 ?_
  refine zl_sld zC hG hX hbl hbA hL (by omega) dL_law_1148 ?_
  refine zm_callV zC hG (c_X5_dates (τ := σ) (σ := mC_dates σ (xv xs (i + 1)) (xv xs (i + 2)) (xv xs (i + 3)) (xv xs (i + 4))) (c := xv xs (i + 1)) (a := xv xs (i + 2)) (b := xv xs (i + 3)) (r := xv xs (i + 4)) (rl_f hR hJ.2) hI (xv_r _ _) (xv_r _ _) (xv_r _ _) (xv_r _ _)) mt_X5_dates wl_L_125 pM rfl rfl ⟨Nat.le_of_ble_eq_true rfl, Nat.le_of_ble_eq_true rfl⟩ rfl hl.1 rfl (Nat.le_of_ble_eq_true rfl) dL_law_1149 ⟨Nat.le_of_ble_eq_true rfl, Nat.le_of_ble_eq_true rfl⟩ (fun σ2 H locs hR2 hC2 hG => ?_)
  refine lv_icmp_eq (tgt := 2015) zC.1 zC.2.1 dL_law_1152 (by decide) (fun _ => ?_) (fun cX => absurd rfl cX)
  obtain ⟨hI2, hR3⟩ := nx hJ.1 hR2 hC2
  exact kk σ2 H locs hG hI2 hR3
set_option maxHeartbeats 4000000 in
set_option maxRecDepth 100000 in
theorem lw_c27 {p : Program} {l : Launch} {e : Env} {s : State} {m : MethodId} {args : Array Value} {below : List Frame} {meth : Method} {c : Code} {Q : State → Prop} {Γ : Gm} {A : Nat → Prop} {σ : Mm} {H : Heap} {locs : List Loc} {ls : Array Slot} {b L : Nat} {xs : Nat → Int32} {i : Int} (zC : CallFix p m c cL_law 4 s args tb RL) (hG : GM Γ A σ s H locs) (hI : IC σ) (hR : Rel2 σ σ) (hX : va_X b L xs s s.heap) (hbl : b < s.heap.size) (hbA : ¬ A b) (hL : L ≤ 384) (hi : 0 ≤ i ∧ i + 6 ≤ L) (hl : lv_has ls 4 [(3, .int (zI i)), (2, .ref (aM Γ)), (1, .ref (aL Γ)), (0, .ref b)])
    (kk : ∀ (σ2 : Mm) (H : Heap) (locs : List Loc), GM Γ A σ2 s H locs → IC σ2 → Rel2 σ2 σ2 → W p l e room_1 s m args below meth c H locs 57 1284 Q (F0 m 2015 ls [])) : W p l e room_1 s m args below meth c H locs 57 1284 Q (F0 m 1157 ls []) := by
  refine lv_aload_n zC.1 zC.2.1 dL_law_1157 rfl (lv_at hl 2 rfl) ?_
  refine lv_aload_n zC.1 zC.2.1 dL_law_1158 rfl (lv_at hl 3 rfl) ?_
  refine lv_iload_n zC.1 zC.2.1 dL_law_1159 rfl (lv_at hl 0 rfl) ?_
  refine zr_iconst zC dL_law_1160 ?_
  refine zr_iadd zC dL_law_1161 ?_
  refine zl_sld zC hG hX hbl hbA hL (by omega) dL_law_1162 ?_
  refine lv_aload_n zC.1 zC.2.1 dL_law_1163 rfl (lv_at hl 3 rfl) ?_
  refine lv_iload_n zC.1 zC.2.1 dL_law_1164 rfl (lv_at hl 0 rfl) ?_
  refine zr_iconst zC dL_law_1165 ?_
  refine zr_iadd zC dL_law_1166 ?_
  refine zl_sld zC hG hX hbl hbA hL (by omega) dL_law_1167 ?_
  refine zr_callV zC hG (c_X4_age (σ := σ) (c := xv xs (i + 1)) (t := xv xs (i + 2)) hI (xv_r _ _) (xv_r _ _)) mt_X4_age wl_L_126 pL rfl rfl ⟨Nat.le_of_ble_eq_true rfl, Nat.le_of_ble_eq_true rfl⟩ rfl hl.1 rfl (Nat.le_of_ble_eq_true rfl) dL_law_1168 ⟨Nat.le_of_ble_eq_true rfl, Nat.le_of_ble_eq_true rfl⟩ (fun H locs hG => ?_)
  have hJ : JC σ (mC_age σ (xv xs (i + 1)) (xv xs (i + 2))) := jc_age hI
  refine lv_aload_n zC.1 zC.2.1 dL_law_1171 rfl (lv_at hl 1 rfl) ?_
  refine lv_aload_n zC.1 zC.2.1 dL_law_1172 rfl (lv_at hl 3 rfl) ?_
  refine lv_iload_n zC.1 zC.2.1 dL_law_1173 rfl (lv_at hl 0 rfl) ?_
  refine zr_iconst zC dL_law_1174 ?_
  refine zr_iadd zC dL_law_1175 ?_
  refine zl_sld zC hG hX hbl hbA hL (by omega) dL_law_1176 ?_
  refine lv_aload_n zC.1 zC.2.1 dL_law_1177 rfl (lv_at hl 3 rfl) ?_
  refine lv_iload_n zC.1 zC.2.1 dL_law_1178 rfl (lv_at hl 0 rfl) ?_
  refine zr_iconst zC dL_law_1179 ?_
  refine zr_iadd zC dL_law_1180 ?_
  refine zl_sld zC hG hX hbl hbA hL (by omega) dL_law_1181 ?_
  refine zm_callV zC hG (c_X5_age (τ := σ) (σ := mC_age σ (xv xs (i + 1)) (xv xs (i + 2))) (c := xv xs (i + 1)) (t := xv xs (i + 2)) (rl_f hR hJ.2) hI (xv_r _ _) (xv_r _ _)) mt_X5_age wl_L_129 pM rfl rfl ⟨Nat.le_of_ble_eq_true rfl, Nat.le_of_ble_eq_true rfl⟩ rfl hl.1 rfl (Nat.le_of_ble_eq_true rfl) dL_law_1182 ⟨Nat.le_of_ble_eq_true rfl, Nat.le_of_ble_eq_true rfl⟩ (fun σ2 H locs hR2 hC2 hG => ?_)
  refine lv_icmp_eq (tgt := 2015) zC.1 zC.2.1 dL_law_1185 (by decide) (fun _ => ?_) (fun cX => absurd rfl cX)
  obtain ⟨hI2, hR3⟩ := nx hJ.1 hR2 hC2
  exact kk σ2 H locs hG hI2 hR3
set_option maxHeartbeats 4000000 in
set_option maxRecDepth 100000 in
theorem lw_c28 {p : Program} {l : Launch} {e : Env} {s : State} {m : MethodId} {args : Array Value} {below : List Frame} {meth : Method} {c : Code} {Q : State → Prop} {Γ : Gm} {A : Nat → Prop} {σ : Mm} {H : Heap} {locs : List Loc} {ls : Array Slot} {b L : Nat} {xs : Nat → Int32} {i : Int} (zC : CallFix p m c cL_law 4 s args tb RL) (hG : GM Γ A σ s H locs) (hI : IC σ) (hR : Rel2 σ σ) (hX : va_X b L xs s s.heap) (hbl : b < s.heap.size) (hbA : ¬ A b) (hL : L ≤ 384) (hi : 0 ≤ i ∧ i + 6 ≤ L) (hl : lv_has ls 4 [(3, .int (zI i)), (2, .ref (aM Γ)), (1, .ref (aL Γ)), (0, .ref b)])
    (kk : ∀ (σ2 : Mm) (H : Heap) (locs : List Loc), GM Γ A σ2 s H locs → IC σ2 → Rel2 σ2 σ2 → W p l e room_1 s m args below meth c H locs 57 1284 Q (F0 m 2015 ls [])) : W p l e room_1 s m args below meth c H locs 57 1284 Q (F0 m 1190 ls []) := by
  refine lv_aload_n zC.1 zC.2.1 dL_law_1190 rfl (lv_at hl 2 rfl) ?_
  refine lv_aload_n zC.1 zC.2.1 dL_law_1191 rfl (lv_at hl 3 rfl) ?_
  refine lv_iload_n zC.1 zC.2.1 dL_law_1192 rfl (lv_at hl 0 rfl) ?_
  refine zr_iconst zC dL_law_1193 ?_
  refine zr_iadd zC dL_law_1194 ?_
  refine zl_sld zC hG hX hbl hbA hL (by omega) dL_law_1195 ?_
  refine zr_callV zC hG (c_X4_eldest (σ := σ) (d := xv xs (i + 1)) hI (xv_r _ _)) mt_X4_eldest wl_L_130 pL rfl rfl ⟨Nat.le_of_ble_eq_true rfl, Nat.le_of_ble_eq_true rfl⟩ rfl hl.1 rfl (Nat.le_of_ble_eq_true rfl) dL_law_1196 ⟨Nat.le_of_ble_eq_true rfl, Nat.le_of_ble_eq_true rfl⟩ (fun H locs hG => ?_)
  have hJ : JC σ (mC_eldest σ (xv xs (i + 1))) := jc_eldest hI
  refine lv_aload_n zC.1 zC.2.1 dL_law_1199 rfl (lv_at hl 1 rfl) ?_
  refine lv_aload_n zC.1 zC.2.1 dL_law_1200 rfl (lv_at hl 3 rfl) ?_
  refine lv_iload_n zC.1 zC.2.1 dL_law_1201 rfl (lv_at hl 0 rfl) ?_
  refine zr_iconst zC dL_law_1202 ?_
  refine zr_iadd zC dL_law_1203 ?_
  refine zl_sld zC hG hX hbl hbA hL (by omega) dL_law_1204 ?_
  refine zm_callV zC hG (c_X5_eldest (τ := σ) (σ := mC_eldest σ (xv xs (i + 1))) (d := xv xs (i + 1)) (rl_f hR hJ.2) hI (xv_r _ _)) mt_X5_eldest wl_L_133 pM rfl rfl ⟨Nat.le_of_ble_eq_true rfl, Nat.le_of_ble_eq_true rfl⟩ rfl hl.1 rfl (Nat.le_of_ble_eq_true rfl) dL_law_1205 ⟨Nat.le_of_ble_eq_true rfl, Nat.le_of_ble_eq_true rfl⟩ (fun σ2 H locs hR2 hC2 hG => ?_)
  refine lv_icmp_eq (tgt := 2015) zC.1 zC.2.1 dL_law_1208 (by decide) (fun _ => ?_) (fun cX => absurd rfl cX)
  obtain ⟨hI2, hR3⟩ := nx hJ.1 hR2 hC2
  exact kk σ2 H locs hG hI2 hR3
set_option maxHeartbeats 4000000 in
set_option maxRecDepth 100000 in
theorem lw_c29 {p : Program} {l : Launch} {e : Env} {s : State} {m : MethodId} {args : Array Value} {below : List Frame} {meth : Method} {c : Code} {Q : State → Prop} {Γ : Gm} {A : Nat → Prop} {σ : Mm} {H : Heap} {locs : List Loc} {ls : Array Slot} {b L : Nat} {xs : Nat → Int32} {i : Int} (zC : CallFix p m c cL_law 4 s args tb RL) (hG : GM Γ A σ s H locs) (hI : IC σ) (hR : Rel2 σ σ) (hX : va_X b L xs s s.heap) (hbl : b < s.heap.size) (hbA : ¬ A b) (hL : L ≤ 384) (hi : 0 ≤ i ∧ i + 6 ≤ L) (hl : lv_has ls 4 [(3, .int (zI i)), (2, .ref (aM Γ)), (1, .ref (aL Γ)), (0, .ref b)])
    (kk : ∀ (σ2 : Mm) (H : Heap) (locs : List Loc), GM Γ A σ2 s H locs → IC σ2 → Rel2 σ2 σ2 → W p l e room_1 s m args below meth c H locs 57 1284 Q (F0 m 2015 ls [])) : W p l e room_1 s m args below meth c H locs 57 1284 Q (F0 m 1213 ls []) := by
  refine lv_aload_n zC.1 zC.2.1 dL_law_1213 rfl (lv_at hl 2 rfl) ?_
  refine lv_aload_n zC.1 zC.2.1 dL_law_1214 rfl (lv_at hl 3 rfl) ?_
  refine lv_iload_n zC.1 zC.2.1 dL_law_1215 rfl (lv_at hl 0 rfl) ?_
  refine zr_iconst zC dL_law_1216 ?_
  refine zr_iadd zC dL_law_1217 ?_
  refine zl_sld zC hG hX hbl hbA hL (by omega) dL_law_1218 ?_
  refine lv_aload_n zC.1 zC.2.1 dL_law_1219 rfl (lv_at hl 3 rfl) ?_
  refine lv_iload_n zC.1 zC.2.1 dL_law_1220 rfl (lv_at hl 0 rfl) ?_
  refine zr_iconst zC dL_law_1221 ?_
  refine zr_iadd zC dL_law_1222 ?_
  refine zl_sld zC hG hX hbl hbA hL (by omega) dL_law_1223 ?_
  refine lv_aload_n zC.1 zC.2.1 dL_law_1224 rfl (lv_at hl 3 rfl) ?_
  refine lv_iload_n zC.1 zC.2.1 dL_law_1225 rfl (lv_at hl 0 rfl) ?_
  refine zr_iconst zC dL_law_1226 ?_
  refine zr_iadd zC dL_law_1227 ?_
  refine zl_sld zC hG hX hbl hbA hL (by omega) dL_law_1228 ?_
  refine lv_aload_n zC.1 zC.2.1 dL_law_1229 rfl (lv_at hl 3 rfl) ?_
  refine lv_iload_n zC.1 zC.2.1 dL_law_1230 rfl (lv_at hl 0 rfl) ?_
  refine zr_iconst zC dL_law_1231 ?_
  refine zr_iadd zC dL_law_1232 ?_
  refine zl_sld zC hG hX hbl hbA hL (by omega) dL_law_1233 ?_
  refine zr_callV zC hG (c_X4_agree (σ := σ) (c := xv xs (i + 1)) (d := xv xs (i + 2)) (a := xv xs (i + 3)) (b := xv xs (i + 4)) hI (xv_r _ _) (xv_r _ _) (xv_r _ _) (xv_r _ _)) mt_X4_agree wl_L_134 pL rfl rfl ⟨Nat.le_of_ble_eq_true rfl, Nat.le_of_ble_eq_true rfl⟩ rfl hl.1 rfl (Nat.le_of_ble_eq_true rfl) dL_law_1234 ⟨Nat.le_of_ble_eq_true rfl, Nat.le_of_ble_eq_true rfl⟩ (fun H locs hG => ?_)
  have hJ : JC σ (mC_agree σ (xv xs (i + 1)) (xv xs (i + 2)) (xv xs (i + 3)) (xv xs (i + 4))) := jc_agree hI
  refine lv_aload_n zC.1 zC.2.1 dL_law_1237 rfl (lv_at hl 1 rfl) ?_
  refine lv_aload_n zC.1 zC.2.1 dL_law_1238 rfl (lv_at hl 3 rfl) ?_
  refine lv_iload_n zC.1 zC.2.1 dL_law_1239 rfl (lv_at hl 0 rfl) ?_
  refine zr_iconst zC dL_law_1240 ?_
  refine zr_iadd zC dL_law_1241 ?_
  refine zl_sld zC hG hX hbl hbA hL (by omega) dL_law_1242 ?_
  refine lv_aload_n zC.1 zC.2.1 dL_law_1243 rfl (lv_at hl 3 rfl) ?_
  refine lv_iload_n zC.1 zC.2.1 dL_law_1244 rfl (lv_at hl 0 rfl) ?_
  refine zr_iconst zC dL_law_1245 ?_
  refine zr_iadd zC dL_law_1246 ?_
  refine zl_sld zC hG hX hbl hbA hL (by omega) dL_law_1247 ?_
  refine lv_aload_n zC.1 zC.2.1 dL_law_1248 rfl (lv_at hl 3 rfl) ?_
  refine lv_iload_n zC.1 zC.2.1 dL_law_1249 rfl (lv_at hl 0 rfl) ?_
  refine zr_iconst zC dL_law_1250 ?_
  refine zr_iadd zC dL_law_1251 ?_
  refine zl_sld zC hG hX hbl hbA hL (by omega) dL_law_1252 ?_
  refine lv_aload_n zC.1 zC.2.1 dL_law_1253 rfl (lv_at hl 3 rfl) ?_
  refine lv_iload_n zC.1 zC.2.1 dL_law_1254 rfl (lv_at hl 0 rfl) ?_
  refine zr_iconst zC dL_law_1255 ?_
  refine zr_iadd zC dL_law_1256 ?_
  refine zl_sld zC hG hX hbl hbA hL (by omega) dL_law_1257 ?_
  refine zm_callV zC hG (c_X5_agree (τ := σ) (σ := mC_agree σ (xv xs (i + 1)) (xv xs (i + 2)) (xv xs (i + 3)) (xv xs (i + 4))) (c := xv xs (i + 1)) (d := xv xs (i + 2)) (a := xv xs (i + 3)) (b := xv xs (i + 4)) (rl_f hR hJ.2) hI (xv_r _ _) (xv_r _ _) (xv_r _ _) (xv_r _ _)) mt_X5_agree wl_L_137 pM rfl rfl ⟨Nat.le_of_ble_eq_true rfl, Nat.le_of_ble_eq_true rfl⟩ rfl hl.1 rfl (Nat.le_of_ble_eq_true rfl) dL_law_1258 ⟨Nat.le_of_ble_eq_true rfl, Nat.le_of_ble_eq_true rfl⟩ (fun σ2 H locs hR2 hC2 hG => ?_)
  refine lv_icmp_eq (tgt := 2015) zC.1 zC.2.1 dL_law_1261 (by decide) (fun _ => ?_) (fun cX => absurd rfl cX)
  obtain ⟨hI2, hR3⟩ := nx hJ.1 hR2 hC2
  exact kk σ2 H locs hG hI2 hR3
set_option maxHeartbeats 4000000 in
set_option maxRecDepth 100000 in
theorem lw_c30 {p : Program} {l : Launch} {e : Env} {s : State} {m : MethodId} {args : Array Value} {below : List Frame} {meth : Method} {c : Code} {Q : State → Prop} {Γ : Gm} {A : Nat → Prop} {σ : Mm} {H : Heap} {locs : List Loc} {ls : Array Slot} {b L : Nat} {xs : Nat → Int32} {i : Int} (zC : CallFix p m c cL_law 4 s args tb RL) (hG : GM Γ A σ s H locs) (hI : IC σ) (hR : Rel2 σ σ) (hX : va_X b L xs s s.heap) (hbl : b < s.heap.size) (hbA : ¬ A b) (hL : L ≤ 384) (hi : 0 ≤ i ∧ i + 6 ≤ L) (hl : lv_has ls 4 [(3, .int (zI i)), (2, .ref (aM Γ)), (1, .ref (aL Γ)), (0, .ref b)])
    (kk : ∀ (σ2 : Mm) (H : Heap) (locs : List Loc), GM Γ A σ2 s H locs → IC σ2 → Rel2 σ2 σ2 → W p l e room_1 s m args below meth c H locs 57 1284 Q (F0 m 2015 ls [])) : W p l e room_1 s m args below meth c H locs 57 1284 Q (F0 m 1266 ls []) := by
  refine lv_aload_n zC.1 zC.2.1 dL_law_1266 rfl (lv_at hl 2 rfl) ?_
  refine lv_aload_n zC.1 zC.2.1 dL_law_1267 rfl (lv_at hl 3 rfl) ?_
  refine lv_iload_n zC.1 zC.2.1 dL_law_1268 rfl (lv_at hl 0 rfl) ?_
  refine zr_iconst zC dL_law_1269 ?_
  refine zr_iadd zC dL_law_1270 ?_
  refine zl_sld zC hG hX hbl hbA hL (by omega) dL_law_1271 ?_
  refine lv_aload_n zC.1 zC.2.1 dL_law_1272 rfl (lv_at hl 3 rfl) ?_
  refine lv_iload_n zC.1 zC.2.1 dL_law_1273 rfl (lv_at hl 0 rfl) ?_
  refine zr_iconst zC dL_law_1274 ?_
  refine zr_iadd zC dL_law_1275 ?_
  refine zl_sld zC hG hX hbl hbA hL (by omega) dL_law_1276 ?_
  refine zr_callV zC hG (c_X4_till (σ := σ) (c := xv xs (i + 1)) (d := xv xs (i + 2)) hI (xv_r _ _) (xv_r _ _)) mt_X4_till wl_L_138 pL rfl rfl ⟨Nat.le_of_ble_eq_true rfl, Nat.le_of_ble_eq_true rfl⟩ rfl hl.1 rfl (Nat.le_of_ble_eq_true rfl) dL_law_1277 ⟨Nat.le_of_ble_eq_true rfl, Nat.le_of_ble_eq_true rfl⟩ (fun H locs hG => ?_)
  have hJ : JC σ σ := j_r hI
  refine lv_aload_n zC.1 zC.2.1 dL_law_1280 rfl (lv_at hl 1 rfl) ?_
  refine lv_aload_n zC.1 zC.2.1 dL_law_1281 rfl (lv_at hl 3 rfl) ?_
  refine lv_iload_n zC.1 zC.2.1 dL_law_1282 rfl (lv_at hl 0 rfl) ?_
  refine zr_iconst zC dL_law_1283 ?_
  refine zr_iadd zC dL_law_1284 ?_
  refine zl_sld zC hG hX hbl hbA hL (by omega) dL_law_1285 ?_
  refine lv_aload_n zC.1 zC.2.1 dL_law_1286 rfl (lv_at hl 3 rfl) ?_
  refine lv_iload_n zC.1 zC.2.1 dL_law_1287 rfl (lv_at hl 0 rfl) ?_
  refine zr_iconst zC dL_law_1288 ?_
  refine zr_iadd zC dL_law_1289 ?_
  refine zl_sld zC hG hX hbl hbA hL (by omega) dL_law_1290 ?_
  refine zm_callV zC hG (c_X5_till (τ := σ) (σ := σ) (c := xv xs (i + 1)) (d := xv xs (i + 2)) (rl_f hR hJ.2) hI (xv_r _ _) (xv_r _ _)) mt_X5_till wl_L_141 pM rfl rfl ⟨Nat.le_of_ble_eq_true rfl, Nat.le_of_ble_eq_true rfl⟩ rfl hl.1 rfl (Nat.le_of_ble_eq_true rfl) dL_law_1291 ⟨Nat.le_of_ble_eq_true rfl, Nat.le_of_ble_eq_true rfl⟩ (fun σ2 H locs hR2 hC2 hG => ?_)
  refine lv_icmp_eq (tgt := 2015) zC.1 zC.2.1 dL_law_1294 (by decide) (fun _ => ?_) (fun cX => absurd rfl cX)
  obtain ⟨hI2, hR3⟩ := nx hI hR2 hC2
  exact kk σ2 H locs hG hI2 hR3
set_option maxHeartbeats 4000000 in
set_option maxRecDepth 100000 in
theorem lw_c31 {p : Program} {l : Launch} {e : Env} {s : State} {m : MethodId} {args : Array Value} {below : List Frame} {meth : Method} {c : Code} {Q : State → Prop} {Γ : Gm} {A : Nat → Prop} {σ : Mm} {H : Heap} {locs : List Loc} {ls : Array Slot} {b L : Nat} {xs : Nat → Int32} {i : Int} (zC : CallFix p m c cL_law 4 s args tb RL) (hG : GM Γ A σ s H locs) (hI : IC σ) (hR : Rel2 σ σ) (hX : va_X b L xs s s.heap) (hbl : b < s.heap.size) (hbA : ¬ A b) (hL : L ≤ 384) (hi : 0 ≤ i ∧ i + 6 ≤ L) (hl : lv_has ls 4 [(3, .int (zI i)), (2, .ref (aM Γ)), (1, .ref (aL Γ)), (0, .ref b)])
    (kk : ∀ (σ2 : Mm) (H : Heap) (locs : List Loc), GM Γ A σ2 s H locs → IC σ2 → Rel2 σ2 σ2 → W p l e room_1 s m args below meth c H locs 57 1284 Q (F0 m 2015 ls [])) : W p l e room_1 s m args below meth c H locs 57 1284 Q (F0 m 1299 ls []) := by
  refine lv_aload_n zC.1 zC.2.1 dL_law_1299 rfl (lv_at hl 2 rfl) ?_
  refine lv_aload_n zC.1 zC.2.1 dL_law_1300 rfl (lv_at hl 3 rfl) ?_
  refine lv_iload_n zC.1 zC.2.1 dL_law_1301 rfl (lv_at hl 0 rfl) ?_
  refine zr_iconst zC dL_law_1302 ?_
  refine zr_iadd zC dL_law_1303 ?_
  refine zl_sld zC hG hX hbl hbA hL (by omega) dL_law_1304 ?_
  refine lv_aload_n zC.1 zC.2.1 dL_law_1305 rfl (lv_at hl 3 rfl) ?_
  refine lv_iload_n zC.1 zC.2.1 dL_law_1306 rfl (lv_at hl 0 rfl) ?_
  refine zr_iconst zC dL_law_1307 ?_
  refine zr_iadd zC dL_law_1308 ?_
  refine zl_sld zC hG hX hbl hbA hL (by omega) dL_law_1309 ?_
  refine lv_aload_n zC.1 zC.2.1 dL_law_1310 rfl (lv_at hl 3 rfl) ?_
  refine lv_iload_n zC.1 zC.2.1 dL_law_1311 rfl (lv_at hl 0 rfl) ?_
  refine zr_iconst zC dL_law_1312 ?_
  refine zr_iadd zC dL_law_1313 ?_
  refine zl_sld zC hG hX hbl hbA hL (by omega) dL_law_1314 ?_
  refine lv_aload_n zC.1 zC.2.1 dL_law_1315 rfl (lv_at hl 3 rfl) ?_
  refine lv_iload_n zC.1 zC.2.1 dL_law_1316 rfl (lv_at hl 0 rfl) ?_
  refine zr_iconst zC dL_law_1317 ?_
  refine zr_iadd zC dL_law_1318 ?_
  refine zl_sld zC hG hX hbl hbA hL (by omega) dL_law_1319 ?_
  refine zr_callV zC hG (c_X4_apart (σ := σ) (c := xv xs (i + 1)) (d := xv xs (i + 2)) (a := xv xs (i + 3)) (b := xv xs (i + 4)) hI (xv_r _ _) (xv_r _ _) (xv_r _ _) (xv_r _ _)) mt_X4_apart wl_L_142 pL rfl rfl ⟨Nat.le_of_ble_eq_true rfl, Nat.le_of_ble_eq_true rfl⟩ rfl hl.1 rfl (Nat.le_of_ble_eq_true rfl) dL_law_1320 ⟨Nat.le_of_ble_eq_true rfl, Nat.le_of_ble_eq_true rfl⟩ (fun H locs hG => ?_)
  have hJ : JC σ (mC_apart σ (xv xs (i + 1)) (xv xs (i + 2)) (xv xs (i + 3)) (xv xs (i + 4))) := jc_apart hI
  refine lv_aload_n zC.1 zC.2.1 dL_law_1323 rfl (lv_at hl 1 rfl) ?_
  refine lv_aload_n zC.1 zC.2.1 dL_law_1324 rfl (lv_at hl 3 rfl) ?_
  refine lv_iload_n zC.1 zC.2.1 dL_law_1325 rfl (lv_at hl 0 rfl) ?_
  refine zr_iconst zC dL_law_1326 ?_
  refine zr_iadd zC dL_law_1327 ?_
  refine zl_sld zC hG hX hbl hbA hL (by omega) dL_law_1328 ?_
  refine lv_aload_n zC.1 zC.2.1 dL_law_1329 rfl (lv_at hl 3 rfl) ?_
  refine lv_iload_n zC.1 zC.2.1 dL_law_1330 rfl (lv_at hl 0 rfl) ?_
  refine zr_iconst zC dL_law_1331 ?_
  refine zr_iadd zC dL_law_1332 ?_
  refine zl_sld zC hG hX hbl hbA hL (by omega) dL_law_1333 ?_
  refine lv_aload_n zC.1 zC.2.1 dL_law_1334 rfl (lv_at hl 3 rfl) ?_
  refine lv_iload_n zC.1 zC.2.1 dL_law_1335 rfl (lv_at hl 0 rfl) ?_
  refine zr_iconst zC dL_law_1336 ?_
  refine zr_iadd zC dL_law_1337 ?_
  refine zl_sld zC hG hX hbl hbA hL (by omega) dL_law_1338 ?_
  refine lv_aload_n zC.1 zC.2.1 dL_law_1339 rfl (lv_at hl 3 rfl) ?_
  refine lv_iload_n zC.1 zC.2.1 dL_law_1340 rfl (lv_at hl 0 rfl) ?_
  refine zr_iconst zC dL_law_1341 ?_
  refine zr_iadd zC dL_law_1342 ?_
  refine zl_sld zC hG hX hbl hbA hL (by omega) dL_law_1343 ?_
  refine zm_callV zC hG (c_X5_apart (τ := σ) (σ := mC_apart σ (xv xs (i + 1)) (xv xs (i + 2)) (xv xs (i + 3)) (xv xs (i + 4))) (c := xv xs (i + 1)) (d := xv xs (i + 2)) (a := xv xs (i + 3)) (b := xv xs (i + 4)) (rl_f hR hJ.2) hI (xv_r _ _) (xv_r _ _) (xv_r _ _) (xv_r _ _)) mt_X5_apart wl_L_145 pM rfl rfl ⟨Nat.le_of_ble_eq_true rfl, Nat.le_of_ble_eq_true rfl⟩ rfl hl.1 rfl (Nat.le_of_ble_eq_true rfl) dL_law_1344 ⟨Nat.le_of_ble_eq_true rfl, Nat.le_of_ble_eq_true rfl⟩ (fun σ2 H locs hR2 hC2 hG => ?_)
  refine lv_icmp_eq (tgt := 2015) zC.1 zC.2.1 dL_law_1347 (by decide) (fun _ => ?_) (fun cX => absurd rfl cX)
  obtain ⟨hI2, hR3⟩ := nx hJ.1 hR2 hC2
  exact kk σ2 H locs hG hI2 hR3
set_option maxHeartbeats 4000000 in
set_option maxRecDepth 100000 in
theorem lw_c32 {p : Program} {l : Launch} {e : Env} {s : State} {m : MethodId} {args : Array Value} {below : List Frame} {meth : Method} {c : Code} {Q : State → Prop} {Γ : Gm} {A : Nat → Prop} {σ : Mm} {H : Heap} {locs : List Loc} {ls : Array Slot} {b L : Nat} {xs : Nat → Int32} {i : Int} (zC : CallFix p m c cL_law 4 s args tb RL) (hG : GM Γ A σ s H locs) (hI : IC σ) (hR : Rel2 σ σ) (hX : va_X b L xs s s.heap) (hbl : b < s.heap.size) (hbA : ¬ A b) (hL : L ≤ 384) (hi : 0 ≤ i ∧ i + 6 ≤ L) (hl : lv_has ls 4 [(3, .int (zI i)), (2, .ref (aM Γ)), (1, .ref (aL Γ)), (0, .ref b)])
    (kk : ∀ (σ2 : Mm) (H : Heap) (locs : List Loc), GM Γ A σ2 s H locs → IC σ2 → Rel2 σ2 σ2 → W p l e room_1 s m args below meth c H locs 57 1284 Q (F0 m 2015 ls [])) : W p l e room_1 s m args below meth c H locs 57 1284 Q (F0 m 1352 ls []) := by
  refine lv_aload_n zC.1 zC.2.1 dL_law_1352 rfl (lv_at hl 2 rfl) ?_
  refine lv_aload_n zC.1 zC.2.1 dL_law_1353 rfl (lv_at hl 3 rfl) ?_
  refine lv_iload_n zC.1 zC.2.1 dL_law_1354 rfl (lv_at hl 0 rfl) ?_
  refine zr_iconst zC dL_law_1355 ?_
  refine zr_iadd zC dL_law_1356 ?_
  refine zl_sld zC hG hX hbl hbA hL (by omega) dL_law_1357 ?_
  refine lv_aload_n zC.1 zC.2.1 dL_law_1358 rfl (lv_at hl 3 rfl) ?_
  refine lv_iload_n zC.1 zC.2.1 dL_law_1359 rfl (lv_at hl 0 rfl) ?_
  refine zr_iconst zC dL_law_1360 ?_
  refine zr_iadd zC dL_law_1361 ?_
  refine zl_sld zC hG hX hbl hbA hL (by omega) dL_law_1362 ?_
  refine lv_aload_n zC.1 zC.2.1 dL_law_1363 rfl (lv_at hl 3 rfl) ?_
  refine lv_iload_n zC.1 zC.2.1 dL_law_1364 rfl (lv_at hl 0 rfl) ?_
  refine zr_iconst zC dL_law_1365 ?_
  refine zr_iadd zC dL_law_1366 ?_
  refine zl_sld zC hG hX hbl hbA hL (by omega) dL_law_1367 ?_
  refine zr_callV zC hG (c_X4_due (σ := σ) (c := xv xs (i + 1)) (t := xv xs (i + 2)) (y := xv xs (i + 3)) hI (xv_r _ _) (xv_r _ _) (xv_r _ _)) mt_X4_due wl_L_146 pL rfl rfl ⟨Nat.le_of_ble_eq_true rfl, Nat.le_of_ble_eq_true rfl⟩ rfl hl.1 rfl (Nat.le_of_ble_eq_true rfl) dL_law_1368 ⟨Nat.le_of_ble_eq_true rfl, Nat.le_of_ble_eq_true rfl⟩ (fun H locs hG => ?_)
  have hJ : JC σ (mC_due σ (xv xs (i + 1)) (xv xs (i + 2)) (xv xs (i + 3))) := jc_due hI
  refine lv_aload_n zC.1 zC.2.1 dL_law_1371 rfl (lv_at hl 1 rfl) ?_
  refine lv_aload_n zC.1 zC.2.1 dL_law_1372 rfl (lv_at hl 3 rfl) ?_
  refine lv_iload_n zC.1 zC.2.1 dL_law_1373 rfl (lv_at hl 0 rfl) ?_
  refine zr_iconst zC dL_law_1374 ?_
  refine zr_iadd zC dL_law_1375 ?_
  refine zl_sld zC hG hX hbl hbA hL (by omega) dL_law_1376 ?_
  refine lv_aload_n zC.1 zC.2.1 dL_law_1377 rfl (lv_at hl 3 rfl) ?_
  refine lv_iload_n zC.1 zC.2.1 dL_law_1378 rfl (lv_at hl 0 rfl) ?_
  refine zr_iconst zC dL_law_1379 ?_
  refine zr_iadd zC dL_law_1380 ?_
  refine zl_sld zC hG hX hbl hbA hL (by omega) dL_law_1381 ?_
  refine lv_aload_n zC.1 zC.2.1 dL_law_1382 rfl (lv_at hl 3 rfl) ?_
  refine lv_iload_n zC.1 zC.2.1 dL_law_1383 rfl (lv_at hl 0 rfl) ?_
  refine zr_iconst zC dL_law_1384 ?_
  refine zr_iadd zC dL_law_1385 ?_
  refine zl_sld zC hG hX hbl hbA hL (by omega) dL_law_1386 ?_
  refine zm_callV zC hG (c_X5_due (τ := σ) (σ := mC_due σ (xv xs (i + 1)) (xv xs (i + 2)) (xv xs (i + 3))) (c := xv xs (i + 1)) (t := xv xs (i + 2)) (y := xv xs (i + 3)) (rl_f hR hJ.2) hI (xv_r _ _) (xv_r _ _) (xv_r _ _)) mt_X5_due wl_L_149 pM rfl rfl ⟨Nat.le_of_ble_eq_true rfl, Nat.le_of_ble_eq_true rfl⟩ rfl hl.1 rfl (Nat.le_of_ble_eq_true rfl) dL_law_1387 ⟨Nat.le_of_ble_eq_true rfl, Nat.le_of_ble_eq_true rfl⟩ (fun σ2 H locs hR2 hC2 hG => ?_)
  refine lv_icmp_eq (tgt := 2015) zC.1 zC.2.1 dL_law_1390 (by decide) (fun _ => ?_) (fun cX => absurd rfl cX)
  obtain ⟨hI2, hR3⟩ := nx hJ.1 hR2 hC2
  exact kk σ2 H locs hG hI2 hR3
set_option maxHeartbeats 4000000 in
set_option maxRecDepth 100000 in
theorem lw_c33 {p : Program} {l : Launch} {e : Env} {s : State} {m : MethodId} {args : Array Value} {below : List Frame} {meth : Method} {c : Code} {Q : State → Prop} {Γ : Gm} {A : Nat → Prop} {σ : Mm} {H : Heap} {locs : List Loc} {ls : Array Slot} {b L : Nat} {xs : Nat → Int32} {i : Int} (zC : CallFix p m c cL_law 4 s args tb RL) (hG : GM Γ A σ s H locs) (hI : IC σ) (hR : Rel2 σ σ) (hX : va_X b L xs s s.heap) (hbl : b < s.heap.size) (hbA : ¬ A b) (hL : L ≤ 384) (hi : 0 ≤ i ∧ i + 6 ≤ L) (hl : lv_has ls 4 [(3, .int (zI i)), (2, .ref (aM Γ)), (1, .ref (aL Γ)), (0, .ref b)])
    (kk : ∀ (σ2 : Mm) (H : Heap) (locs : List Loc), GM Γ A σ2 s H locs → IC σ2 → Rel2 σ2 σ2 → W p l e room_1 s m args below meth c H locs 57 1284 Q (F0 m 2015 ls [])) : W p l e room_1 s m args below meth c H locs 57 1284 Q (F0 m 1395 ls []) := by
  refine lv_aload_n zC.1 zC.2.1 dL_law_1395 rfl (lv_at hl 2 rfl) ?_
  refine lv_aload_n zC.1 zC.2.1 dL_law_1396 rfl (lv_at hl 3 rfl) ?_
  refine lv_iload_n zC.1 zC.2.1 dL_law_1397 rfl (lv_at hl 0 rfl) ?_
  refine zr_iconst zC dL_law_1398 ?_
  refine zr_iadd zC dL_law_1399 ?_
  refine zl_sld zC hG hX hbl hbA hL (by omega) dL_law_1400 ?_
  refine zr_callV zC hG (c_X4_quarrels (σ := σ) (r := xv xs (i + 1)) hI (xv_r _ _)) mt_X4_quarrels wl_L_150 pL rfl rfl ⟨Nat.le_of_ble_eq_true rfl, Nat.le_of_ble_eq_true rfl⟩ rfl hl.1 rfl (Nat.le_of_ble_eq_true rfl) dL_law_1401 ⟨Nat.le_of_ble_eq_true rfl, Nat.le_of_ble_eq_true rfl⟩ (fun H locs hG => ?_)
  have hJ : JC σ (mC_quarrels σ (xv xs (i + 1))) := jc_quarrels hI
  refine lv_aload_n zC.1 zC.2.1 dL_law_1404 rfl (lv_at hl 1 rfl) ?_
  refine lv_aload_n zC.1 zC.2.1 dL_law_1405 rfl (lv_at hl 3 rfl) ?_
  refine lv_iload_n zC.1 zC.2.1 dL_law_1406 rfl (lv_at hl 0 rfl) ?_
  refine zr_iconst zC dL_law_1407 ?_
  refine zr_iadd zC dL_law_1408 ?_
  refine zl_sld zC hG hX hbl hbA hL (by omega) dL_law_1409 ?_
  refine zm_callV zC hG (c_X5_quarrels (τ := σ) (σ := mC_quarrels σ (xv xs (i + 1))) (r := xv xs (i + 1)) (rl_f hR hJ.2) hI (xv_r _ _)) mt_X5_quarrels wl_L_153 pM rfl rfl ⟨Nat.le_of_ble_eq_true rfl, Nat.le_of_ble_eq_true rfl⟩ rfl hl.1 rfl (Nat.le_of_ble_eq_true rfl) dL_law_1410 ⟨Nat.le_of_ble_eq_true rfl, Nat.le_of_ble_eq_true rfl⟩ (fun σ2 H locs hR2 hC2 hG => ?_)
  refine lv_icmp_eq (tgt := 2015) zC.1 zC.2.1 dL_law_1413 (by decide) (fun _ => ?_) (fun cX => absurd rfl cX)
  obtain ⟨hI2, hR3⟩ := nx hJ.1 hR2 hC2
  exact kk σ2 H locs hG hI2 hR3
set_option maxHeartbeats 4000000 in
set_option maxRecDepth 100000 in
theorem lw_c34 {p : Program} {l : Launch} {e : Env} {s : State} {m : MethodId} {args : Array Value} {below : List Frame} {meth : Method} {c : Code} {Q : State → Prop} {Γ : Gm} {A : Nat → Prop} {σ : Mm} {H : Heap} {locs : List Loc} {ls : Array Slot} {b L : Nat} {xs : Nat → Int32} {i : Int} (zC : CallFix p m c cL_law 4 s args tb RL) (hG : GM Γ A σ s H locs) (hI : IC σ) (hR : Rel2 σ σ) (hX : va_X b L xs s s.heap) (hbl : b < s.heap.size) (hbA : ¬ A b) (hL : L ≤ 384) (hi : 0 ≤ i ∧ i + 6 ≤ L) (hl : lv_has ls 4 [(3, .int (zI i)), (2, .ref (aM Γ)), (1, .ref (aL Γ)), (0, .ref b)])
    (kk : ∀ (σ2 : Mm) (H : Heap) (locs : List Loc), GM Γ A σ2 s H locs → IC σ2 → Rel2 σ2 σ2 → W p l e room_1 s m args below meth c H locs 57 1284 Q (F0 m 2015 ls [])) : W p l e room_1 s m args below meth c H locs 57 1284 Q (F0 m 1418 ls []) := by
  refine lv_aload_n zC.1 zC.2.1 dL_law_1418 rfl (lv_at hl 2 rfl) ?_
  refine lv_aload_n zC.1 zC.2.1 dL_law_1419 rfl (lv_at hl 3 rfl) ?_
  refine lv_iload_n zC.1 zC.2.1 dL_law_1420 rfl (lv_at hl 0 rfl) ?_
  refine zr_iconst zC dL_law_1421 ?_
  refine zr_iadd zC dL_law_1422 ?_
  refine zl_sld zC hG hX hbl hbA hL (by omega) dL_law_1423 ?_
  refine lv_aload_n zC.1 zC.2.1 dL_law_1424 rfl (lv_at hl 3 rfl) ?_
  refine lv_iload_n zC.1 zC.2.1 dL_law_1425 rfl (lv_at hl 0 rfl) ?_
  refine zr_iconst zC dL_law_1426 ?_
  refine zr_iadd zC dL_law_1427 ?_
  refine zl_sld zC hG hX hbl hbA hL (by omega) dL_law_1428 ?_
  refine lv_aload_n zC.1 zC.2.1 dL_law_1429 rfl (lv_at hl 3 rfl) ?_
  refine lv_iload_n zC.1 zC.2.1 dL_law_1430 rfl (lv_at hl 0 rfl) ?_
  refine zr_iconst zC dL_law_1431 ?_
  refine zr_iadd zC dL_law_1432 ?_
  refine zl_sld zC hG hX hbl hbA hL (by omega) dL_law_1433 ?_
  refine lv_aload_n zC.1 zC.2.1 dL_law_1434 rfl (lv_at hl 3 rfl) ?_
  refine lv_iload_n zC.1 zC.2.1 dL_law_1435 rfl (lv_at hl 0 rfl) ?_
  refine zr_iconst zC dL_law_1436 ?_
  refine zr_iadd zC dL_law_1437 ?_
  refine zl_sld zC hG hX hbl hbA hL (by omega) dL_law_1438 ?_
  refine zr_callV zC hG (c_X4_change (σ := σ) (c := xv xs (i + 1)) (r := xv xs (i + 2)) (a := xv xs (i + 3)) (b := xv xs (i + 4)) hI (xv_r _ _) (xv_r _ _) (xv_r _ _) (xv_r _ _)) mt_X4_change wl_L_154 pL rfl rfl ⟨Nat.le_of_ble_eq_true rfl, Nat.le_of_ble_eq_true rfl⟩ rfl hl.1 rfl (Nat.le_of_ble_eq_true rfl) dL_law_1439 ⟨Nat.le_of_ble_eq_true rfl, Nat.le_of_ble_eq_true rfl⟩ (fun H locs hG => ?_)
  have hJ : JC σ (mC_change σ (xv xs (i + 1)) (xv xs (i + 2)) (xv xs (i + 3)) (xv xs (i + 4))) := jc_change hI
  refine lv_aload_n zC.1 zC.2.1 dL_law_1442 rfl (lv_at hl 1 rfl) ?_
  refine lv_aload_n zC.1 zC.2.1 dL_law_1443 rfl (lv_at hl 3 rfl) ?_
  refine lv_iload_n zC.1 zC.2.1 dL_law_1444 rfl (lv_at hl 0 rfl) ?_
  refine zr_iconst zC dL_law_1445 ?_
  refine zr_iadd zC dL_law_1446 ?_
  refine zl_sld zC hG hX hbl hbA hL (by omega) dL_law_1447 ?_
  refine lv_aload_n zC.1 zC.2.1 dL_law_1448 rfl (lv_at hl 3 rfl) ?_
  refine lv_iload_n zC.1 zC.2.1 dL_law_1449 rfl (lv_at hl 0 rfl) ?_
  refine zr_iconst zC dL_law_1450 ?_
  refine zr_iadd zC dL_law_1451 ?_
  refine zl_sld zC hG hX hbl hbA hL (by omega) dL_law_1452 ?_
  refine lv_aload_n zC.1 zC.2.1 dL_law_1453 rfl (lv_at hl 3 rfl) ?_
  refine lv_iload_n zC.1 zC.2.1 dL_law_1454 rfl (lv_at hl 0 rfl) ?_
  refine zr_iconst zC dL_law_1455 ?_
  refine zr_iadd zC dL_law_1456 ?_
  refine zl_sld zC hG hX hbl hbA hL (by omega) dL_law_1457 ?_
  refine lv_aload_n zC.1 zC.2.1 dL_law_1458 rfl (lv_at hl 3 rfl) ?_
  refine lv_iload_n zC.1 zC.2.1 dL_law_1459 rfl (lv_at hl 0 rfl) ?_
  refine zr_iconst zC dL_law_1460 ?_
  refine zr_iadd zC dL_law_1461 ?_
  refine zl_sld zC hG hX hbl hbA hL (by omega) dL_law_1462 ?_
  refine zm_callV zC hG (c_X5_change (τ := σ) (σ := mC_change σ (xv xs (i + 1)) (xv xs (i + 2)) (xv xs (i + 3)) (xv xs (i + 4))) (c := xv xs (i + 1)) (r := xv xs (i + 2)) (a := xv xs (i + 3)) (b := xv xs (i + 4)) (rl_f hR hJ.2) hI (xv_r _ _) (xv_r _ _) (xv_r _ _) (xv_r _ _)) mt_X5_change wl_L_157 pM rfl rfl ⟨Nat.le_of_ble_eq_true rfl, Nat.le_of_ble_eq_true rfl⟩ rfl hl.1 rfl (Nat.le_of_ble_eq_true rfl) dL_law_1463 ⟨Nat.le_of_ble_eq_true rfl, Nat.le_of_ble_eq_true rfl⟩ (fun σ2 H locs hR2 hC2 hG => ?_)
  refine lv_icmp_eq (tgt := 2015) zC.1 zC.2.1 dL_law_1466 (by decide) (fun _ => ?_) (fun cX => absurd rfl cX)
  obtain ⟨hI2, hR3⟩ := nx hJ.1 hR2 hC2
  exact kk σ2 H locs hG hI2 hR3
set_option maxHeartbeats 4000000 in
set_option maxRecDepth 100000 in
theorem lw_c35 {p : Program} {l : Launch} {e : Env} {s : State} {m : MethodId} {args : Array Value} {below : List Frame} {meth : Method} {c : Code} {Q : State → Prop} {Γ : Gm} {A : Nat → Prop} {σ : Mm} {H : Heap} {locs : List Loc} {ls : Array Slot} {b L : Nat} {xs : Nat → Int32} {i : Int} (zC : CallFix p m c cL_law 4 s args tb RL) (hG : GM Γ A σ s H locs) (hI : IC σ) (hR : Rel2 σ σ) (hX : va_X b L xs s s.heap) (hbl : b < s.heap.size) (hbA : ¬ A b) (hL : L ≤ 384) (hi : 0 ≤ i ∧ i + 6 ≤ L) (hl : lv_has ls 4 [(3, .int (zI i)), (2, .ref (aM Γ)), (1, .ref (aL Γ)), (0, .ref b)])
    (kk : ∀ (σ2 : Mm) (H : Heap) (locs : List Loc), GM Γ A σ2 s H locs → IC σ2 → Rel2 σ2 σ2 → W p l e room_1 s m args below meth c H locs 57 1284 Q (F0 m 2015 ls [])) : W p l e room_1 s m args below meth c H locs 57 1284 Q (F0 m 1471 ls []) := by
  refine lv_aload_n zC.1 zC.2.1 dL_law_1471 rfl (lv_at hl 2 rfl) ?_
  refine lv_aload_n zC.1 zC.2.1 dL_law_1472 rfl (lv_at hl 3 rfl) ?_
  refine lv_iload_n zC.1 zC.2.1 dL_law_1473 rfl (lv_at hl 0 rfl) ?_
  refine zr_iconst zC dL_law_1474 ?_
  refine zr_iadd zC dL_law_1475 ?_
  refine zl_sld zC hG hX hbl hbA hL (by omega) dL_law_1476 ?_
  refine lv_aload_n zC.1 zC.2.1 dL_law_1477 rfl (lv_at hl 3 rfl) ?_
  refine lv_iload_n zC.1 zC.2.1 dL_law_1478 rfl (lv_at hl 0 rfl) ?_
  refine zr_iconst zC dL_law_1479 ?_
  refine zr_iadd zC dL_law_1480 ?_
  refine zl_sld zC hG hX hbl hbA hL (by omega) dL_law_1481 ?_
  refine lv_aload_n zC.1 zC.2.1 dL_law_1482 rfl (lv_at hl 3 rfl) ?_
  refine lv_iload_n zC.1 zC.2.1 dL_law_1483 rfl (lv_at hl 0 rfl) ?_
  refine zr_iconst zC dL_law_1484 ?_
  refine zr_iadd zC dL_law_1485 ?_
  refine zl_sld zC hG hX hbl hbA hL (by omega) dL_law_1486 ?_
  refine lv_aload_n zC.1 zC.2.1 dL_law_1487 rfl (lv_at hl 3 rfl) ?_
  refine lv_iload_n zC.1 zC.2.1 dL_law_1488 rfl (lv_at hl 0 rfl) ?_
  refine zr_iconst zC dL_law_1489 ?_
  refine zr_iadd zC dL_law_1490 ?_
  refine zl_sld zC hG hX hbl hbA hL (by omega) dL_law_1491 ?_
  refine zr_callV zC hG (c_X4_rent (σ := σ) (c := xv xs (i + 1)) (v := xv xs (i + 2)) (a := xv xs (i + 3)) (b := xv xs (i + 4)) hI (xv_r _ _) (xv_r _ _) (xv_r _ _) (xv_r _ _)) mt_X4_rent wl_L_158 pL rfl rfl ⟨Nat.le_of_ble_eq_true rfl, Nat.le_of_ble_eq_true rfl⟩ rfl hl.1 rfl (Nat.le_of_ble_eq_true rfl) dL_law_1492 ⟨Nat.le_of_ble_eq_true rfl, Nat.le_of_ble_eq_true rfl⟩ (fun H locs hG => ?_)
  have hJ : JC σ (mC_rent σ (xv xs (i + 1)) (xv xs (i + 2)) (xv xs (i + 3)) (xv xs (i + 4))) := jc_rent hI
  refine lv_aload_n zC.1 zC.2.1 dL_law_1495 rfl (lv_at hl 1 rfl) ?_
  refine lv_aload_n zC.1 zC.2.1 dL_law_1496 rfl (lv_at hl 3 rfl) ?_
  refine lv_iload_n zC.1 zC.2.1 dL_law_1497 rfl (lv_at hl 0 rfl) ?_
  refine zr_iconst zC dL_law_1498 ?_
  refine zr_iadd zC dL_law_1499 ?_
  refine zl_sld zC hG hX hbl hbA hL (by omega) dL_law_1500 ?_
  refine lv_aload_n zC.1 zC.2.1 dL_law_1501 rfl (lv_at hl 3 rfl) ?_
  refine lv_iload_n zC.1 zC.2.1 dL_law_1502 rfl (lv_at hl 0 rfl) ?_
  refine zr_iconst zC dL_law_1503 ?_
  refine zr_iadd zC dL_law_1504 ?_
  refine zl_sld zC hG hX hbl hbA hL (by omega) dL_law_1505 ?_
  refine lv_aload_n zC.1 zC.2.1 dL_law_1506 rfl (lv_at hl 3 rfl) ?_
  refine lv_iload_n zC.1 zC.2.1 dL_law_1507 rfl (lv_at hl 0 rfl) ?_
  refine zr_iconst zC dL_law_1508 ?_
  refine zr_iadd zC dL_law_1509 ?_
  refine zl_sld zC hG hX hbl hbA hL (by omega) dL_law_1510 ?_
  refine lv_aload_n zC.1 zC.2.1 dL_law_1511 rfl (lv_at hl 3 rfl) ?_
  refine lv_iload_n zC.1 zC.2.1 dL_law_1512 rfl (lv_at hl 0 rfl) ?_
  refine zr_iconst zC dL_law_1513 ?_
  refine zr_iadd zC dL_law_1514 ?_
  refine zl_sld zC hG hX hbl hbA hL (by omega) dL_law_1515 ?_
  refine zm_callV zC hG (c_X5_rent (τ := σ) (σ := mC_rent σ (xv xs (i + 1)) (xv xs (i + 2)) (xv xs (i + 3)) (xv xs (i + 4))) (c := xv xs (i + 1)) (v := xv xs (i + 2)) (a := xv xs (i + 3)) (b := xv xs (i + 4)) (rl_f hR hJ.2) hI (xv_r _ _) (xv_r _ _) (xv_r _ _) (xv_r _ _)) mt_X5_rent wl_L_161 pM rfl rfl ⟨Nat.le_of_ble_eq_true rfl, Nat.le_of_ble_eq_true rfl⟩ rfl hl.1 rfl (Nat.le_of_ble_eq_true rfl) dL_law_1516 ⟨Nat.le_of_ble_eq_true rfl, Nat.le_of_ble_eq_true rfl⟩ (fun σ2 H locs hR2 hC2 hG => ?_)
  refine lv_icmp_eq (tgt := 2015) zC.1 zC.2.1 dL_law_1519 (by decide) (fun _ => ?_) (fun cX => absurd rfl cX)
  obtain ⟨hI2, hR3⟩ := nx hJ.1 hR2 hC2
  exact kk σ2 H locs hG hI2 hR3
set_option maxHeartbeats 4000000 in
set_option maxRecDepth 100000 in
theorem lw_c36 {p : Program} {l : Launch} {e : Env} {s : State} {m : MethodId} {args : Array Value} {below : List Frame} {meth : Method} {c : Code} {Q : State → Prop} {Γ : Gm} {A : Nat → Prop} {σ : Mm} {H : Heap} {locs : List Loc} {ls : Array Slot} {b L : Nat} {xs : Nat → Int32} {i : Int} (zC : CallFix p m c cL_law 4 s args tb RL) (hG : GM Γ A σ s H locs) (hI : IC σ) (hR : Rel2 σ σ) (hX : va_X b L xs s s.heap) (hbl : b < s.heap.size) (hbA : ¬ A b) (hL : L ≤ 384) (hi : 0 ≤ i ∧ i + 6 ≤ L) (hl : lv_has ls 4 [(3, .int (zI i)), (2, .ref (aM Γ)), (1, .ref (aL Γ)), (0, .ref b)])
    (kk : ∀ (σ2 : Mm) (H : Heap) (locs : List Loc), GM Γ A σ2 s H locs → IC σ2 → Rel2 σ2 σ2 → W p l e room_1 s m args below meth c H locs 57 1284 Q (F0 m 2015 ls [])) : W p l e room_1 s m args below meth c H locs 57 1284 Q (F0 m 1524 ls []) := by
  refine lv_aload_n zC.1 zC.2.1 dL_law_1524 rfl (lv_at hl 2 rfl) ?_
  refine lv_aload_n zC.1 zC.2.1 dL_law_1525 rfl (lv_at hl 3 rfl) ?_
  refine lv_iload_n zC.1 zC.2.1 dL_law_1526 rfl (lv_at hl 0 rfl) ?_
  refine zr_iconst zC dL_law_1527 ?_
  refine zr_iadd zC dL_law_1528 ?_
  refine zl_sld zC hG hX hbl hbA hL (by omega) dL_law_1529 ?_
  refine lv_aload_n zC.1 zC.2.1 dL_law_1530 rfl (lv_at hl 3 rfl) ?_
  refine lv_iload_n zC.1 zC.2.1 dL_law_1531 rfl (lv_at hl 0 rfl) ?_
  refine zr_iconst zC dL_law_1532 ?_
  refine zr_iadd zC dL_law_1533 ?_
  refine zl_sld zC hG hX hbl hbA hL (by omega) dL_law_1534 ?_
  refine lv_aload_n zC.1 zC.2.1 dL_law_1535 rfl (lv_at hl 3 rfl) ?_
  refine lv_iload_n zC.1 zC.2.1 dL_law_1536 rfl (lv_at hl 0 rfl) ?_
  refine zr_iconst zC dL_law_1537 ?_
  refine zr_iadd zC dL_law_1538 ?_
  refine zl_sld zC hG hX hbl hbA hL (by omega) dL_law_1539 ?_
  refine lv_aload_n zC.1 zC.2.1 dL_law_1540 rfl (lv_at hl 3 rfl) ?_
  refine lv_iload_n zC.1 zC.2.1 dL_law_1541 rfl (lv_at hl 0 rfl) ?_
  refine zr_iconst zC dL_law_1542 ?_
  refine zr_iadd zC dL_law_1543 ?_
  refine zl_sld zC hG hX hbl hbA hL (by omega) dL_law_1544 ?_
  refine zr_callV zC hG (c_X4_voyage (σ := σ) (c := xv xs (i + 1)) (d := xv xs (i + 2)) (x := xv xs (i + 3)) (n := xv xs (i + 4)) hI (xv_r _ _) (xv_r _ _) (xv_r _ _) (xv_r _ _)) mt_X4_voyage wl_L_162 pL rfl rfl ⟨Nat.le_of_ble_eq_true rfl, Nat.le_of_ble_eq_true rfl⟩ rfl hl.1 rfl (Nat.le_of_ble_eq_true rfl) dL_law_1545 ⟨Nat.le_of_ble_eq_true rfl, Nat.le_of_ble_eq_true rfl⟩ (fun H locs hG => ?_)
  have hJ : JC σ (mC_voyage σ (xv xs (i + 1)) (xv xs (i + 2)) (xv xs (i + 3)) (xv xs (i + 4))) := jc_voyage hI
  refine lv_aload_n zC.1 zC.2.1 dL_law_1548 rfl (lv_at hl 1 rfl) ?_
  refine lv_aload_n zC.1 zC.2.1 dL_law_1549 rfl (lv_at hl 3 rfl) ?_
  refine lv_iload_n zC.1 zC.2.1 dL_law_1550 rfl (lv_at hl 0 rfl) ?_
  refine zr_iconst zC dL_law_1551 ?_
  refine zr_iadd zC dL_law_1552 ?_
  refine zl_sld zC hG hX hbl hbA hL (by omega) dL_law_1553 ?_
  refine lv_aload_n zC.1 zC.2.1 dL_law_1554 rfl (lv_at hl 3 rfl) ?_
  refine lv_iload_n zC.1 zC.2.1 dL_law_1555 rfl (lv_at hl 0 rfl) ?_
  refine zr_iconst zC dL_law_1556 ?_
  refine zr_iadd zC dL_law_1557 ?_
  refine zl_sld zC hG hX hbl hbA hL (by omega) dL_law_1558 ?_
  refine lv_aload_n zC.1 zC.2.1 dL_law_1559 rfl (lv_at hl 3 rfl) ?_
  refine lv_iload_n zC.1 zC.2.1 dL_law_1560 rfl (lv_at hl 0 rfl) ?_
  refine zr_iconst zC dL_law_1561 ?_
  refine zr_iadd zC dL_law_1562 ?_
  refine zl_sld zC hG hX hbl hbA hL (by omega) dL_law_1563 ?_
  refine lv_aload_n zC.1 zC.2.1 dL_law_1564 rfl (lv_at hl 3 rfl) ?_
  refine lv_iload_n zC.1 zC.2.1 dL_law_1565 rfl (lv_at hl 0 rfl) ?_
  refine zr_iconst zC dL_law_1566 ?_
  refine zr_iadd zC dL_law_1567 ?_
  refine zl_sld zC hG hX hbl hbA hL (by omega) dL_law_1568 ?_
  refine zm_callV zC hG (c_X5_voyage (τ := σ) (σ := mC_voyage σ (xv xs (i + 1)) (xv xs (i + 2)) (xv xs (i + 3)) (xv xs (i + 4))) (c := xv xs (i + 1)) (d := xv xs (i + 2)) (x := xv xs (i + 3)) (n := xv xs (i + 4)) (rl_f hR hJ.2) hI (xv_r _ _) (xv_r _ _) (xv_r _ _) (xv_r _ _)) mt_X5_voyage wl_L_165 pM rfl rfl ⟨Nat.le_of_ble_eq_true rfl, Nat.le_of_ble_eq_true rfl⟩ rfl hl.1 rfl (Nat.le_of_ble_eq_true rfl) dL_law_1569 ⟨Nat.le_of_ble_eq_true rfl, Nat.le_of_ble_eq_true rfl⟩ (fun σ2 H locs hR2 hC2 hG => ?_)
  refine lv_icmp_eq (tgt := 2015) zC.1 zC.2.1 dL_law_1572 (by decide) (fun _ => ?_) (fun cX => absurd rfl cX)
  obtain ⟨hI2, hR3⟩ := nx hJ.1 hR2 hC2
  exact kk σ2 H locs hG hI2 hR3
set_option maxHeartbeats 4000000 in
set_option maxRecDepth 100000 in
theorem lw_c37 {p : Program} {l : Launch} {e : Env} {s : State} {m : MethodId} {args : Array Value} {below : List Frame} {meth : Method} {c : Code} {Q : State → Prop} {Γ : Gm} {A : Nat → Prop} {σ : Mm} {H : Heap} {locs : List Loc} {ls : Array Slot} {b L : Nat} {xs : Nat → Int32} {i : Int} (zC : CallFix p m c cL_law 4 s args tb RL) (hG : GM Γ A σ s H locs) (hI : IC σ) (hR : Rel2 σ σ) (hX : va_X b L xs s s.heap) (hbl : b < s.heap.size) (hbA : ¬ A b) (hL : L ≤ 384) (hi : 0 ≤ i ∧ i + 6 ≤ L) (hl : lv_has ls 4 [(3, .int (zI i)), (2, .ref (aM Γ)), (1, .ref (aL Γ)), (0, .ref b)])
    (kk : ∀ (σ2 : Mm) (H : Heap) (locs : List Loc), GM Γ A σ2 s H locs → IC σ2 → Rel2 σ2 σ2 → W p l e room_1 s m args below meth c H locs 57 1284 Q (F0 m 2015 ls [])) : W p l e room_1 s m args below meth c H locs 57 1284 Q (F0 m 1577 ls []) := by
  refine lv_aload_n zC.1 zC.2.1 dL_law_1577 rfl (lv_at hl 2 rfl) ?_
  refine lv_aload_n zC.1 zC.2.1 dL_law_1578 rfl (lv_at hl 3 rfl) ?_
  refine lv_iload_n zC.1 zC.2.1 dL_law_1579 rfl (lv_at hl 0 rfl) ?_
  refine zr_iconst zC dL_law_1580 ?_
  refine zr_iadd zC dL_law_1581 ?_
  refine zl_sld zC hG hX hbl hbA hL (by omega) dL_law_1582 ?_
  refine lv_aload_n zC.1 zC.2.1 dL_law_1583 rfl (lv_at hl 3 rfl) ?_
  refine lv_iload_n zC.1 zC.2.1 dL_law_1584 rfl (lv_at hl 0 rfl) ?_
  refine zr_iconst zC dL_law_1585 ?_
  refine zr_iadd zC dL_law_1586 ?_
  refine zl_sld zC hG hX hbl hbA hL (by omega) dL_law_1587 ?_
  refine lv_aload_n zC.1 zC.2.1 dL_law_1588 rfl (lv_at hl 3 rfl) ?_
  refine lv_iload_n zC.1 zC.2.1 dL_law_1589 rfl (lv_at hl 0 rfl) ?_
  refine zr_iconst zC dL_law_1590 ?_
  refine zr_iadd zC dL_law_1591 ?_
  refine zl_sld zC hG hX hbl hbA hL (by omega) dL_law_1592 ?_
  refine zr_callV zC hG (c_X4_dated (σ := σ) (t := xv xs (i + 1)) (a := xv xs (i + 2)) (b := xv xs (i + 3)) hI (xv_r _ _) (xv_r _ _) (xv_r _ _)) mt_X4_dated wl_L_166 pL rfl rfl ⟨Nat.le_of_ble_eq_true rfl, Nat.le_of_ble_eq_true rfl⟩ rfl hl.1 rfl (Nat.le_of_ble_eq_true rfl) dL_law_1593 ⟨Nat.le_of_ble_eq_true rfl, Nat.le_of_ble_eq_true rfl⟩ (fun H locs hG => ?_)
  have hJ : JC σ σ := j_r hI
  refine lv_aload_n zC.1 zC.2.1 dL_law_1596 rfl (lv_at hl 1 rfl) ?_
  refine lv_aload_n zC.1 zC.2.1 dL_law_1597 rfl (lv_at hl 3 rfl) ?_
  refine lv_iload_n zC.1 zC.2.1 dL_law_1598 rfl (lv_at hl 0 rfl) ?_
  refine zr_iconst zC dL_law_1599 ?_
  refine zr_iadd zC dL_law_1600 ?_
  refine zl_sld zC hG hX hbl hbA hL (by omega) dL_law_1601 ?_
  refine lv_aload_n zC.1 zC.2.1 dL_law_1602 rfl (lv_at hl 3 rfl) ?_
  refine lv_iload_n zC.1 zC.2.1 dL_law_1603 rfl (lv_at hl 0 rfl) ?_
  refine zr_iconst zC dL_law_1604 ?_
  refine zr_iadd zC dL_law_1605 ?_
  refine zl_sld zC hG hX hbl hbA hL (by omega) dL_law_1606 ?_
  refine lv_aload_n zC.1 zC.2.1 dL_law_1607 rfl (lv_at hl 3 rfl) ?_
  refine lv_iload_n zC.1 zC.2.1 dL_law_1608 rfl (lv_at hl 0 rfl) ?_
  refine zr_iconst zC dL_law_1609 ?_
  refine zr_iadd zC dL_law_1610 ?_
  refine zl_sld zC hG hX hbl hbA hL (by omega) dL_law_1611 ?_
  refine zm_callV zC hG (c_X5_dated (τ := σ) (σ := σ) (t := xv xs (i + 1)) (a := xv xs (i + 2)) (b := xv xs (i + 3)) (rl_f hR hJ.2) hI (xv_r _ _) (xv_r _ _) (xv_r _ _)) mt_X5_dated wl_L_169 pM rfl rfl ⟨Nat.le_of_ble_eq_true rfl, Nat.le_of_ble_eq_true rfl⟩ rfl hl.1 rfl (Nat.le_of_ble_eq_true rfl) dL_law_1612 ⟨Nat.le_of_ble_eq_true rfl, Nat.le_of_ble_eq_true rfl⟩ (fun σ2 H locs hR2 hC2 hG => ?_)
  refine lv_icmp_eq (tgt := 2015) zC.1 zC.2.1 dL_law_1615 (by decide) (fun _ => ?_) (fun cX => absurd rfl cX)
  obtain ⟨hI2, hR3⟩ := nx hI hR2 hC2
  exact kk σ2 H locs hG hI2 hR3
set_option maxHeartbeats 4000000 in
set_option maxRecDepth 100000 in
theorem lw_c38 {p : Program} {l : Launch} {e : Env} {s : State} {m : MethodId} {args : Array Value} {below : List Frame} {meth : Method} {c : Code} {Q : State → Prop} {Γ : Gm} {A : Nat → Prop} {σ : Mm} {H : Heap} {locs : List Loc} {ls : Array Slot} {b L : Nat} {xs : Nat → Int32} {i : Int} (zC : CallFix p m c cL_law 4 s args tb RL) (hG : GM Γ A σ s H locs) (hI : IC σ) (hR : Rel2 σ σ) (hX : va_X b L xs s s.heap) (hbl : b < s.heap.size) (hbA : ¬ A b) (hL : L ≤ 384) (hi : 0 ≤ i ∧ i + 6 ≤ L) (hl : lv_has ls 4 [(3, .int (zI i)), (2, .ref (aM Γ)), (1, .ref (aL Γ)), (0, .ref b)])
    (kk : ∀ (σ2 : Mm) (H : Heap) (locs : List Loc), GM Γ A σ2 s H locs → IC σ2 → Rel2 σ2 σ2 → W p l e room_1 s m args below meth c H locs 57 1284 Q (F0 m 2015 ls [])) : W p l e room_1 s m args below meth c H locs 57 1284 Q (F0 m 1620 ls []) := by
  refine lv_aload_n zC.1 zC.2.1 dL_law_1620 rfl (lv_at hl 2 rfl) ?_
  refine lv_aload_n zC.1 zC.2.1 dL_law_1621 rfl (lv_at hl 3 rfl) ?_
  refine lv_iload_n zC.1 zC.2.1 dL_law_1622 rfl (lv_at hl 0 rfl) ?_
  refine zr_iconst zC dL_law_1623 ?_
  refine zr_iadd zC dL_law_1624 ?_
  refine zl_sld zC hG hX hbl hbA hL (by omega) dL_law_1625 ?_
  refine lv_aload_n zC.1 zC.2.1 dL_law_1626 rfl (lv_at hl 3 rfl) ?_
  refine lv_iload_n zC.1 zC.2.1 dL_law_1627 rfl (lv_at hl 0 rfl) ?_
  refine zr_iconst zC dL_law_1628 ?_
  refine zr_iadd zC dL_law_1629 ?_
  refine zl_sld zC hG hX hbl hbA hL (by omega) dL_law_1630 ?_
  refine zr_callV zC hG (c_X4_kinds (σ := σ) (c := xv xs (i + 1)) (r := xv xs (i + 2)) hI (xv_r _ _) (xv_r _ _)) mt_X4_kinds wl_L_170 pL rfl rfl ⟨Nat.le_of_ble_eq_true rfl, Nat.le_of_ble_eq_true rfl⟩ rfl hl.1 rfl (Nat.le_of_ble_eq_true rfl) dL_law_1631 ⟨Nat.le_of_ble_eq_true rfl, Nat.le_of_ble_eq_true rfl⟩ (fun H locs hG => ?_)
  have hJ : JC σ (mC_kinds σ (xv xs (i + 1)) (xv xs (i + 2))) := jc_kinds hI
  refine lv_aload_n zC.1 zC.2.1 dL_law_1634 rfl (lv_at hl 1 rfl) ?_
  refine lv_aload_n zC.1 zC.2.1 dL_law_1635 rfl (lv_at hl 3 rfl) ?_
  refine lv_iload_n zC.1 zC.2.1 dL_law_1636 rfl (lv_at hl 0 rfl) ?_
  refine zr_iconst zC dL_law_1637 ?_
  refine zr_iadd zC dL_law_1638 ?_
  refine zl_sld zC hG hX hbl hbA hL (by omega) dL_law_1639 ?_
  refine lv_aload_n zC.1 zC.2.1 dL_law_1640 rfl (lv_at hl 3 rfl) ?_
  refine lv_iload_n zC.1 zC.2.1 dL_law_1641 rfl (lv_at hl 0 rfl) ?_
  refine zr_iconst zC dL_law_1642 ?_
  refine zr_iadd zC dL_law_1643 ?_
  refine zl_sld zC hG hX hbl hbA hL (by omega) dL_law_1644 ?_
  refine zm_callV zC hG (c_X5_kinds (τ := σ) (σ := mC_kinds σ (xv xs (i + 1)) (xv xs (i + 2))) (c := xv xs (i + 1)) (r := xv xs (i + 2)) (rl_f hR hJ.2) hI (xv_r _ _) (xv_r _ _)) mt_X5_kinds wl_L_173 pM rfl rfl ⟨Nat.le_of_ble_eq_true rfl, Nat.le_of_ble_eq_true rfl⟩ rfl hl.1 rfl (Nat.le_of_ble_eq_true rfl) dL_law_1645 ⟨Nat.le_of_ble_eq_true rfl, Nat.le_of_ble_eq_true rfl⟩ (fun σ2 H locs hR2 hC2 hG => ?_)
  refine lv_icmp_eq (tgt := 2015) zC.1 zC.2.1 dL_law_1648 (by decide) (fun _ => ?_) (fun cX => absurd rfl cX)
  obtain ⟨hI2, hR3⟩ := nx hJ.1 hR2 hC2
  exact kk σ2 H locs hG hI2 hR3
set_option maxHeartbeats 4000000 in
set_option maxRecDepth 100000 in
theorem lw_c39 {p : Program} {l : Launch} {e : Env} {s : State} {m : MethodId} {args : Array Value} {below : List Frame} {meth : Method} {c : Code} {Q : State → Prop} {Γ : Gm} {A : Nat → Prop} {σ : Mm} {H : Heap} {locs : List Loc} {ls : Array Slot} {b L : Nat} {xs : Nat → Int32} {i : Int} (zC : CallFix p m c cL_law 4 s args tb RL) (hG : GM Γ A σ s H locs) (hI : IC σ) (hR : Rel2 σ σ) (hX : va_X b L xs s s.heap) (hbl : b < s.heap.size) (hbA : ¬ A b) (hL : L ≤ 384) (hi : 0 ≤ i ∧ i + 6 ≤ L) (hl : lv_has ls 4 [(3, .int (zI i)), (2, .ref (aM Γ)), (1, .ref (aL Γ)), (0, .ref b)])
    (kk : ∀ (σ2 : Mm) (H : Heap) (locs : List Loc), GM Γ A σ2 s H locs → IC σ2 → Rel2 σ2 σ2 → W p l e room_1 s m args below meth c H locs 57 1284 Q (F0 m 2015 ls [])) : W p l e room_1 s m args below meth c H locs 57 1284 Q (F0 m 1653 ls []) := by
  refine lv_aload_n zC.1 zC.2.1 dL_law_1653 rfl (lv_at hl 2 rfl) ?_
  refine lv_aload_n zC.1 zC.2.1 dL_law_1654 rfl (lv_at hl 3 rfl) ?_
  refine lv_iload_n zC.1 zC.2.1 dL_law_1655 rfl (lv_at hl 0 rfl) ?_
  refine zr_iconst zC dL_law_1656 ?_
  refine zr_iadd zC dL_law_1657 ?_
  refine zl_sld zC hG hX hbl hbA hL (by omega) dL_law_1658 ?_
  refine zr_callV zC hG (c_X4_moon (σ := σ) (d := xv xs (i + 1)) hI (xv_r _ _)) mt_X4_moon wl_L_174 pL rfl rfl ⟨Nat.le_of_ble_eq_true rfl, Nat.le_of_ble_eq_true rfl⟩ rfl hl.1 rfl (Nat.le_of_ble_eq_true rfl) dL_law_1659 ⟨Nat.le_of_ble_eq_true rfl, Nat.le_of_ble_eq_true rfl⟩ (fun H locs hG => ?_)
  have hJ : JC σ (mC_moon σ (xv xs (i + 1))) := jc_moon hI
  refine lv_aload_n zC.1 zC.2.1 dL_law_1662 rfl (lv_at hl 1 rfl) ?_
  refine lv_aload_n zC.1 zC.2.1 dL_law_1663 rfl (lv_at hl 3 rfl) ?_
  refine lv_iload_n zC.1 zC.2.1 dL_law_1664 rfl (lv_at hl 0 rfl) ?_
  refine zr_iconst zC dL_law_1665 ?_
  refine zr_iadd zC dL_law_1666 ?_
  refine zl_sld zC hG hX hbl hbA hL (by omega) dL_law_1667 ?_
  refine zm_callV zC hG (c_X5_moon (τ := σ) (σ := mC_moon σ (xv xs (i + 1))) (d := xv xs (i + 1)) (rl_f hR hJ.2) hI (xv_r _ _)) mt_X5_moon wl_L_177 pM rfl rfl ⟨Nat.le_of_ble_eq_true rfl, Nat.le_of_ble_eq_true rfl⟩ rfl hl.1 rfl (Nat.le_of_ble_eq_true rfl) dL_law_1668 ⟨Nat.le_of_ble_eq_true rfl, Nat.le_of_ble_eq_true rfl⟩ (fun σ2 H locs hR2 hC2 hG => ?_)
  refine lv_icmp_eq (tgt := 2015) zC.1 zC.2.1 dL_law_1671 (by decide) (fun _ => ?_) (fun cX => absurd rfl cX)
  obtain ⟨hI2, hR3⟩ := nx hJ.1 hR2 hC2
  exact kk σ2 H locs hG hI2 hR3
set_option maxHeartbeats 4000000 in
set_option maxRecDepth 100000 in
theorem lw_c40 {p : Program} {l : Launch} {e : Env} {s : State} {m : MethodId} {args : Array Value} {below : List Frame} {meth : Method} {c : Code} {Q : State → Prop} {Γ : Gm} {A : Nat → Prop} {σ : Mm} {H : Heap} {locs : List Loc} {ls : Array Slot} {b L : Nat} {xs : Nat → Int32} {i : Int} (zC : CallFix p m c cL_law 4 s args tb RL) (hG : GM Γ A σ s H locs) (hI : IC σ) (hR : Rel2 σ σ) (hX : va_X b L xs s s.heap) (hbl : b < s.heap.size) (hbA : ¬ A b) (hL : L ≤ 384) (hi : 0 ≤ i ∧ i + 6 ≤ L) (hl : lv_has ls 4 [(3, .int (zI i)), (2, .ref (aM Γ)), (1, .ref (aL Γ)), (0, .ref b)])
    (kk : ∀ (σ2 : Mm) (H : Heap) (locs : List Loc), GM Γ A σ2 s H locs → IC σ2 → Rel2 σ2 σ2 → W p l e room_1 s m args below meth c H locs 57 1284 Q (F0 m 2015 ls [])) : W p l e room_1 s m args below meth c H locs 57 1284 Q (F0 m 1676 ls []) := by
  refine lv_aload_n zC.1 zC.2.1 dL_law_1676 rfl (lv_at hl 2 rfl) ?_
  refine lv_aload_n zC.1 zC.2.1 dL_law_1677 rfl (lv_at hl 3 rfl) ?_
  refine lv_iload_n zC.1 zC.2.1 dL_law_1678 rfl (lv_at hl 0 rfl) ?_
  refine zr_iconst zC dL_law_1679 ?_
  refine zr_iadd zC dL_law_1680 ?_
  refine zl_sld zC hG hX hbl hbA hL (by omega) dL_law_1681 ?_
  refine lv_aload_n zC.1 zC.2.1 dL_law_1682 rfl (lv_at hl 3 rfl) ?_
  refine lv_iload_n zC.1 zC.2.1 dL_law_1683 rfl (lv_at hl 0 rfl) ?_
  refine zr_iconst zC dL_law_1684 ?_
  refine zr_iadd zC dL_law_1685 ?_
  refine zl_sld zC hG hX hbl hbA hL (by omega) dL_law_1686 ?_
  refine zr_callV zC hG (c_X4_feast (σ := σ) (c := xv xs (i + 1)) (y := xv xs (i + 2)) hI (xv_r _ _) (xv_r _ _)) mt_X4_feast wl_L_178 pL rfl rfl ⟨Nat.le_of_ble_eq_true rfl, Nat.le_of_ble_eq_true rfl⟩ rfl hl.1 rfl (Nat.le_of_ble_eq_true rfl) dL_law_1687 ⟨Nat.le_of_ble_eq_true rfl, Nat.le_of_ble_eq_true rfl⟩ (fun H locs hG => ?_)
  have hJ : JC σ σ := j_r hI
  refine lv_aload_n zC.1 zC.2.1 dL_law_1690 rfl (lv_at hl 1 rfl) ?_
  refine lv_aload_n zC.1 zC.2.1 dL_law_1691 rfl (lv_at hl 3 rfl) ?_
  refine lv_iload_n zC.1 zC.2.1 dL_law_1692 rfl (lv_at hl 0 rfl) ?_
  refine zr_iconst zC dL_law_1693 ?_
  refine zr_iadd zC dL_law_1694 ?_
  refine zl_sld zC hG hX hbl hbA hL (by omega) dL_law_1695 ?_
  refine lv_aload_n zC.1 zC.2.1 dL_law_1696 rfl (lv_at hl 3 rfl) ?_
  refine lv_iload_n zC.1 zC.2.1 dL_law_1697 rfl (lv_at hl 0 rfl) ?_
  refine zr_iconst zC dL_law_1698 ?_
  refine zr_iadd zC dL_law_1699 ?_
  refine zl_sld zC hG hX hbl hbA hL (by omega) dL_law_1700 ?_
  refine zm_callV zC hG (c_X5_feast (τ := σ) (σ := σ) (c := xv xs (i + 1)) (y := xv xs (i + 2)) (rl_f hR hJ.2) hI (xv_r _ _) (xv_r _ _)) mt_X5_feast wl_L_181 pM rfl rfl ⟨Nat.le_of_ble_eq_true rfl, Nat.le_of_ble_eq_true rfl⟩ rfl hl.1 rfl (Nat.le_of_ble_eq_true rfl) dL_law_1701 ⟨Nat.le_of_ble_eq_true rfl, Nat.le_of_ble_eq_true rfl⟩ (fun σ2 H locs hR2 hC2 hG => ?_)
  refine lv_icmp_eq (tgt := 2015) zC.1 zC.2.1 dL_law_1704 (by decide) (fun _ => ?_) (fun cX => absurd rfl cX)
  obtain ⟨hI2, hR3⟩ := nx hI hR2 hC2
  exact kk σ2 H locs hG hI2 hR3
set_option maxHeartbeats 4000000 in
set_option maxRecDepth 100000 in
theorem lw_c41 {p : Program} {l : Launch} {e : Env} {s : State} {m : MethodId} {args : Array Value} {below : List Frame} {meth : Method} {c : Code} {Q : State → Prop} {Γ : Gm} {A : Nat → Prop} {σ : Mm} {H : Heap} {locs : List Loc} {ls : Array Slot} {b L : Nat} {xs : Nat → Int32} {i : Int} (zC : CallFix p m c cL_law 4 s args tb RL) (hG : GM Γ A σ s H locs) (hI : IC σ) (hR : Rel2 σ σ) (hX : va_X b L xs s s.heap) (hbl : b < s.heap.size) (hbA : ¬ A b) (hL : L ≤ 384) (hi : 0 ≤ i ∧ i + 6 ≤ L) (hl : lv_has ls 4 [(3, .int (zI i)), (2, .ref (aM Γ)), (1, .ref (aL Γ)), (0, .ref b)])
    (kk : ∀ (σ2 : Mm) (H : Heap) (locs : List Loc), GM Γ A σ2 s H locs → IC σ2 → Rel2 σ2 σ2 → W p l e room_1 s m args below meth c H locs 57 1284 Q (F0 m 2015 ls [])) : W p l e room_1 s m args below meth c H locs 57 1284 Q (F0 m 1709 ls []) := by
  refine lv_aload_n zC.1 zC.2.1 dL_law_1709 rfl (lv_at hl 2 rfl) ?_
  refine lv_aload_n zC.1 zC.2.1 dL_law_1710 rfl (lv_at hl 3 rfl) ?_
  refine lv_iload_n zC.1 zC.2.1 dL_law_1711 rfl (lv_at hl 0 rfl) ?_
  refine zr_iconst zC dL_law_1712 ?_
  refine zr_iadd zC dL_law_1713 ?_
  refine zl_sld zC hG hX hbl hbA hL (by omega) dL_law_1714 ?_
  refine lv_aload_n zC.1 zC.2.1 dL_law_1715 rfl (lv_at hl 3 rfl) ?_
  refine lv_iload_n zC.1 zC.2.1 dL_law_1716 rfl (lv_at hl 0 rfl) ?_
  refine zr_iconst zC dL_law_1717 ?_
  refine zr_iadd zC dL_law_1718 ?_
  refine zl_sld zC hG hX hbl hbA hL (by omega) dL_law_1719 ?_
  refine lv_aload_n zC.1 zC.2.1 dL_law_1720 rfl (lv_at hl 3 rfl) ?_
  refine lv_iload_n zC.1 zC.2.1 dL_law_1721 rfl (lv_at hl 0 rfl) ?_
  refine zr_iconst zC dL_law_1722 ?_
  refine zr_iadd zC dL_law_1723 ?_
  refine zl_sld zC hG hX hbl hbA hL (by omega) dL_law_1724 ?_
  refine lv_aload_n zC.1 zC.2.1 dL_law_1725 rfl (lv_at hl 3 rfl) ?_
  refine lv_iload_n zC.1 zC.2.1 dL_law_1726 rfl (lv_at hl 0 rfl) ?_
  refine zr_iconst zC dL_law_1727 ?_
  refine zr_iadd zC dL_law_1728 ?_
  refine zl_sld zC hG hX hbl hbA hL (by omega) dL_law_1729 ?_
  refine zr_callV zC hG (c_X4_together (σ := σ) (c := xv xs (i + 1)) (d := xv xs (i + 2)) (a := xv xs (i + 3)) (b := xv xs (i + 4)) hI (xv_r _ _) (xv_r _ _) (xv_r _ _) (xv_r _ _)) mt_X4_together wl_L_182 pL rfl rfl ⟨Nat.le_of_ble_eq_true rfl, Nat.le_of_ble_eq_true rfl⟩ rfl hl.1 rfl (Nat.le_of_ble_eq_true rfl) dL_law_1730 ⟨Nat.le_of_ble_eq_true rfl, Nat.le_of_ble_eq_true rfl⟩ (fun H locs hG => ?_)
  have hJ : JC σ σ := j_r hI
  refine lv_aload_n zC.1 zC.2.1 dL_law_1733 rfl (lv_at hl 1 rfl) ?_
  refine lv_aload_n zC.1 zC.2.1 dL_law_1734 rfl (lv_at hl 3 rfl) ?_
  refine lv_iload_n zC.1 zC.2.1 dL_law_1735 rfl (lv_at hl 0 rfl) ?_
  refine zr_iconst zC dL_law_1736 ?_
  refine zr_iadd zC dL_law_1737 ?_
  refine zl_sld zC hG hX hbl hbA hL (by omega) dL_law_1738 ?_
  refine lv_aload_n zC.1 zC.2.1 dL_law_1739 rfl (lv_at hl 3 rfl) ?_
  refine lv_iload_n zC.1 zC.2.1 dL_law_1740 rfl (lv_at hl 0 rfl) ?_
  refine zr_iconst zC dL_law_1741 ?_
  refine zr_iadd zC dL_law_1742 ?_
  refine zl_sld zC hG hX hbl hbA hL (by omega) dL_law_1743 ?_
  refine lv_aload_n zC.1 zC.2.1 dL_law_1744 rfl (lv_at hl 3 rfl) ?_
  refine lv_iload_n zC.1 zC.2.1 dL_law_1745 rfl (lv_at hl 0 rfl) ?_
  refine zr_iconst zC dL_law_1746 ?_
  refine zr_iadd zC dL_law_1747 ?_
  refine zl_sld zC hG hX hbl hbA hL (by omega) dL_law_1748 ?_
  refine lv_aload_n zC.1 zC.2.1 dL_law_1749 rfl (lv_at hl 3 rfl) ?_
  refine lv_iload_n zC.1 zC.2.1 dL_law_1750 rfl (lv_at hl 0 rfl) ?_
  refine zr_iconst zC dL_law_1751 ?_
  refine zr_iadd zC dL_law_1752 ?_
  refine zl_sld zC hG hX hbl hbA hL (by omega) dL_law_1753 ?_
  refine zm_callV zC hG (c_X5_together (τ := σ) (σ := σ) (c := xv xs (i + 1)) (d := xv xs (i + 2)) (a := xv xs (i + 3)) (b := xv xs (i + 4)) (rl_f hR hJ.2) hI (xv_r _ _) (xv_r _ _) (xv_r _ _) (xv_r _ _)) mt_X5_together wl_L_185 pM rfl rfl ⟨Nat.le_of_ble_eq_true rfl, Nat.le_of_ble_eq_true rfl⟩ rfl hl.1 rfl (Nat.le_of_ble_eq_true rfl) dL_law_1754 ⟨Nat.le_of_ble_eq_true rfl, Nat.le_of_ble_eq_true rfl⟩ (fun σ2 H locs hR2 hC2 hG => ?_)
  refine lv_icmp_eq (tgt := 2015) zC.1 zC.2.1 dL_law_1757 (by decide) (fun _ => ?_) (fun cX => absurd rfl cX)
  obtain ⟨hI2, hR3⟩ := nx hI hR2 hC2
  exact kk σ2 H locs hG hI2 hR3
set_option maxHeartbeats 4000000 in
set_option maxRecDepth 100000 in
theorem lw_c42 {p : Program} {l : Launch} {e : Env} {s : State} {m : MethodId} {args : Array Value} {below : List Frame} {meth : Method} {c : Code} {Q : State → Prop} {Γ : Gm} {A : Nat → Prop} {σ : Mm} {H : Heap} {locs : List Loc} {ls : Array Slot} {b L : Nat} {xs : Nat → Int32} {i : Int} (zC : CallFix p m c cL_law 4 s args tb RL) (hG : GM Γ A σ s H locs) (hI : IC σ) (hR : Rel2 σ σ) (hX : va_X b L xs s s.heap) (hbl : b < s.heap.size) (hbA : ¬ A b) (hL : L ≤ 384) (hi : 0 ≤ i ∧ i + 6 ≤ L) (hl : lv_has ls 4 [(3, .int (zI i)), (2, .ref (aM Γ)), (1, .ref (aL Γ)), (0, .ref b)])
    (kk : ∀ (σ2 : Mm) (H : Heap) (locs : List Loc), GM Γ A σ2 s H locs → IC σ2 → Rel2 σ2 σ2 → W p l e room_1 s m args below meth c H locs 57 1284 Q (F0 m 2015 ls [])) : W p l e room_1 s m args below meth c H locs 57 1284 Q (F0 m 1762 ls []) := by
  refine lv_aload_n zC.1 zC.2.1 dL_law_1762 rfl (lv_at hl 2 rfl) ?_
  refine lv_aload_n zC.1 zC.2.1 dL_law_1763 rfl (lv_at hl 3 rfl) ?_
  refine lv_iload_n zC.1 zC.2.1 dL_law_1764 rfl (lv_at hl 0 rfl) ?_
  refine zr_iconst zC dL_law_1765 ?_
  refine zr_iadd zC dL_law_1766 ?_
  refine zl_sld zC hG hX hbl hbA hL (by omega) dL_law_1767 ?_
  refine lv_aload_n zC.1 zC.2.1 dL_law_1768 rfl (lv_at hl 3 rfl) ?_
  refine lv_iload_n zC.1 zC.2.1 dL_law_1769 rfl (lv_at hl 0 rfl) ?_
  refine zr_iconst zC dL_law_1770 ?_
  refine zr_iadd zC dL_law_1771 ?_
  refine zl_sld zC hG hX hbl hbA hL (by omega) dL_law_1772 ?_
  refine lv_aload_n zC.1 zC.2.1 dL_law_1773 rfl (lv_at hl 3 rfl) ?_
  refine lv_iload_n zC.1 zC.2.1 dL_law_1774 rfl (lv_at hl 0 rfl) ?_
  refine zr_iconst zC dL_law_1775 ?_
  refine zr_iadd zC dL_law_1776 ?_
  refine zl_sld zC hG hX hbl hbA hL (by omega) dL_law_1777 ?_
  refine zr_callV zC hG (c_X4_keeps (σ := σ) (v := xv xs (i + 1)) (k := xv xs (i + 2)) (n := xv xs (i + 3)) hI (xv_r _ _) (xv_r _ _) (xv_r _ _)) mt_X4_keeps wl_L_186 pL rfl rfl ⟨Nat.le_of_ble_eq_true rfl, Nat.le_of_ble_eq_true rfl⟩ rfl hl.1 rfl (Nat.le_of_ble_eq_true rfl) dL_law_1778 ⟨Nat.le_of_ble_eq_true rfl, Nat.le_of_ble_eq_true rfl⟩ (fun H locs hG => ?_)
  have hJ : JC σ σ := j_r hI
  refine lv_aload_n zC.1 zC.2.1 dL_law_1781 rfl (lv_at hl 1 rfl) ?_
  refine lv_aload_n zC.1 zC.2.1 dL_law_1782 rfl (lv_at hl 3 rfl) ?_
  refine lv_iload_n zC.1 zC.2.1 dL_law_1783 rfl (lv_at hl 0 rfl) ?_
  refine zr_iconst zC dL_law_1784 ?_
  refine zr_iadd zC dL_law_1785 ?_
  refine zl_sld zC hG hX hbl hbA hL (by omega) dL_law_1786 ?_
  refine lv_aload_n zC.1 zC.2.1 dL_law_1787 rfl (lv_at hl 3 rfl) ?_
  refine lv_iload_n zC.1 zC.2.1 dL_law_1788 rfl (lv_at hl 0 rfl) ?_
  refine zr_iconst zC dL_law_1789 ?_
  refine zr_iadd zC dL_law_1790 ?_
  refine zl_sld zC hG hX hbl hbA hL (by omega) dL_law_1791 ?_
  refine lv_aload_n zC.1 zC.2.1 dL_law_1792 rfl (lv_at hl 3 rfl) ?_
  refine lv_iload_n zC.1 zC.2.1 dL_law_1793 rfl (lv_at hl 0 rfl) ?_
  refine zr_iconst zC dL_law_1794 ?_
  refine zr_iadd zC dL_law_1795 ?_
  refine zl_sld zC hG hX hbl hbA hL (by omega) dL_law_1796 ?_
  refine zm_callV zC hG (c_X5_keeps (τ := σ) (σ := σ) (v := xv xs (i + 1)) (k := xv xs (i + 2)) (n := xv xs (i + 3)) (rl_f hR hJ.2) hI (xv_r _ _) (xv_r _ _) (xv_r _ _)) mt_X5_keeps wl_L_189 pM rfl rfl ⟨Nat.le_of_ble_eq_true rfl, Nat.le_of_ble_eq_true rfl⟩ rfl hl.1 rfl (Nat.le_of_ble_eq_true rfl) dL_law_1797 ⟨Nat.le_of_ble_eq_true rfl, Nat.le_of_ble_eq_true rfl⟩ (fun σ2 H locs hR2 hC2 hG => ?_)
  refine lv_icmp_eq (tgt := 2015) zC.1 zC.2.1 dL_law_1800 (by decide) (fun _ => ?_) (fun cX => absurd rfl cX)
  obtain ⟨hI2, hR3⟩ := nx hI hR2 hC2
  exact kk σ2 H locs hG hI2 hR3
set_option maxHeartbeats 4000000 in
set_option maxRecDepth 100000 in
theorem lw_c43 {p : Program} {l : Launch} {e : Env} {s : State} {m : MethodId} {args : Array Value} {below : List Frame} {meth : Method} {c : Code} {Q : State → Prop} {Γ : Gm} {A : Nat → Prop} {σ : Mm} {H : Heap} {locs : List Loc} {ls : Array Slot} {b L : Nat} {xs : Nat → Int32} {i : Int} (zC : CallFix p m c cL_law 4 s args tb RL) (hG : GM Γ A σ s H locs) (hI : IC σ) (hR : Rel2 σ σ) (hX : va_X b L xs s s.heap) (hbl : b < s.heap.size) (hbA : ¬ A b) (hL : L ≤ 384) (hi : 0 ≤ i ∧ i + 6 ≤ L) (hl : lv_has ls 4 [(3, .int (zI i)), (2, .ref (aM Γ)), (1, .ref (aL Γ)), (0, .ref b)])
    (kk : ∀ (σ2 : Mm) (H : Heap) (locs : List Loc), GM Γ A σ2 s H locs → IC σ2 → Rel2 σ2 σ2 → W p l e room_1 s m args below meth c H locs 57 1284 Q (F0 m 2015 ls [])) : W p l e room_1 s m args below meth c H locs 57 1284 Q (F0 m 1805 ls []) := by
  refine lv_aload_n zC.1 zC.2.1 dL_law_1805 rfl (lv_at hl 2 rfl) ?_
  refine lv_aload_n zC.1 zC.2.1 dL_law_1806 rfl (lv_at hl 3 rfl) ?_
  refine lv_iload_n zC.1 zC.2.1 dL_law_1807 rfl (lv_at hl 0 rfl) ?_
  refine zr_iconst zC dL_law_1808 ?_
  refine zr_iadd zC dL_law_1809 ?_
  refine zl_sld zC hG hX hbl hbA hL (by omega) dL_law_1810 ?_
  refine lv_aload_n zC.1 zC.2.1 dL_law_1811 rfl (lv_at hl 3 rfl) ?_
  refine lv_iload_n zC.1 zC.2.1 dL_law_1812 rfl (lv_at hl 0 rfl) ?_
  refine zr_iconst zC dL_law_1813 ?_
  refine zr_iadd zC dL_law_1814 ?_
  refine zl_sld zC hG hX hbl hbA hL (by omega) dL_law_1815 ?_
  refine lv_aload_n zC.1 zC.2.1 dL_law_1816 rfl (lv_at hl 3 rfl) ?_
  refine lv_iload_n zC.1 zC.2.1 dL_law_1817 rfl (lv_at hl 0 rfl) ?_
  refine zr_iconst zC dL_law_1818 ?_
  refine zr_iadd zC dL_law_1819 ?_
  refine zl_sld zC hG hX hbl hbA hL (by omega) dL_law_1820 ?_
  refine zr_callV zC hG (c_X4_fails (σ := σ) (lp := xv xs (i + 1)) (v := xv xs (i + 2)) (k := xv xs (i + 3)) hI (xv_r _ _) (xv_r _ _) (xv_r _ _)) mt_X4_fails wl_L_190 pL rfl rfl ⟨Nat.le_of_ble_eq_true rfl, Nat.le_of_ble_eq_true rfl⟩ rfl hl.1 rfl (Nat.le_of_ble_eq_true rfl) dL_law_1821 ⟨Nat.le_of_ble_eq_true rfl, Nat.le_of_ble_eq_true rfl⟩ (fun H locs hG => ?_)
  have hJ : JC σ σ := j_r hI
  refine lv_aload_n zC.1 zC.2.1 dL_law_1824 rfl (lv_at hl 1 rfl) ?_
  refine lv_aload_n zC.1 zC.2.1 dL_law_1825 rfl (lv_at hl 3 rfl) ?_
  refine lv_iload_n zC.1 zC.2.1 dL_law_1826 rfl (lv_at hl 0 rfl) ?_
  refine zr_iconst zC dL_law_1827 ?_
  refine zr_iadd zC dL_law_1828 ?_
  refine zl_sld zC hG hX hbl hbA hL (by omega) dL_law_1829 ?_
  refine lv_aload_n zC.1 zC.2.1 dL_law_1830 rfl (lv_at hl 3 rfl) ?_
  refine lv_iload_n zC.1 zC.2.1 dL_law_1831 rfl (lv_at hl 0 rfl) ?_
  refine zr_iconst zC dL_law_1832 ?_
  refine zr_iadd zC dL_law_1833 ?_
  refine zl_sld zC hG hX hbl hbA hL (by omega) dL_law_1834 ?_
  refine lv_aload_n zC.1 zC.2.1 dL_law_1835 rfl (lv_at hl 3 rfl) ?_
  refine lv_iload_n zC.1 zC.2.1 dL_law_1836 rfl (lv_at hl 0 rfl) ?_
  refine zr_iconst zC dL_law_1837 ?_
  refine zr_iadd zC dL_law_1838 ?_
  refine zl_sld zC hG hX hbl hbA hL (by omega) dL_law_1839 ?_
  refine zm_callV zC hG (c_X5_fails (τ := σ) (σ := σ) (lp := xv xs (i + 1)) (v := xv xs (i + 2)) (k := xv xs (i + 3)) (rl_f hR hJ.2) hI (xv_r _ _) (xv_r _ _) (xv_r _ _)) mt_X5_fails wl_L_193 pM rfl rfl ⟨Nat.le_of_ble_eq_true rfl, Nat.le_of_ble_eq_true rfl⟩ rfl hl.1 rfl (Nat.le_of_ble_eq_true rfl) dL_law_1840 ⟨Nat.le_of_ble_eq_true rfl, Nat.le_of_ble_eq_true rfl⟩ (fun σ2 H locs hR2 hC2 hG => ?_)
  refine lv_icmp_eq (tgt := 2015) zC.1 zC.2.1 dL_law_1843 (by decide) (fun _ => ?_) (fun cX => absurd rfl cX)
  obtain ⟨hI2, hR3⟩ := nx hI hR2 hC2
  exact kk σ2 H locs hG hI2 hR3
set_option maxHeartbeats 4000000 in
set_option maxRecDepth 100000 in
theorem lw_c44 {p : Program} {l : Launch} {e : Env} {s : State} {m : MethodId} {args : Array Value} {below : List Frame} {meth : Method} {c : Code} {Q : State → Prop} {Γ : Gm} {A : Nat → Prop} {σ : Mm} {H : Heap} {locs : List Loc} {ls : Array Slot} {b L : Nat} {xs : Nat → Int32} {i : Int} (zC : CallFix p m c cL_law 4 s args tb RL) (hG : GM Γ A σ s H locs) (hI : IC σ) (hR : Rel2 σ σ) (hX : va_X b L xs s s.heap) (hbl : b < s.heap.size) (hbA : ¬ A b) (hL : L ≤ 384) (hi : 0 ≤ i ∧ i + 6 ≤ L) (hl : lv_has ls 4 [(3, .int (zI i)), (2, .ref (aM Γ)), (1, .ref (aL Γ)), (0, .ref b)])
    (kk : ∀ (σ2 : Mm) (H : Heap) (locs : List Loc), GM Γ A σ2 s H locs → IC σ2 → Rel2 σ2 σ2 → W p l e room_1 s m args below meth c H locs 57 1284 Q (F0 m 2015 ls [])) : W p l e room_1 s m args below meth c H locs 57 1284 Q (F0 m 1848 ls []) := by
  refine lv_aload_n zC.1 zC.2.1 dL_law_1848 rfl (lv_at hl 2 rfl) ?_
  refine lv_aload_n zC.1 zC.2.1 dL_law_1849 rfl (lv_at hl 3 rfl) ?_
  refine lv_iload_n zC.1 zC.2.1 dL_law_1850 rfl (lv_at hl 0 rfl) ?_
  refine zr_iconst zC dL_law_1851 ?_
  refine zr_iadd zC dL_law_1852 ?_
  refine zl_sld zC hG hX hbl hbA hL (by omega) dL_law_1853 ?_
  refine lv_aload_n zC.1 zC.2.1 dL_law_1854 rfl (lv_at hl 3 rfl) ?_
  refine lv_iload_n zC.1 zC.2.1 dL_law_1855 rfl (lv_at hl 0 rfl) ?_
  refine zr_iconst zC dL_law_1856 ?_
  refine zr_iadd zC dL_law_1857 ?_
  refine zl_sld zC hG hX hbl hbA hL (by omega) dL_law_1858 ?_
  refine lv_aload_n zC.1 zC.2.1 dL_law_1859 rfl (lv_at hl 3 rfl) ?_
  refine lv_iload_n zC.1 zC.2.1 dL_law_1860 rfl (lv_at hl 0 rfl) ?_
  refine zr_iconst zC dL_law_1861 ?_
  refine zr_iadd zC dL_law_1862 ?_
  refine zl_sld zC hG hX hbl hbA hL (by omega) dL_law_1863 ?_
  refine lv_aload_n zC.1 zC.2.1 dL_law_1864 rfl (lv_at hl 3 rfl) ?_
  refine lv_iload_n zC.1 zC.2.1 dL_law_1865 rfl (lv_at hl 0 rfl) ?_
  refine zr_iconst zC dL_law_1866 ?_
  refine zr_iadd zC dL_law_1867 ?_
  refine zl_sld zC hG hX hbl hbA hL (by omega) dL_law_1868 ?_
  refine zr_callV zC hG (c_X4_lots (σ := σ) (c := xv xs (i + 1)) (d := xv xs (i + 2)) (n := xv xs (i + 3)) (v := xv xs (i + 4)) hI (xv_r _ _) (xv_r _ _) (xv_r _ _) (xv_r _ _)) mt_X4_lots wl_L_194 pL rfl rfl ⟨Nat.le_of_ble_eq_true rfl, Nat.le_of_ble_eq_true rfl⟩ rfl hl.1 rfl (Nat.le_of_ble_eq_true rfl) dL_law_1869 ⟨Nat.le_of_ble_eq_true rfl, Nat.le_of_ble_eq_true rfl⟩ (fun H locs hG => ?_)
  have hJ : JC σ σ := j_r hI
  refine lv_aload_n zC.1 zC.2.1 dL_law_1872 rfl (lv_at hl 1 rfl) ?_
  refine lv_aload_n zC.1 zC.2.1 dL_law_1873 rfl (lv_at hl 3 rfl) ?_
  refine lv_iload_n zC.1 zC.2.1 dL_law_1874 rfl (lv_at hl 0 rfl) ?_
  refine zr_iconst zC dL_law_1875 ?_
  refine zr_iadd zC dL_law_1876 ?_
  refine zl_sld zC hG hX hbl hbA hL (by omega) dL_law_1877 ?_
  refine lv_aload_n zC.1 zC.2.1 dL_law_1878 rfl (lv_at hl 3 rfl) ?_
  refine lv_iload_n zC.1 zC.2.1 dL_law_1879 rfl (lv_at hl 0 rfl) ?_
  refine zr_iconst zC dL_law_1880 ?_
  refine zr_iadd zC dL_law_1881 ?_
  refine zl_sld zC hG hX hbl hbA hL (by omega) dL_law_1882 ?_
  refine lv_aload_n zC.1 zC.2.1 dL_law_1883 rfl (lv_at hl 3 rfl) ?_
  refine lv_iload_n zC.1 zC.2.1 dL_law_1884 rfl (lv_at hl 0 rfl) ?_
  refine zr_iconst zC dL_law_1885 ?_
  refine zr_iadd zC dL_law_1886 ?_
  refine zl_sld zC hG hX hbl hbA hL (by omega) dL_law_1887 ?_
  refine lv_aload_n zC.1 zC.2.1 dL_law_1888 rfl (lv_at hl 3 rfl) ?_
  refine lv_iload_n zC.1 zC.2.1 dL_law_1889 rfl (lv_at hl 0 rfl) ?_
  refine zr_iconst zC dL_law_1890 ?_
  refine zr_iadd zC dL_law_1891 ?_
  refine zl_sld zC hG hX hbl hbA hL (by omega) dL_law_1892 ?_
  refine zm_callV zC hG (c_X5_lots (τ := σ) (σ := σ) (c := xv xs (i + 1)) (d := xv xs (i + 2)) (n := xv xs (i + 3)) (v := xv xs (i + 4)) (rl_f hR hJ.2) hI (xv_r _ _) (xv_r _ _) (xv_r _ _) (xv_r _ _)) mt_X5_lots wl_L_197 pM rfl rfl ⟨Nat.le_of_ble_eq_true rfl, Nat.le_of_ble_eq_true rfl⟩ rfl hl.1 rfl (Nat.le_of_ble_eq_true rfl) dL_law_1893 ⟨Nat.le_of_ble_eq_true rfl, Nat.le_of_ble_eq_true rfl⟩ (fun σ2 H locs hR2 hC2 hG => ?_)
  refine lv_icmp_eq (tgt := 2015) zC.1 zC.2.1 dL_law_1896 (by decide) (fun _ => ?_) (fun cX => absurd rfl cX)
  obtain ⟨hI2, hR3⟩ := nx hI hR2 hC2
  exact kk σ2 H locs hG hI2 hR3
set_option maxHeartbeats 4000000 in
set_option maxRecDepth 100000 in
theorem lw_c45 {p : Program} {l : Launch} {e : Env} {s : State} {m : MethodId} {args : Array Value} {below : List Frame} {meth : Method} {c : Code} {Q : State → Prop} {Γ : Gm} {A : Nat → Prop} {σ : Mm} {H : Heap} {locs : List Loc} {ls : Array Slot} {b L : Nat} {xs : Nat → Int32} {i : Int} (zC : CallFix p m c cL_law 4 s args tb RL) (hG : GM Γ A σ s H locs) (hI : IC σ) (hR : Rel2 σ σ) (hX : va_X b L xs s s.heap) (hbl : b < s.heap.size) (hbA : ¬ A b) (hL : L ≤ 384) (hi : 0 ≤ i ∧ i + 6 ≤ L) (hl : lv_has ls 4 [(3, .int (zI i)), (2, .ref (aM Γ)), (1, .ref (aL Γ)), (0, .ref b)])
    (kk : ∀ (σ2 : Mm) (H : Heap) (locs : List Loc), GM Γ A σ2 s H locs → IC σ2 → Rel2 σ2 σ2 → W p l e room_1 s m args below meth c H locs 57 1284 Q (F0 m 2015 ls [])) : W p l e room_1 s m args below meth c H locs 57 1284 Q (F0 m 1901 ls []) := by
  refine lv_aload_n zC.1 zC.2.1 dL_law_1901 rfl (lv_at hl 2 rfl) ?_
  refine zr_callV zC hG (c_X4_asked (σ := σ)  hI ) mt_X4_asked wl_L_198 pL rfl rfl ⟨Nat.le_of_ble_eq_true rfl, Nat.le_of_ble_eq_true rfl⟩ rfl hl.1 rfl (Nat.le_of_ble_eq_true rfl) dL_law_1902 ⟨Nat.le_of_ble_eq_true rfl, Nat.le_of_ble_eq_true rfl⟩ (fun H locs hG => ?_)
  have hJ : JC σ σ := j_r hI
  refine lv_aload_n zC.1 zC.2.1 dL_law_1905 rfl (lv_at hl 1 rfl) ?_
  refine zm_callV zC hG (c_X5_asked (τ := σ) (σ := σ)  (rl_f hR hJ.2) hI ) mt_X5_asked wl_L_202 pM rfl rfl ⟨Nat.le_of_ble_eq_true rfl, Nat.le_of_ble_eq_true rfl⟩ rfl hl.1 rfl (Nat.le_of_ble_eq_true rfl) dL_law_1906 ⟨Nat.le_of_ble_eq_true rfl, Nat.le_of_ble_eq_true rfl⟩ (fun σ2 H locs hR2 hC2 hG => ?_)
  refine lv_icmp_eq (tgt := 2015) zC.1 zC.2.1 dL_law_1909 (by decide) (fun _ => ?_) (fun cX => absurd rfl cX)
  obtain ⟨hI2, hR3⟩ := nx hI hR2 hC2
  exact kk σ2 H locs hG hI2 hR3
set_option maxHeartbeats 4000000 in
set_option maxRecDepth 100000 in
theorem lw_c46 {p : Program} {l : Launch} {e : Env} {s : State} {m : MethodId} {args : Array Value} {below : List Frame} {meth : Method} {c : Code} {Q : State → Prop} {Γ : Gm} {A : Nat → Prop} {σ : Mm} {H : Heap} {locs : List Loc} {ls : Array Slot} {b L : Nat} {xs : Nat → Int32} {i : Int} (zC : CallFix p m c cL_law 4 s args tb RL) (hG : GM Γ A σ s H locs) (hI : IC σ) (hR : Rel2 σ σ) (hX : va_X b L xs s s.heap) (hbl : b < s.heap.size) (hbA : ¬ A b) (hL : L ≤ 384) (hi : 0 ≤ i ∧ i + 6 ≤ L) (hl : lv_has ls 4 [(3, .int (zI i)), (2, .ref (aM Γ)), (1, .ref (aL Γ)), (0, .ref b)])
    (kk : ∀ (σ2 : Mm) (H : Heap) (locs : List Loc), GM Γ A σ2 s H locs → IC σ2 → Rel2 σ2 σ2 → W p l e room_1 s m args below meth c H locs 57 1284 Q (F0 m 2015 ls [])) : W p l e room_1 s m args below meth c H locs 57 1284 Q (F0 m 1914 ls []) := by
  refine lv_aload_n zC.1 zC.2.1 dL_law_1914 rfl (lv_at hl 2 rfl) ?_
  refine zr_callV zC hG (c_X4_upper (σ := σ)  hI ) mt_X4_upper wl_L_203 pL rfl rfl ⟨Nat.le_of_ble_eq_true rfl, Nat.le_of_ble_eq_true rfl⟩ rfl hl.1 rfl (Nat.le_of_ble_eq_true rfl) dL_law_1915 ⟨Nat.le_of_ble_eq_true rfl, Nat.le_of_ble_eq_true rfl⟩ (fun H locs hG => ?_)
  have hJ : JC σ σ := j_r hI
  refine lv_aload_n zC.1 zC.2.1 dL_law_1918 rfl (lv_at hl 1 rfl) ?_
  refine zm_callV zC hG (c_X5_upper (τ := σ) (σ := σ)  (rl_f hR hJ.2) hI ) mt_X5_upper wl_L_207 pM rfl rfl ⟨Nat.le_of_ble_eq_true rfl, Nat.le_of_ble_eq_true rfl⟩ rfl hl.1 rfl (Nat.le_of_ble_eq_true rfl) dL_law_1919 ⟨Nat.le_of_ble_eq_true rfl, Nat.le_of_ble_eq_true rfl⟩ (fun σ2 H locs hR2 hC2 hG => ?_)
  refine W.lcmp zC.1 zC.2.1 dL_law_1922 ?_
  rw [lg_same]
  refine lv_if_eq (tgt := 2015) zC.1 zC.2.1 dL_law_1923 (by decide) (fun _ => ?_) (fun cX => absurd rfl cX)
  obtain ⟨hI2, hR3⟩ := nx hI hR2 hC2
  exact kk σ2 H locs hG hI2 hR3
set_option maxHeartbeats 4000000 in
set_option maxRecDepth 100000 in
theorem lw_c47 {p : Program} {l : Launch} {e : Env} {s : State} {m : MethodId} {args : Array Value} {below : List Frame} {meth : Method} {c : Code} {Q : State → Prop} {Γ : Gm} {A : Nat → Prop} {σ : Mm} {H : Heap} {locs : List Loc} {ls : Array Slot} {b L : Nat} {xs : Nat → Int32} {i : Int} (zC : CallFix p m c cL_law 4 s args tb RL) (hG : GM Γ A σ s H locs) (hI : IC σ) (hR : Rel2 σ σ) (hX : va_X b L xs s s.heap) (hbl : b < s.heap.size) (hbA : ¬ A b) (hL : L ≤ 384) (hi : 0 ≤ i ∧ i + 6 ≤ L) (hl : lv_has ls 4 [(3, .int (zI i)), (2, .ref (aM Γ)), (1, .ref (aL Γ)), (0, .ref b)])
    (kk : ∀ (σ2 : Mm) (H : Heap) (locs : List Loc), GM Γ A σ2 s H locs → IC σ2 → Rel2 σ2 σ2 → W p l e room_1 s m args below meth c H locs 57 1284 Q (F0 m 2015 ls [])) : W p l e room_1 s m args below meth c H locs 57 1284 Q (F0 m 1928 ls []) := by
  refine lv_aload_n zC.1 zC.2.1 dL_law_1928 rfl (lv_at hl 2 rfl) ?_
  refine zr_callV zC hG (c_X4_lower (σ := σ)  hI ) mt_X4_lower wl_L_208 pL rfl rfl ⟨Nat.le_of_ble_eq_true rfl, Nat.le_of_ble_eq_true rfl⟩ rfl hl.1 rfl (Nat.le_of_ble_eq_true rfl) dL_law_1929 ⟨Nat.le_of_ble_eq_true rfl, Nat.le_of_ble_eq_true rfl⟩ (fun H locs hG => ?_)
  have hJ : JC σ σ := j_r hI
  refine lv_aload_n zC.1 zC.2.1 dL_law_1932 rfl (lv_at hl 1 rfl) ?_
  refine zm_callV zC hG (c_X5_lower (τ := σ) (σ := σ)  (rl_f hR hJ.2) hI ) mt_X5_lower wl_L_211 pM rfl rfl ⟨Nat.le_of_ble_eq_true rfl, Nat.le_of_ble_eq_true rfl⟩ rfl hl.1 rfl (Nat.le_of_ble_eq_true rfl) dL_law_1933 ⟨Nat.le_of_ble_eq_true rfl, Nat.le_of_ble_eq_true rfl⟩ (fun σ2 H locs hR2 hC2 hG => ?_)
  refine W.lcmp zC.1 zC.2.1 dL_law_1936 ?_
  rw [lg_same]
  refine lv_if_eq (tgt := 2015) zC.1 zC.2.1 dL_law_1937 (by decide) (fun _ => ?_) (fun cX => absurd rfl cX)
  obtain ⟨hI2, hR3⟩ := nx hI hR2 hC2
  exact kk σ2 H locs hG hI2 hR3
set_option maxHeartbeats 4000000 in
set_option maxRecDepth 100000 in
theorem lw_c48 {p : Program} {l : Launch} {e : Env} {s : State} {m : MethodId} {args : Array Value} {below : List Frame} {meth : Method} {c : Code} {Q : State → Prop} {Γ : Gm} {A : Nat → Prop} {σ : Mm} {H : Heap} {locs : List Loc} {ls : Array Slot} {b L : Nat} {xs : Nat → Int32} {i : Int} (zC : CallFix p m c cL_law 4 s args tb RL) (hG : GM Γ A σ s H locs) (hI : IC σ) (hR : Rel2 σ σ) (hX : va_X b L xs s s.heap) (hbl : b < s.heap.size) (hbA : ¬ A b) (hL : L ≤ 384) (hi : 0 ≤ i ∧ i + 6 ≤ L) (hl : lv_has ls 4 [(3, .int (zI i)), (2, .ref (aM Γ)), (1, .ref (aL Γ)), (0, .ref b)])
    (kk : ∀ (σ2 : Mm) (H : Heap) (locs : List Loc), GM Γ A σ2 s H locs → IC σ2 → Rel2 σ2 σ2 → W p l e room_1 s m args below meth c H locs 57 1284 Q (F0 m 2015 ls [])) : W p l e room_1 s m args below meth c H locs 57 1284 Q (F0 m 1942 ls []) := by
  refine lv_aload_n zC.1 zC.2.1 dL_law_1942 rfl (lv_at hl 2 rfl) ?_
  refine lv_aload_n zC.1 zC.2.1 dL_law_1943 rfl (lv_at hl 3 rfl) ?_
  refine lv_iload_n zC.1 zC.2.1 dL_law_1944 rfl (lv_at hl 0 rfl) ?_
  refine zr_iconst zC dL_law_1945 ?_
  refine zr_iadd zC dL_law_1946 ?_
  refine zl_sld zC hG hX hbl hbA hL (by omega) dL_law_1947 ?_
  refine zr_callV zC hG (c_X4_count (σ := σ) (w := xv xs (i + 1)) hI (xv_r _ _)) mt_X4_count wl_L_212 pL rfl rfl ⟨Nat.le_of_ble_eq_true rfl, Nat.le_of_ble_eq_true rfl⟩ rfl hl.1 rfl (Nat.le_of_ble_eq_true rfl) dL_law_1948 ⟨Nat.le_of_ble_eq_true rfl, Nat.le_of_ble_eq_true rfl⟩ (fun H locs hG => ?_)
  have hJ : JC σ σ := j_r hI
  refine lv_aload_n zC.1 zC.2.1 dL_law_1951 rfl (lv_at hl 1 rfl) ?_
  refine lv_aload_n zC.1 zC.2.1 dL_law_1952 rfl (lv_at hl 3 rfl) ?_
  refine lv_iload_n zC.1 zC.2.1 dL_law_1953 rfl (lv_at hl 0 rfl) ?_
  refine zr_iconst zC dL_law_1954 ?_
  refine zr_iadd zC dL_law_1955 ?_
  refine zl_sld zC hG hX hbl hbA hL (by omega) dL_law_1956 ?_
  refine zm_callV zC hG (c_X5_count (τ := σ) (σ := σ) (w := xv xs (i + 1)) (rl_f hR hJ.2) hI (xv_r _ _)) mt_X5_count wl_L_215 pM rfl rfl ⟨Nat.le_of_ble_eq_true rfl, Nat.le_of_ble_eq_true rfl⟩ rfl hl.1 rfl (Nat.le_of_ble_eq_true rfl) dL_law_1957 ⟨Nat.le_of_ble_eq_true rfl, Nat.le_of_ble_eq_true rfl⟩ (fun σ2 H locs hR2 hC2 hG => ?_)
  refine lv_icmp_eq (tgt := 2015) zC.1 zC.2.1 dL_law_1960 (by decide) (fun _ => ?_) (fun cX => absurd rfl cX)
  obtain ⟨hI2, hR3⟩ := nx hI hR2 hC2
  exact kk σ2 H locs hG hI2 hR3
set_option maxHeartbeats 4000000 in
set_option maxRecDepth 100000 in
theorem lw_c49 {p : Program} {l : Launch} {e : Env} {s : State} {m : MethodId} {args : Array Value} {below : List Frame} {meth : Method} {c : Code} {Q : State → Prop} {Γ : Gm} {A : Nat → Prop} {σ : Mm} {H : Heap} {locs : List Loc} {ls : Array Slot} {b L : Nat} {xs : Nat → Int32} {i : Int} (zC : CallFix p m c cL_law 4 s args tb RL) (hG : GM Γ A σ s H locs) (hI : IC σ) (hR : Rel2 σ σ) (hX : va_X b L xs s s.heap) (hbl : b < s.heap.size) (hbA : ¬ A b) (hL : L ≤ 384) (hi : 0 ≤ i ∧ i + 6 ≤ L) (hl : lv_has ls 4 [(3, .int (zI i)), (2, .ref (aM Γ)), (1, .ref (aL Γ)), (0, .ref b)])
    (kk : ∀ (σ2 : Mm) (H : Heap) (locs : List Loc), GM Γ A σ2 s H locs → IC σ2 → Rel2 σ2 σ2 → W p l e room_1 s m args below meth c H locs 57 1284 Q (F0 m 2015 ls [])) : W p l e room_1 s m args below meth c H locs 57 1284 Q (F0 m 1965 ls []) := by
  refine lv_aload_n zC.1 zC.2.1 dL_law_1965 rfl (lv_at hl 2 rfl) ?_
  refine zr_callV zC hG (c_X4_finding (σ := σ)  hI ) mt_X4_finding wl_L_216 pL rfl rfl ⟨Nat.le_of_ble_eq_true rfl, Nat.le_of_ble_eq_true rfl⟩ rfl hl.1 rfl (Nat.le_of_ble_eq_true rfl) dL_law_1966 ⟨Nat.le_of_ble_eq_true rfl, Nat.le_of_ble_eq_true rfl⟩ (fun H locs hG => ?_)
  have hJ : JC σ σ := j_r hI
  refine lv_aload_n zC.1 zC.2.1 dL_law_1969 rfl (lv_at hl 1 rfl) ?_
  refine zm_callV zC hG (c_X5_finding (τ := σ) (σ := σ)  (rl_f hR hJ.2) hI ) mt_X5_finding wl_L_219 pM rfl rfl ⟨Nat.le_of_ble_eq_true rfl, Nat.le_of_ble_eq_true rfl⟩ rfl hl.1 rfl (Nat.le_of_ble_eq_true rfl) dL_law_1970 ⟨Nat.le_of_ble_eq_true rfl, Nat.le_of_ble_eq_true rfl⟩ (fun σ2 H locs hR2 hC2 hG => ?_)
  refine lv_icmp_eq (tgt := 2015) zC.1 zC.2.1 dL_law_1973 (by decide) (fun _ => ?_) (fun cX => absurd rfl cX)
  obtain ⟨hI2, hR3⟩ := nx hI hR2 hC2
  exact kk σ2 H locs hG hI2 hR3
set_option maxHeartbeats 4000000 in
set_option maxRecDepth 100000 in
theorem lw_c50 {p : Program} {l : Launch} {e : Env} {s : State} {m : MethodId} {args : Array Value} {below : List Frame} {meth : Method} {c : Code} {Q : State → Prop} {Γ : Gm} {A : Nat → Prop} {σ : Mm} {H : Heap} {locs : List Loc} {ls : Array Slot} {b L : Nat} {xs : Nat → Int32} {i : Int} (zC : CallFix p m c cL_law 4 s args tb RL) (hG : GM Γ A σ s H locs) (hI : IC σ) (hR : Rel2 σ σ) (hX : va_X b L xs s s.heap) (hbl : b < s.heap.size) (hbA : ¬ A b) (hL : L ≤ 384) (hi : 0 ≤ i ∧ i + 6 ≤ L) (hl : lv_has ls 4 [(3, .int (zI i)), (2, .ref (aM Γ)), (1, .ref (aL Γ)), (0, .ref b)])
    (kk : ∀ (σ2 : Mm) (H : Heap) (locs : List Loc), GM Γ A σ2 s H locs → IC σ2 → Rel2 σ2 σ2 → W p l e room_1 s m args below meth c H locs 57 1284 Q (F0 m 2015 ls [])) : W p l e room_1 s m args below meth c H locs 57 1284 Q (F0 m 1978 ls []) := by
  refine lv_aload_n zC.1 zC.2.1 dL_law_1978 rfl (lv_at hl 2 rfl) ?_
  refine lv_aload_n zC.1 zC.2.1 dL_law_1979 rfl (lv_at hl 3 rfl) ?_
  refine lv_iload_n zC.1 zC.2.1 dL_law_1980 rfl (lv_at hl 0 rfl) ?_
  refine zr_iconst zC dL_law_1981 ?_
  refine zr_iadd zC dL_law_1982 ?_
  refine zl_sld zC hG hX hbl hbA hL (by omega) dL_law_1983 ?_
  refine zr_callV zC hG (c_X4_findings (σ := σ) (f := xv xs (i + 1)) hI (xv_r _ _)) mt_X4_findings wl_L_220 pL rfl rfl ⟨Nat.le_of_ble_eq_true rfl, Nat.le_of_ble_eq_true rfl⟩ rfl hl.1 rfl (Nat.le_of_ble_eq_true rfl) dL_law_1984 ⟨Nat.le_of_ble_eq_true rfl, Nat.le_of_ble_eq_true rfl⟩ (fun H locs hG => ?_)
  have hJ : JC σ σ := j_r hI
  refine lv_aload_n zC.1 zC.2.1 dL_law_1987 rfl (lv_at hl 1 rfl) ?_
  refine lv_aload_n zC.1 zC.2.1 dL_law_1988 rfl (lv_at hl 3 rfl) ?_
  refine lv_iload_n zC.1 zC.2.1 dL_law_1989 rfl (lv_at hl 0 rfl) ?_
  refine zr_iconst zC dL_law_1990 ?_
  refine zr_iadd zC dL_law_1991 ?_
  refine zl_sld zC hG hX hbl hbA hL (by omega) dL_law_1992 ?_
  refine zm_callV zC hG (c_X5_findings (τ := σ) (σ := σ) (f := xv xs (i + 1)) (rl_f hR hJ.2) hI (xv_r _ _)) mt_X5_findings wl_L_223 pM rfl rfl ⟨Nat.le_of_ble_eq_true rfl, Nat.le_of_ble_eq_true rfl⟩ rfl hl.1 rfl (Nat.le_of_ble_eq_true rfl) dL_law_1993 ⟨Nat.le_of_ble_eq_true rfl, Nat.le_of_ble_eq_true rfl⟩ (fun σ2 H locs hR2 hC2 hG => ?_)
  refine lv_icmp_eq (tgt := 2015) zC.1 zC.2.1 dL_law_1996 (by decide) (fun _ => ?_) (fun cX => absurd rfl cX)
  obtain ⟨hI2, hR3⟩ := nx hI hR2 hC2
  exact kk σ2 H locs hG hI2 hR3
set_option maxHeartbeats 4000000 in
set_option maxRecDepth 100000 in
theorem lw_c51 {p : Program} {l : Launch} {e : Env} {s : State} {m : MethodId} {args : Array Value} {below : List Frame} {meth : Method} {c : Code} {Q : State → Prop} {Γ : Gm} {A : Nat → Prop} {σ : Mm} {H : Heap} {locs : List Loc} {ls : Array Slot} {b L : Nat} {xs : Nat → Int32} {i : Int} (zC : CallFix p m c cL_law 4 s args tb RL) (hG : GM Γ A σ s H locs) (hI : IC σ) (hR : Rel2 σ σ) (hX : va_X b L xs s s.heap) (hbl : b < s.heap.size) (hbA : ¬ A b) (hL : L ≤ 384) (hi : 0 ≤ i ∧ i + 6 ≤ L) (hl : lv_has ls 4 [(3, .int (zI i)), (2, .ref (aM Γ)), (1, .ref (aL Γ)), (0, .ref b)])
    (kk : ∀ (σ2 : Mm) (H : Heap) (locs : List Loc), GM Γ A σ2 s H locs → IC σ2 → Rel2 σ2 σ2 → W p l e room_1 s m args below meth c H locs 57 1284 Q (F0 m 2015 ls [])) : W p l e room_1 s m args below meth c H locs 57 1284 Q (F0 m 2001 ls []) := by
  refine lv_aload_n zC.1 zC.2.1 dL_law_2001 rfl (lv_at hl 2 rfl) ?_
  refine zr_callV zC hG (c_X4_digest (σ := σ)  hI ) mt_X4_digest wl_L_224 pL rfl rfl ⟨Nat.le_of_ble_eq_true rfl, Nat.le_of_ble_eq_true rfl⟩ rfl hl.1 rfl (Nat.le_of_ble_eq_true rfl) dL_law_2002 ⟨Nat.le_of_ble_eq_true rfl, Nat.le_of_ble_eq_true rfl⟩ (fun H locs hG => ?_)
  have hJ : JC σ σ := j_r hI
  refine lv_aload_n zC.1 zC.2.1 dL_law_2005 rfl (lv_at hl 1 rfl) ?_
  refine zm_callV zC hG (c_X5_digest (τ := σ) (σ := σ)  (rl_f hR hJ.2) hI ) mt_X5_digest wl_L_227 pM rfl rfl ⟨Nat.le_of_ble_eq_true rfl, Nat.le_of_ble_eq_true rfl⟩ rfl hl.1 rfl (Nat.le_of_ble_eq_true rfl) dL_law_2006 ⟨Nat.le_of_ble_eq_true rfl, Nat.le_of_ble_eq_true rfl⟩ (fun σ2 H locs hR2 hC2 hG => ?_)
  refine W.lcmp zC.1 zC.2.1 dL_law_2009 ?_
  rw [lg_same]
  refine lv_if_eq (tgt := 2015) zC.1 zC.2.1 dL_law_2010 (by decide) (fun _ => ?_) (fun cX => absurd rfl cX)
  obtain ⟨hI2, hR3⟩ := nx hI hR2 hC2
  exact kk σ2 H locs hG hI2 hR3
