set_option maxHeartbeats 400000 in
set_option maxRecDepth 100000 in
/-- marked -/
theorem lw_case_5 (ow : Owed4) {p : Program} {l : Launch} {e : Env} {s : State} {m : MethodId} {below : List Frame} {meth : Method} {c : Code} {D : va_G} {q1 q2 : Nat → Nat} {k1 : kK} {k2 : kM} {cI cJ : ClassId} {b L : Nat} {xs : Nat → Int32} (C0 : lw_At p s m meth c b L xs) (hK : va_K D cl0 [(cI, .int), (cJ, .long)] s) (x3 : Int32) (i1 : vp_in (x3 + 1) L) (i2 : vp_in (x3 + 2) L) (i3 : vp_in (x3 + 3) L) (i4 : vp_in (x3 + 4) L) (σ1 : sK) (σ2 : sM) (hRel : Rel k1 σ1 k2 σ2) (H : Heap) (locs : List Loc) (ls : Array Slot) (hP : va_P D cl0 (wdK q1 k1 cI cJ σ1 ++ wdM q2 k2 cI cJ σ2) H) (hD : va_D (fun z : Nat => s.heap.size ≤ z) (wdK q1 k1 cI cJ σ1 ++ wdM q2 k2 cI cJ σ2)) (hS : va_S (fun z : Nat => s.heap.size ≤ z) s.heap H locs) (hl : lv_has ls 4 [(0, .ref b), (1, .ref (q1 0)), (2, .ref (q2 0)), (3, .int x3)])
    (kk : ∀ (t1 : sK) (t2 : sM) (H : Heap) (locs : List Loc), Rel k1 t1 k2 t2 → va_P D cl0 (wdK q1 k1 cI cJ t1 ++ wdM q2 k2 cI cJ t2) H → va_D (fun z : Nat => s.heap.size ≤ z) (wdK q1 k1 cI cJ t1 ++ wdM q2 k2 cI cJ t2) → va_S (fun z : Nat => s.heap.size ≤ z) s.heap H locs → W p l e room_1 s m #[Value.ref b] below meth c H locs 25 1195 (lw_Z below #[Value.ref b] s) (F0 m 895 ls [])) : W p l e room_1 s m #[Value.ref b] below meth c H locs 25 1195 (lw_Z below #[Value.ref b] s) (F0 m 304 ls []) := by
  obtain ⟨hx, hb, hr, hml, hown, hts, hX, hbl, hlocks, hgv⟩ := id C0
  have hA : ∀ z : Nat, s.heap.size ≤ z → (fun z : Nat => s.heap.size ≤ z) z := fun _ h => h
  have hbA : ¬ (fun z : Nat => s.heap.size ≤ z) b := Nat.not_le.mpr hbl
  obtain ⟨r, e1, e2⟩ := rl_marked (fu := 200) hRel (Nat.le_refl 200) ((xs (x3 + 1).toNatClampNeg))
  refine lv_aload_n hx hb dL_304 rfl (lv_at hl 1 rfl) ?_
  refine lv_aload_n hx hb dL_305 rfl (lv_at hl 0 rfl) ?_
  refine lv_iload_n hx hb dL_306 rfl (lv_at hl 3 rfl) ?_
  refine lv_iconst (v := 1) hx hb dL_307 (by decide) ?_
  refine lv_iadd hx hb dL_308 ?_
  refine va_sld hx hb hX hbl hbA hS i1 dL_309 ?_
  refine lr_Li (wd := wdK q1 k1 cI cJ) (wo := wdM q2 k2 cI cJ σ2) (σ := σ1) (σ' := σ1) (av := [.int (xs (x3 + 1).toNatClampNeg)]) ⟨hx, hb, hml, hown, hts⟩ (mK_marked l D q1 k1 cI cJ _ σ1 ((xs (x3 + 1).toNatClampNeg)) r e1) (cwV 1 hts (kgood_L TK_good TK_in (List.mem_of_getElem? (i := 209) (by decide +kernel)) (by decide +kernel)) rfl rfl rfl (by decide +kernel) ⟨Nat.le_of_ble_eq_true rfl, Nat.le_of_ble_eq_true rfl⟩) hK hP hD hS hA (ci := 0) (q0 := 0) rfl rfl rfl hl.1 rfl (Nat.le_of_ble_eq_true rfl) dL_310 ⟨Nat.le_of_ble_eq_true rfl, Nat.le_of_ble_eq_true rfl⟩ (fun H locs hP hD hS => ?_)
  refine lv_aload_n hx hb dL_313 rfl (lv_at hl 2 rfl) ?_
  refine lv_aload_n hx hb dL_314 rfl (lv_at hl 0 rfl) ?_
  refine lv_iload_n hx hb dL_315 rfl (lv_at hl 3 rfl) ?_
  refine lv_iconst (v := 1) hx hb dL_316 (by decide) ?_
  refine lv_iadd hx hb dL_317 ?_
  refine va_sld hx hb hX hbl hbA hS i1 dL_318 ?_
  refine lr_Ri (wd := wdM q2 k2 cI cJ) (wo := wdK q1 k1 cI cJ σ1) (σ := σ2) (σ' := σ2) (av := [.int (xs (x3 + 1).toNatClampNeg)]) ⟨hx, hb, hml, hown, hts⟩ (mM_marked l D q2 k2 cI cJ _ 200 σ2 ((xs (x3 + 1).toNatClampNeg)) r e2) (cwV 1 hts (kgood_L TM_good TM_in (List.mem_of_getElem? (i := 448) (by decide +kernel)) (by decide +kernel)) rfl rfl rfl (by decide +kernel) ⟨Nat.le_of_ble_eq_true rfl, Nat.le_of_ble_eq_true rfl⟩) hK hP hD hS hA (ci := 1) (q0 := 0) rfl rfl rfl hl.1 rfl (Nat.le_of_ble_eq_true rfl) dL_319 ⟨Nat.le_of_ble_eq_true rfl, Nat.le_of_ble_eq_true rfl⟩ (fun H locs hP hD hS => ?_)
  refine lv_icmp_eq (tgt := 895) hx hb dL_322 (by decide) (fun _ => ?_) (fun q => absurd rfl q)
  exact kk σ1 σ2 H locs hRel hP hD hS
set_option maxHeartbeats 400000 in
set_option maxRecDepth 100000 in
/-- joined -/
theorem lw_case_6 (ow : Owed4) {p : Program} {l : Launch} {e : Env} {s : State} {m : MethodId} {below : List Frame} {meth : Method} {c : Code} {D : va_G} {q1 q2 : Nat → Nat} {k1 : kK} {k2 : kM} {cI cJ : ClassId} {b L : Nat} {xs : Nat → Int32} (C0 : lw_At p s m meth c b L xs) (hK : va_K D cl0 [(cI, .int), (cJ, .long)] s) (x3 : Int32) (i1 : vp_in (x3 + 1) L) (i2 : vp_in (x3 + 2) L) (i3 : vp_in (x3 + 3) L) (i4 : vp_in (x3 + 4) L) (σ1 : sK) (σ2 : sM) (hRel : Rel k1 σ1 k2 σ2) (H : Heap) (locs : List Loc) (ls : Array Slot) (hP : va_P D cl0 (wdK q1 k1 cI cJ σ1 ++ wdM q2 k2 cI cJ σ2) H) (hD : va_D (fun z : Nat => s.heap.size ≤ z) (wdK q1 k1 cI cJ σ1 ++ wdM q2 k2 cI cJ σ2)) (hS : va_S (fun z : Nat => s.heap.size ≤ z) s.heap H locs) (hl : lv_has ls 4 [(0, .ref b), (1, .ref (q1 0)), (2, .ref (q2 0)), (3, .int x3)])
    (kk : ∀ (t1 : sK) (t2 : sM) (H : Heap) (locs : List Loc), Rel k1 t1 k2 t2 → va_P D cl0 (wdK q1 k1 cI cJ t1 ++ wdM q2 k2 cI cJ t2) H → va_D (fun z : Nat => s.heap.size ≤ z) (wdK q1 k1 cI cJ t1 ++ wdM q2 k2 cI cJ t2) → va_S (fun z : Nat => s.heap.size ≤ z) s.heap H locs → W p l e room_1 s m #[Value.ref b] below meth c H locs 25 1195 (lw_Z below #[Value.ref b] s) (F0 m 895 ls [])) : W p l e room_1 s m #[Value.ref b] below meth c H locs 25 1195 (lw_Z below #[Value.ref b] s) (F0 m 327 ls []) := by
  obtain ⟨hx, hb, hr, hml, hown, hts, hX, hbl, hlocks, hgv⟩ := id C0
  have hA : ∀ z : Nat, s.heap.size ≤ z → (fun z : Nat => s.heap.size ≤ z) z := fun _ h => h
  have hbA : ¬ (fun z : Nat => s.heap.size ≤ z) b := Nat.not_le.mpr hbl
  obtain ⟨r, s1, s2, e1, e2, hRel⟩ := rl_joined (fu := 200) hRel (Nat.le_refl 200) ((xs (x3 + 1).toNatClampNeg)) ((xs (x3 + 2).toNatClampNeg))
  refine lv_aload_n hx hb dL_327 rfl (lv_at hl 1 rfl) ?_
  refine lv_aload_n hx hb dL_328 rfl (lv_at hl 0 rfl) ?_
  refine lv_iload_n hx hb dL_329 rfl (lv_at hl 3 rfl) ?_
  refine lv_iconst (v := 1) hx hb dL_330 (by decide) ?_
  refine lv_iadd hx hb dL_331 ?_
  refine va_sld hx hb hX hbl hbA hS i1 dL_332 ?_
  refine lv_aload_n hx hb dL_333 rfl (lv_at hl 0 rfl) ?_
  refine lv_iload_n hx hb dL_334 rfl (lv_at hl 3 rfl) ?_
  refine lv_iconst (v := 2) hx hb dL_335 (by decide) ?_
  refine lv_iadd hx hb dL_336 ?_
  refine va_sld hx hb hX hbl hbA hS i2 dL_337 ?_
  refine lr_Li (wd := wdK q1 k1 cI cJ) (wo := wdM q2 k2 cI cJ σ2) (σ := σ1) (σ' := s1) (av := [.int (xs (x3 + 1).toNatClampNeg), .int (xs (x3 + 2).toNatClampNeg)]) ⟨hx, hb, hml, hown, hts⟩ (mK_joined l D q1 k1 cI cJ _ 200 σ1 s1 ((xs (x3 + 1).toNatClampNeg)) ((xs (x3 + 2).toNatClampNeg)) r e1) (cwV 2 hts (kgood_L TK_good TK_in (List.mem_of_getElem? (i := 213) (by decide +kernel)) (by decide +kernel)) rfl rfl rfl (by decide +kernel) ⟨Nat.le_of_ble_eq_true rfl, Nat.le_of_ble_eq_true rfl⟩) hK hP hD hS hA (ci := 0) (q0 := 0) rfl rfl rfl hl.1 rfl (Nat.le_of_ble_eq_true rfl) dL_338 ⟨Nat.le_of_ble_eq_true rfl, Nat.le_of_ble_eq_true rfl⟩ (fun H locs hP hD hS => ?_)
  refine lv_aload_n hx hb dL_341 rfl (lv_at hl 2 rfl) ?_
  refine lv_aload_n hx hb dL_342 rfl (lv_at hl 0 rfl) ?_
  refine lv_iload_n hx hb dL_343 rfl (lv_at hl 3 rfl) ?_
  refine lv_iconst (v := 1) hx hb dL_344 (by decide) ?_
  refine lv_iadd hx hb dL_345 ?_
  refine va_sld hx hb hX hbl hbA hS i1 dL_346 ?_
  refine lv_aload_n hx hb dL_347 rfl (lv_at hl 0 rfl) ?_
  refine lv_iload_n hx hb dL_348 rfl (lv_at hl 3 rfl) ?_
  refine lv_iconst (v := 2) hx hb dL_349 (by decide) ?_
  refine lv_iadd hx hb dL_350 ?_
  refine va_sld hx hb hX hbl hbA hS i2 dL_351 ?_
  refine lr_Ri (wd := wdM q2 k2 cI cJ) (wo := wdK q1 k1 cI cJ s1) (σ := σ2) (σ' := s2) (av := [.int (xs (x3 + 1).toNatClampNeg), .int (xs (x3 + 2).toNatClampNeg)]) ⟨hx, hb, hml, hown, hts⟩ (mM_joined l D q2 k2 cI cJ _ 200 σ2 s2 ((xs (x3 + 1).toNatClampNeg)) ((xs (x3 + 2).toNatClampNeg)) r e2) (cwV 2 hts (kgood_L TM_good TM_in (List.mem_of_getElem? (i := 452) (by decide +kernel)) (by decide +kernel)) rfl rfl rfl (by decide +kernel) ⟨Nat.le_of_ble_eq_true rfl, Nat.le_of_ble_eq_true rfl⟩) hK hP hD hS hA (ci := 1) (q0 := 0) rfl rfl rfl hl.1 rfl (Nat.le_of_ble_eq_true rfl) dL_352 ⟨Nat.le_of_ble_eq_true rfl, Nat.le_of_ble_eq_true rfl⟩ (fun H locs hP hD hS => ?_)
  refine lv_icmp_eq (tgt := 895) hx hb dL_355 (by decide) (fun _ => ?_) (fun q => absurd rfl q)
  exact kk s1 s2 H locs hRel hP hD hS
set_option maxHeartbeats 400000 in
set_option maxRecDepth 100000 in
/-- sample -/
theorem lw_case_7 (ow : Owed4) {p : Program} {l : Launch} {e : Env} {s : State} {m : MethodId} {below : List Frame} {meth : Method} {c : Code} {D : va_G} {q1 q2 : Nat → Nat} {k1 : kK} {k2 : kM} {cI cJ : ClassId} {b L : Nat} {xs : Nat → Int32} (C0 : lw_At p s m meth c b L xs) (hK : va_K D cl0 [(cI, .int), (cJ, .long)] s) (x3 : Int32) (i1 : vp_in (x3 + 1) L) (i2 : vp_in (x3 + 2) L) (i3 : vp_in (x3 + 3) L) (i4 : vp_in (x3 + 4) L) (σ1 : sK) (σ2 : sM) (hRel : Rel k1 σ1 k2 σ2) (H : Heap) (locs : List Loc) (ls : Array Slot) (hP : va_P D cl0 (wdK q1 k1 cI cJ σ1 ++ wdM q2 k2 cI cJ σ2) H) (hD : va_D (fun z : Nat => s.heap.size ≤ z) (wdK q1 k1 cI cJ σ1 ++ wdM q2 k2 cI cJ σ2)) (hS : va_S (fun z : Nat => s.heap.size ≤ z) s.heap H locs) (hl : lv_has ls 4 [(0, .ref b), (1, .ref (q1 0)), (2, .ref (q2 0)), (3, .int x3)])
    (kk : ∀ (t1 : sK) (t2 : sM) (H : Heap) (locs : List Loc), Rel k1 t1 k2 t2 → va_P D cl0 (wdK q1 k1 cI cJ t1 ++ wdM q2 k2 cI cJ t2) H → va_D (fun z : Nat => s.heap.size ≤ z) (wdK q1 k1 cI cJ t1 ++ wdM q2 k2 cI cJ t2) → va_S (fun z : Nat => s.heap.size ≤ z) s.heap H locs → W p l e room_1 s m #[Value.ref b] below meth c H locs 25 1195 (lw_Z below #[Value.ref b] s) (F0 m 895 ls [])) : W p l e room_1 s m #[Value.ref b] below meth c H locs 25 1195 (lw_Z below #[Value.ref b] s) (F0 m 360 ls []) := by
  obtain ⟨hx, hb, hr, hml, hown, hts, hX, hbl, hlocks, hgv⟩ := id C0
  have hA : ∀ z : Nat, s.heap.size ≤ z → (fun z : Nat => s.heap.size ≤ z) z := fun _ h => h
  have hbA : ¬ (fun z : Nat => s.heap.size ≤ z) b := Nat.not_le.mpr hbl
  obtain ⟨r, s1, s2, e1, e2, hRel⟩ := rl_sample (fu := 200) hRel (Nat.le_refl 200) ((xs (x3 + 1).toNatClampNeg)) (((((xs (x3 + 2).toNatClampNeg)).toInt64 <<< ((32 : Int32).toInt64 &&& 63)) ||| (((xs (x3 + 3).toNatClampNeg)).toInt64 &&& 4294967295)))
  refine lv_aload_n hx hb dL_360 rfl (lv_at hl 1 rfl) ?_
  refine lv_aload_n hx hb dL_361 rfl (lv_at hl 0 rfl) ?_
  refine lv_iload_n hx hb dL_362 rfl (lv_at hl 3 rfl) ?_
  refine lv_iconst (v := 1) hx hb dL_363 (by decide) ?_
  refine lv_iadd hx hb dL_364 ?_
  refine va_sld hx hb hX hbl hbA hS i1 dL_365 ?_
  refine lv_aload_n hx hb dL_366 rfl (lv_at hl 0 rfl) ?_
  refine lv_iload_n hx hb dL_367 rfl (lv_at hl 3 rfl) ?_
  refine lv_iconst (v := 2) hx hb dL_368 (by decide) ?_
  refine lv_iadd hx hb dL_369 ?_
  refine va_sld hx hb hX hbl hbA hS i2 dL_370 ?_
  refine lv_i2l (v := ((xs (x3 + 2).toNatClampNeg)).toInt64) hx hb dL_371 rfl ?_
  refine lv_bipush (v := 32) hx hb dL_372 (by decide) ?_
  refine lv_lshl (v := (((xs (x3 + 2).toNatClampNeg)).toInt64 <<< ((32 : Int32).toInt64 &&& 63))) hx hb dL_374 rfl ?_
  refine lv_aload_n hx hb dL_375 rfl (lv_at hl 0 rfl) ?_
  refine lv_iload_n hx hb dL_376 rfl (lv_at hl 3 rfl) ?_
  refine lv_iconst (v := 3) hx hb dL_377 (by decide) ?_
  refine lv_iadd hx hb dL_378 ?_
  refine va_sld hx hb hX hbl hbA hS i3 dL_379 ?_
  refine lv_i2l (v := ((xs (x3 + 3).toNatClampNeg)).toInt64) hx hb dL_380 rfl ?_
  refine lv_ldc2 (v := 4294967295) hx hb hown (hts (.constantLong R_law 54 4294967295) (List.mem_of_getElem? (i := 544) (by decide +kernel))) dL_381 ?_
  refine lv_land hx hb dL_384 ?_
  refine lv_lor hx hb dL_385 ?_
  refine lr_Li (wd := wdK q1 k1 cI cJ) (wo := wdM q2 k2 cI cJ σ2) (σ := σ1) (σ' := s1) (av := [.int (xs (x3 + 1).toNatClampNeg), .long ((((xs (x3 + 2).toNatClampNeg)).toInt64 <<< ((32 : Int32).toInt64 &&& 63)) ||| (((xs (x3 + 3).toNatClampNeg)).toInt64 &&& 4294967295))]) ⟨hx, hb, hml, hown, hts⟩ (mK_sample l D q1 k1 cI cJ _ σ1 s1 ((xs (x3 + 1).toNatClampNeg)) (((((xs (x3 + 2).toNatClampNeg)).toInt64 <<< ((32 : Int32).toInt64 &&& 63)) ||| (((xs (x3 + 3).toNatClampNeg)).toInt64 &&& 4294967295))) r e1) (cwV 2 hts (kgood_L TK_good TK_in (List.mem_of_getElem? (i := 229) (by decide +kernel)) (by decide +kernel)) rfl rfl rfl (by decide +kernel) ⟨Nat.le_of_ble_eq_true rfl, Nat.le_of_ble_eq_true rfl⟩) hK hP hD hS hA (ci := 0) (q0 := 0) rfl rfl rfl hl.1 rfl (Nat.le_of_ble_eq_true rfl) dL_386 ⟨Nat.le_of_ble_eq_true rfl, Nat.le_of_ble_eq_true rfl⟩ (fun H locs hP hD hS => ?_)
  refine lv_aload_n hx hb dL_389 rfl (lv_at hl 2 rfl) ?_
  refine lv_aload_n hx hb dL_390 rfl (lv_at hl 0 rfl) ?_
  refine lv_iload_n hx hb dL_391 rfl (lv_at hl 3 rfl) ?_
  refine lv_iconst (v := 1) hx hb dL_392 (by decide) ?_
  refine lv_iadd hx hb dL_393 ?_
  refine va_sld hx hb hX hbl hbA hS i1 dL_394 ?_
  refine lv_aload_n hx hb dL_395 rfl (lv_at hl 0 rfl) ?_
  refine lv_iload_n hx hb dL_396 rfl (lv_at hl 3 rfl) ?_
  refine lv_iconst (v := 2) hx hb dL_397 (by decide) ?_
  refine lv_iadd hx hb dL_398 ?_
  refine va_sld hx hb hX hbl hbA hS i2 dL_399 ?_
  refine lv_i2l (v := ((xs (x3 + 2).toNatClampNeg)).toInt64) hx hb dL_400 rfl ?_
  refine lv_bipush (v := 32) hx hb dL_401 (by decide) ?_
  refine lv_lshl (v := (((xs (x3 + 2).toNatClampNeg)).toInt64 <<< ((32 : Int32).toInt64 &&& 63))) hx hb dL_403 rfl ?_
  refine lv_aload_n hx hb dL_404 rfl (lv_at hl 0 rfl) ?_
  refine lv_iload_n hx hb dL_405 rfl (lv_at hl 3 rfl) ?_
  refine lv_iconst (v := 3) hx hb dL_406 (by decide) ?_
  refine lv_iadd hx hb dL_407 ?_
  refine va_sld hx hb hX hbl hbA hS i3 dL_408 ?_
  refine lv_i2l (v := ((xs (x3 + 3).toNatClampNeg)).toInt64) hx hb dL_409 rfl ?_
  refine lv_ldc2 (v := 4294967295) hx hb hown (hts (.constantLong R_law 54 4294967295) (List.mem_of_getElem? (i := 544) (by decide +kernel))) dL_410 ?_
  refine lv_land hx hb dL_413 ?_
  refine lv_lor hx hb dL_414 ?_
  refine lr_Ri (wd := wdM q2 k2 cI cJ) (wo := wdK q1 k1 cI cJ s1) (σ := σ2) (σ' := s2) (av := [.int (xs (x3 + 1).toNatClampNeg), .long ((((xs (x3 + 2).toNatClampNeg)).toInt64 <<< ((32 : Int32).toInt64 &&& 63)) ||| (((xs (x3 + 3).toNatClampNeg)).toInt64 &&& 4294967295))]) ⟨hx, hb, hml, hown, hts⟩ (mM_sample l D q2 k2 cI cJ _ 200 σ2 s2 ((xs (x3 + 1).toNatClampNeg)) (((((xs (x3 + 2).toNatClampNeg)).toInt64 <<< ((32 : Int32).toInt64 &&& 63)) ||| (((xs (x3 + 3).toNatClampNeg)).toInt64 &&& 4294967295))) r e2) (cwV 2 hts (kgood_L TM_good TM_in (List.mem_of_getElem? (i := 460) (by decide +kernel)) (by decide +kernel)) rfl rfl rfl (by decide +kernel) ⟨Nat.le_of_ble_eq_true rfl, Nat.le_of_ble_eq_true rfl⟩) hK hP hD hS hA (ci := 1) (q0 := 0) rfl rfl rfl hl.1 rfl (Nat.le_of_ble_eq_true rfl) dL_415 ⟨Nat.le_of_ble_eq_true rfl, Nat.le_of_ble_eq_true rfl⟩ (fun H locs hP hD hS => ?_)
  refine lv_icmp_eq (tgt := 895) hx hb dL_418 (by decide) (fun _ => ?_) (fun q => absurd rfl q)
  exact kk s1 s2 H locs hRel hP hD hS
set_option maxHeartbeats 400000 in
set_option maxRecDepth 100000 in
/-- raised -/
theorem lw_case_8 (ow : Owed4) {p : Program} {l : Launch} {e : Env} {s : State} {m : MethodId} {below : List Frame} {meth : Method} {c : Code} {D : va_G} {q1 q2 : Nat → Nat} {k1 : kK} {k2 : kM} {cI cJ : ClassId} {b L : Nat} {xs : Nat → Int32} (C0 : lw_At p s m meth c b L xs) (hK : va_K D cl0 [(cI, .int), (cJ, .long)] s) (x3 : Int32) (i1 : vp_in (x3 + 1) L) (i2 : vp_in (x3 + 2) L) (i3 : vp_in (x3 + 3) L) (i4 : vp_in (x3 + 4) L) (σ1 : sK) (σ2 : sM) (hRel : Rel k1 σ1 k2 σ2) (H : Heap) (locs : List Loc) (ls : Array Slot) (hP : va_P D cl0 (wdK q1 k1 cI cJ σ1 ++ wdM q2 k2 cI cJ σ2) H) (hD : va_D (fun z : Nat => s.heap.size ≤ z) (wdK q1 k1 cI cJ σ1 ++ wdM q2 k2 cI cJ σ2)) (hS : va_S (fun z : Nat => s.heap.size ≤ z) s.heap H locs) (hl : lv_has ls 4 [(0, .ref b), (1, .ref (q1 0)), (2, .ref (q2 0)), (3, .int x3)])
    (kk : ∀ (t1 : sK) (t2 : sM) (H : Heap) (locs : List Loc), Rel k1 t1 k2 t2 → va_P D cl0 (wdK q1 k1 cI cJ t1 ++ wdM q2 k2 cI cJ t2) H → va_D (fun z : Nat => s.heap.size ≤ z) (wdK q1 k1 cI cJ t1 ++ wdM q2 k2 cI cJ t2) → va_S (fun z : Nat => s.heap.size ≤ z) s.heap H locs → W p l e room_1 s m #[Value.ref b] below meth c H locs 25 1195 (lw_Z below #[Value.ref b] s) (F0 m 895 ls [])) : W p l e room_1 s m #[Value.ref b] below meth c H locs 25 1195 (lw_Z below #[Value.ref b] s) (F0 m 423 ls []) := by
  obtain ⟨hx, hb, hr, hml, hown, hts, hX, hbl, hlocks, hgv⟩ := id C0
  have hA : ∀ z : Nat, s.heap.size ≤ z → (fun z : Nat => s.heap.size ≤ z) z := fun _ h => h
  have hbA : ¬ (fun z : Nat => s.heap.size ≤ z) b := Nat.not_le.mpr hbl
  obtain ⟨r, s2, e1, e2, hRel⟩ := rl_raised (fu := 200) hRel (Nat.le_refl 200) (((((xs (x3 + 1).toNatClampNeg)).toInt64 <<< ((32 : Int32).toInt64 &&& 63)) ||| (((xs (x3 + 2).toNatClampNeg)).toInt64 &&& 4294967295))) ((xs (x3 + 3).toNatClampNeg)) ((xs (x3 + 4).toNatClampNeg))
  refine lv_aload_n hx hb dL_423 rfl (lv_at hl 1 rfl) ?_
  refine lv_aload_n hx hb dL_424 rfl (lv_at hl 0 rfl) ?_
  refine lv_iload_n hx hb dL_425 rfl (lv_at hl 3 rfl) ?_
  refine lv_iconst (v := 1) hx hb dL_426 (by decide) ?_
  refine lv_iadd hx hb dL_427 ?_
  refine va_sld hx hb hX hbl hbA hS i1 dL_428 ?_
  refine lv_i2l (v := ((xs (x3 + 1).toNatClampNeg)).toInt64) hx hb dL_429 rfl ?_
  refine lv_bipush (v := 32) hx hb dL_430 (by decide) ?_
  refine lv_lshl (v := (((xs (x3 + 1).toNatClampNeg)).toInt64 <<< ((32 : Int32).toInt64 &&& 63))) hx hb dL_432 rfl ?_
  refine lv_aload_n hx hb dL_433 rfl (lv_at hl 0 rfl) ?_
  refine lv_iload_n hx hb dL_434 rfl (lv_at hl 3 rfl) ?_
  refine lv_iconst (v := 2) hx hb dL_435 (by decide) ?_
  refine lv_iadd hx hb dL_436 ?_
  refine va_sld hx hb hX hbl hbA hS i2 dL_437 ?_
  refine lv_i2l (v := ((xs (x3 + 2).toNatClampNeg)).toInt64) hx hb dL_438 rfl ?_
  refine lv_ldc2 (v := 4294967295) hx hb hown (hts (.constantLong R_law 54 4294967295) (List.mem_of_getElem? (i := 544) (by decide +kernel))) dL_439 ?_
  refine lv_land hx hb dL_442 ?_
  refine lv_lor hx hb dL_443 ?_
  refine lv_aload_n hx hb dL_444 rfl (lv_at hl 0 rfl) ?_
  refine lv_iload_n hx hb dL_445 rfl (lv_at hl 3 rfl) ?_
  refine lv_iconst (v := 3) hx hb dL_446 (by decide) ?_
  refine lv_iadd hx hb dL_447 ?_
  refine va_sld hx hb hX hbl hbA hS i3 dL_448 ?_
  refine lv_aload_n hx hb dL_449 rfl (lv_at hl 0 rfl) ?_
  refine lv_iload_n hx hb dL_450 rfl (lv_at hl 3 rfl) ?_
  refine lv_iconst (v := 4) hx hb dL_451 (by decide) ?_
  refine lv_iadd hx hb dL_452 ?_
  refine va_sld hx hb hX hbl hbA hS i4 dL_453 ?_
  refine lr_Ll (wd := wdK q1 k1 cI cJ) (wo := wdM q2 k2 cI cJ σ2) (σ := σ1) (σ' := σ1) (av := [.long ((((xs (x3 + 1).toNatClampNeg)).toInt64 <<< ((32 : Int32).toInt64 &&& 63)) ||| (((xs (x3 + 2).toNatClampNeg)).toInt64 &&& 4294967295)), .int (xs (x3 + 3).toNatClampNeg), .int (xs (x3 + 4).toNatClampNeg)]) ⟨hx, hb, hml, hown, hts⟩ (mK_raised l D q1 k1 cI cJ _ 200 σ1 (((((xs (x3 + 1).toNatClampNeg)).toInt64 <<< ((32 : Int32).toInt64 &&& 63)) ||| (((xs (x3 + 2).toNatClampNeg)).toInt64 &&& 4294967295))) ((xs (x3 + 3).toNatClampNeg)) ((xs (x3 + 4).toNatClampNeg)) r e1) (cwV 3 hts (kgood_L TK_good TK_in (List.mem_of_getElem? (i := 234) (by decide +kernel)) (by decide +kernel)) rfl rfl rfl (by decide +kernel) ⟨Nat.le_of_ble_eq_true rfl, Nat.le_of_ble_eq_true rfl⟩) hK hP hD hS hA (ci := 0) (q0 := 0) rfl rfl rfl hl.1 rfl (Nat.le_of_ble_eq_true rfl) dL_454 ⟨Nat.le_of_ble_eq_true rfl, Nat.le_of_ble_eq_true rfl⟩ (fun H locs hP hD hS => ?_)
  refine lv_aload_n hx hb dL_457 rfl (lv_at hl 2 rfl) ?_
  refine lv_aload_n hx hb dL_458 rfl (lv_at hl 0 rfl) ?_
  refine lv_iload_n hx hb dL_459 rfl (lv_at hl 3 rfl) ?_
  refine lv_iconst (v := 1) hx hb dL_460 (by decide) ?_
  refine lv_iadd hx hb dL_461 ?_
  refine va_sld hx hb hX hbl hbA hS i1 dL_462 ?_
  refine lv_i2l (v := ((xs (x3 + 1).toNatClampNeg)).toInt64) hx hb dL_463 rfl ?_
  refine lv_bipush (v := 32) hx hb dL_464 (by decide) ?_
  refine lv_lshl (v := (((xs (x3 + 1).toNatClampNeg)).toInt64 <<< ((32 : Int32).toInt64 &&& 63))) hx hb dL_466 rfl ?_
  refine lv_aload_n hx hb dL_467 rfl (lv_at hl 0 rfl) ?_
  refine lv_iload_n hx hb dL_468 rfl (lv_at hl 3 rfl) ?_
  refine lv_iconst (v := 2) hx hb dL_469 (by decide) ?_
  refine lv_iadd hx hb dL_470 ?_
  refine va_sld hx hb hX hbl hbA hS i2 dL_471 ?_
  refine lv_i2l (v := ((xs (x3 + 2).toNatClampNeg)).toInt64) hx hb dL_472 rfl ?_
  refine lv_ldc2 (v := 4294967295) hx hb hown (hts (.constantLong R_law 54 4294967295) (List.mem_of_getElem? (i := 544) (by decide +kernel))) dL_473 ?_
  refine lv_land hx hb dL_476 ?_
  refine lv_lor hx hb dL_477 ?_
  refine lv_aload_n hx hb dL_478 rfl (lv_at hl 0 rfl) ?_
  refine lv_iload_n hx hb dL_479 rfl (lv_at hl 3 rfl) ?_
  refine lv_iconst (v := 3) hx hb dL_480 (by decide) ?_
  refine lv_iadd hx hb dL_481 ?_
  refine va_sld hx hb hX hbl hbA hS i3 dL_482 ?_
  refine lv_aload_n hx hb dL_483 rfl (lv_at hl 0 rfl) ?_
  refine lv_iload_n hx hb dL_484 rfl (lv_at hl 3 rfl) ?_
  refine lv_iconst (v := 4) hx hb dL_485 (by decide) ?_
  refine lv_iadd hx hb dL_486 ?_
  refine va_sld hx hb hX hbl hbA hS i4 dL_487 ?_
  refine lr_Rl (wd := wdM q2 k2 cI cJ) (wo := wdK q1 k1 cI cJ σ1) (σ := σ2) (σ' := s2) (av := [.long ((((xs (x3 + 1).toNatClampNeg)).toInt64 <<< ((32 : Int32).toInt64 &&& 63)) ||| (((xs (x3 + 2).toNatClampNeg)).toInt64 &&& 4294967295)), .int (xs (x3 + 3).toNatClampNeg), .int (xs (x3 + 4).toNatClampNeg)]) ⟨hx, hb, hml, hown, hts⟩ (mM_raised l D q2 k2 cI cJ _ 200 σ2 s2 (((((xs (x3 + 1).toNatClampNeg)).toInt64 <<< ((32 : Int32).toInt64 &&& 63)) ||| (((xs (x3 + 2).toNatClampNeg)).toInt64 &&& 4294967295))) ((xs (x3 + 3).toNatClampNeg)) ((xs (x3 + 4).toNatClampNeg)) r e2) (cwV 3 hts (kgood_L TM_good TM_in (List.mem_of_getElem? (i := 469) (by decide +kernel)) (by decide +kernel)) rfl rfl rfl (by decide +kernel) ⟨Nat.le_of_ble_eq_true rfl, Nat.le_of_ble_eq_true rfl⟩) hK hP hD hS hA (ci := 1) (q0 := 0) rfl rfl rfl hl.1 rfl (Nat.le_of_ble_eq_true rfl) dL_488 ⟨Nat.le_of_ble_eq_true rfl, Nat.le_of_ble_eq_true rfl⟩ (fun H locs hP hD hS => ?_)
  refine W.lcmp hx hb dL_491 ?_
  refine lv_if_eq (tgt := 895) hx hb dL_492 (by decide) (fun _ => ?_) (fun q => absurd ((lg_cmp_eq r r).mpr rfl) q)
  exact kk σ1 s2 H locs hRel hP hD hS
set_option maxHeartbeats 400000 in
set_option maxRecDepth 100000 in
/-- sums -/
theorem lw_case_9 (ow : Owed4) {p : Program} {l : Launch} {e : Env} {s : State} {m : MethodId} {below : List Frame} {meth : Method} {c : Code} {D : va_G} {q1 q2 : Nat → Nat} {k1 : kK} {k2 : kM} {cI cJ : ClassId} {b L : Nat} {xs : Nat → Int32} (C0 : lw_At p s m meth c b L xs) (hK : va_K D cl0 [(cI, .int), (cJ, .long)] s) (x3 : Int32) (i1 : vp_in (x3 + 1) L) (i2 : vp_in (x3 + 2) L) (i3 : vp_in (x3 + 3) L) (i4 : vp_in (x3 + 4) L) (σ1 : sK) (σ2 : sM) (hRel : Rel k1 σ1 k2 σ2) (H : Heap) (locs : List Loc) (ls : Array Slot) (hP : va_P D cl0 (wdK q1 k1 cI cJ σ1 ++ wdM q2 k2 cI cJ σ2) H) (hD : va_D (fun z : Nat => s.heap.size ≤ z) (wdK q1 k1 cI cJ σ1 ++ wdM q2 k2 cI cJ σ2)) (hS : va_S (fun z : Nat => s.heap.size ≤ z) s.heap H locs) (hl : lv_has ls 4 [(0, .ref b), (1, .ref (q1 0)), (2, .ref (q2 0)), (3, .int x3)])
    (kk : ∀ (t1 : sK) (t2 : sM) (H : Heap) (locs : List Loc), Rel k1 t1 k2 t2 → va_P D cl0 (wdK q1 k1 cI cJ t1 ++ wdM q2 k2 cI cJ t2) H → va_D (fun z : Nat => s.heap.size ≤ z) (wdK q1 k1 cI cJ t1 ++ wdM q2 k2 cI cJ t2) → va_S (fun z : Nat => s.heap.size ≤ z) s.heap H locs → W p l e room_1 s m #[Value.ref b] below meth c H locs 25 1195 (lw_Z below #[Value.ref b] s) (F0 m 895 ls [])) : W p l e room_1 s m #[Value.ref b] below meth c H locs 25 1195 (lw_Z below #[Value.ref b] s) (F0 m 497 ls []) := by
  obtain ⟨hx, hb, hr, hml, hown, hts, hX, hbl, hlocks, hgv⟩ := id C0
  have hA : ∀ z : Nat, s.heap.size ≤ z → (fun z : Nat => s.heap.size ≤ z) z := fun _ h => h
  have hbA : ¬ (fun z : Nat => s.heap.size ≤ z) b := Nat.not_le.mpr hbl
  obtain ⟨r, s2, e1, e2, hRel⟩ := rl_sums (fu := 200) hRel (Nat.le_refl 200) (((((xs (x3 + 1).toNatClampNeg)).toInt64 <<< ((32 : Int32).toInt64 &&& 63)) ||| (((xs (x3 + 2).toNatClampNeg)).toInt64 &&& 4294967295)))
  refine lv_aload_n hx hb dL_497 rfl (lv_at hl 1 rfl) ?_
  refine lv_aload_n hx hb dL_498 rfl (lv_at hl 0 rfl) ?_
  refine lv_iload_n hx hb dL_499 rfl (lv_at hl 3 rfl) ?_
  refine lv_iconst (v := 1) hx hb dL_500 (by decide) ?_
  refine lv_iadd hx hb dL_501 ?_
  refine va_sld hx hb hX hbl hbA hS i1 dL_502 ?_
  refine lv_i2l (v := ((xs (x3 + 1).toNatClampNeg)).toInt64) hx hb dL_503 rfl ?_
  refine lv_bipush (v := 32) hx hb dL_504 (by decide) ?_
  refine lv_lshl (v := (((xs (x3 + 1).toNatClampNeg)).toInt64 <<< ((32 : Int32).toInt64 &&& 63))) hx hb dL_506 rfl ?_
  refine lv_aload_n hx hb dL_507 rfl (lv_at hl 0 rfl) ?_
  refine lv_iload_n hx hb dL_508 rfl (lv_at hl 3 rfl) ?_
  refine lv_iconst (v := 2) hx hb dL_509 (by decide) ?_
  refine lv_iadd hx hb dL_510 ?_
  refine va_sld hx hb hX hbl hbA hS i2 dL_511 ?_
  refine lv_i2l (v := ((xs (x3 + 2).toNatClampNeg)).toInt64) hx hb dL_512 rfl ?_
  refine lv_ldc2 (v := 4294967295) hx hb hown (hts (.constantLong R_law 54 4294967295) (List.mem_of_getElem? (i := 544) (by decide +kernel))) dL_513 ?_
  refine lv_land hx hb dL_516 ?_
  refine lv_lor hx hb dL_517 ?_
  refine lr_Li (wd := wdK q1 k1 cI cJ) (wo := wdM q2 k2 cI cJ σ2) (σ := σ1) (σ' := σ1) (av := [.long ((((xs (x3 + 1).toNatClampNeg)).toInt64 <<< ((32 : Int32).toInt64 &&& 63)) ||| (((xs (x3 + 2).toNatClampNeg)).toInt64 &&& 4294967295))]) ⟨hx, hb, hml, hown, hts⟩ (mK_sums l D q1 k1 cI cJ _ 200 σ1 (((((xs (x3 + 1).toNatClampNeg)).toInt64 <<< ((32 : Int32).toInt64 &&& 63)) ||| (((xs (x3 + 2).toNatClampNeg)).toInt64 &&& 4294967295))) r e1) (cwV 1 hts (kgood_L TK_good TK_in (List.mem_of_getElem? (i := 251) (by decide +kernel)) (by decide +kernel)) rfl rfl rfl (by decide +kernel) ⟨Nat.le_of_ble_eq_true rfl, Nat.le_of_ble_eq_true rfl⟩) hK hP hD hS hA (ci := 0) (q0 := 0) rfl rfl rfl hl.1 rfl (Nat.le_of_ble_eq_true rfl) dL_518 ⟨Nat.le_of_ble_eq_true rfl, Nat.le_of_ble_eq_true rfl⟩ (fun H locs hP hD hS => ?_)
  refine lv_aload_n hx hb dL_521 rfl (lv_at hl 2 rfl) ?_
  refine lv_aload_n hx hb dL_522 rfl (lv_at hl 0 rfl) ?_
  refine lv_iload_n hx hb dL_523 rfl (lv_at hl 3 rfl) ?_
  refine lv_iconst (v := 1) hx hb dL_524 (by decide) ?_
  refine lv_iadd hx hb dL_525 ?_
  refine va_sld hx hb hX hbl hbA hS i1 dL_526 ?_
  refine lv_i2l (v := ((xs (x3 + 1).toNatClampNeg)).toInt64) hx hb dL_527 rfl ?_
  refine lv_bipush (v := 32) hx hb dL_528 (by decide) ?_
  refine lv_lshl (v := (((xs (x3 + 1).toNatClampNeg)).toInt64 <<< ((32 : Int32).toInt64 &&& 63))) hx hb dL_530 rfl ?_
  refine lv_aload_n hx hb dL_531 rfl (lv_at hl 0 rfl) ?_
  refine lv_iload_n hx hb dL_532 rfl (lv_at hl 3 rfl) ?_
  refine lv_iconst (v := 2) hx hb dL_533 (by decide) ?_
  refine lv_iadd hx hb dL_534 ?_
  refine va_sld hx hb hX hbl hbA hS i2 dL_535 ?_
  refine lv_i2l (v := ((xs (x3 + 2).toNatClampNeg)).toInt64) hx hb dL_536 rfl ?_
  refine lv_ldc2 (v := 4294967295) hx hb hown (hts (.constantLong R_law 54 4294967295) (List.mem_of_getElem? (i := 544) (by decide +kernel))) dL_537 ?_
  refine lv_land hx hb dL_540 ?_
  refine lv_lor hx hb dL_541 ?_
  refine lr_Ri (wd := wdM q2 k2 cI cJ) (wo := wdK q1 k1 cI cJ σ1) (σ := σ2) (σ' := s2) (av := [.long ((((xs (x3 + 1).toNatClampNeg)).toInt64 <<< ((32 : Int32).toInt64 &&& 63)) ||| (((xs (x3 + 2).toNatClampNeg)).toInt64 &&& 4294967295))]) ⟨hx, hb, hml, hown, hts⟩ (mM_sums l D q2 k2 cI cJ _ 200 σ2 s2 (((((xs (x3 + 1).toNatClampNeg)).toInt64 <<< ((32 : Int32).toInt64 &&& 63)) ||| (((xs (x3 + 2).toNatClampNeg)).toInt64 &&& 4294967295))) r e2) (cwV 1 hts (kgood_L TM_good TM_in (List.mem_of_getElem? (i := 478) (by decide +kernel)) (by decide +kernel)) rfl rfl rfl (by decide +kernel) ⟨Nat.le_of_ble_eq_true rfl, Nat.le_of_ble_eq_true rfl⟩) hK hP hD hS hA (ci := 1) (q0 := 0) rfl rfl rfl hl.1 rfl (Nat.le_of_ble_eq_true rfl) dL_542 ⟨Nat.le_of_ble_eq_true rfl, Nat.le_of_ble_eq_true rfl⟩ (fun H locs hP hD hS => ?_)
  refine lv_icmp_eq (tgt := 895) hx hb dL_545 (by decide) (fun _ => ?_) (fun q => absurd rfl q)
  exact kk σ1 s2 H locs hRel hP hD hS
