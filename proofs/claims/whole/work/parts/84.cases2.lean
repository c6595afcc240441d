set_option maxHeartbeats 400000 in
set_option maxRecDepth 100000 in
/-- without -/
theorem lw_case_10 (ow : Owed4) {p : Program} {l : Launch} {e : Env} {s : State} {m : MethodId} {below : List Frame} {meth : Method} {c : Code} {D : va_G} {q1 q2 : Nat → Nat} {k1 : kK} {k2 : kM} {cI cJ : ClassId} {b L : Nat} {xs : Nat → Int32} (C0 : lw_At p s m meth c b L xs) (hK : va_K D cl0 [(cI, .int), (cJ, .long)] s) (x3 : Int32) (i1 : vp_in (x3 + 1) L) (i2 : vp_in (x3 + 2) L) (i3 : vp_in (x3 + 3) L) (i4 : vp_in (x3 + 4) L) (σ1 : sK) (σ2 : sM) (hRel : Rel k1 σ1 k2 σ2) (H : Heap) (locs : List Loc) (ls : Array Slot) (hP : va_P D cl0 (wdK q1 k1 cI cJ σ1 ++ wdM q2 k2 cI cJ σ2) H) (hD : va_D (fun z : Nat => s.heap.size ≤ z) (wdK q1 k1 cI cJ σ1 ++ wdM q2 k2 cI cJ σ2)) (hS : va_S (fun z : Nat => s.heap.size ≤ z) s.heap H locs) (hl : lv_has ls 4 [(0, .ref b), (1, .ref (q1 0)), (2, .ref (q2 0)), (3, .int x3)])
    (kk : ∀ (t1 : sK) (t2 : sM) (H : Heap) (locs : List Loc), Rel k1 t1 k2 t2 → va_P D cl0 (wdK q1 k1 cI cJ t1 ++ wdM q2 k2 cI cJ t2) H → va_D (fun z : Nat => s.heap.size ≤ z) (wdK q1 k1 cI cJ t1 ++ wdM q2 k2 cI cJ t2) → va_S (fun z : Nat => s.heap.size ≤ z) s.heap H locs → W p l e room_1 s m #[Value.ref b] below meth c H locs 25 1195 (lw_Z below #[Value.ref b] s) (F0 m 895 ls [])) : W p l e room_1 s m #[Value.ref b] below meth c H locs 25 1195 (lw_Z below #[Value.ref b] s) (F0 m 550 ls []) := by
  obtain ⟨hx, hb, hr, hml, hown, hts, hX, hbl, hlocks, hgv⟩ := id C0
  have hA : ∀ z : Nat, s.heap.size ≤ z → (fun z : Nat => s.heap.size ≤ z) z := fun _ h => h
  have hbA : ¬ (fun z : Nat => s.heap.size ≤ z) b := Nat.not_le.mpr hbl
  obtain ⟨r, e1, e2⟩ := rl_without (fu := 200) hRel (Nat.le_refl 200) ((xs (x3 + 1).toNatClampNeg)) ((xs (x3 + 2).toNatClampNeg)) ((xs (x3 + 3).toNatClampNeg)) ((xs (x3 + 4).toNatClampNeg))
  refine lv_aload_n hx hb dL_550 rfl (lv_at hl 1 rfl) ?_
  refine lv_aload_n hx hb dL_551 rfl (lv_at hl 0 rfl) ?_
  refine lv_iload_n hx hb dL_552 rfl (lv_at hl 3 rfl) ?_
  refine lv_iconst (v := 1) hx hb dL_553 (by decide) ?_
  refine lv_iadd hx hb dL_554 ?_
  refine va_sld hx hb hX hbl hbA hS i1 dL_555 ?_
  refine lv_aload_n hx hb dL_556 rfl (lv_at hl 0 rfl) ?_
  refine lv_iload_n hx hb dL_557 rfl (lv_at hl 3 rfl) ?_
  refine lv_iconst (v := 2) hx hb dL_558 (by decide) ?_
  refine lv_iadd hx hb dL_559 ?_
  refine va_sld hx hb hX hbl hbA hS i2 dL_560 ?_
  refine lv_aload_n hx hb dL_561 rfl (lv_at hl 0 rfl) ?_
  refine lv_iload_n hx hb dL_562 rfl (lv_at hl 3 rfl) ?_
  refine lv_iconst (v := 3) hx hb dL_563 (by decide) ?_
  refine lv_iadd hx hb dL_564 ?_
  refine va_sld hx hb hX hbl hbA hS i3 dL_565 ?_
  refine lv_aload_n hx hb dL_566 rfl (lv_at hl 0 rfl) ?_
  refine lv_iload_n hx hb dL_567 rfl (lv_at hl 3 rfl) ?_
  refine lv_iconst (v := 4) hx hb dL_568 (by decide) ?_
  refine lv_iadd hx hb dL_569 ?_
  refine va_sld hx hb hX hbl hbA hS i4 dL_570 ?_
  refine lr_Ll (wd := wdK q1 k1 cI cJ) (wo := wdM q2 k2 cI cJ σ2) (σ := σ1) (σ' := σ1) (av := [.int (xs (x3 + 1).toNatClampNeg), .int (xs (x3 + 2).toNatClampNeg), .int (xs (x3 + 3).toNatClampNeg), .int (xs (x3 + 4).toNatClampNeg)]) ⟨hx, hb, hml, hown, hts⟩ (mK_without l D q1 k1 cI cJ _ 200 σ1 ((xs (x3 + 1).toNatClampNeg)) ((xs (x3 + 2).toNatClampNeg)) ((xs (x3 + 3).toNatClampNeg)) ((xs (x3 + 4).toNatClampNeg)) r e1) (cwV 4 hts (kgood_L TK_good TK_in (List.mem_of_getElem? (i := 182) (by decide +kernel)) (by decide +kernel)) rfl rfl rfl (by decide +kernel) ⟨Nat.le_of_ble_eq_true rfl, Nat.le_of_ble_eq_true rfl⟩) hK hP hD hS hA (ci := 0) (q0 := 0) rfl rfl rfl hl.1 rfl (Nat.le_of_ble_eq_true rfl) dL_571 ⟨Nat.le_of_ble_eq_true rfl, Nat.le_of_ble_eq_true rfl⟩ (fun H locs hP hD hS => ?_)
  refine lv_aload_n hx hb dL_574 rfl (lv_at hl 2 rfl) ?_
  refine lv_aload_n hx hb dL_575 rfl (lv_at hl 0 rfl) ?_
  refine lv_iload_n hx hb dL_576 rfl (lv_at hl 3 rfl) ?_
  refine lv_iconst (v := 1) hx hb dL_577 (by decide) ?_
  refine lv_iadd hx hb dL_578 ?_
  refine va_sld hx hb hX hbl hbA hS i1 dL_579 ?_
  refine lv_aload_n hx hb dL_580 rfl (lv_at hl 0 rfl) ?_
  refine lv_iload_n hx hb dL_581 rfl (lv_at hl 3 rfl) ?_
  refine lv_iconst (v := 2) hx hb dL_582 (by decide) ?_
  refine lv_iadd hx hb dL_583 ?_
  refine va_sld hx hb hX hbl hbA hS i2 dL_584 ?_
  refine lv_aload_n hx hb dL_585 rfl (lv_at hl 0 rfl) ?_
  refine lv_iload_n hx hb dL_586 rfl (lv_at hl 3 rfl) ?_
  refine lv_iconst (v := 3) hx hb dL_587 (by decide) ?_
  refine lv_iadd hx hb dL_588 ?_
  refine va_sld hx hb hX hbl hbA hS i3 dL_589 ?_
  refine lv_aload_n hx hb dL_590 rfl (lv_at hl 0 rfl) ?_
  refine lv_iload_n hx hb dL_591 rfl (lv_at hl 3 rfl) ?_
  refine lv_iconst (v := 4) hx hb dL_592 (by decide) ?_
  refine lv_iadd hx hb dL_593 ?_
  refine va_sld hx hb hX hbl hbA hS i4 dL_594 ?_
  refine lr_Rl (wd := wdM q2 k2 cI cJ) (wo := wdK q1 k1 cI cJ σ1) (σ := σ2) (σ' := σ2) (av := [.int (xs (x3 + 1).toNatClampNeg), .int (xs (x3 + 2).toNatClampNeg), .int (xs (x3 + 3).toNatClampNeg), .int (xs (x3 + 4).toNatClampNeg)]) ⟨hx, hb, hml, hown, hts⟩ (mM_without l D q2 k2 cI cJ _ 200 σ2 ((xs (x3 + 1).toNatClampNeg)) ((xs (x3 + 2).toNatClampNeg)) ((xs (x3 + 3).toNatClampNeg)) ((xs (x3 + 4).toNatClampNeg)) r e2) (cwV 4 hts (kgood_L TM_good TM_in (List.mem_of_getElem? (i := 482) (by decide +kernel)) (by decide +kernel)) rfl rfl rfl (by decide +kernel) ⟨Nat.le_of_ble_eq_true rfl, Nat.le_of_ble_eq_true rfl⟩) hK hP hD hS hA (ci := 1) (q0 := 0) rfl rfl rfl hl.1 rfl (Nat.le_of_ble_eq_true rfl) dL_595 ⟨Nat.le_of_ble_eq_true rfl, Nat.le_of_ble_eq_true rfl⟩ (fun H locs hP hD hS => ?_)
  refine W.lcmp hx hb dL_598 ?_
  refine lv_if_eq (tgt := 895) hx hb dL_599 (by decide) (fun _ => ?_) (fun q => absurd ((lg_cmp_eq r r).mpr rfl) q)
  exact kk σ1 σ2 H locs hRel hP hD hS
set_option maxHeartbeats 400000 in
set_option maxRecDepth 100000 in
/-- error -/
theorem lw_case_11 (ow : Owed4) {p : Program} {l : Launch} {e : Env} {s : State} {m : MethodId} {below : List Frame} {meth : Method} {c : Code} {D : va_G} {q1 q2 : Nat → Nat} {k1 : kK} {k2 : kM} {cI cJ : ClassId} {b L : Nat} {xs : Nat → Int32} (C0 : lw_At p s m meth c b L xs) (hK : va_K D cl0 [(cI, .int), (cJ, .long)] s) (x3 : Int32) (i1 : vp_in (x3 + 1) L) (i2 : vp_in (x3 + 2) L) (i3 : vp_in (x3 + 3) L) (i4 : vp_in (x3 + 4) L) (σ1 : sK) (σ2 : sM) (hRel : Rel k1 σ1 k2 σ2) (H : Heap) (locs : List Loc) (ls : Array Slot) (hP : va_P D cl0 (wdK q1 k1 cI cJ σ1 ++ wdM q2 k2 cI cJ σ2) H) (hD : va_D (fun z : Nat => s.heap.size ≤ z) (wdK q1 k1 cI cJ σ1 ++ wdM q2 k2 cI cJ σ2)) (hS : va_S (fun z : Nat => s.heap.size ≤ z) s.heap H locs) (hl : lv_has ls 4 [(0, .ref b), (1, .ref (q1 0)), (2, .ref (q2 0)), (3, .int x3)])
    (kk : ∀ (t1 : sK) (t2 : sM) (H : Heap) (locs : List Loc), Rel k1 t1 k2 t2 → va_P D cl0 (wdK q1 k1 cI cJ t1 ++ wdM q2 k2 cI cJ t2) H → va_D (fun z : Nat => s.heap.size ≤ z) (wdK q1 k1 cI cJ t1 ++ wdM q2 k2 cI cJ t2) → va_S (fun z : Nat => s.heap.size ≤ z) s.heap H locs → W p l e room_1 s m #[Value.ref b] below meth c H locs 25 1195 (lw_Z below #[Value.ref b] s) (F0 m 895 ls [])) : W p l e room_1 s m #[Value.ref b] below meth c H locs 25 1195 (lw_Z below #[Value.ref b] s) (F0 m 604 ls []) := by
  obtain ⟨hx, hb, hr, hml, hown, hts, hX, hbl, hlocks, hgv⟩ := id C0
  have hA : ∀ z : Nat, s.heap.size ≤ z → (fun z : Nat => s.heap.size ≤ z) z := fun _ h => h
  have hbA : ¬ (fun z : Nat => s.heap.size ≤ z) b := Nat.not_le.mpr hbl
  obtain ⟨r, s1, s2, e1, e2, hRel⟩ := rl_error hRel ((xs (x3 + 1).toNatClampNeg)) ((xs (x3 + 2).toNatClampNeg)) ((xs (x3 + 3).toNatClampNeg))
  refine lv_aload_n hx hb dL_604 rfl (lv_at hl 1 rfl) ?_
  refine lv_aload_n hx hb dL_605 rfl (lv_at hl 0 rfl) ?_
  refine lv_iload_n hx hb dL_606 rfl (lv_at hl 3 rfl) ?_
  refine lv_iconst (v := 1) hx hb dL_607 (by decide) ?_
  refine lv_iadd hx hb dL_608 ?_
  refine va_sld hx hb hX hbl hbA hS i1 dL_609 ?_
  refine lv_aload_n hx hb dL_610 rfl (lv_at hl 0 rfl) ?_
  refine lv_iload_n hx hb dL_611 rfl (lv_at hl 3 rfl) ?_
  refine lv_iconst (v := 2) hx hb dL_612 (by decide) ?_
  refine lv_iadd hx hb dL_613 ?_
  refine va_sld hx hb hX hbl hbA hS i2 dL_614 ?_
  refine lv_aload_n hx hb dL_615 rfl (lv_at hl 0 rfl) ?_
  refine lv_iload_n hx hb dL_616 rfl (lv_at hl 3 rfl) ?_
  refine lv_iconst (v := 3) hx hb dL_617 (by decide) ?_
  refine lv_iadd hx hb dL_618 ?_
  refine va_sld hx hb hX hbl hbA hS i3 dL_619 ?_
  refine lr_Li (wd := wdK q1 k1 cI cJ) (wo := wdM q2 k2 cI cJ σ2) (σ := σ1) (σ' := s1) (av := [.int (xs (x3 + 1).toNatClampNeg), .int (xs (x3 + 2).toNatClampNeg), .int (xs (x3 + 3).toNatClampNeg)]) ⟨hx, hb, hml, hown, hts⟩ (mK_error l D q1 k1 cI cJ _ σ1 s1 ((xs (x3 + 1).toNatClampNeg)) ((xs (x3 + 2).toNatClampNeg)) ((xs (x3 + 3).toNatClampNeg)) r e1) (cwV 3 hts (kgood_L TK_good TK_in (List.mem_of_getElem? (i := 255) (by decide +kernel)) (by decide +kernel)) rfl rfl rfl (by decide +kernel) ⟨Nat.le_of_ble_eq_true rfl, Nat.le_of_ble_eq_true rfl⟩) hK hP hD hS hA (ci := 0) (q0 := 0) rfl rfl rfl hl.1 rfl (Nat.le_of_ble_eq_true rfl) dL_620 ⟨Nat.le_of_ble_eq_true rfl, Nat.le_of_ble_eq_true rfl⟩ (fun H locs hP hD hS => ?_)
  refine lv_aload_n hx hb dL_623 rfl (lv_at hl 2 rfl) ?_
  refine lv_aload_n hx hb dL_624 rfl (lv_at hl 0 rfl) ?_
  refine lv_iload_n hx hb dL_625 rfl (lv_at hl 3 rfl) ?_
  refine lv_iconst (v := 1) hx hb dL_626 (by decide) ?_
  refine lv_iadd hx hb dL_627 ?_
  refine va_sld hx hb hX hbl hbA hS i1 dL_628 ?_
  refine lv_aload_n hx hb dL_629 rfl (lv_at hl 0 rfl) ?_
  refine lv_iload_n hx hb dL_630 rfl (lv_at hl 3 rfl) ?_
  refine lv_iconst (v := 2) hx hb dL_631 (by decide) ?_
  refine lv_iadd hx hb dL_632 ?_
  refine va_sld hx hb hX hbl hbA hS i2 dL_633 ?_
  refine lv_aload_n hx hb dL_634 rfl (lv_at hl 0 rfl) ?_
  refine lv_iload_n hx hb dL_635 rfl (lv_at hl 3 rfl) ?_
  refine lv_iconst (v := 3) hx hb dL_636 (by decide) ?_
  refine lv_iadd hx hb dL_637 ?_
  refine va_sld hx hb hX hbl hbA hS i3 dL_638 ?_
  refine lr_Ri (wd := wdM q2 k2 cI cJ) (wo := wdK q1 k1 cI cJ s1) (σ := σ2) (σ' := s2) (av := [.int (xs (x3 + 1).toNatClampNeg), .int (xs (x3 + 2).toNatClampNeg), .int (xs (x3 + 3).toNatClampNeg)]) ⟨hx, hb, hml, hown, hts⟩ (mM_error l D q2 k2 cI cJ _ σ2 s2 ((xs (x3 + 1).toNatClampNeg)) ((xs (x3 + 2).toNatClampNeg)) ((xs (x3 + 3).toNatClampNeg)) r e2) (cwV 3 hts (kgood_L TM_good TM_in (List.mem_of_getElem? (i := 486) (by decide +kernel)) (by decide +kernel)) rfl rfl rfl (by decide +kernel) ⟨Nat.le_of_ble_eq_true rfl, Nat.le_of_ble_eq_true rfl⟩) hK hP hD hS hA (ci := 1) (q0 := 0) rfl rfl rfl hl.1 rfl (Nat.le_of_ble_eq_true rfl) dL_639 ⟨Nat.le_of_ble_eq_true rfl, Nat.le_of_ble_eq_true rfl⟩ (fun H locs hP hD hS => ?_)
  refine lv_icmp_eq (tgt := 895) hx hb dL_642 (by decide) (fun _ => ?_) (fun q => absurd rfl q)
  exact kk s1 s2 H locs hRel hP hD hS
set_option maxHeartbeats 400000 in
set_option maxRecDepth 100000 in
/-- undo -/
theorem lw_case_12 (ow : Owed4) {p : Program} {l : Launch} {e : Env} {s : State} {m : MethodId} {below : List Frame} {meth : Method} {c : Code} {D : va_G} {q1 q2 : Nat → Nat} {k1 : kK} {k2 : kM} {cI cJ : ClassId} {b L : Nat} {xs : Nat → Int32} (C0 : lw_At p s m meth c b L xs) (hK : va_K D cl0 [(cI, .int), (cJ, .long)] s) (x3 : Int32) (i1 : vp_in (x3 + 1) L) (i2 : vp_in (x3 + 2) L) (i3 : vp_in (x3 + 3) L) (i4 : vp_in (x3 + 4) L) (σ1 : sK) (σ2 : sM) (hRel : Rel k1 σ1 k2 σ2) (H : Heap) (locs : List Loc) (ls : Array Slot) (hP : va_P D cl0 (wdK q1 k1 cI cJ σ1 ++ wdM q2 k2 cI cJ σ2) H) (hD : va_D (fun z : Nat => s.heap.size ≤ z) (wdK q1 k1 cI cJ σ1 ++ wdM q2 k2 cI cJ σ2)) (hS : va_S (fun z : Nat => s.heap.size ≤ z) s.heap H locs) (hl : lv_has ls 4 [(0, .ref b), (1, .ref (q1 0)), (2, .ref (q2 0)), (3, .int x3)])
    (kk : ∀ (t1 : sK) (t2 : sM) (H : Heap) (locs : List Loc), Rel k1 t1 k2 t2 → va_P D cl0 (wdK q1 k1 cI cJ t1 ++ wdM q2 k2 cI cJ t2) H → va_D (fun z : Nat => s.heap.size ≤ z) (wdK q1 k1 cI cJ t1 ++ wdM q2 k2 cI cJ t2) → va_S (fun z : Nat => s.heap.size ≤ z) s.heap H locs → W p l e room_1 s m #[Value.ref b] below meth c H locs 25 1195 (lw_Z below #[Value.ref b] s) (F0 m 895 ls [])) : W p l e room_1 s m #[Value.ref b] below meth c H locs 25 1195 (lw_Z below #[Value.ref b] s) (F0 m 647 ls []) := by
  obtain ⟨hx, hb, hr, hml, hown, hts, hX, hbl, hlocks, hgv⟩ := id C0
  have hA : ∀ z : Nat, s.heap.size ≤ z → (fun z : Nat => s.heap.size ≤ z) z := fun _ h => h
  have hbA : ¬ (fun z : Nat => s.heap.size ≤ z) b := Nat.not_le.mpr hbl
  obtain ⟨r, s1, s2, e1, e2, hRel⟩ := (ow 200 k1 σ1 k2 σ2 (Nat.le_refl 200) hRel).1
  refine lv_aload_n hx hb dL_647 rfl (lv_at hl 1 rfl) ?_
  refine lr_Li (wd := wdK q1 k1 cI cJ) (wo := wdM q2 k2 cI cJ σ2) (σ := σ1) (σ' := s1) (av := []) ⟨hx, hb, hml, hown, hts⟩ (mK_undo l D q1 k1 cI cJ _ 200 σ1 s1 r e1) (cwV 0 hts (kgood_L TK_good TK_in (List.mem_of_getElem? (i := 259) (by decide +kernel)) (by decide +kernel)) rfl rfl rfl (by decide +kernel) ⟨Nat.le_of_ble_eq_true rfl, Nat.le_of_ble_eq_true rfl⟩) hK hP hD hS hA (ci := 0) (q0 := 0) rfl rfl rfl hl.1 rfl (Nat.le_of_ble_eq_true rfl) dL_648 ⟨Nat.le_of_ble_eq_true rfl, Nat.le_of_ble_eq_true rfl⟩ (fun H locs hP hD hS => ?_)
  refine lv_aload_n hx hb dL_651 rfl (lv_at hl 2 rfl) ?_
  refine lr_Ri (wd := wdM q2 k2 cI cJ) (wo := wdK q1 k1 cI cJ s1) (σ := σ2) (σ' := s2) (av := []) ⟨hx, hb, hml, hown, hts⟩ (mM_undo l D q2 k2 cI cJ _ 200 σ2 s2 r e2) (cwV 0 hts (kgood_L TM_good TM_in (List.mem_of_getElem? (i := 490) (by decide +kernel)) (by decide +kernel)) rfl rfl rfl (by decide +kernel) ⟨Nat.le_of_ble_eq_true rfl, Nat.le_of_ble_eq_true rfl⟩) hK hP hD hS hA (ci := 1) (q0 := 0) rfl rfl rfl hl.1 rfl (Nat.le_of_ble_eq_true rfl) dL_652 ⟨Nat.le_of_ble_eq_true rfl, Nat.le_of_ble_eq_true rfl⟩ (fun H locs hP hD hS => ?_)
  refine lv_icmp_eq (tgt := 895) hx hb dL_655 (by decide) (fun _ => ?_) (fun q => absurd rfl q)
  exact kk s1 s2 H locs hRel hP hD hS
set_option maxHeartbeats 400000 in
set_option maxRecDepth 100000 in
/-- undone -/
theorem lw_case_13 (ow : Owed4) {p : Program} {l : Launch} {e : Env} {s : State} {m : MethodId} {below : List Frame} {meth : Method} {c : Code} {D : va_G} {q1 q2 : Nat → Nat} {k1 : kK} {k2 : kM} {cI cJ : ClassId} {b L : Nat} {xs : Nat → Int32} (C0 : lw_At p s m meth c b L xs) (hK : va_K D cl0 [(cI, .int), (cJ, .long)] s) (x3 : Int32) (i1 : vp_in (x3 + 1) L) (i2 : vp_in (x3 + 2) L) (i3 : vp_in (x3 + 3) L) (i4 : vp_in (x3 + 4) L) (σ1 : sK) (σ2 : sM) (hRel : Rel k1 σ1 k2 σ2) (H : Heap) (locs : List Loc) (ls : Array Slot) (hP : va_P D cl0 (wdK q1 k1 cI cJ σ1 ++ wdM q2 k2 cI cJ σ2) H) (hD : va_D (fun z : Nat => s.heap.size ≤ z) (wdK q1 k1 cI cJ σ1 ++ wdM q2 k2 cI cJ σ2)) (hS : va_S (fun z : Nat => s.heap.size ≤ z) s.heap H locs) (hl : lv_has ls 4 [(0, .ref b), (1, .ref (q1 0)), (2, .ref (q2 0)), (3, .int x3)])
    (kk : ∀ (t1 : sK) (t2 : sM) (H : Heap) (locs : List Loc), Rel k1 t1 k2 t2 → va_P D cl0 (wdK q1 k1 cI cJ t1 ++ wdM q2 k2 cI cJ t2) H → va_D (fun z : Nat => s.heap.size ≤ z) (wdK q1 k1 cI cJ t1 ++ wdM q2 k2 cI cJ t2) → va_S (fun z : Nat => s.heap.size ≤ z) s.heap H locs → W p l e room_1 s m #[Value.ref b] below meth c H locs 25 1195 (lw_Z below #[Value.ref b] s) (F0 m 895 ls [])) : W p l e room_1 s m #[Value.ref b] below meth c H locs 25 1195 (lw_Z below #[Value.ref b] s) (F0 m 660 ls []) := by
  obtain ⟨hx, hb, hr, hml, hown, hts, hX, hbl, hlocks, hgv⟩ := id C0
  have hA : ∀ z : Nat, s.heap.size ≤ z → (fun z : Nat => s.heap.size ≤ z) z := fun _ h => h
  have hbA : ¬ (fun z : Nat => s.heap.size ≤ z) b := Nat.not_le.mpr hbl
  obtain ⟨r, s1, s2, e1, e2, hRel⟩ := (ow 200 k1 σ1 k2 σ2 (Nat.le_refl 200) hRel).2.1 ((xs (x3 + 1).toNatClampNeg)) ((xs (x3 + 2).toNatClampNeg)) ((xs (x3 + 3).toNatClampNeg))
  refine lv_aload_n hx hb dL_660 rfl (lv_at hl 1 rfl) ?_
  refine lv_aload_n hx hb dL_661 rfl (lv_at hl 0 rfl) ?_
  refine lv_iload_n hx hb dL_662 rfl (lv_at hl 3 rfl) ?_
  refine lv_iconst (v := 1) hx hb dL_663 (by decide) ?_
  refine lv_iadd hx hb dL_664 ?_
  refine va_sld hx hb hX hbl hbA hS i1 dL_665 ?_
  refine lv_aload_n hx hb dL_666 rfl (lv_at hl 0 rfl) ?_
  refine lv_iload_n hx hb dL_667 rfl (lv_at hl 3 rfl) ?_
  refine lv_iconst (v := 2) hx hb dL_668 (by decide) ?_
  refine lv_iadd hx hb dL_669 ?_
  refine va_sld hx hb hX hbl hbA hS i2 dL_670 ?_
  refine lv_aload_n hx hb dL_671 rfl (lv_at hl 0 rfl) ?_
  refine lv_iload_n hx hb dL_672 rfl (lv_at hl 3 rfl) ?_
  refine lv_iconst (v := 3) hx hb dL_673 (by decide) ?_
  refine lv_iadd hx hb dL_674 ?_
  refine va_sld hx hb hX hbl hbA hS i3 dL_675 ?_
  refine lr_Ll (wd := wdK q1 k1 cI cJ) (wo := wdM q2 k2 cI cJ σ2) (σ := σ1) (σ' := s1) (av := [.int (xs (x3 + 1).toNatClampNeg), .int (xs (x3 + 2).toNatClampNeg), .int (xs (x3 + 3).toNatClampNeg)]) ⟨hx, hb, hml, hown, hts⟩ (mK_undone l D q1 k1 cI cJ _ 200 σ1 s1 ((xs (x3 + 1).toNatClampNeg)) ((xs (x3 + 2).toNatClampNeg)) ((xs (x3 + 3).toNatClampNeg)) r e1) (cwV 3 hts (kgood_L TK_good TK_in (List.mem_of_getElem? (i := 287) (by decide +kernel)) (by decide +kernel)) rfl rfl rfl (by decide +kernel) ⟨Nat.le_of_ble_eq_true rfl, Nat.le_of_ble_eq_true rfl⟩) hK hP hD hS hA (ci := 0) (q0 := 0) rfl rfl rfl hl.1 rfl (Nat.le_of_ble_eq_true rfl) dL_676 ⟨Nat.le_of_ble_eq_true rfl, Nat.le_of_ble_eq_true rfl⟩ (fun H locs hP hD hS => ?_)
  refine lv_aload_n hx hb dL_679 rfl (lv_at hl 2 rfl) ?_
  refine lv_aload_n hx hb dL_680 rfl (lv_at hl 0 rfl) ?_
  refine lv_iload_n hx hb dL_681 rfl (lv_at hl 3 rfl) ?_
  refine lv_iconst (v := 1) hx hb dL_682 (by decide) ?_
  refine lv_iadd hx hb dL_683 ?_
  refine va_sld hx hb hX hbl hbA hS i1 dL_684 ?_
  refine lv_aload_n hx hb dL_685 rfl (lv_at hl 0 rfl) ?_
  refine lv_iload_n hx hb dL_686 rfl (lv_at hl 3 rfl) ?_
  refine lv_iconst (v := 2) hx hb dL_687 (by decide) ?_
  refine lv_iadd hx hb dL_688 ?_
  refine va_sld hx hb hX hbl hbA hS i2 dL_689 ?_
  refine lv_aload_n hx hb dL_690 rfl (lv_at hl 0 rfl) ?_
  refine lv_iload_n hx hb dL_691 rfl (lv_at hl 3 rfl) ?_
  refine lv_iconst (v := 3) hx hb dL_692 (by decide) ?_
  refine lv_iadd hx hb dL_693 ?_
  refine va_sld hx hb hX hbl hbA hS i3 dL_694 ?_
  refine lr_Rl (wd := wdM q2 k2 cI cJ) (wo := wdK q1 k1 cI cJ s1) (σ := σ2) (σ' := s2) (av := [.int (xs (x3 + 1).toNatClampNeg), .int (xs (x3 + 2).toNatClampNeg), .int (xs (x3 + 3).toNatClampNeg)]) ⟨hx, hb, hml, hown, hts⟩ (mM_undone l D q2 k2 cI cJ _ 200 σ2 s2 ((xs (x3 + 1).toNatClampNeg)) ((xs (x3 + 2).toNatClampNeg)) ((xs (x3 + 3).toNatClampNeg)) r e2) (cwV 3 hts (kgood_L TM_good TM_in (List.mem_of_getElem? (i := 503) (by decide +kernel)) (by decide +kernel)) rfl rfl rfl (by decide +kernel) ⟨Nat.le_of_ble_eq_true rfl, Nat.le_of_ble_eq_true rfl⟩) hK hP hD hS hA (ci := 1) (q0 := 0) rfl rfl rfl hl.1 rfl (Nat.le_of_ble_eq_true rfl) dL_695 ⟨Nat.le_of_ble_eq_true rfl, Nat.le_of_ble_eq_true rfl⟩ (fun H locs hP hD hS => ?_)
  refine W.lcmp hx hb dL_698 ?_
  refine lv_if_eq (tgt := 895) hx hb dL_699 (by decide) (fun _ => ?_) (fun q => absurd ((lg_cmp_eq r r).mpr rfl) q)
  exact kk s1 s2 H locs hRel hP hD hS
set_option maxHeartbeats 400000 in
set_option maxRecDepth 100000 in
/-- apart -/
theorem lw_case_14 (ow : Owed4) {p : Program} {l : Launch} {e : Env} {s : State} {m : MethodId} {below : List Frame} {meth : Method} {c : Code} {D : va_G} {q1 q2 : Nat → Nat} {k1 : kK} {k2 : kM} {cI cJ : ClassId} {b L : Nat} {xs : Nat → Int32} (C0 : lw_At p s m meth c b L xs) (hK : va_K D cl0 [(cI, .int), (cJ, .long)] s) (x3 : Int32) (i1 : vp_in (x3 + 1) L) (i2 : vp_in (x3 + 2) L) (i3 : vp_in (x3 + 3) L) (i4 : vp_in (x3 + 4) L) (σ1 : sK) (σ2 : sM) (hRel : Rel k1 σ1 k2 σ2) (H : Heap) (locs : List Loc) (ls : Array Slot) (hP : va_P D cl0 (wdK q1 k1 cI cJ σ1 ++ wdM q2 k2 cI cJ σ2) H) (hD : va_D (fun z : Nat => s.heap.size ≤ z) (wdK q1 k1 cI cJ σ1 ++ wdM q2 k2 cI cJ σ2)) (hS : va_S (fun z : Nat => s.heap.size ≤ z) s.heap H locs) (hl : lv_has ls 4 [(0, .ref b), (1, .ref (q1 0)), (2, .ref (q2 0)), (3, .int x3)])
    (kk : ∀ (t1 : sK) (t2 : sM) (H : Heap) (locs : List Loc), Rel k1 t1 k2 t2 → va_P D cl0 (wdK q1 k1 cI cJ t1 ++ wdM q2 k2 cI cJ t2) H → va_D (fun z : Nat => s.heap.size ≤ z) (wdK q1 k1 cI cJ t1 ++ wdM q2 k2 cI cJ t2) → va_S (fun z : Nat => s.heap.size ≤ z) s.heap H locs → W p l e room_1 s m #[Value.ref b] below meth c H locs 25 1195 (lw_Z below #[Value.ref b] s) (F0 m 895 ls [])) : W p l e room_1 s m #[Value.ref b] below meth c H locs 25 1195 (lw_Z below #[Value.ref b] s) (F0 m 704 ls []) := by
  obtain ⟨hx, hb, hr, hml, hown, hts, hX, hbl, hlocks, hgv⟩ := id C0
  have hA : ∀ z : Nat, s.heap.size ≤ z → (fun z : Nat => s.heap.size ≤ z) z := fun _ h => h
  have hbA : ¬ (fun z : Nat => s.heap.size ≤ z) b := Nat.not_le.mpr hbl
  obtain ⟨r, e1, e2⟩ := rl_apart (fu := 200) hRel (Nat.le_refl 200) ((xs (x3 + 1).toNatClampNeg)) ((xs (x3 + 2).toNatClampNeg)) ((xs (x3 + 3).toNatClampNeg))
  refine lv_aload_n hx hb dL_704 rfl (lv_at hl 1 rfl) ?_
  refine lv_aload_n hx hb dL_705 rfl (lv_at hl 0 rfl) ?_
  refine lv_iload_n hx hb dL_706 rfl (lv_at hl 3 rfl) ?_
  refine lv_iconst (v := 1) hx hb dL_707 (by decide) ?_
  refine lv_iadd hx hb dL_708 ?_
  refine va_sld hx hb hX hbl hbA hS i1 dL_709 ?_
  refine lv_aload_n hx hb dL_710 rfl (lv_at hl 0 rfl) ?_
  refine lv_iload_n hx hb dL_711 rfl (lv_at hl 3 rfl) ?_
  refine lv_iconst (v := 2) hx hb dL_712 (by decide) ?_
  refine lv_iadd hx hb dL_713 ?_
  refine va_sld hx hb hX hbl hbA hS i2 dL_714 ?_
  refine lv_aload_n hx hb dL_715 rfl (lv_at hl 0 rfl) ?_
  refine lv_iload_n hx hb dL_716 rfl (lv_at hl 3 rfl) ?_
  refine lv_iconst (v := 3) hx hb dL_717 (by decide) ?_
  refine lv_iadd hx hb dL_718 ?_
  refine va_sld hx hb hX hbl hbA hS i3 dL_719 ?_
  refine lr_Ll (wd := wdK q1 k1 cI cJ) (wo := wdM q2 k2 cI cJ σ2) (σ := σ1) (σ' := σ1) (av := [.int (xs (x3 + 1).toNatClampNeg), .int (xs (x3 + 2).toNatClampNeg), .int (xs (x3 + 3).toNatClampNeg)]) ⟨hx, hb, hml, hown, hts⟩ (mK_apart l D q1 k1 cI cJ _ 200 σ1 ((xs (x3 + 1).toNatClampNeg)) ((xs (x3 + 2).toNatClampNeg)) ((xs (x3 + 3).toNatClampNeg)) r e1) (cwV 3 hts (kgood_L TK_good TK_in (List.mem_of_getElem? (i := 293) (by decide +kernel)) (by decide +kernel)) rfl rfl rfl (by decide +kernel) ⟨Nat.le_of_ble_eq_true rfl, Nat.le_of_ble_eq_true rfl⟩) hK hP hD hS hA (ci := 0) (q0 := 0) rfl rfl rfl hl.1 rfl (Nat.le_of_ble_eq_true rfl) dL_720 ⟨Nat.le_of_ble_eq_true rfl, Nat.le_of_ble_eq_true rfl⟩ (fun H locs hP hD hS => ?_)
  refine lv_aload_n hx hb dL_723 rfl (lv_at hl 2 rfl) ?_
  refine lv_aload_n hx hb dL_724 rfl (lv_at hl 0 rfl) ?_
  refine lv_iload_n hx hb dL_725 rfl (lv_at hl 3 rfl) ?_
  refine lv_iconst (v := 1) hx hb dL_726 (by decide) ?_
  refine lv_iadd hx hb dL_727 ?_
  refine va_sld hx hb hX hbl hbA hS i1 dL_728 ?_
  refine lv_aload_n hx hb dL_729 rfl (lv_at hl 0 rfl) ?_
  refine lv_iload_n hx hb dL_730 rfl (lv_at hl 3 rfl) ?_
  refine lv_iconst (v := 2) hx hb dL_731 (by decide) ?_
  refine lv_iadd hx hb dL_732 ?_
  refine va_sld hx hb hX hbl hbA hS i2 dL_733 ?_
  refine lv_aload_n hx hb dL_734 rfl (lv_at hl 0 rfl) ?_
  refine lv_iload_n hx hb dL_735 rfl (lv_at hl 3 rfl) ?_
  refine lv_iconst (v := 3) hx hb dL_736 (by decide) ?_
  refine lv_iadd hx hb dL_737 ?_
  refine va_sld hx hb hX hbl hbA hS i3 dL_738 ?_
  refine lr_Rl (wd := wdM q2 k2 cI cJ) (wo := wdK q1 k1 cI cJ σ1) (σ := σ2) (σ' := σ2) (av := [.int (xs (x3 + 1).toNatClampNeg), .int (xs (x3 + 2).toNatClampNeg), .int (xs (x3 + 3).toNatClampNeg)]) ⟨hx, hb, hml, hown, hts⟩ (mM_apart l D q2 k2 cI cJ _ 200 σ2 ((xs (x3 + 1).toNatClampNeg)) ((xs (x3 + 2).toNatClampNeg)) ((xs (x3 + 3).toNatClampNeg)) r e2) (cwV 3 hts (kgood_L TM_good TM_in (List.mem_of_getElem? (i := 508) (by decide +kernel)) (by decide +kernel)) rfl rfl rfl (by decide +kernel) ⟨Nat.le_of_ble_eq_true rfl, Nat.le_of_ble_eq_true rfl⟩) hK hP hD hS hA (ci := 1) (q0 := 0) rfl rfl rfl hl.1 rfl (Nat.le_of_ble_eq_true rfl) dL_739 ⟨Nat.le_of_ble_eq_true rfl, Nat.le_of_ble_eq_true rfl⟩ (fun H locs hP hD hS => ?_)
  refine W.lcmp hx hb dL_742 ?_
  refine lv_if_eq (tgt := 895) hx hb dL_743 (by decide) (fun _ => ?_) (fun q => absurd ((lg_cmp_eq r r).mpr rfl) q)
  exact kk σ1 σ2 H locs hRel hP hD hS
