set_option maxHeartbeats 400000 in
set_option maxRecDepth 100000 in
/-- length -/
theorem lw_case_15 (ow : Owed4) {p : Program} {l : Launch} {e : Env} {s : State} {m : MethodId} {below : List Frame} {meth : Method} {c : Code} {D : va_G} {q1 q2 : Nat → Nat} {k1 : kK} {k2 : kM} {cI cJ : ClassId} {b L : Nat} {xs : Nat → Int32} (C0 : lw_At p s m meth c b L xs) (hK : va_K D cl0 [(cI, .int), (cJ, .long)] s) (x3 : Int32) (i1 : vp_in (x3 + 1) L) (i2 : vp_in (x3 + 2) L) (i3 : vp_in (x3 + 3) L) (i4 : vp_in (x3 + 4) L) (σ1 : sK) (σ2 : sM) (hRel : Rel k1 σ1 k2 σ2) (H : Heap) (locs : List Loc) (ls : Array Slot) (hP : va_P D cl0 (wdK q1 k1 cI cJ σ1 ++ wdM q2 k2 cI cJ σ2) H) (hD : va_D (fun z : Nat => s.heap.size ≤ z) (wdK q1 k1 cI cJ σ1 ++ wdM q2 k2 cI cJ σ2)) (hS : va_S (fun z : Nat => s.heap.size ≤ z) s.heap H locs) (hl : lv_has ls 4 [(0, .ref b), (1, .ref (q1 0)), (2, .ref (q2 0)), (3, .int x3)])
    (kk : ∀ (t1 : sK) (t2 : sM) (H : Heap) (locs : List Loc), Rel k1 t1 k2 t2 → va_P D cl0 (wdK q1 k1 cI cJ t1 ++ wdM q2 k2 cI cJ t2) H → va_D (fun z : Nat => s.heap.size ≤ z) (wdK q1 k1 cI cJ t1 ++ wdM q2 k2 cI cJ t2) → va_S (fun z : Nat => s.heap.size ≤ z) s.heap H locs → W p l e room_1 s m #[Value.ref b] below meth c H locs 25 1195 (lw_Z below #[Value.ref b] s) (F0 m 895 ls [])) : W p l e room_1 s m #[Value.ref b] below meth c H locs 25 1195 (lw_Z below #[Value.ref b] s) (F0 m 748 ls []) := by
  obtain ⟨hx, hb, hr, hml, hown, hts, hX, hbl, hlocks, hgv⟩ := id C0
  have hA : ∀ z : Nat, s.heap.size ≤ z → (fun z : Nat => s.heap.size ≤ z) z := fun _ h => h
  have hbA : ¬ (fun z : Nat => s.heap.size ≤ z) b := Nat.not_le.mpr hbl
  obtain ⟨r, s1, s2, e1, e2, hRel⟩ := (ow 200 k1 σ1 k2 σ2 (Nat.le_refl 200) hRel).2.2.1 ((xs (x3 + 1).toNatClampNeg)) ((xs (x3 + 2).toNatClampNeg))
  refine lv_aload_n hx hb dL_748 rfl (lv_at hl 1 rfl) ?_
  refine lv_aload_n hx hb dL_749 rfl (lv_at hl 0 rfl) ?_
  refine lv_iload_n hx hb dL_750 rfl (lv_at hl 3 rfl) ?_
  refine lv_iconst (v := 1) hx hb dL_751 (by decide) ?_
  refine lv_iadd hx hb dL_752 ?_
  refine va_sld hx hb hX hbl hbA hS i1 dL_753 ?_
  refine lv_aload_n hx hb dL_754 rfl (lv_at hl 0 rfl) ?_
  refine lv_iload_n hx hb dL_755 rfl (lv_at hl 3 rfl) ?_
  refine lv_iconst (v := 2) hx hb dL_756 (by decide) ?_
  refine lv_iadd hx hb dL_757 ?_
  refine va_sld hx hb hX hbl hbA hS i2 dL_758 ?_
  refine lr_Ll (wd := wdK q1 k1 cI cJ) (wo := wdM q2 k2 cI cJ σ2) (σ := σ1) (σ' := s1) (av := [.int (xs (x3 + 1).toNatClampNeg), .int (xs (x3 + 2).toNatClampNeg)]) ⟨hx, hb, hml, hown, hts⟩ (mK_length l D q1 k1 cI cJ _ 200 σ1 s1 ((xs (x3 + 1).toNatClampNeg)) ((xs (x3 + 2).toNatClampNeg)) r e1) (cwV 2 hts (kgood_L TK_good TK_in (List.mem_of_getElem? (i := 297) (by decide +kernel)) (by decide +kernel)) rfl rfl rfl (by decide +kernel) ⟨Nat.le_of_ble_eq_true rfl, Nat.le_of_ble_eq_true rfl⟩) hK hP hD hS hA (ci := 0) (q0 := 0) rfl rfl rfl hl.1 rfl (Nat.le_of_ble_eq_true rfl) dL_759 ⟨Nat.le_of_ble_eq_true rfl, Nat.le_of_ble_eq_true rfl⟩ (fun H locs hP hD hS => ?_)
  refine lv_aload_n hx hb dL_762 rfl (lv_at hl 2 rfl) ?_
  refine lv_aload_n hx hb dL_763 rfl (lv_at hl 0 rfl) ?_
  refine lv_iload_n hx hb dL_764 rfl (lv_at hl 3 rfl) ?_
  refine lv_iconst (v := 1) hx hb dL_765 (by decide) ?_
  refine lv_iadd hx hb dL_766 ?_
  refine va_sld hx hb hX hbl hbA hS i1 dL_767 ?_
  refine lv_aload_n hx hb dL_768 rfl (lv_at hl 0 rfl) ?_
  refine lv_iload_n hx hb dL_769 rfl (lv_at hl 3 rfl) ?_
  refine lv_iconst (v := 2) hx hb dL_770 (by decide) ?_
  refine lv_iadd hx hb dL_771 ?_
  refine va_sld hx hb hX hbl hbA hS i2 dL_772 ?_
  refine lr_Rl (wd := wdM q2 k2 cI cJ) (wo := wdK q1 k1 cI cJ s1) (σ := σ2) (σ' := s2) (av := [.int (xs (x3 + 1).toNatClampNeg), .int (xs (x3 + 2).toNatClampNeg)]) ⟨hx, hb, hml, hown, hts⟩ (mM_length l D q2 k2 cI cJ _ 200 σ2 s2 ((xs (x3 + 1).toNatClampNeg)) ((xs (x3 + 2).toNatClampNeg)) r e2) (cwV 2 hts (kgood_L TM_good TM_in (List.mem_of_getElem? (i := 512) (by decide +kernel)) (by decide +kernel)) rfl rfl rfl (by decide +kernel) ⟨Nat.le_of_ble_eq_true rfl, Nat.le_of_ble_eq_true rfl⟩) hK hP hD hS hA (ci := 1) (q0 := 0) rfl rfl rfl hl.1 rfl (Nat.le_of_ble_eq_true rfl) dL_773 ⟨Nat.le_of_ble_eq_true rfl, Nat.le_of_ble_eq_true rfl⟩ (fun H locs hP hD hS => ?_)
  refine W.lcmp hx hb dL_776 ?_
  refine lv_if_eq (tgt := 895) hx hb dL_777 (by decide) (fun _ => ?_) (fun q => absurd ((lg_cmp_eq r r).mpr rfl) q)
  exact kk s1 s2 H locs hRel hP hD hS
set_option maxHeartbeats 400000 in
set_option maxRecDepth 100000 in
/-- pooled -/
theorem lw_case_16 (ow : Owed4) {p : Program} {l : Launch} {e : Env} {s : State} {m : MethodId} {below : List Frame} {meth : Method} {c : Code} {D : va_G} {q1 q2 : Nat → Nat} {k1 : kK} {k2 : kM} {cI cJ : ClassId} {b L : Nat} {xs : Nat → Int32} (C0 : lw_At p s m meth c b L xs) (hK : va_K D cl0 [(cI, .int), (cJ, .long)] s) (x3 : Int32) (i1 : vp_in (x3 + 1) L) (i2 : vp_in (x3 + 2) L) (i3 : vp_in (x3 + 3) L) (i4 : vp_in (x3 + 4) L) (σ1 : sK) (σ2 : sM) (hRel : Rel k1 σ1 k2 σ2) (H : Heap) (locs : List Loc) (ls : Array Slot) (hP : va_P D cl0 (wdK q1 k1 cI cJ σ1 ++ wdM q2 k2 cI cJ σ2) H) (hD : va_D (fun z : Nat => s.heap.size ≤ z) (wdK q1 k1 cI cJ σ1 ++ wdM q2 k2 cI cJ σ2)) (hS : va_S (fun z : Nat => s.heap.size ≤ z) s.heap H locs) (hl : lv_has ls 4 [(0, .ref b), (1, .ref (q1 0)), (2, .ref (q2 0)), (3, .int x3)])
    (kk : ∀ (t1 : sK) (t2 : sM) (H : Heap) (locs : List Loc), Rel k1 t1 k2 t2 → va_P D cl0 (wdK q1 k1 cI cJ t1 ++ wdM q2 k2 cI cJ t2) H → va_D (fun z : Nat => s.heap.size ≤ z) (wdK q1 k1 cI cJ t1 ++ wdM q2 k2 cI cJ t2) → va_S (fun z : Nat => s.heap.size ≤ z) s.heap H locs → W p l e room_1 s m #[Value.ref b] below meth c H locs 25 1195 (lw_Z below #[Value.ref b] s) (F0 m 895 ls [])) : W p l e room_1 s m #[Value.ref b] below meth c H locs 25 1195 (lw_Z below #[Value.ref b] s) (F0 m 782 ls []) := by
  obtain ⟨hx, hb, hr, hml, hown, hts, hX, hbl, hlocks, hgv⟩ := id C0
  have hA : ∀ z : Nat, s.heap.size ≤ z → (fun z : Nat => s.heap.size ≤ z) z := fun _ h => h
  have hbA : ¬ (fun z : Nat => s.heap.size ≤ z) b := Nat.not_le.mpr hbl
  obtain ⟨r, s1, s2, e1, e2, hRel⟩ := (ow 200 k1 σ1 k2 σ2 (Nat.le_refl 200) hRel).2.2.2 ((xs (x3 + 1).toNatClampNeg))
  refine lv_aload_n hx hb dL_782 rfl (lv_at hl 1 rfl) ?_
  refine lv_aload_n hx hb dL_783 rfl (lv_at hl 0 rfl) ?_
  refine lv_iload_n hx hb dL_784 rfl (lv_at hl 3 rfl) ?_
  refine lv_iconst (v := 1) hx hb dL_785 (by decide) ?_
  refine lv_iadd hx hb dL_786 ?_
  refine va_sld hx hb hX hbl hbA hS i1 dL_787 ?_
  refine lr_Li (wd := wdK q1 k1 cI cJ) (wo := wdM q2 k2 cI cJ σ2) (σ := σ1) (σ' := s1) (av := [.int (xs (x3 + 1).toNatClampNeg)]) ⟨hx, hb, hml, hown, hts⟩ (mK_pooled l D q1 k1 cI cJ _ 200 σ1 s1 ((xs (x3 + 1).toNatClampNeg)) r e1) (cwV 1 hts (kgood_L TK_good TK_in (List.mem_of_getElem? (i := 325) (by decide +kernel)) (by decide +kernel)) rfl rfl rfl (by decide +kernel) ⟨Nat.le_of_ble_eq_true rfl, Nat.le_of_ble_eq_true rfl⟩) hK hP hD hS hA (ci := 0) (q0 := 0) rfl rfl rfl hl.1 rfl (Nat.le_of_ble_eq_true rfl) dL_788 ⟨Nat.le_of_ble_eq_true rfl, Nat.le_of_ble_eq_true rfl⟩ (fun H locs hP hD hS => ?_)
  refine lv_aload_n hx hb dL_791 rfl (lv_at hl 2 rfl) ?_
  refine lv_aload_n hx hb dL_792 rfl (lv_at hl 0 rfl) ?_
  refine lv_iload_n hx hb dL_793 rfl (lv_at hl 3 rfl) ?_
  refine lv_iconst (v := 1) hx hb dL_794 (by decide) ?_
  refine lv_iadd hx hb dL_795 ?_
  refine va_sld hx hb hX hbl hbA hS i1 dL_796 ?_
  refine lr_Ri (wd := wdM q2 k2 cI cJ) (wo := wdK q1 k1 cI cJ s1) (σ := σ2) (σ' := s2) (av := [.int (xs (x3 + 1).toNatClampNeg)]) ⟨hx, hb, hml, hown, hts⟩ (mM_pooled l D q2 k2 cI cJ _ 200 σ2 s2 ((xs (x3 + 1).toNatClampNeg)) r e2) (cwV 1 hts (kgood_L TM_good TM_in (List.mem_of_getElem? (i := 528) (by decide +kernel)) (by decide +kernel)) rfl rfl rfl (by decide +kernel) ⟨Nat.le_of_ble_eq_true rfl, Nat.le_of_ble_eq_true rfl⟩) hK hP hD hS hA (ci := 1) (q0 := 0) rfl rfl rfl hl.1 rfl (Nat.le_of_ble_eq_true rfl) dL_797 ⟨Nat.le_of_ble_eq_true rfl, Nat.le_of_ble_eq_true rfl⟩ (fun H locs hP hD hS => ?_)
  refine lv_icmp_eq (tgt := 895) hx hb dL_800 (by decide) (fun _ => ?_) (fun q => absurd rfl q)
  exact kk s1 s2 H locs hRel hP hD hS
set_option maxHeartbeats 400000 in
set_option maxRecDepth 100000 in
/-- sex -/
theorem lw_case_17 (ow : Owed4) {p : Program} {l : Launch} {e : Env} {s : State} {m : MethodId} {below : List Frame} {meth : Method} {c : Code} {D : va_G} {q1 q2 : Nat → Nat} {k1 : kK} {k2 : kM} {cI cJ : ClassId} {b L : Nat} {xs : Nat → Int32} (C0 : lw_At p s m meth c b L xs) (hK : va_K D cl0 [(cI, .int), (cJ, .long)] s) (x3 : Int32) (i1 : vp_in (x3 + 1) L) (i2 : vp_in (x3 + 2) L) (i3 : vp_in (x3 + 3) L) (i4 : vp_in (x3 + 4) L) (σ1 : sK) (σ2 : sM) (hRel : Rel k1 σ1 k2 σ2) (H : Heap) (locs : List Loc) (ls : Array Slot) (hP : va_P D cl0 (wdK q1 k1 cI cJ σ1 ++ wdM q2 k2 cI cJ σ2) H) (hD : va_D (fun z : Nat => s.heap.size ≤ z) (wdK q1 k1 cI cJ σ1 ++ wdM q2 k2 cI cJ σ2)) (hS : va_S (fun z : Nat => s.heap.size ≤ z) s.heap H locs) (hl : lv_has ls 4 [(0, .ref b), (1, .ref (q1 0)), (2, .ref (q2 0)), (3, .int x3)])
    (kk : ∀ (t1 : sK) (t2 : sM) (H : Heap) (locs : List Loc), Rel k1 t1 k2 t2 → va_P D cl0 (wdK q1 k1 cI cJ t1 ++ wdM q2 k2 cI cJ t2) H → va_D (fun z : Nat => s.heap.size ≤ z) (wdK q1 k1 cI cJ t1 ++ wdM q2 k2 cI cJ t2) → va_S (fun z : Nat => s.heap.size ≤ z) s.heap H locs → W p l e room_1 s m #[Value.ref b] below meth c H locs 25 1195 (lw_Z below #[Value.ref b] s) (F0 m 895 ls [])) : W p l e room_1 s m #[Value.ref b] below meth c H locs 25 1195 (lw_Z below #[Value.ref b] s) (F0 m 805 ls []) := by
  obtain ⟨hx, hb, hr, hml, hown, hts, hX, hbl, hlocks, hgv⟩ := id C0
  have hA : ∀ z : Nat, s.heap.size ≤ z → (fun z : Nat => s.heap.size ≤ z) z := fun _ h => h
  have hbA : ¬ (fun z : Nat => s.heap.size ≤ z) b := Nat.not_le.mpr hbl
  obtain ⟨r, s1, s2, e1, e2, hRel⟩ := rl_sex hRel ((xs (x3 + 1).toNatClampNeg)) ((xs (x3 + 2).toNatClampNeg)) ((xs (x3 + 3).toNatClampNeg))
  refine lv_aload_n hx hb dL_805 rfl (lv_at hl 1 rfl) ?_
  refine lv_aload_n hx hb dL_806 rfl (lv_at hl 0 rfl) ?_
  refine lv_iload_n hx hb dL_807 rfl (lv_at hl 3 rfl) ?_
  refine lv_iconst (v := 1) hx hb dL_808 (by decide) ?_
  refine lv_iadd hx hb dL_809 ?_
  refine va_sld hx hb hX hbl hbA hS i1 dL_810 ?_
  refine lv_aload_n hx hb dL_811 rfl (lv_at hl 0 rfl) ?_
  refine lv_iload_n hx hb dL_812 rfl (lv_at hl 3 rfl) ?_
  refine lv_iconst (v := 2) hx hb dL_813 (by decide) ?_
  refine lv_iadd hx hb dL_814 ?_
  refine va_sld hx hb hX hbl hbA hS i2 dL_815 ?_
  refine lv_aload_n hx hb dL_816 rfl (lv_at hl 0 rfl) ?_
  refine lv_iload_n hx hb dL_817 rfl (lv_at hl 3 rfl) ?_
  refine lv_iconst (v := 3) hx hb dL_818 (by decide) ?_
  refine lv_iadd hx hb dL_819 ?_
  refine va_sld hx hb hX hbl hbA hS i3 dL_820 ?_
  refine lr_Li (wd := wdK q1 k1 cI cJ) (wo := wdM q2 k2 cI cJ σ2) (σ := σ1) (σ' := s1) (av := [.int (xs (x3 + 1).toNatClampNeg), .int (xs (x3 + 2).toNatClampNeg), .int (xs (x3 + 3).toNatClampNeg)]) ⟨hx, hb, hml, hown, hts⟩ (mK_sex l D q1 k1 cI cJ _ σ1 s1 ((xs (x3 + 1).toNatClampNeg)) ((xs (x3 + 2).toNatClampNeg)) ((xs (x3 + 3).toNatClampNeg)) r e1) (cwV 3 hts (kgood_L TK_good TK_in (List.mem_of_getElem? (i := 329) (by decide +kernel)) (by decide +kernel)) rfl rfl rfl (by decide +kernel) ⟨Nat.le_of_ble_eq_true rfl, Nat.le_of_ble_eq_true rfl⟩) hK hP hD hS hA (ci := 0) (q0 := 0) rfl rfl rfl hl.1 rfl (Nat.le_of_ble_eq_true rfl) dL_821 ⟨Nat.le_of_ble_eq_true rfl, Nat.le_of_ble_eq_true rfl⟩ (fun H locs hP hD hS => ?_)
  refine lv_aload_n hx hb dL_824 rfl (lv_at hl 2 rfl) ?_
  refine lv_aload_n hx hb dL_825 rfl (lv_at hl 0 rfl) ?_
  refine lv_iload_n hx hb dL_826 rfl (lv_at hl 3 rfl) ?_
  refine lv_iconst (v := 1) hx hb dL_827 (by decide) ?_
  refine lv_iadd hx hb dL_828 ?_
  refine va_sld hx hb hX hbl hbA hS i1 dL_829 ?_
  refine lv_aload_n hx hb dL_830 rfl (lv_at hl 0 rfl) ?_
  refine lv_iload_n hx hb dL_831 rfl (lv_at hl 3 rfl) ?_
  refine lv_iconst (v := 2) hx hb dL_832 (by decide) ?_
  refine lv_iadd hx hb dL_833 ?_
  refine va_sld hx hb hX hbl hbA hS i2 dL_834 ?_
  refine lv_aload_n hx hb dL_835 rfl (lv_at hl 0 rfl) ?_
  refine lv_iload_n hx hb dL_836 rfl (lv_at hl 3 rfl) ?_
  refine lv_iconst (v := 3) hx hb dL_837 (by decide) ?_
  refine lv_iadd hx hb dL_838 ?_
  refine va_sld hx hb hX hbl hbA hS i3 dL_839 ?_
  refine lr_Ri (wd := wdM q2 k2 cI cJ) (wo := wdK q1 k1 cI cJ s1) (σ := σ2) (σ' := s2) (av := [.int (xs (x3 + 1).toNatClampNeg), .int (xs (x3 + 2).toNatClampNeg), .int (xs (x3 + 3).toNatClampNeg)]) ⟨hx, hb, hml, hown, hts⟩ (mM_sex l D q2 k2 cI cJ _ σ2 s2 ((xs (x3 + 1).toNatClampNeg)) ((xs (x3 + 2).toNatClampNeg)) ((xs (x3 + 3).toNatClampNeg)) r e2) (cwV 3 hts (kgood_L TM_good TM_in (List.mem_of_getElem? (i := 536) (by decide +kernel)) (by decide +kernel)) rfl rfl rfl (by decide +kernel) ⟨Nat.le_of_ble_eq_true rfl, Nat.le_of_ble_eq_true rfl⟩) hK hP hD hS hA (ci := 1) (q0 := 0) rfl rfl rfl hl.1 rfl (Nat.le_of_ble_eq_true rfl) dL_840 ⟨Nat.le_of_ble_eq_true rfl, Nat.le_of_ble_eq_true rfl⟩ (fun H locs hP hD hS => ?_)
  refine lv_icmp_eq (tgt := 895) hx hb dL_843 (by decide) (fun _ => ?_) (fun q => absurd rfl q)
  exact kk s1 s2 H locs hRel hP hD hS
set_option maxHeartbeats 400000 in
set_option maxRecDepth 100000 in
/-- males -/
theorem lw_case_18 (ow : Owed4) {p : Program} {l : Launch} {e : Env} {s : State} {m : MethodId} {below : List Frame} {meth : Method} {c : Code} {D : va_G} {q1 q2 : Nat → Nat} {k1 : kK} {k2 : kM} {cI cJ : ClassId} {b L : Nat} {xs : Nat → Int32} (C0 : lw_At p s m meth c b L xs) (hK : va_K D cl0 [(cI, .int), (cJ, .long)] s) (x3 : Int32) (i1 : vp_in (x3 + 1) L) (i2 : vp_in (x3 + 2) L) (i3 : vp_in (x3 + 3) L) (i4 : vp_in (x3 + 4) L) (σ1 : sK) (σ2 : sM) (hRel : Rel k1 σ1 k2 σ2) (H : Heap) (locs : List Loc) (ls : Array Slot) (hP : va_P D cl0 (wdK q1 k1 cI cJ σ1 ++ wdM q2 k2 cI cJ σ2) H) (hD : va_D (fun z : Nat => s.heap.size ≤ z) (wdK q1 k1 cI cJ σ1 ++ wdM q2 k2 cI cJ σ2)) (hS : va_S (fun z : Nat => s.heap.size ≤ z) s.heap H locs) (hl : lv_has ls 4 [(0, .ref b), (1, .ref (q1 0)), (2, .ref (q2 0)), (3, .int x3)])
    (kk : ∀ (t1 : sK) (t2 : sM) (H : Heap) (locs : List Loc), Rel k1 t1 k2 t2 → va_P D cl0 (wdK q1 k1 cI cJ t1 ++ wdM q2 k2 cI cJ t2) H → va_D (fun z : Nat => s.heap.size ≤ z) (wdK q1 k1 cI cJ t1 ++ wdM q2 k2 cI cJ t2) → va_S (fun z : Nat => s.heap.size ≤ z) s.heap H locs → W p l e room_1 s m #[Value.ref b] below meth c H locs 25 1195 (lw_Z below #[Value.ref b] s) (F0 m 895 ls [])) : W p l e room_1 s m #[Value.ref b] below meth c H locs 25 1195 (lw_Z below #[Value.ref b] s) (F0 m 848 ls []) := by
  obtain ⟨hx, hb, hr, hml, hown, hts, hX, hbl, hlocks, hgv⟩ := id C0
  have hA : ∀ z : Nat, s.heap.size ≤ z → (fun z : Nat => s.heap.size ≤ z) z := fun _ h => h
  have hbA : ¬ (fun z : Nat => s.heap.size ≤ z) b := Nat.not_le.mpr hbl
  obtain ⟨r, e1, e2⟩ := rl_males (fu := 200) hRel (Nat.le_refl 200) ((xs (x3 + 1).toNatClampNeg)) ((xs (x3 + 2).toNatClampNeg))
  refine lv_aload_n hx hb dL_848 rfl (lv_at hl 1 rfl) ?_
  refine lv_aload_n hx hb dL_849 rfl (lv_at hl 0 rfl) ?_
  refine lv_iload_n hx hb dL_850 rfl (lv_at hl 3 rfl) ?_
  refine lv_iconst (v := 1) hx hb dL_851 (by decide) ?_
  refine lv_iadd hx hb dL_852 ?_
  refine va_sld hx hb hX hbl hbA hS i1 dL_853 ?_
  refine lv_aload_n hx hb dL_854 rfl (lv_at hl 0 rfl) ?_
  refine lv_iload_n hx hb dL_855 rfl (lv_at hl 3 rfl) ?_
  refine lv_iconst (v := 2) hx hb dL_856 (by decide) ?_
  refine lv_iadd hx hb dL_857 ?_
  refine va_sld hx hb hX hbl hbA hS i2 dL_858 ?_
  refine lr_Ll (wd := wdK q1 k1 cI cJ) (wo := wdM q2 k2 cI cJ σ2) (σ := σ1) (σ' := σ1) (av := [.int (xs (x3 + 1).toNatClampNeg), .int (xs (x3 + 2).toNatClampNeg)]) ⟨hx, hb, hml, hown, hts⟩ (mK_males l D q1 k1 cI cJ _ 200 σ1 ((xs (x3 + 1).toNatClampNeg)) ((xs (x3 + 2).toNatClampNeg)) r e1) (cwV 2 hts (kgood_L TK_good TK_in (List.mem_of_getElem? (i := 333) (by decide +kernel)) (by decide +kernel)) rfl rfl rfl (by decide +kernel) ⟨Nat.le_of_ble_eq_true rfl, Nat.le_of_ble_eq_true rfl⟩) hK hP hD hS hA (ci := 0) (q0 := 0) rfl rfl rfl hl.1 rfl (Nat.le_of_ble_eq_true rfl) dL_859 ⟨Nat.le_of_ble_eq_true rfl, Nat.le_of_ble_eq_true rfl⟩ (fun H locs hP hD hS => ?_)
  refine lv_aload_n hx hb dL_862 rfl (lv_at hl 2 rfl) ?_
  refine lv_aload_n hx hb dL_863 rfl (lv_at hl 0 rfl) ?_
  refine lv_iload_n hx hb dL_864 rfl (lv_at hl 3 rfl) ?_
  refine lv_iconst (v := 1) hx hb dL_865 (by decide) ?_
  refine lv_iadd hx hb dL_866 ?_
  refine va_sld hx hb hX hbl hbA hS i1 dL_867 ?_
  refine lv_aload_n hx hb dL_868 rfl (lv_at hl 0 rfl) ?_
  refine lv_iload_n hx hb dL_869 rfl (lv_at hl 3 rfl) ?_
  refine lv_iconst (v := 2) hx hb dL_870 (by decide) ?_
  refine lv_iadd hx hb dL_871 ?_
  refine va_sld hx hb hX hbl hbA hS i2 dL_872 ?_
  refine lr_Rl (wd := wdM q2 k2 cI cJ) (wo := wdK q1 k1 cI cJ σ1) (σ := σ2) (σ' := σ2) (av := [.int (xs (x3 + 1).toNatClampNeg), .int (xs (x3 + 2).toNatClampNeg)]) ⟨hx, hb, hml, hown, hts⟩ (mM_males l D q2 k2 cI cJ _ 200 σ2 ((xs (x3 + 1).toNatClampNeg)) ((xs (x3 + 2).toNatClampNeg)) r e2) (cwV 2 hts (kgood_L TM_good TM_in (List.mem_of_getElem? (i := 540) (by decide +kernel)) (by decide +kernel)) rfl rfl rfl (by decide +kernel) ⟨Nat.le_of_ble_eq_true rfl, Nat.le_of_ble_eq_true rfl⟩) hK hP hD hS hA (ci := 1) (q0 := 0) rfl rfl rfl hl.1 rfl (Nat.le_of_ble_eq_true rfl) dL_873 ⟨Nat.le_of_ble_eq_true rfl, Nat.le_of_ble_eq_true rfl⟩ (fun H locs hP hD hS => ?_)
  refine W.lcmp hx hb dL_876 ?_
  refine lv_if_eq (tgt := 895) hx hb dL_877 (by decide) (fun _ => ?_) (fun q => absurd ((lg_cmp_eq r r).mpr rfl) q)
  exact kk σ1 σ2 H locs hRel hP hD hS
set_option maxHeartbeats 400000 in
set_option maxRecDepth 100000 in
/-- groups -/
theorem lw_case_19 (ow : Owed4) {p : Program} {l : Launch} {e : Env} {s : State} {m : MethodId} {below : List Frame} {meth : Method} {c : Code} {D : va_G} {q1 q2 : Nat → Nat} {k1 : kK} {k2 : kM} {cI cJ : ClassId} {b L : Nat} {xs : Nat → Int32} (C0 : lw_At p s m meth c b L xs) (hK : va_K D cl0 [(cI, .int), (cJ, .long)] s) (x3 : Int32) (i1 : vp_in (x3 + 1) L) (i2 : vp_in (x3 + 2) L) (i3 : vp_in (x3 + 3) L) (i4 : vp_in (x3 + 4) L) (σ1 : sK) (σ2 : sM) (hRel : Rel k1 σ1 k2 σ2) (H : Heap) (locs : List Loc) (ls : Array Slot) (hP : va_P D cl0 (wdK q1 k1 cI cJ σ1 ++ wdM q2 k2 cI cJ σ2) H) (hD : va_D (fun z : Nat => s.heap.size ≤ z) (wdK q1 k1 cI cJ σ1 ++ wdM q2 k2 cI cJ σ2)) (hS : va_S (fun z : Nat => s.heap.size ≤ z) s.heap H locs) (hl : lv_has ls 4 [(0, .ref b), (1, .ref (q1 0)), (2, .ref (q2 0)), (3, .int x3)])
    (kk : ∀ (t1 : sK) (t2 : sM) (H : Heap) (locs : List Loc), Rel k1 t1 k2 t2 → va_P D cl0 (wdK q1 k1 cI cJ t1 ++ wdM q2 k2 cI cJ t2) H → va_D (fun z : Nat => s.heap.size ≤ z) (wdK q1 k1 cI cJ t1 ++ wdM q2 k2 cI cJ t2) → va_S (fun z : Nat => s.heap.size ≤ z) s.heap H locs → W p l e room_1 s m #[Value.ref b] below meth c H locs 25 1195 (lw_Z below #[Value.ref b] s) (F0 m 895 ls [])) : W p l e room_1 s m #[Value.ref b] below meth c H locs 25 1195 (lw_Z below #[Value.ref b] s) (F0 m 882 ls []) := by
  obtain ⟨hx, hb, hr, hml, hown, hts, hX, hbl, hlocks, hgv⟩ := id C0
  have hA : ∀ z : Nat, s.heap.size ≤ z → (fun z : Nat => s.heap.size ≤ z) z := fun _ h => h
  have hbA : ¬ (fun z : Nat => s.heap.size ≤ z) b := Nat.not_le.mpr hbl
  obtain ⟨r, e1, e2⟩ := rl_groups (fu := 200) hRel (Nat.le_refl 200)
  refine lv_aload_n hx hb dL_882 rfl (lv_at hl 1 rfl) ?_
  refine lr_Li (wd := wdK q1 k1 cI cJ) (wo := wdM q2 k2 cI cJ σ2) (σ := σ1) (σ' := σ1) (av := []) ⟨hx, hb, hml, hown, hts⟩ (mK_groups l D q1 k1 cI cJ _ 200 σ1 r e1) (cwV 0 hts (kgood_L TK_good TK_in (List.mem_of_getElem? (i := 225) (by decide +kernel)) (by decide +kernel)) rfl rfl rfl (by decide +kernel) ⟨Nat.le_of_ble_eq_true rfl, Nat.le_of_ble_eq_true rfl⟩) hK hP hD hS hA (ci := 0) (q0 := 0) rfl rfl rfl hl.1 rfl (Nat.le_of_ble_eq_true rfl) dL_883 ⟨Nat.le_of_ble_eq_true rfl, Nat.le_of_ble_eq_true rfl⟩ (fun H locs hP hD hS => ?_)
  refine lv_aload_n hx hb dL_886 rfl (lv_at hl 2 rfl) ?_
  refine lr_Ri (wd := wdM q2 k2 cI cJ) (wo := wdK q1 k1 cI cJ σ1) (σ := σ2) (σ' := σ2) (av := []) ⟨hx, hb, hml, hown, hts⟩ (mM_groups l D q2 k2 cI cJ _ 200 σ2 r e2) (cwV 0 hts (kgood_L TM_good TM_in (List.mem_of_getElem? (i := 456) (by decide +kernel)) (by decide +kernel)) rfl rfl rfl (by decide +kernel) ⟨Nat.le_of_ble_eq_true rfl, Nat.le_of_ble_eq_true rfl⟩) hK hP hD hS hA (ci := 1) (q0 := 0) rfl rfl rfl hl.1 rfl (Nat.le_of_ble_eq_true rfl) dL_887 ⟨Nat.le_of_ble_eq_true rfl, Nat.le_of_ble_eq_true rfl⟩ (fun H locs hP hD hS => ?_)
  refine lv_icmp_eq (tgt := 895) hx hb dL_890 (by decide) (fun _ => ?_) (fun q => absurd rfl q)
  exact kk σ1 σ2 H locs hRel hP hD hS
