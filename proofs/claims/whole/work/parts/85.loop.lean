set_option maxHeartbeats 1000000 in
set_option maxRecDepth 100000 in
theorem law_loop (ow : Owed4) {p : Program} {l : Launch} {e : Env} {s : State} {m : MethodId} {below : List Frame} {meth : Method} {c : Code} {D : va_G} {q1 q2 : Nat → Nat} {k1 : kK} {k2 : kM} {cI cJ : ClassId} {b L : Nat} {xs : Nat → Int32} (hL : L ≤ 2562) (C0 : lw_At p s m meth c b L xs) (hK : va_K D cl0 [(cI, .int), (cJ, .long)] s) : ∀ (n i : Nat) (x3 : Int32) (σ1 : sK) (σ2 : sM) (H : Heap) (locs : List Loc) (ls : Array Slot), x3 = nI i → i ≤ 2562 → 2600 ≤ i + n → Rel k1 σ1 k2 σ2 → va_P D cl0 (wdK q1 k1 cI cJ σ1 ++ wdM q2 k2 cI cJ σ2) H → va_D (fun z : Nat => s.heap.size ≤ z) (wdK q1 k1 cI cJ σ1 ++ wdM q2 k2 cI cJ σ2) → va_S (fun z : Nat => s.heap.size ≤ z) s.heap H locs → lv_has ls 4 [(0, .ref b), (1, .ref (q1 0)), (2, .ref (q2 0)), (3, .int x3)] → W p l e room_1 s m #[Value.ref b] below meth c H locs 25 1195 (lw_Z below #[Value.ref b] s) (F0 m 38 ls []) := by
  obtain ⟨hx, hb, hr, hml, hown, hts, hX, hbl, hlocks, hgv⟩ := id C0
  have hbA : ¬ (fun z : Nat => s.heap.size ≤ z) b := Nat.not_le.mpr hbl
  intro n
  induction n with
  | zero =>
    intro i x3 σ1 σ2 H locs ls h1 h2 h3
    exact absurd h3 (by omega)
  | succ n ih =>
    intro i x3 σ1 σ2 H locs ls ex hi hn hRel hP hD hS hl
    refine lv_iload_n hx hb dL_38 rfl (lv_at hl 3 rfl) ?_
    refine lv_aload_n hx hb dL_39 rfl (lv_at hl 0 rfl) ?_
    refine va_slen hx hb hX hbl hbA hS dL_40 ?_
    refine lv_iconst (v := 5) hx hb dL_41 (by decide) ?_
    refine lv_isub hx hb dL_42 ?_
    have hsub : (Int32.ofNat L - 5).toInt = (L : Int) - 5 := pk_sub_toInt (a := L) (b := 5) (by omega) (by omega)
    refine lv_icmp_gt (tgt := 901) hx hb dL_43 (by decide) (fun c43 => ?_) (fun c43 => ?_)
    · refine lv_iconst (v := 1) hx hb dL_901 (by decide) ?_
      refine va_forget (fun q hq => hS.2.2 q hq) ?_
      refine W.widen (k := 600000) (n := 7302250) (by decide) (by decide) ?_
      exact lw_ret hx hb hr hlocks dL_902
    · have hlt : i + 5 ≤ L := by
        rw [Int32.lt_iff_toInt_lt, hsub, ex, nI_toInt (by omega)] at c43
        omega
      have i0 : vp_in x3 L := by rw [ex]; exact vp_in_nI (by omega) (by omega)
      have i1 : vp_in (x3 + 1) L := by rw [ex, show (1 : Int32) = nI 1 from rfl, nI_add]; exact vp_in_nI (by omega) (by omega)
      have i2 : vp_in (x3 + 2) L := by rw [ex, show (2 : Int32) = nI 2 from rfl, nI_add]; exact vp_in_nI (by omega) (by omega)
      have i3 : vp_in (x3 + 3) L := by rw [ex, show (3 : Int32) = nI 3 from rfl, nI_add]; exact vp_in_nI (by omega) (by omega)
      have i4 : vp_in (x3 + 4) L := by rw [ex, show (4 : Int32) = nI 4 from rfl, nI_add]; exact vp_in_nI (by omega) (by omega)
      have kk : ∀ (t1 : sK) (t2 : sM) (H : Heap) (locs : List Loc), Rel k1 t1 k2 t2 → va_P D cl0 (wdK q1 k1 cI cJ t1 ++ wdM q2 k2 cI cJ t2) H → va_D (fun z : Nat => s.heap.size ≤ z) (wdK q1 k1 cI cJ t1 ++ wdM q2 k2 cI cJ t2) → va_S (fun z : Nat => s.heap.size ≤ z) s.heap H locs → W p l e room_1 s m #[Value.ref b] below meth c H locs 25 1195 (lw_Z below #[Value.ref b] s) (F0 m 895 ls []) := by
        intro t1 t2 H locs hRel hP hD hS
        refine lv_iinc (v := x3 + 5) (lv' := [(3, .int (x3 + 5)), (0, .ref b), (1, .ref (q1 0)), (2, .ref (q2 0))]) hx hb dL_895 hl (k := 3) rfl rfl (by decide) rfl (fun ls hl => ?_)
        refine lv_goto (tgt := 38) hx hb dL_898 (by decide) ?_
        exact ih (i + 5) (x3 + 5) t1 t2 H locs ls (by rw [ex, show (5 : Int32) = nI 5 from rfl, nI_add]) (by omega) (by omega) hRel hP hD hS (lv_sub hl [1, 2, 3, 0] rfl)
      refine lv_aload_n hx hb dL_46 rfl (lv_at hl 0 rfl) ?_
      refine lv_iload_n hx hb dL_47 rfl (lv_at hl 3 rfl) ?_
      refine va_sld hx hb hX hbl hbA hS i0 dL_48 ?_
      refine lv_bipush (v := 31) hx hb dL_49 (by decide) ?_
      refine lv_iand hx hb dL_51 ?_
      obtain ⟨j, hj, ej⟩ := pk_andE (xs x3.toNatClampNeg) (m := 31) 5 (by decide)
      rw [ej]
      rcases (show j = 0 ∨ j = 1 ∨ j = 2 ∨ j = 3 ∨ j = 4 ∨ j = 5 ∨ j = 6 ∨ j = 7 ∨ j = 8 ∨ j = 9 ∨ j = 10 ∨ j = 11 ∨ j = 12 ∨ j = 13 ∨ j = 14 ∨ j = 15 ∨ j = 16 ∨ j = 17 ∨ j = 18 ∨ j = 19 ∨ 20 ≤ j by omega) with rfl | rfl | rfl | rfl | rfl | rfl | rfl | rfl | rfl | rfl | rfl | rfl | rfl | rfl | rfl | rfl | rfl | rfl | rfl | rfl | hj2
      · refine lv_tableIn (off := 96) (tgt := 148) hx hb dL_52 (by decide) (by decide) (by decide) (by decide) ?_
        exact lw_case_0 ow C0 hK x3 i1 i2 i3 i4 σ1 σ2 hRel H locs ls hP hD hS hl kk
      · refine lv_tableIn (off := 139) (tgt := 191) hx hb dL_52 (by decide) (by decide) (by decide) (by decide) ?_
        exact lw_case_1 ow C0 hK x3 i1 i2 i3 i4 σ1 σ2 hRel H locs ls hP hD hS hl kk
      · refine lv_tableIn (off := 162) (tgt := 214) hx hb dL_52 (by decide) (by decide) (by decide) (by decide) ?_
        exact lw_case_2 ow C0 hK x3 i1 i2 i3 i4 σ1 σ2 hRel H locs ls hP hD hS hl kk
      · refine lv_tableIn (off := 206) (tgt := 258) hx hb dL_52 (by decide) (by decide) (by decide) (by decide) ?_
        exact lw_case_3 ow C0 hK x3 i1 i2 i3 i4 σ1 σ2 hRel H locs ls hP hD hS hl kk
      · refine lv_tableIn (off := 229) (tgt := 281) hx hb dL_52 (by decide) (by decide) (by decide) (by decide) ?_
        exact lw_case_4 ow C0 hK x3 i1 i2 i3 i4 σ1 σ2 hRel H locs ls hP hD hS hl kk
      · refine lv_tableIn (off := 252) (tgt := 304) hx hb dL_52 (by decide) (by decide) (by decide) (by decide) ?_
        exact lw_case_5 ow C0 hK x3 i1 i2 i3 i4 σ1 σ2 hRel H locs ls hP hD hS hl kk
      · refine lv_tableIn (off := 275) (tgt := 327) hx hb dL_52 (by decide) (by decide) (by decide) (by decide) ?_
        exact lw_case_6 ow C0 hK x3 i1 i2 i3 i4 σ1 σ2 hRel H locs ls hP hD hS hl kk
      · refine lv_tableIn (off := 308) (tgt := 360) hx hb dL_52 (by decide) (by decide) (by decide) (by decide) ?_
        exact lw_case_7 ow C0 hK x3 i1 i2 i3 i4 σ1 σ2 hRel H locs ls hP hD hS hl kk
      · refine lv_tableIn (off := 371) (tgt := 423) hx hb dL_52 (by decide) (by decide) (by decide) (by decide) ?_
        exact lw_case_8 ow C0 hK x3 i1 i2 i3 i4 σ1 σ2 hRel H locs ls hP hD hS hl kk
      · refine lv_tableIn (off := 445) (tgt := 497) hx hb dL_52 (by decide) (by decide) (by decide) (by decide) ?_
        exact lw_case_9 ow C0 hK x3 i1 i2 i3 i4 σ1 σ2 hRel H locs ls hP hD hS hl kk
      · refine lv_tableIn (off := 498) (tgt := 550) hx hb dL_52 (by decide) (by decide) (by decide) (by decide) ?_
        exact lw_case_10 ow C0 hK x3 i1 i2 i3 i4 σ1 σ2 hRel H locs ls hP hD hS hl kk
      · refine lv_tableIn (off := 552) (tgt := 604) hx hb dL_52 (by decide) (by decide) (by decide) (by decide) ?_
        exact lw_case_11 ow C0 hK x3 i1 i2 i3 i4 σ1 σ2 hRel H locs ls hP hD hS hl kk
      · refine lv_tableIn (off := 595) (tgt := 647) hx hb dL_52 (by decide) (by decide) (by decide) (by decide) ?_
        exact lw_case_12 ow C0 hK x3 i1 i2 i3 i4 σ1 σ2 hRel H locs ls hP hD hS hl kk
      · refine lv_tableIn (off := 608) (tgt := 660) hx hb dL_52 (by decide) (by decide) (by decide) (by decide) ?_
        exact lw_case_13 ow C0 hK x3 i1 i2 i3 i4 σ1 σ2 hRel H locs ls hP hD hS hl kk
      · refine lv_tableIn (off := 652) (tgt := 704) hx hb dL_52 (by decide) (by decide) (by decide) (by decide) ?_
        exact lw_case_14 ow C0 hK x3 i1 i2 i3 i4 σ1 σ2 hRel H locs ls hP hD hS hl kk
      · refine lv_tableIn (off := 696) (tgt := 748) hx hb dL_52 (by decide) (by decide) (by decide) (by decide) ?_
        exact lw_case_15 ow C0 hK x3 i1 i2 i3 i4 σ1 σ2 hRel H locs ls hP hD hS hl kk
      · refine lv_tableIn (off := 730) (tgt := 782) hx hb dL_52 (by decide) (by decide) (by decide) (by decide) ?_
        exact lw_case_16 ow C0 hK x3 i1 i2 i3 i4 σ1 σ2 hRel H locs ls hP hD hS hl kk
      · refine lv_tableIn (off := 753) (tgt := 805) hx hb dL_52 (by decide) (by decide) (by decide) (by decide) ?_
        exact lw_case_17 ow C0 hK x3 i1 i2 i3 i4 σ1 σ2 hRel H locs ls hP hD hS hl kk
      · refine lv_tableIn (off := 796) (tgt := 848) hx hb dL_52 (by decide) (by decide) (by decide) (by decide) ?_
        exact lw_case_18 ow C0 hK x3 i1 i2 i3 i4 σ1 σ2 hRel H locs ls hP hD hS hl kk
      · refine lv_tableIn (off := 830) (tgt := 882) hx hb dL_52 (by decide) (by decide) (by decide) (by decide) ?_
        exact lw_case_19 ow C0 hK x3 i1 i2 i3 i4 σ1 σ2 hRel H locs ls hP hD hS hl kk
      · refine lv_tableOut (tgt := 895) hx hb dL_52 (Or.inr (by rw [nI_toInt (by omega)]; omega)) (by decide) ?_
        exact kk σ1 σ2 H locs hRel hP hD hS
