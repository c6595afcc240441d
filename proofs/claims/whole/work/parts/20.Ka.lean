theorem dK_isClass_0 : decode cK_isClass 0 = .ok (.iload_n 1, 1) := by decide +kernel
theorem dK_isClass_1 : decode cK_isClass 1 = .ok (.ifCond .lt (15), 3) := by decide +kernel
theorem dK_isClass_4 : decode cK_isClass 4 = .ok (.iload_n 1, 1) := by decide +kernel
theorem dK_isClass_5 : decode cK_isClass 5 = .ok (.aload_n 0, 1) := by decide +kernel
theorem dK_isClass_6 : decode cK_isClass 6 = .ok (.getfield 26, 3) := by decide +kernel
theorem dK_isClass_9 : decode cK_isClass 9 = .ok (.if_icmp .ge (7), 3) := by decide +kernel
theorem dK_isClass_12 : decode cK_isClass 12 = .ok (.iconst 1, 1) := by decide +kernel
theorem dK_isClass_13 : decode cK_isClass 13 = .ok (.goto (4), 3) := by decide +kernel
theorem dK_isClass_16 : decode cK_isClass 16 = .ok (.iconst 0, 1) := by decide +kernel
theorem dK_isClass_17 : decode cK_isClass 17 = .ok (.ireturn, 1) := by decide +kernel
set_option maxHeartbeats 400000 in
set_option maxRecDepth 100000 in
theorem mK_isClass (l : Launch) (D : va_G) (q : Nat → Nat) (k : kK) (cI cJ : ClassId) (sz : Nat) (σ : sK) (x1 : Int32) (r : Int32) (hf : fK_isClass k x1 = r) : Met l yK_isClass (.code yK_isClass cK_isClass 2 (some .boolean) :: TK) ({ frames := 0, cells := 0, slots := 0, locals := 0 }) (kPre D cl0 [(cI, .int), (cJ, .long)] (wdK q k cI cJ) sz σ [.ref (q 0), .int x1]) (kQi D cl0 [(cI, .int), (cJ, .long)] (wdK q k cI cJ) (va_A (wdK q k cI cJ σ) sz) r σ) 0 0 (va_A (wdK q k cI cJ σ) sz) := by
  refine kr_start (own := RK) (by decide) rfl (Nat.le_of_ble_eq_true rfl) ?_
  intro p e s m args below meth c ls C0 hsz hK hP hD hl
  subst hsz
  obtain ⟨hx, hb, hr, hml, hown, hts, hlocks⟩ := id C0
  have hA : ∀ z : Nat, s.heap.size ≤ z → va_A (wdK q k cI cJ σ) s.heap.size z := fun z h => Or.inr h
  generalize va_A (wdK q k cI cJ σ) s.heap.size = A at hD hA ⊢
  have hS : va_S A s.heap s.heap [] := va_S.rf
  have hl : lv_has ls 2 [(0, .ref (q 0)), (1, .int x1)] := hl
  unfold fK_isClass at hf
  refine lv_iload_n hx hb dK_isClass_0 rfl (lv_at hl 1 rfl) ?_
  refine lv_if_lt (tgt := 16) hx hb dK_isClass_1 (by decide) (fun c1 => ?_) (fun c1 => ?_)
  · have hf := (if_pos c1).symm.trans hf
    refine lv_iconst (v := 0) hx hb dK_isClass_16 (by decide) ?_
    exact kr_zret C0 hK hP hD hS rfl hf rfl dK_isClass_17
  · have hf := (if_neg c1).symm.trans hf
    refine lv_iload_n hx hb dK_isClass_4 rfl (lv_at hl 1 rfl) ?_
    refine lv_aload_n hx hb dK_isClass_5 rfl (lv_at hl 0 rfl) ?_
    refine gK_classes hx hb hown hts hK hP dK_isClass_6 ?_
    refine lv_icmp_ge (tgt := 16) hx hb dK_isClass_9 (by decide) (fun c9 => ?_) (fun c9 => ?_)
    · have hf := (if_pos c9).symm.trans hf
      refine lv_iconst (v := 0) hx hb dK_isClass_16 (by decide) ?_
      exact kr_zret C0 hK hP hD hS rfl hf rfl dK_isClass_17
    · have hf := (if_neg c9).symm.trans hf
      refine lv_iconst (v := 1) hx hb dK_isClass_12 (by decide) ?_
      refine lv_goto (tgt := 17) hx hb dK_isClass_13 (by decide) ?_
      exact kr_zret C0 hK hP hD hS rfl hf rfl dK_isClass_17
theorem dK_isAge_0 : decode cK_isAge 0 = .ok (.iload_n 1, 1) := by decide +kernel
theorem dK_isAge_1 : decode cK_isAge 1 = .ok (.ifCond .lt (15), 3) := by decide +kernel
theorem dK_isAge_4 : decode cK_isAge 4 = .ok (.iload_n 1, 1) := by decide +kernel
theorem dK_isAge_5 : decode cK_isAge 5 = .ok (.aload_n 0, 1) := by decide +kernel
theorem dK_isAge_6 : decode cK_isAge 6 = .ok (.getfield 29, 3) := by decide +kernel
theorem dK_isAge_9 : decode cK_isAge 9 = .ok (.if_icmp .ge (7), 3) := by decide +kernel
theorem dK_isAge_12 : decode cK_isAge 12 = .ok (.iconst 1, 1) := by decide +kernel
theorem dK_isAge_13 : decode cK_isAge 13 = .ok (.goto (4), 3) := by decide +kernel
theorem dK_isAge_16 : decode cK_isAge 16 = .ok (.iconst 0, 1) := by decide +kernel
theorem dK_isAge_17 : decode cK_isAge 17 = .ok (.ireturn, 1) := by decide +kernel
set_option maxHeartbeats 400000 in
set_option maxRecDepth 100000 in
theorem mK_isAge (l : Launch) (D : va_G) (q : Nat → Nat) (k : kK) (cI cJ : ClassId) (sz : Nat) (σ : sK) (x1 : Int32) (r : Int32) (hf : fK_isAge k x1 = r) : Met l yK_isAge (.code yK_isAge cK_isAge 2 (some .boolean) :: TK) ({ frames := 0, cells := 0, slots := 0, locals := 0 }) (kPre D cl0 [(cI, .int), (cJ, .long)] (wdK q k cI cJ) sz σ [.ref (q 0), .int x1]) (kQi D cl0 [(cI, .int), (cJ, .long)] (wdK q k cI cJ) (va_A (wdK q k cI cJ σ) sz) r σ) 0 0 (va_A (wdK q k cI cJ σ) sz) := by
  refine kr_start (own := RK) (by decide) rfl (Nat.le_of_ble_eq_true rfl) ?_
  intro p e s m args below meth c ls C0 hsz hK hP hD hl
  subst hsz
  obtain ⟨hx, hb, hr, hml, hown, hts, hlocks⟩ := id C0
  have hA : ∀ z : Nat, s.heap.size ≤ z → va_A (wdK q k cI cJ σ) s.heap.size z := fun z h => Or.inr h
  generalize va_A (wdK q k cI cJ σ) s.heap.size = A at hD hA ⊢
  have hS : va_S A s.heap s.heap [] := va_S.rf
  have hl : lv_has ls 2 [(0, .ref (q 0)), (1, .int x1)] := hl
  unfold fK_isAge at hf
  refine lv_iload_n hx hb dK_isAge_0 rfl (lv_at hl 1 rfl) ?_
  refine lv_if_lt (tgt := 16) hx hb dK_isAge_1 (by decide) (fun c1 => ?_) (fun c1 => ?_)
  · have hf := (if_pos c1).symm.trans hf
    refine lv_iconst (v := 0) hx hb dK_isAge_16 (by decide) ?_
    exact kr_zret C0 hK hP hD hS rfl hf rfl dK_isAge_17
  · have hf := (if_neg c1).symm.trans hf
    refine lv_iload_n hx hb dK_isAge_4 rfl (lv_at hl 1 rfl) ?_
    refine lv_aload_n hx hb dK_isAge_5 rfl (lv_at hl 0 rfl) ?_
    refine gK_ages hx hb hown hts hK hP dK_isAge_6 ?_
    refine lv_icmp_ge (tgt := 16) hx hb dK_isAge_9 (by decide) (fun c9 => ?_) (fun c9 => ?_)
    · have hf := (if_pos c9).symm.trans hf
      refine lv_iconst (v := 0) hx hb dK_isAge_16 (by decide) ?_
      exact kr_zret C0 hK hP hD hS rfl hf rfl dK_isAge_17
    · have hf := (if_neg c9).symm.trans hf
      refine lv_iconst (v := 1) hx hb dK_isAge_12 (by decide) ?_
      refine lv_goto (tgt := 17) hx hb dK_isAge_13 (by decide) ?_
      exact kr_zret C0 hK hP hD hS rfl hf rfl dK_isAge_17
theorem dK_isPlace_0 : decode cK_isPlace 0 = .ok (.iload_n 0, 1) := by decide +kernel
theorem dK_isPlace_1 : decode cK_isPlace 1 = .ok (.ifCond .lt (12), 3) := by decide +kernel
theorem dK_isPlace_4 : decode cK_isPlace 4 = .ok (.iload_n 0, 1) := by decide +kernel
theorem dK_isPlace_5 : decode cK_isPlace 5 = .ok (.iconst 4, 1) := by decide +kernel
theorem dK_isPlace_6 : decode cK_isPlace 6 = .ok (.if_icmp .ge (7), 3) := by decide +kernel
theorem dK_isPlace_9 : decode cK_isPlace 9 = .ok (.iconst 1, 1) := by decide +kernel
theorem dK_isPlace_10 : decode cK_isPlace 10 = .ok (.goto (4), 3) := by decide +kernel
theorem dK_isPlace_13 : decode cK_isPlace 13 = .ok (.iconst 0, 1) := by decide +kernel
theorem dK_isPlace_14 : decode cK_isPlace 14 = .ok (.ireturn, 1) := by decide +kernel
set_option maxHeartbeats 400000 in
set_option maxRecDepth 100000 in
theorem mK_isPlace (l : Launch) (D : va_G) (S : Type) (wd : S → va_W) (tys : List (ClassId × FieldType)) (cl : List vw_C) (sz : Nat) (σ : S) (x0 : Int32) (r : Int32) (hf : fK_isPlace x0 = r) : Met l yK_isPlace (.code yK_isPlace cK_isPlace 1 (some .boolean) :: TK) ({ frames := 0, cells := 0, slots := 0, locals := 0 }) (kPre D cl tys wd sz σ [.int x0]) (kQi D cl tys wd (va_A (wd σ) sz) r σ) 0 0 (va_A (wd σ) sz) := by
  refine kr_start (own := RK) (by decide) rfl (Nat.le_of_ble_eq_true rfl) ?_
  intro p e s m args below meth c ls C0 hsz hK hP hD hl
  subst hsz
  obtain ⟨hx, hb, hr, hml, hown, hts, hlocks⟩ := id C0
  have hA : ∀ z : Nat, s.heap.size ≤ z → va_A (wd σ) s.heap.size z := fun z h => Or.inr h
  generalize va_A (wd σ) s.heap.size = A at hD hA ⊢
  have hS : va_S A s.heap s.heap [] := va_S.rf
  have hl : lv_has ls 1 [(0, .int x0)] := hl
  unfold fK_isPlace at hf
  refine lv_iload_n hx hb dK_isPlace_0 rfl (lv_at hl 0 rfl) ?_
  refine lv_if_lt (tgt := 13) hx hb dK_isPlace_1 (by decide) (fun c1 => ?_) (fun c1 => ?_)
  · have hf := (if_pos c1).symm.trans hf
    refine lv_iconst (v := 0) hx hb dK_isPlace_13 (by decide) ?_
    exact kr_zret C0 hK hP hD hS rfl hf rfl dK_isPlace_14
  · have hf := (if_neg c1).symm.trans hf
    refine lv_iload_n hx hb dK_isPlace_4 rfl (lv_at hl 0 rfl) ?_
    refine lv_iconst (v := 4) hx hb dK_isPlace_5 (by decide) ?_
    refine lv_icmp_ge (tgt := 13) hx hb dK_isPlace_6 (by decide) (fun c6 => ?_) (fun c6 => ?_)
    · have hf := (if_pos c6).symm.trans hf
      refine lv_iconst (v := 0) hx hb dK_isPlace_13 (by decide) ?_
      exact kr_zret C0 hK hP hD hS rfl hf rfl dK_isPlace_14
    · have hf := (if_neg c6).symm.trans hf
      refine lv_iconst (v := 1) hx hb dK_isPlace_9 (by decide) ?_
      refine lv_goto (tgt := 14) hx hb dK_isPlace_10 (by decide) ?_
      exact kr_zret C0 hK hP hD hS rfl hf rfl dK_isPlace_14
theorem dK_sizeIn_0 : decode cK_sizeIn 0 = .ok (.aload_n 0, 1) := by decide +kernel
theorem dK_sizeIn_1 : decode cK_sizeIn 1 = .ok (.getfield 42, 3) := by decide +kernel
theorem dK_sizeIn_4 : decode cK_sizeIn 4 = .ok (.iload_n 1, 1) := by decide +kernel
theorem dK_sizeIn_5 : decode cK_sizeIn 5 = .ok (.aload_n 0, 1) := by decide +kernel
theorem dK_sizeIn_6 : decode cK_sizeIn 6 = .ok (.getfield 26, 3) := by decide +kernel
theorem dK_sizeIn_9 : decode cK_sizeIn 9 = .ok (.imul, 1) := by decide +kernel
theorem dK_sizeIn_10 : decode cK_sizeIn 10 = .ok (.iload_n 2, 1) := by decide +kernel
theorem dK_sizeIn_11 : decode cK_sizeIn 11 = .ok (.iadd, 1) := by decide +kernel
theorem dK_sizeIn_12 : decode cK_sizeIn 12 = .ok (.iaload, 1) := by decide +kernel
theorem dK_sizeIn_13 : decode cK_sizeIn 13 = .ok (.ireturn, 1) := by decide +kernel
set_option maxHeartbeats 400000 in
set_option maxRecDepth 100000 in
theorem mK_sizeIn (l : Launch) (D : va_G) (q : Nat → Nat) (k : kK) (cI cJ : ClassId) (sz : Nat) (σ : sK) (x1 : Int32) (x2 : Int32) (r : Int32) (hf : fK_sizeIn k σ x1 x2 = some r) : Met l yK_sizeIn (.code yK_sizeIn cK_sizeIn 3 (some .int) :: TK) ({ frames := 0, cells := 0, slots := 0, locals := 0 }) (kPre D cl0 [(cI, .int), (cJ, .long)] (wdK q k cI cJ) sz σ [.ref (q 0), .int x1, .int x2]) (kQi D cl0 [(cI, .int), (cJ, .long)] (wdK q k cI cJ) (va_A (wdK q k cI cJ σ) sz) r σ) 0 0 (va_A (wdK q k cI cJ σ) sz) := by
  refine kr_start (own := RK) (by decide) rfl (Nat.le_of_ble_eq_true rfl) ?_
  intro p e s m args below meth c ls C0 hsz hK hP hD hl
  subst hsz
  obtain ⟨hx, hb, hr, hml, hown, hts, hlocks⟩ := id C0
  have hA : ∀ z : Nat, s.heap.size ≤ z → va_A (wdK q k cI cJ σ) s.heap.size z := fun z h => Or.inr h
  generalize va_A (wdK q k cI cJ σ) s.heap.size = A at hD hA ⊢
  have hS : va_S A s.heap s.heap [] := va_S.rf
  have hl : lv_has ls 3 [(0, .ref (q 0)), (1, .int x1), (2, .int x2)] := hl
  unfold fK_sizeIn at hf
  refine lv_aload_n hx hb dK_sizeIn_0 rfl (lv_at hl 0 rfl) ?_
  refine gK_groupSize hx hb hown hts hK hP dK_sizeIn_1 ?_
  refine lv_iload_n hx hb dK_sizeIn_4 rfl (lv_at hl 1 rfl) ?_
  refine lv_aload_n hx hb dK_sizeIn_5 rfl (lv_at hl 0 rfl) ?_
  refine gK_classes hx hb hown hts hK hP dK_sizeIn_6 ?_
  refine lv_imul hx hb dK_sizeIn_9 ?_
  refine lv_iload_n hx hb dK_sizeIn_10 rfl (lv_at hl 2 rfl) ?_
  refine lv_iadd hx hb dK_sizeIn_11 ?_
  obtain ⟨v12, ev12, hf⟩ := kb1 hf
  refine kr_iaload hx hb hK hP 4 0 rfl rfl ev12 dK_sizeIn_12 ?_
  exact kr_iret C0 hK hP hD hS (Option.some.inj hf) rfl dK_sizeIn_13
theorem dK_cell_0 : decode cK_cell 0 = .ok (.iload_n 1, 1) := by decide +kernel
theorem dK_cell_1 : decode cK_cell 1 = .ok (.aload_n 0, 1) := by decide +kernel
theorem dK_cell_2 : decode cK_cell 2 = .ok (.getfield 26, 3) := by decide +kernel
theorem dK_cell_5 : decode cK_cell 5 = .ok (.imul, 1) := by decide +kernel
theorem dK_cell_6 : decode cK_cell 6 = .ok (.iload_n 2, 1) := by decide +kernel
theorem dK_cell_7 : decode cK_cell 7 = .ok (.iadd, 1) := by decide +kernel
theorem dK_cell_8 : decode cK_cell 8 = .ok (.aload_n 0, 1) := by decide +kernel
theorem dK_cell_9 : decode cK_cell 9 = .ok (.getfield 29, 3) := by decide +kernel
theorem dK_cell_12 : decode cK_cell 12 = .ok (.imul, 1) := by decide +kernel
theorem dK_cell_13 : decode cK_cell 13 = .ok (.iload_n 3, 1) := by decide +kernel
theorem dK_cell_14 : decode cK_cell 14 = .ok (.iadd, 1) := by decide +kernel
theorem dK_cell_15 : decode cK_cell 15 = .ok (.ireturn, 1) := by decide +kernel
set_option maxHeartbeats 400000 in
set_option maxRecDepth 100000 in
theorem mK_cell (l : Launch) (D : va_G) (q : Nat → Nat) (k : kK) (cI cJ : ClassId) (sz : Nat) (σ : sK) (x1 : Int32) (x2 : Int32) (x3 : Int32) (r : Int32) (hf : fK_cell k x1 x2 x3 = r) : Met l yK_cell (.code yK_cell cK_cell 4 (some .int) :: TK) ({ frames := 0, cells := 0, slots := 0, locals := 0 }) (kPre D cl0 [(cI, .int), (cJ, .long)] (wdK q k cI cJ) sz σ [.ref (q 0), .int x1, .int x2, .int x3]) (kQi D cl0 [(cI, .int), (cJ, .long)] (wdK q k cI cJ) (va_A (wdK q k cI cJ σ) sz) r σ) 0 0 (va_A (wdK q k cI cJ σ) sz) := by
  refine kr_start (own := RK) (by decide) rfl (Nat.le_of_ble_eq_true rfl) ?_
  intro p e s m args below meth c ls C0 hsz hK hP hD hl
  subst hsz
  obtain ⟨hx, hb, hr, hml, hown, hts, hlocks⟩ := id C0
  have hA : ∀ z : Nat, s.heap.size ≤ z → va_A (wdK q k cI cJ σ) s.heap.size z := fun z h => Or.inr h
  generalize va_A (wdK q k cI cJ σ) s.heap.size = A at hD hA ⊢
  have hS : va_S A s.heap s.heap [] := va_S.rf
  have hl : lv_has ls 4 [(0, .ref (q 0)), (1, .int x1), (2, .int x2), (3, .int x3)] := hl
  unfold fK_cell at hf
  refine lv_iload_n hx hb dK_cell_0 rfl (lv_at hl 1 rfl) ?_
  refine lv_aload_n hx hb dK_cell_1 rfl (lv_at hl 0 rfl) ?_
  refine gK_classes hx hb hown hts hK hP dK_cell_2 ?_
  refine lv_imul hx hb dK_cell_5 ?_
  refine lv_iload_n hx hb dK_cell_6 rfl (lv_at hl 2 rfl) ?_
  refine lv_iadd hx hb dK_cell_7 ?_
  refine lv_aload_n hx hb dK_cell_8 rfl (lv_at hl 0 rfl) ?_
  refine gK_ages hx hb hown hts hK hP dK_cell_9 ?_
  refine lv_imul hx hb dK_cell_12 ?_
  refine lv_iload_n hx hb dK_cell_13 rfl (lv_at hl 3 rfl) ?_
  refine lv_iadd hx hb dK_cell_14 ?_
  exact kr_iret C0 hK hP hD hS hf rfl dK_cell_15
theorem dK_countReading_0 : decode cK_countReading 0 = .ok (.aload_n 0, 1) := by decide +kernel
theorem dK_countReading_1 : decode cK_countReading 1 = .ok (.getfield 45, 3) := by decide +kernel
theorem dK_countReading_4 : decode cK_countReading 4 = .ok (.iload_n 2, 1) := by decide +kernel
theorem dK_countReading_5 : decode cK_countReading 5 = .ok (.iaload, 1) := by decide +kernel
theorem dK_countReading_6 : decode cK_countReading 6 = .ok (.istore 4, 2) := by decide +kernel
theorem dK_countReading_8 : decode cK_countReading 8 = .ok (.aload_n 0, 1) := by decide +kernel
theorem dK_countReading_9 : decode cK_countReading 9 = .ok (.getfield 32, 3) := by decide +kernel
theorem dK_countReading_12 : decode cK_countReading 12 = .ok (.aload_n 0, 1) := by decide +kernel
theorem dK_countReading_13 : decode cK_countReading 13 = .ok (.iload_n 1, 1) := by decide +kernel
theorem dK_countReading_14 : decode cK_countReading 14 = .ok (.iload_n 2, 1) := by decide +kernel
theorem dK_countReading_15 : decode cK_countReading 15 = .ok (.iload_n 3, 1) := by decide +kernel
theorem dK_countReading_16 : decode cK_countReading 16 = .ok (.invokevirtual 96, 3) := by decide +kernel
theorem dK_countReading_19 : decode cK_countReading 19 = .ok (.dup2, 1) := by decide +kernel
theorem dK_countReading_20 : decode cK_countReading 20 = .ok (.iaload, 1) := by decide +kernel
theorem dK_countReading_21 : decode cK_countReading 21 = .ok (.iconst 1, 1) := by decide +kernel
theorem dK_countReading_22 : decode cK_countReading 22 = .ok (.iadd, 1) := by decide +kernel
theorem dK_countReading_23 : decode cK_countReading 23 = .ok (.iastore, 1) := by decide +kernel
theorem dK_countReading_24 : decode cK_countReading 24 = .ok (.aload_n 0, 1) := by decide +kernel
theorem dK_countReading_25 : decode cK_countReading 25 = .ok (.getfield 36, 3) := by decide +kernel
theorem dK_countReading_28 : decode cK_countReading 28 = .ok (.iload_n 1, 1) := by decide +kernel
theorem dK_countReading_29 : decode cK_countReading 29 = .ok (.dup2, 1) := by decide +kernel
theorem dK_countReading_30 : decode cK_countReading 30 = .ok (.iaload, 1) := by decide +kernel
theorem dK_countReading_31 : decode cK_countReading 31 = .ok (.iconst 1, 1) := by decide +kernel
theorem dK_countReading_32 : decode cK_countReading 32 = .ok (.iadd, 1) := by decide +kernel
theorem dK_countReading_33 : decode cK_countReading 33 = .ok (.iastore, 1) := by decide +kernel
theorem dK_countReading_34 : decode cK_countReading 34 = .ok (.aload_n 0, 1) := by decide +kernel
theorem dK_countReading_35 : decode cK_countReading 35 = .ok (.getfield 39, 3) := by decide +kernel
theorem dK_countReading_38 : decode cK_countReading 38 = .ok (.aload_n 0, 1) := by decide +kernel
theorem dK_countReading_39 : decode cK_countReading 39 = .ok (.iload_n 1, 1) := by decide +kernel
theorem dK_countReading_40 : decode cK_countReading 40 = .ok (.iload 4, 2) := by decide +kernel
theorem dK_countReading_42 : decode cK_countReading 42 = .ok (.iload_n 3, 1) := by decide +kernel
theorem dK_countReading_43 : decode cK_countReading 43 = .ok (.invokevirtual 96, 3) := by decide +kernel
theorem dK_countReading_46 : decode cK_countReading 46 = .ok (.dup2, 1) := by decide +kernel
theorem dK_countReading_47 : decode cK_countReading 47 = .ok (.iaload, 1) := by decide +kernel
theorem dK_countReading_48 : decode cK_countReading 48 = .ok (.iconst 1, 1) := by decide +kernel
theorem dK_countReading_49 : decode cK_countReading 49 = .ok (.iadd, 1) := by decide +kernel
theorem dK_countReading_50 : decode cK_countReading 50 = .ok (.iastore, 1) := by decide +kernel
theorem dK_countReading_51 : decode cK_countReading 51 = .ok (.aload_n 0, 1) := by decide +kernel
theorem dK_countReading_52 : decode cK_countReading 52 = .ok (.getfield 42, 3) := by decide +kernel
theorem dK_countReading_55 : decode cK_countReading 55 = .ok (.iload_n 1, 1) := by decide +kernel
theorem dK_countReading_56 : decode cK_countReading 56 = .ok (.aload_n 0, 1) := by decide +kernel
theorem dK_countReading_57 : decode cK_countReading 57 = .ok (.getfield 26, 3) := by decide +kernel
theorem dK_countReading_60 : decode cK_countReading 60 = .ok (.imul, 1) := by decide +kernel
theorem dK_countReading_61 : decode cK_countReading 61 = .ok (.iload 4, 2) := by decide +kernel
theorem dK_countReading_63 : decode cK_countReading 63 = .ok (.iadd, 1) := by decide +kernel
theorem dK_countReading_64 : decode cK_countReading 64 = .ok (.dup2, 1) := by decide +kernel
theorem dK_countReading_65 : decode cK_countReading 65 = .ok (.iaload, 1) := by decide +kernel
theorem dK_countReading_66 : decode cK_countReading 66 = .ok (.iconst 1, 1) := by decide +kernel
theorem dK_countReading_67 : decode cK_countReading 67 = .ok (.iadd, 1) := by decide +kernel
theorem dK_countReading_68 : decode cK_countReading 68 = .ok (.iastore, 1) := by decide +kernel
theorem dK_countReading_69 : decode cK_countReading 69 = .ok (.return_, 1) := by decide +kernel
set_option maxHeartbeats 400000 in
set_option maxRecDepth 100000 in
theorem mK_countReading (l : Launch) (D : va_G) (q : Nat → Nat) (k : kK) (cI cJ : ClassId) (sz : Nat) (σ : sK) (σ' : sK) (x1 : Int32) (x2 : Int32) (x3 : Int32) (hf : fK_countReading k σ x1 x2 x3 = some σ') : Met l yK_countReading (.code yK_countReading cK_countReading 5 none :: TK) ({ frames := 1, cells := 0, slots := 0, locals := 23 }) (kPre D cl0 [(cI, .int), (cJ, .long)] (wdK q k cI cJ) sz σ [.ref (q 0), .int x1, .int x2, .int x3]) (kQv D cl0 [(cI, .int), (cJ, .long)] (wdK q k cI cJ) (va_A (wdK q k cI cJ σ) sz) σ') 0 0 (va_A (wdK q k cI cJ σ) sz) := by
  refine kr_start (own := RK) (by decide) rfl (Nat.le_of_ble_eq_true rfl) ?_
  intro p e s m args below meth c ls C0 hsz hK hP hD hl
  subst hsz
  obtain ⟨hx, hb, hr, hml, hown, hts, hlocks⟩ := id C0
  have hA : ∀ z : Nat, s.heap.size ≤ z → va_A (wdK q k cI cJ σ) s.heap.size z := fun z h => Or.inr h
  generalize va_A (wdK q k cI cJ σ) s.heap.size = A at hD hA ⊢
  have hS : va_S A s.heap s.heap [] := va_S.rf
  have hl : lv_has ls 5 [(0, .ref (q 0)), (1, .int x1), (2, .int x2), (3, .int x3)] := hl
  unfold fK_countReading at hf
  refine lv_aload_n hx hb dK_countReading_0 rfl (lv_at hl 0 rfl) ?_
  refine gK_groupOf hx hb hown hts hK hP dK_countReading_1 ?_
  refine lv_iload_n hx hb dK_countReading_4 rfl (lv_at hl 2 rfl) ?_
  obtain ⟨v5, ev5, hf⟩ := kb1 hf
  refine kr_iaload hx hb hK hP 5 0 rfl rfl ev5 dK_countReading_5 ?_
  refine lv_istore (lv' := [(4, .int v5), (0, .ref (q 0)), (1, .int x1), (2, .int x2), (3, .int x3)]) hx hb dK_countReading_6 hl (by decide) rfl (fun ls hl => ?_)
  refine lv_aload_n hx hb dK_countReading_8 rfl (lv_at hl 1 rfl) ?_
  refine gK_readings hx hb hown hts hK hP dK_countReading_9 ?_
  refine lv_aload_n hx hb dK_countReading_12 rfl (lv_at hl 1 rfl) ?_
  refine lv_iload_n hx hb dK_countReading_13 rfl (lv_at hl 2 rfl) ?_
  refine lv_iload_n hx hb dK_countReading_14 rfl (lv_at hl 3 rfl) ?_
  refine lv_iload_n hx hb dK_countReading_15 rfl (lv_at hl 4 rfl) ?_
  refine kr_callVi (av := [.int x1, .int x2, .int x3]) ⟨hx, hb, hml, hown, hts⟩ (mK_cell l D q k cI cJ _ σ x1 x2 x3 _ rfl) (cwV 3 hts (kgood_V TK_good (by decide +kernel)) rfl rfl rfl (by decide +kernel) ⟨Nat.le_of_ble_eq_true rfl, Nat.le_of_ble_eq_true rfl⟩) hK hP hD hS hA (ci := 0) (q0 := 0) rfl rfl rfl hl.1 rfl (Nat.le_of_ble_eq_true rfl) dK_countReading_16 ⟨Nat.le_of_ble_eq_true rfl, Nat.le_of_ble_eq_true rfl⟩ (fun H locs hP hD hS => ?_)
  refine lv_dup2_11 hx hb dK_countReading_19 rfl rfl ?_
  obtain ⟨v20, ev20, hf⟩ := kb1 hf
  refine kr_iaload hx hb hK hP 1 0 rfl rfl ev20 dK_countReading_20 ?_
  refine lv_iconst (v := 1) hx hb dK_countReading_21 (by decide) ?_
  refine lv_iadd hx hb dK_countReading_22 ?_
  obtain ⟨a23, ea23, hf⟩ := kb1 hf
  refine kr_iastore (σ' := (uK_readings σ a23)) hx hb hK hP hD hS 1 0 rfl rfl ea23 (wK_readings q k cI cJ _ _) dK_countReading_23 (fun H locs hP hD hS => ?_)
  generalize (uK_readings σ a23) = s23 at hf hP hD
  refine lv_aload_n hx hb dK_countReading_24 rfl (lv_at hl 1 rfl) ?_
  refine gK_rowSize hx hb hown hts hK hP dK_countReading_25 ?_
  refine lv_iload_n hx hb dK_countReading_28 rfl (lv_at hl 2 rfl) ?_
  refine lv_dup2_11 hx hb dK_countReading_29 rfl rfl ?_
  obtain ⟨v30, ev30, hf⟩ := kb1 hf
  refine kr_iaload hx hb hK hP 2 0 rfl rfl ev30 dK_countReading_30 ?_
  refine lv_iconst (v := 1) hx hb dK_countReading_31 (by decide) ?_
  refine lv_iadd hx hb dK_countReading_32 ?_
  obtain ⟨a33, ea33, hf⟩ := kb1 hf
  refine kr_iastore (σ' := (uK_rowSize s23 a33)) hx hb hK hP hD hS 2 0 rfl rfl ea33 (wK_rowSize q k cI cJ _ _) dK_countReading_33 (fun H locs hP hD hS => ?_)
  generalize (uK_rowSize s23 a33) = s33 at hf hP hD
  refine lv_aload_n hx hb dK_countReading_34 rfl (lv_at hl 1 rfl) ?_
  refine gK_groupReadings hx hb hown hts hK hP dK_countReading_35 ?_
  refine lv_aload_n hx hb dK_countReading_38 rfl (lv_at hl 1 rfl) ?_
  refine lv_iload_n hx hb dK_countReading_39 rfl (lv_at hl 2 rfl) ?_
  refine lv_iload hx hb dK_countReading_40 (lv_at hl 0 rfl) ?_
  refine lv_iload_n hx hb dK_countReading_42 rfl (lv_at hl 4 rfl) ?_
  refine kr_callVi (av := [.int x1, .int v5, .int x3]) ⟨hx, hb, hml, hown, hts⟩ (mK_cell l D q k cI cJ _ s33 x1 v5 x3 _ rfl) (cwV 3 hts (kgood_V TK_good (by decide +kernel)) rfl rfl rfl (by decide +kernel) ⟨Nat.le_of_ble_eq_true rfl, Nat.le_of_ble_eq_true rfl⟩) hK hP hD hS hA (ci := 0) (q0 := 0) rfl rfl rfl hl.1 rfl (Nat.le_of_ble_eq_true rfl) dK_countReading_43 ⟨Nat.le_of_ble_eq_true rfl, Nat.le_of_ble_eq_true rfl⟩ (fun H locs hP hD hS => ?_)
  refine lv_dup2_11 hx hb dK_countReading_46 rfl rfl ?_
  obtain ⟨v47, ev47, hf⟩ := kb1 hf
  refine kr_iaload hx hb hK hP 3 0 rfl rfl ev47 dK_countReading_47 ?_
  refine lv_iconst (v := 1) hx hb dK_countReading_48 (by decide) ?_
  refine lv_iadd hx hb dK_countReading_49 ?_
  obtain ⟨a50, ea50, hf⟩ := kb1 hf
  refine kr_iastore (σ' := (uK_groupReadings s33 a50)) hx hb hK hP hD hS 3 0 rfl rfl ea50 (wK_groupReadings q k cI cJ _ _) dK_countReading_50 (fun H locs hP hD hS => ?_)
  generalize (uK_groupReadings s33 a50) = s50 at hf hP hD
  refine lv_aload_n hx hb dK_countReading_51 rfl (lv_at hl 1 rfl) ?_
  refine gK_groupSize hx hb hown hts hK hP dK_countReading_52 ?_
  refine lv_iload_n hx hb dK_countReading_55 rfl (lv_at hl 2 rfl) ?_
  refine lv_aload_n hx hb dK_countReading_56 rfl (lv_at hl 1 rfl) ?_
  refine gK_classes hx hb hown hts hK hP dK_countReading_57 ?_
  refine lv_imul hx hb dK_countReading_60 ?_
  refine lv_iload hx hb dK_countReading_61 (lv_at hl 0 rfl) ?_
  refine lv_iadd hx hb dK_countReading_63 ?_
  refine lv_dup2_11 hx hb dK_countReading_64 rfl rfl ?_
  obtain ⟨v65, ev65, hf⟩ := kb1 hf
  refine kr_iaload hx hb hK hP 4 0 rfl rfl ev65 dK_countReading_65 ?_
  refine lv_iconst (v := 1) hx hb dK_countReading_66 (by decide) ?_
  refine lv_iadd hx hb dK_countReading_67 ?_
  obtain ⟨a68, ea68, hf⟩ := kb1 hf
  refine kr_iastore (σ' := (uK_groupSize s50 a68)) hx hb hK hP hD hS 4 0 rfl rfl ea68 (wK_groupSize q k cI cJ _ _) dK_countReading_68 (fun H locs hP hD hS => ?_)
  generalize (uK_groupSize s50 a68) = s68 at hf hP hD
  exact kr_vret C0 hK hP hD hS (Option.some.inj hf) dK_countReading_69
theorem dK_read_0 : decode cK_read 0 = .ok (.aload_n 0, 1) := by decide +kernel
theorem dK_read_1 : decode cK_read 1 = .ok (.iload_n 1, 1) := by decide +kernel
theorem dK_read_2 : decode cK_read 2 = .ok (.invokevirtual 79, 3) := by decide +kernel
theorem dK_read_5 : decode cK_read 5 = .ok (.ifCond .eq (18), 3) := by decide +kernel
theorem dK_read_8 : decode cK_read 8 = .ok (.aload_n 0, 1) := by decide +kernel
theorem dK_read_9 : decode cK_read 9 = .ok (.iload_n 2, 1) := by decide +kernel
theorem dK_read_10 : decode cK_read 10 = .ok (.invokevirtual 83, 3) := by decide +kernel
theorem dK_read_13 : decode cK_read 13 = .ok (.ifCond .eq (10), 3) := by decide +kernel
theorem dK_read_16 : decode cK_read 16 = .ok (.iload_n 3, 1) := by decide +kernel
theorem dK_read_17 : decode cK_read 17 = .ok (.invokestatic 86, 3) := by decide +kernel
theorem dK_read_20 : decode cK_read 20 = .ok (.ifCond .ne (5), 3) := by decide +kernel
theorem dK_read_23 : decode cK_read 23 = .ok (.iconst 0, 1) := by decide +kernel
theorem dK_read_24 : decode cK_read 24 = .ok (.ireturn, 1) := by decide +kernel
theorem dK_read_25 : decode cK_read 25 = .ok (.aload_n 0, 1) := by decide +kernel
theorem dK_read_26 : decode cK_read 26 = .ok (.iconst 4, 1) := by decide +kernel
theorem dK_read_27 : decode cK_read 27 = .ok (.aload_n 0, 1) := by decide +kernel
theorem dK_read_28 : decode cK_read 28 = .ok (.getfield 45, 3) := by decide +kernel
theorem dK_read_31 : decode cK_read 31 = .ok (.iload_n 1, 1) := by decide +kernel
theorem dK_read_32 : decode cK_read 32 = .ok (.iaload, 1) := by decide +kernel
theorem dK_read_33 : decode cK_read 33 = .ok (.invokevirtual 89, 3) := by decide +kernel
theorem dK_read_36 : decode cK_read 36 = .ok (.bipush (20), 2) := by decide +kernel
theorem dK_read_38 : decode cK_read 38 = .ok (.if_icmp .ge (14), 3) := by decide +kernel
theorem dK_read_41 : decode cK_read 41 = .ok (.aload_n 0, 1) := by decide +kernel
theorem dK_read_42 : decode cK_read 42 = .ok (.getfield 36, 3) := by decide +kernel
theorem dK_read_45 : decode cK_read 45 = .ok (.iconst 4, 1) := by decide +kernel
theorem dK_read_46 : decode cK_read 46 = .ok (.iaload, 1) := by decide +kernel
theorem dK_read_47 : decode cK_read 47 = .ok (.bipush (100), 2) := by decide +kernel
theorem dK_read_49 : decode cK_read 49 = .ok (.if_icmp .lt (5), 3) := by decide +kernel
theorem dK_read_52 : decode cK_read 52 = .ok (.iconst 0, 1) := by decide +kernel
theorem dK_read_53 : decode cK_read 53 = .ok (.ireturn, 1) := by decide +kernel
theorem dK_read_54 : decode cK_read 54 = .ok (.aload_n 0, 1) := by decide +kernel
theorem dK_read_55 : decode cK_read 55 = .ok (.iload_n 3, 1) := by decide +kernel
theorem dK_read_56 : decode cK_read 56 = .ok (.iload_n 1, 1) := by decide +kernel
theorem dK_read_57 : decode cK_read 57 = .ok (.iload_n 2, 1) := by decide +kernel
theorem dK_read_58 : decode cK_read 58 = .ok (.invokevirtual 92, 3) := by decide +kernel
theorem dK_read_61 : decode cK_read 61 = .ok (.aload_n 0, 1) := by decide +kernel
theorem dK_read_62 : decode cK_read 62 = .ok (.iconst 4, 1) := by decide +kernel
theorem dK_read_63 : decode cK_read 63 = .ok (.iload_n 1, 1) := by decide +kernel
theorem dK_read_64 : decode cK_read 64 = .ok (.iload_n 2, 1) := by decide +kernel
theorem dK_read_65 : decode cK_read 65 = .ok (.invokevirtual 92, 3) := by decide +kernel
theorem dK_read_68 : decode cK_read 68 = .ok (.iconst 1, 1) := by decide +kernel
theorem dK_read_69 : decode cK_read 69 = .ok (.ireturn, 1) := by decide +kernel
set_option maxHeartbeats 400000 in
set_option maxRecDepth 100000 in
theorem mK_read (l : Launch) (D : va_G) (q : Nat → Nat) (k : kK) (cI cJ : ClassId) (sz : Nat) (σ : sK) (σ' : sK) (x1 : Int32) (x2 : Int32) (x3 : Int32) (r : Int32) (hf : fK_read k σ x1 x2 x3 = some (r, σ')) : Met l yK_read (.code yK_read cK_read 4 (some .boolean) :: TK) ({ frames := 2, cells := 0, slots := 0, locals := 47 }) (kPre D cl0 [(cI, .int), (cJ, .long)] (wdK q k cI cJ) sz σ [.ref (q 0), .int x1, .int x2, .int x3]) (kQi D cl0 [(cI, .int), (cJ, .long)] (wdK q k cI cJ) (va_A (wdK q k cI cJ σ) sz) r σ') 0 0 (va_A (wdK q k cI cJ σ) sz) := by
  refine kr_start (own := RK) (by decide) rfl (Nat.le_of_ble_eq_true rfl) ?_
  intro p e s m args below meth c ls C0 hsz hK hP hD hl
  subst hsz
  obtain ⟨hx, hb, hr, hml, hown, hts, hlocks⟩ := id C0
  have hA : ∀ z : Nat, s.heap.size ≤ z → va_A (wdK q k cI cJ σ) s.heap.size z := fun z h => Or.inr h
  generalize va_A (wdK q k cI cJ σ) s.heap.size = A at hD hA ⊢
  have hS : va_S A s.heap s.heap [] := va_S.rf
  have hl : lv_has ls 4 [(0, .ref (q 0)), (1, .int x1), (2, .int x2), (3, .int x3)] := hl
  unfold fK_read at hf
  refine lv_aload_n hx hb dK_read_0 rfl (lv_at hl 0 rfl) ?_
  refine lv_iload_n hx hb dK_read_1 rfl (lv_at hl 1 rfl) ?_
  refine kr_callVi (av := [.int x1]) ⟨hx, hb, hml, hown, hts⟩ (mK_isClass l D q k cI cJ _ σ x1 _ rfl) (cwV 1 hts (kgood_V TK_good (by decide +kernel)) rfl rfl rfl (by decide +kernel) ⟨Nat.le_of_ble_eq_true rfl, Nat.le_of_ble_eq_true rfl⟩) hK hP hD hS hA (ci := 0) (q0 := 0) rfl rfl rfl hl.1 rfl (Nat.le_of_ble_eq_true rfl) dK_read_2 ⟨Nat.le_of_ble_eq_true rfl, Nat.le_of_ble_eq_true rfl⟩ (fun H locs hP hD hS => ?_)
  refine lv_if_eq (tgt := 23) hx hb dK_read_5 (by decide) (fun c5 => ?_) (fun c5 => ?_)
  · have hf := (if_pos c5).symm.trans hf
    refine lv_iconst (v := 0) hx hb dK_read_23 (by decide) ?_
    exact kr_zret C0 hK hP hD hS rfl (congrArg Prod.fst (Option.some.inj hf)) (congrArg Prod.snd (Option.some.inj hf)) dK_read_24
  · have hf := (if_neg c5).symm.trans hf
    refine lv_aload_n hx hb dK_read_8 rfl (lv_at hl 0 rfl) ?_
    refine lv_iload_n hx hb dK_read_9 rfl (lv_at hl 2 rfl) ?_
    refine kr_callVi (av := [.int x2]) ⟨hx, hb, hml, hown, hts⟩ (mK_isAge l D q k cI cJ _ σ x2 _ rfl) (cwV 1 hts (kgood_V TK_good (by decide +kernel)) rfl rfl rfl (by decide +kernel) ⟨Nat.le_of_ble_eq_true rfl, Nat.le_of_ble_eq_true rfl⟩) hK hP hD hS hA (ci := 0) (q0 := 0) rfl rfl rfl hl.1 rfl (Nat.le_of_ble_eq_true rfl) dK_read_10 ⟨Nat.le_of_ble_eq_true rfl, Nat.le_of_ble_eq_true rfl⟩ (fun H locs hP hD hS => ?_)
    refine lv_if_eq (tgt := 23) hx hb dK_read_13 (by decide) (fun c13 => ?_) (fun c13 => ?_)
    · have hf := (if_pos c13).symm.trans hf
      refine lv_iconst (v := 0) hx hb dK_read_23 (by decide) ?_
      exact kr_zret C0 hK hP hD hS rfl (congrArg Prod.fst (Option.some.inj hf)) (congrArg Prod.snd (Option.some.inj hf)) dK_read_24
    · have hf := (if_neg c13).symm.trans hf
      refine lv_iload_n hx hb dK_read_16 rfl (lv_at hl 3 rfl) ?_
      refine kr_callSi (av := [.int x3]) ⟨hx, hb, hml, hown, hts⟩ (mK_isPlace l D _ (wdK q k cI cJ) [(cI, .int), (cJ, .long)] cl0 _ σ x3 _ rfl) (cwS 1 hts (kgood_S TK_good (by decide +kernel)) rfl rfl rfl (by decide +kernel) ⟨Nat.le_of_ble_eq_true rfl, Nat.le_of_ble_eq_true rfl⟩) hK hP hD hS hA rfl hl.1 rfl (Nat.le_of_ble_eq_true rfl) dK_read_17 ⟨Nat.le_of_ble_eq_true rfl, Nat.le_of_ble_eq_true rfl⟩ (fun H locs hP hD hS => ?_)
      refine lv_if_ne (tgt := 25) hx hb dK_read_20 (by decide) (fun c20 => ?_) (fun c20 => ?_)
      · have hf := (if_neg c20).symm.trans hf
        refine lv_aload_n hx hb dK_read_25 rfl (lv_at hl 0 rfl) ?_
        refine lv_iconst (v := 4) hx hb dK_read_26 (by decide) ?_
        refine lv_aload_n hx hb dK_read_27 rfl (lv_at hl 0 rfl) ?_
        refine gK_groupOf hx hb hown hts hK hP dK_read_28 ?_
        refine lv_iload_n hx hb dK_read_31 rfl (lv_at hl 1 rfl) ?_
        obtain ⟨v32, ev32, hf⟩ := kb1 hf
        refine kr_iaload hx hb hK hP 5 0 rfl rfl ev32 dK_read_32 ?_
        obtain ⟨v33, ev33, hf⟩ := kb1 hf
        refine kr_callVi (av := [.int 4, .int v32]) ⟨hx, hb, hml, hown, hts⟩ (mK_sizeIn l D q k cI cJ _ σ 4 v32 v33 ev33) (cwV 2 hts (kgood_V TK_good (by decide +kernel)) rfl rfl rfl (by decide +kernel) ⟨Nat.le_of_ble_eq_true rfl, Nat.le_of_ble_eq_true rfl⟩) hK hP hD hS hA (ci := 0) (q0 := 0) rfl rfl rfl hl.1 rfl (Nat.le_of_ble_eq_true rfl) dK_read_33 ⟨Nat.le_of_ble_eq_true rfl, Nat.le_of_ble_eq_true rfl⟩ (fun H locs hP hD hS => ?_)
        refine lv_bipush (v := 20) hx hb dK_read_36 (by decide) ?_
        refine lv_icmp_ge (tgt := 52) hx hb dK_read_38 (by decide) (fun c38 => ?_) (fun c38 => ?_)
        · have hf := (if_pos c38).symm.trans hf
          refine lv_iconst (v := 0) hx hb dK_read_52 (by decide) ?_
          exact kr_zret C0 hK hP hD hS rfl (congrArg Prod.fst (Option.some.inj hf)) (congrArg Prod.snd (Option.some.inj hf)) dK_read_53
        · have hf := (if_neg c38).symm.trans hf
          refine lv_aload_n hx hb dK_read_41 rfl (lv_at hl 0 rfl) ?_
          refine gK_rowSize hx hb hown hts hK hP dK_read_42 ?_
          refine lv_iconst (v := 4) hx hb dK_read_45 (by decide) ?_
          obtain ⟨v46, ev46, hf⟩ := kb1 hf
          refine kr_iaload hx hb hK hP 2 0 rfl rfl ev46 dK_read_46 ?_
          refine lv_bipush (v := 100) hx hb dK_read_47 (by decide) ?_
          refine lv_icmp_lt (tgt := 54) hx hb dK_read_49 (by decide) (fun c49 => ?_) (fun c49 => ?_)
          · have hf := (if_pos c49).symm.trans hf
            refine lv_aload_n hx hb dK_read_54 rfl (lv_at hl 0 rfl) ?_
            refine lv_iload_n hx hb dK_read_55 rfl (lv_at hl 3 rfl) ?_
            refine lv_iload_n hx hb dK_read_56 rfl (lv_at hl 1 rfl) ?_
            refine lv_iload_n hx hb dK_read_57 rfl (lv_at hl 2 rfl) ?_
            obtain ⟨s58, es58, hf⟩ := kb1 hf
            refine kr_callVv (av := [.int x3, .int x1, .int x2]) ⟨hx, hb, hml, hown, hts⟩ (mK_countReading l D q k cI cJ _ σ s58 x3 x1 x2 es58) (cwV 3 hts (kgood_V TK_good (by decide +kernel)) rfl rfl rfl (by decide +kernel) ⟨Nat.le_of_ble_eq_true rfl, Nat.le_of_ble_eq_true rfl⟩) hK hP hD hS hA (ci := 0) (q0 := 0) rfl rfl rfl hl.1 rfl (Nat.le_of_ble_eq_true rfl) dK_read_58 ⟨Nat.le_of_ble_eq_true rfl, Nat.le_of_ble_eq_true rfl⟩ (fun H locs hP hD hS => ?_)
            refine lv_aload_n hx hb dK_read_61 rfl (lv_at hl 0 rfl) ?_
            refine lv_iconst (v := 4) hx hb dK_read_62 (by decide) ?_
            refine lv_iload_n hx hb dK_read_63 rfl (lv_at hl 1 rfl) ?_
            refine lv_iload_n hx hb dK_read_64 rfl (lv_at hl 2 rfl) ?_
            obtain ⟨s65, es65, hf⟩ := kb1 hf
            refine kr_callVv (av := [.int 4, .int x1, .int x2]) ⟨hx, hb, hml, hown, hts⟩ (mK_countReading l D q k cI cJ _ s58 s65 4 x1 x2 es65) (cwV 3 hts (kgood_V TK_good (by decide +kernel)) rfl rfl rfl (by decide +kernel) ⟨Nat.le_of_ble_eq_true rfl, Nat.le_of_ble_eq_true rfl⟩) hK hP hD hS hA (ci := 0) (q0 := 0) rfl rfl rfl hl.1 rfl (Nat.le_of_ble_eq_true rfl) dK_read_65 ⟨Nat.le_of_ble_eq_true rfl, Nat.le_of_ble_eq_true rfl⟩ (fun H locs hP hD hS => ?_)
            refine lv_iconst (v := 1) hx hb dK_read_68 (by decide) ?_
            exact kr_zret C0 hK hP hD hS rfl (congrArg Prod.fst (Option.some.inj hf)) (congrArg Prod.snd (Option.some.inj hf)) dK_read_69
          · have hf := (if_neg c49).symm.trans hf
            refine lv_iconst (v := 0) hx hb dK_read_52 (by decide) ?_
            exact kr_zret C0 hK hP hD hS rfl (congrArg Prod.fst (Option.some.inj hf)) (congrArg Prod.snd (Option.some.inj hf)) dK_read_53
      · have hf := (if_pos c20).symm.trans hf
        refine lv_iconst (v := 0) hx hb dK_read_23 (by decide) ?_
        exact kr_zret C0 hK hP hD hS rfl (congrArg Prod.fst (Option.some.inj hf)) (congrArg Prod.snd (Option.some.inj hf)) dK_read_24
theorem dK_place_0 : decode cK_place 0 = .ok (.iload_n 1, 1) := by decide +kernel
theorem dK_place_1 : decode cK_place 1 = .ok (.iconst (-1), 1) := by decide +kernel
theorem dK_place_2 : decode cK_place 2 = .ok (.if_icmp .eq (12), 3) := by decide +kernel
theorem dK_place_5 : decode cK_place 5 = .ok (.iload_n 1, 1) := by decide +kernel
theorem dK_place_6 : decode cK_place 6 = .ok (.invokestatic 86, 3) := by decide +kernel
theorem dK_place_9 : decode cK_place 9 = .ok (.ifCond .ne (5), 3) := by decide +kernel
theorem dK_place_12 : decode cK_place 12 = .ok (.iconst (-1), 1) := by decide +kernel
theorem dK_place_13 : decode cK_place 13 = .ok (.ireturn, 1) := by decide +kernel
theorem dK_place_14 : decode cK_place 14 = .ok (.aload_n 0, 1) := by decide +kernel
theorem dK_place_15 : decode cK_place 15 = .ok (.iload_n 1, 1) := by decide +kernel
theorem dK_place_16 : decode cK_place 16 = .ok (.iconst (-1), 1) := by decide +kernel
theorem dK_place_17 : decode cK_place 17 = .ok (.if_icmp .ne (7), 3) := by decide +kernel
theorem dK_place_20 : decode cK_place 20 = .ok (.iconst 4, 1) := by decide +kernel
theorem dK_place_21 : decode cK_place 21 = .ok (.goto (4), 3) := by decide +kernel
theorem dK_place_24 : decode cK_place 24 = .ok (.iload_n 1, 1) := by decide +kernel
theorem dK_place_25 : decode cK_place 25 = .ok (.putfield 9, 3) := by decide +kernel
theorem dK_place_28 : decode cK_place 28 = .ok (.aload_n 0, 1) := by decide +kernel
theorem dK_place_29 : decode cK_place 29 = .ok (.getfield 36, 3) := by decide +kernel
theorem dK_place_32 : decode cK_place 32 = .ok (.aload_n 0, 1) := by decide +kernel
theorem dK_place_33 : decode cK_place 33 = .ok (.getfield 9, 3) := by decide +kernel
theorem dK_place_36 : decode cK_place 36 = .ok (.iaload, 1) := by decide +kernel
theorem dK_place_37 : decode cK_place 37 = .ok (.ireturn, 1) := by decide +kernel
set_option maxHeartbeats 400000 in
set_option maxRecDepth 100000 in
theorem tK_place_25 {p : Program} {l : Launch} {e : Env} {s : State} {m : MethodId} {args : Array Value} {below : List Frame} {meth : Method} {c : Code} {D : va_G} {A : Nat → Prop} {q : Nat → Nat} {k : kK} {cI cJ : ClassId} {r : Int32} {σ' : sK} (C0 : Cx p s m args meth c cK_place 2 (some .int) RK TK) (hK : va_K D cl0 [(cI, .int), (cJ, .long)] s) (hA : ∀ z, s.heap.size ≤ z → A z) : ∀ (σ : sK) (y1 : Int32)(H : Heap) (locs : List Loc) (ls : Array Slot), fK_place_25 k σ y1 = some (r, σ') → lv_has ls 2 [(0, .ref (q 0))] → va_P D cl0 (wdK q k cI cJ σ) H → va_D A (wdK q k cI cJ σ) → va_S A s.heap H locs → W p l e ({ frames := 1, cells := 0, slots := 0, locals := 20 }) s m args below meth c H locs 0 0 (MQ below (kQi D cl0 [(cI, .int), (cJ, .long)] (wdK q k cI cJ) A r σ') args s 0 0 A) (F0 m 25 ls [.int y1, .ref (q 0)]) := by
  obtain ⟨hx, hb, hr, hml, hown, hts, hlocks⟩ := id C0
  intro σ y1 H locs ls hf hl hP hD hS
  unfold fK_place_25 at hf
  refine pK_chosenRow hx hb hown hts hK hP hD hS dK_place_25 (fun H locs hP hD hS => ?_)
  generalize (uK_chosenRow σ y1) = s25 at hf hP hD
  refine lv_aload_n hx hb dK_place_28 rfl (lv_at hl 0 rfl) ?_
  refine gK_rowSize hx hb hown hts hK hP dK_place_29 ?_
  refine lv_aload_n hx hb dK_place_32 rfl (lv_at hl 0 rfl) ?_
  refine gK_chosenRow hx hb hown hts hK hP dK_place_33 ?_
  obtain ⟨v36, ev36, hf⟩ := kb1 hf
  refine kr_iaload hx hb hK hP 2 0 rfl rfl ev36 dK_place_36 ?_
  exact kr_iret C0 hK hP hD hS (congrArg Prod.fst (Option.some.inj hf)) (congrArg Prod.snd (Option.some.inj hf)) dK_place_37
set_option maxHeartbeats 400000 in
set_option maxRecDepth 100000 in
theorem tK_place_14 {p : Program} {l : Launch} {e : Env} {s : State} {m : MethodId} {args : Array Value} {below : List Frame} {meth : Method} {c : Code} {D : va_G} {A : Nat → Prop} {q : Nat → Nat} {k : kK} {cI cJ : ClassId} {r : Int32} {σ' : sK} (C0 : Cx p s m args meth c cK_place 2 (some .int) RK TK) (hK : va_K D cl0 [(cI, .int), (cJ, .long)] s) (hA : ∀ z, s.heap.size ≤ z → A z) : ∀ (σ : sK) (x1 : Int32)(H : Heap) (locs : List Loc) (ls : Array Slot), fK_place_14 k σ x1 = some (r, σ') → lv_has ls 2 [(0, .ref (q 0)), (1, .int x1)] → va_P D cl0 (wdK q k cI cJ σ) H → va_D A (wdK q k cI cJ σ) → va_S A s.heap H locs → W p l e ({ frames := 1, cells := 0, slots := 0, locals := 20 }) s m args below meth c H locs 0 0 (MQ below (kQi D cl0 [(cI, .int), (cJ, .long)] (wdK q k cI cJ) A r σ') args s 0 0 A) (F0 m 14 ls []) := by
  obtain ⟨hx, hb, hr, hml, hown, hts, hlocks⟩ := id C0
  intro σ x1 H locs ls hf hl hP hD hS
  unfold fK_place_14 at hf
  refine lv_aload_n hx hb dK_place_14 rfl (lv_at hl 0 rfl) ?_
  refine lv_iload_n hx hb dK_place_15 rfl (lv_at hl 1 rfl) ?_
  refine lv_iconst (v := (-1)) hx hb dK_place_16 (by decide) ?_
  refine lv_icmp_ne (tgt := 24) hx hb dK_place_17 (by decide) (fun c17 => ?_) (fun c17 => ?_)
  · have hf := (if_neg c17).symm.trans hf
    refine lv_iload_n hx hb dK_place_24 rfl (lv_at hl 1 rfl) ?_
    exact tK_place_25 C0 hK hA σ x1 _ _ ls hf (lv_sub hl [0] rfl) hP hD hS
  · have hf := (if_pos c17).symm.trans hf
    refine lv_iconst (v := 4) hx hb dK_place_20 (by decide) ?_
    refine lv_goto (tgt := 25) hx hb dK_place_21 (by decide) ?_
    exact tK_place_25 C0 hK hA σ 4 _ _ ls hf (lv_sub hl [0] rfl) hP hD hS
set_option maxHeartbeats 400000 in
set_option maxRecDepth 100000 in
theorem mK_place (l : Launch) (D : va_G) (q : Nat → Nat) (k : kK) (cI cJ : ClassId) (sz : Nat) (σ : sK) (σ' : sK) (x1 : Int32) (r : Int32) (hf : fK_place k σ x1 = some (r, σ')) : Met l yK_place (.code yK_place cK_place 2 (some .int) :: TK) ({ frames := 1, cells := 0, slots := 0, locals := 20 }) (kPre D cl0 [(cI, .int), (cJ, .long)] (wdK q k cI cJ) sz σ [.ref (q 0), .int x1]) (kQi D cl0 [(cI, .int), (cJ, .long)] (wdK q k cI cJ) (va_A (wdK q k cI cJ σ) sz) r σ') 0 0 (va_A (wdK q k cI cJ σ) sz) := by
  refine kr_start (own := RK) (by decide) rfl (Nat.le_of_ble_eq_true rfl) ?_
  intro p e s m args below meth c ls C0 hsz hK hP hD hl
  subst hsz
  obtain ⟨hx, hb, hr, hml, hown, hts, hlocks⟩ := id C0
  have hA : ∀ z : Nat, s.heap.size ≤ z → va_A (wdK q k cI cJ σ) s.heap.size z := fun z h => Or.inr h
  generalize va_A (wdK q k cI cJ σ) s.heap.size = A at hD hA ⊢
  have hS : va_S A s.heap s.heap [] := va_S.rf
  have hl : lv_has ls 2 [(0, .ref (q 0)), (1, .int x1)] := hl
  unfold fK_place at hf
  refine lv_iload_n hx hb dK_place_0 rfl (lv_at hl 1 rfl) ?_
  refine lv_iconst (v := (-1)) hx hb dK_place_1 (by decide) ?_
  refine lv_icmp_eq (tgt := 14) hx hb dK_place_2 (by decide) (fun c2 => ?_) (fun c2 => ?_)
  · have hf := (if_pos c2).symm.trans hf
    exact tK_place_14 C0 hK hA σ x1 _ _ ls hf (lv_sub hl [0, 1] rfl) hP hD hS
  · have hf := (if_neg c2).symm.trans hf
    refine lv_iload_n hx hb dK_place_5 rfl (lv_at hl 1 rfl) ?_
    refine kr_callSi (av := [.int x1]) ⟨hx, hb, hml, hown, hts⟩ (mK_isPlace l D _ (wdK q k cI cJ) [(cI, .int), (cJ, .long)] cl0 _ σ x1 _ rfl) (cwS 1 hts (kgood_S TK_good (by decide +kernel)) rfl rfl rfl (by decide +kernel) ⟨Nat.le_of_ble_eq_true rfl, Nat.le_of_ble_eq_true rfl⟩) hK hP hD hS hA rfl hl.1 rfl (Nat.le_of_ble_eq_true rfl) dK_place_6 ⟨Nat.le_of_ble_eq_true rfl, Nat.le_of_ble_eq_true rfl⟩ (fun H locs hP hD hS => ?_)
    refine lv_if_ne (tgt := 14) hx hb dK_place_9 (by decide) (fun c9 => ?_) (fun c9 => ?_)
    · have hf := (if_neg c9).symm.trans hf
      exact tK_place_14 C0 hK hA σ x1 _ _ ls hf (lv_sub hl [0, 1] rfl) hP hD hS
    · have hf := (if_pos c9).symm.trans hf
      refine lv_iconst (v := (-1)) hx hb dK_place_12 (by decide) ?_
      exact kr_iret C0 hK hP hD hS (congrArg Prod.fst (Option.some.inj hf)) (congrArg Prod.snd (Option.some.inj hf)) dK_place_13
theorem dK_isZeroOrOne_0 : decode cK_isZeroOrOne 0 = .ok (.iload_n 0, 1) := by decide +kernel
theorem dK_isZeroOrOne_1 : decode cK_isZeroOrOne 1 = .ok (.ifCond .eq (8), 3) := by decide +kernel
theorem dK_isZeroOrOne_4 : decode cK_isZeroOrOne 4 = .ok (.iload_n 0, 1) := by decide +kernel
theorem dK_isZeroOrOne_5 : decode cK_isZeroOrOne 5 = .ok (.iconst 1, 1) := by decide +kernel
theorem dK_isZeroOrOne_6 : decode cK_isZeroOrOne 6 = .ok (.if_icmp .ne (7), 3) := by decide +kernel
theorem dK_isZeroOrOne_9 : decode cK_isZeroOrOne 9 = .ok (.iconst 1, 1) := by decide +kernel
theorem dK_isZeroOrOne_10 : decode cK_isZeroOrOne 10 = .ok (.goto (4), 3) := by decide +kernel
theorem dK_isZeroOrOne_13 : decode cK_isZeroOrOne 13 = .ok (.iconst 0, 1) := by decide +kernel
theorem dK_isZeroOrOne_14 : decode cK_isZeroOrOne 14 = .ok (.ireturn, 1) := by decide +kernel
set_option maxHeartbeats 400000 in
set_option maxRecDepth 100000 in
theorem tK_isZeroOrOne_9 {p : Program} {l : Launch} {e : Env} {s : State} {m : MethodId} {args : Array Value} {below : List Frame} {meth : Method} {c : Code} {D : va_G} {A : Nat → Prop} {S : Type} {wd : S → va_W} {tys : List (ClassId × FieldType)} {cl : List vw_C} {r : Int32} {σ : S} (C0 : Cx p s m args meth c cK_isZeroOrOne 1 (some .boolean) RK TK) (hK : va_K D cl tys s) (hA : ∀ z, s.heap.size ≤ z → A z) : ∀ (H : Heap) (locs : List Loc) (ls : Array Slot), fK_isZeroOrOne_9 = r → lv_has ls 1 [] → va_P D cl (wd σ) H → va_D A (wd σ) → va_S A s.heap H locs → W p l e ({ frames := 0, cells := 0, slots := 0, locals := 0 }) s m args below meth c H locs 0 0 (MQ below (kQi D cl tys wd A r σ) args s 0 0 A) (F0 m 9 ls []) := by
  obtain ⟨hx, hb, hr, hml, hown, hts, hlocks⟩ := id C0
  intro  H locs ls hf hl hP hD hS
  unfold fK_isZeroOrOne_9 at hf
  refine lv_iconst (v := 1) hx hb dK_isZeroOrOne_9 (by decide) ?_
  refine lv_goto (tgt := 14) hx hb dK_isZeroOrOne_10 (by decide) ?_
  exact kr_zret C0 hK hP hD hS rfl hf rfl dK_isZeroOrOne_14
set_option maxHeartbeats 400000 in
set_option maxRecDepth 100000 in
theorem mK_isZeroOrOne (l : Launch) (D : va_G) (S : Type) (wd : S → va_W) (tys : List (ClassId × FieldType)) (cl : List vw_C) (sz : Nat) (σ : S) (x0 : Int32) (r : Int32) (hf : fK_isZeroOrOne x0 = r) : Met l yK_isZeroOrOne (.code yK_isZeroOrOne cK_isZeroOrOne 1 (some .boolean) :: TK) ({ frames := 0, cells := 0, slots := 0, locals := 0 }) (kPre D cl tys wd sz σ [.int x0]) (kQi D cl tys wd (va_A (wd σ) sz) r σ) 0 0 (va_A (wd σ) sz) := by
  refine kr_start (own := RK) (by decide) rfl (Nat.le_of_ble_eq_true rfl) ?_
  intro p e s m args below meth c ls C0 hsz hK hP hD hl
  subst hsz
  obtain ⟨hx, hb, hr, hml, hown, hts, hlocks⟩ := id C0
  have hA : ∀ z : Nat, s.heap.size ≤ z → va_A (wd σ) s.heap.size z := fun z h => Or.inr h
  generalize va_A (wd σ) s.heap.size = A at hD hA ⊢
  have hS : va_S A s.heap s.heap [] := va_S.rf
  have hl : lv_has ls 1 [(0, .int x0)] := hl
  unfold fK_isZeroOrOne at hf
  refine lv_iload_n hx hb dK_isZeroOrOne_0 rfl (lv_at hl 0 rfl) ?_
  refine lv_if_eq (tgt := 9) hx hb dK_isZeroOrOne_1 (by decide) (fun c1 => ?_) (fun c1 => ?_)
  · have hf := (if_pos c1).symm.trans hf
    exact tK_isZeroOrOne_9 C0 hK hA _ _ ls hf (lv_sub hl [] rfl) hP hD hS
  · have hf := (if_neg c1).symm.trans hf
    refine lv_iload_n hx hb dK_isZeroOrOne_4 rfl (lv_at hl 0 rfl) ?_
    refine lv_iconst (v := 1) hx hb dK_isZeroOrOne_5 (by decide) ?_
    refine lv_icmp_ne (tgt := 13) hx hb dK_isZeroOrOne_6 (by decide) (fun c6 => ?_) (fun c6 => ?_)
    · have hf := (if_neg c6).symm.trans hf
      refine lv_iconst (v := 0) hx hb dK_isZeroOrOne_13 (by decide) ?_
      exact kr_zret C0 hK hP hD hS rfl hf rfl dK_isZeroOrOne_14
    · have hf := (if_pos c6).symm.trans hf
      exact tK_isZeroOrOne_9 C0 hK hA _ _ ls hf (lv_sub hl [] rfl) hP hD hS
