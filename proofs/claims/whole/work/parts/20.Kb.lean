theorem dK_own_0 : decode cK_own 0 = .ok (.aload_n 0, 1) := by decide +kernel
theorem dK_own_1 : decode cK_own 1 = .ok (.aload_n 0, 1) := by decide +kernel
theorem dK_own_2 : decode cK_own 2 = .ok (.getfield 9, 3) := by decide +kernel
theorem dK_own_5 : decode cK_own 5 = .ok (.iload_n 1, 1) := by decide +kernel
theorem dK_own_6 : decode cK_own 6 = .ok (.invokevirtual 89, 3) := by decide +kernel
theorem dK_own_9 : decode cK_own 9 = .ok (.ireturn, 1) := by decide +kernel
set_option maxHeartbeats 400000 in
set_option maxRecDepth 100000 in
theorem mK_own (l : Launch) (D : va_G) (q : Nat → Nat) (k : kK) (cI cJ : ClassId) (sz : Nat) (σ : sK) (x1 : Int32) (r : Int32) (hf : fK_own k σ x1 = some r) : Met l yK_own (.code yK_own cK_own 2 (some .int) :: TK) ({ frames := 1, cells := 0, slots := 0, locals := 22 }) (kPre D cl0 [(cI, .int), (cJ, .long)] (wdK q k cI cJ) sz σ [.ref (q 0), .int x1]) (kQi D cl0 [(cI, .int), (cJ, .long)] (wdK q k cI cJ) (va_A (wdK q k cI cJ σ) sz) r σ) 0 0 (va_A (wdK q k cI cJ σ) sz) := by
  refine kr_start (own := RK) (by decide) rfl (Nat.le_of_ble_eq_true rfl) ?_
  intro p e s m args below meth c ls C0 hsz hK hP hD hl
  subst hsz
  obtain ⟨hx, hb, hr, hml, hown, hts, hlocks⟩ := id C0
  have hA : ∀ z : Nat, s.heap.size ≤ z → va_A (wdK q k cI cJ σ) s.heap.size z := fun z h => Or.inr h
  generalize va_A (wdK q k cI cJ σ) s.heap.size = A at hD hA ⊢
  have hS : va_S A s.heap s.heap [] := va_S.rf
  have hl : lv_has ls 2 [(0, .ref (q 0)), (1, .int x1)] := hl
  unfold fK_own at hf
  refine lv_aload_n hx hb dK_own_0 rfl (lv_at hl 0 rfl) ?_
  refine lv_aload_n hx hb dK_own_1 rfl (lv_at hl 0 rfl) ?_
  refine gK_chosenRow hx hb hown hts hK hP dK_own_2 ?_
  refine lv_iload_n hx hb dK_own_5 rfl (lv_at hl 1 rfl) ?_
  obtain ⟨v6, ev6, hf⟩ := kb1 hf
  refine kr_callVi (av := [.int (sK_chosenRow σ), .int x1]) ⟨hx, hb, hml, hown, hts⟩ (mK_sizeIn l D q k cI cJ _ σ (sK_chosenRow σ) x1 v6 ev6) (cwV 2 hts (kgood_V TK_good (by decide +kernel)) rfl rfl rfl (by decide +kernel) ⟨Nat.le_of_ble_eq_true rfl, Nat.le_of_ble_eq_true rfl⟩) hK hP hD hS hA (ci := 0) (q0 := 0) rfl rfl rfl hl.1 rfl (Nat.le_of_ble_eq_true rfl) dK_own_6 ⟨Nat.le_of_ble_eq_true rfl, Nat.le_of_ble_eq_true rfl⟩ (fun H locs hP hD hS => ?_)
  exact kr_iret C0 hK hP hD hS (Option.some.inj hf) rfl dK_own_9
theorem dK_sourceOf_0 : decode cK_sourceOf 0 = .ok (.aload_n 0, 1) := by decide +kernel
theorem dK_sourceOf_1 : decode cK_sourceOf 1 = .ok (.iload_n 1, 1) := by decide +kernel
theorem dK_sourceOf_2 : decode cK_sourceOf 2 = .ok (.invokevirtual 112, 3) := by decide +kernel
theorem dK_sourceOf_5 : decode cK_sourceOf 5 = .ok (.ifCond .le (5), 3) := by decide +kernel
theorem dK_sourceOf_8 : decode cK_sourceOf 8 = .ok (.iload_n 1, 1) := by decide +kernel
theorem dK_sourceOf_9 : decode cK_sourceOf 9 = .ok (.ireturn, 1) := by decide +kernel
theorem dK_sourceOf_10 : decode cK_sourceOf 10 = .ok (.aload_n 0, 1) := by decide +kernel
theorem dK_sourceOf_11 : decode cK_sourceOf 11 = .ok (.getfield 48, 3) := by decide +kernel
theorem dK_sourceOf_14 : decode cK_sourceOf 14 = .ok (.iload_n 1, 1) := by decide +kernel
theorem dK_sourceOf_15 : decode cK_sourceOf 15 = .ok (.iaload, 1) := by decide +kernel
theorem dK_sourceOf_16 : decode cK_sourceOf 16 = .ok (.istore_n 2, 1) := by decide +kernel
theorem dK_sourceOf_17 : decode cK_sourceOf 17 = .ok (.iload_n 2, 1) := by decide +kernel
theorem dK_sourceOf_18 : decode cK_sourceOf 18 = .ok (.iconst (-1), 1) := by decide +kernel
theorem dK_sourceOf_19 : decode cK_sourceOf 19 = .ok (.if_icmp .eq (15), 3) := by decide +kernel
theorem dK_sourceOf_22 : decode cK_sourceOf 22 = .ok (.aload_n 0, 1) := by decide +kernel
theorem dK_sourceOf_23 : decode cK_sourceOf 23 = .ok (.iload_n 2, 1) := by decide +kernel
theorem dK_sourceOf_24 : decode cK_sourceOf 24 = .ok (.invokevirtual 112, 3) := by decide +kernel
theorem dK_sourceOf_27 : decode cK_sourceOf 27 = .ok (.ifCond .le (7), 3) := by decide +kernel
theorem dK_sourceOf_30 : decode cK_sourceOf 30 = .ok (.iload_n 2, 1) := by decide +kernel
theorem dK_sourceOf_31 : decode cK_sourceOf 31 = .ok (.goto (4), 3) := by decide +kernel
theorem dK_sourceOf_34 : decode cK_sourceOf 34 = .ok (.iconst (-1), 1) := by decide +kernel
theorem dK_sourceOf_35 : decode cK_sourceOf 35 = .ok (.ireturn, 1) := by decide +kernel
set_option maxHeartbeats 400000 in
set_option maxRecDepth 100000 in
theorem mK_sourceOf (l : Launch) (D : va_G) (q : Nat → Nat) (k : kK) (cI cJ : ClassId) (sz : Nat) (σ : sK) (x1 : Int32) (r : Int32) (hf : fK_sourceOf k σ x1 = some r) : Met l yK_sourceOf (.code yK_sourceOf cK_sourceOf 3 (some .int) :: TK) ({ frames := 2, cells := 0, slots := 0, locals := 43 }) (kPre D cl0 [(cI, .int), (cJ, .long)] (wdK q k cI cJ) sz σ [.ref (q 0), .int x1]) (kQi D cl0 [(cI, .int), (cJ, .long)] (wdK q k cI cJ) (va_A (wdK q k cI cJ σ) sz) r σ) 0 0 (va_A (wdK q k cI cJ σ) sz) := by
  refine kr_start (own := RK) (by decide) rfl (Nat.le_of_ble_eq_true rfl) ?_
  intro p e s m args below meth c ls C0 hsz hK hP hD hl
  subst hsz
  obtain ⟨hx, hb, hr, hml, hown, hts, hlocks⟩ := id C0
  have hA : ∀ z : Nat, s.heap.size ≤ z → va_A (wdK q k cI cJ σ) s.heap.size z := fun z h => Or.inr h
  generalize va_A (wdK q k cI cJ σ) s.heap.size = A at hD hA ⊢
  have hS : va_S A s.heap s.heap [] := va_S.rf
  have hl : lv_has ls 3 [(0, .ref (q 0)), (1, .int x1)] := hl
  unfold fK_sourceOf at hf
  refine lv_aload_n hx hb dK_sourceOf_0 rfl (lv_at hl 0 rfl) ?_
  refine lv_iload_n hx hb dK_sourceOf_1 rfl (lv_at hl 1 rfl) ?_
  obtain ⟨v2, ev2, hf⟩ := kb1 hf
  refine kr_callVi (av := [.int x1]) ⟨hx, hb, hml, hown, hts⟩ (mK_own l D q k cI cJ _ σ x1 v2 ev2) (cwV 1 hts (kgood_V TK_good (by decide +kernel)) rfl rfl rfl (by decide +kernel) ⟨Nat.le_of_ble_eq_true rfl, Nat.le_of_ble_eq_true rfl⟩) hK hP hD hS hA (ci := 0) (q0 := 0) rfl rfl rfl hl.1 rfl (Nat.le_of_ble_eq_true rfl) dK_sourceOf_2 ⟨Nat.le_of_ble_eq_true rfl, Nat.le_of_ble_eq_true rfl⟩ (fun H locs hP hD hS => ?_)
  refine lv_if_le (tgt := 10) hx hb dK_sourceOf_5 (by decide) (fun c5 => ?_) (fun c5 => ?_)
  · have hf := (if_pos c5).symm.trans hf
    refine lv_aload_n hx hb dK_sourceOf_10 rfl (lv_at hl 0 rfl) ?_
    refine gK_filledBy hx hb hown hts hK hP dK_sourceOf_11 ?_
    refine lv_iload_n hx hb dK_sourceOf_14 rfl (lv_at hl 1 rfl) ?_
    obtain ⟨v15, ev15, hf⟩ := kb1 hf
    refine kr_iaload hx hb hK hP 6 0 rfl rfl ev15 dK_sourceOf_15 ?_
    refine lv_istore_n (lv' := [(2, .int v15), (0, .ref (q 0)), (1, .int x1)]) hx hb dK_sourceOf_16 rfl hl (by decide) rfl (fun ls hl => ?_)
    refine lv_iload_n hx hb dK_sourceOf_17 rfl (lv_at hl 0 rfl) ?_
    refine lv_iconst (v := (-1)) hx hb dK_sourceOf_18 (by decide) ?_
    refine lv_icmp_eq (tgt := 34) hx hb dK_sourceOf_19 (by decide) (fun c19 => ?_) (fun c19 => ?_)
    · have hf := (if_pos c19).symm.trans hf
      refine lv_iconst (v := (-1)) hx hb dK_sourceOf_34 (by decide) ?_
      exact kr_iret C0 hK hP hD hS (Option.some.inj hf) rfl dK_sourceOf_35
    · have hf := (if_neg c19).symm.trans hf
      refine lv_aload_n hx hb dK_sourceOf_22 rfl (lv_at hl 1 rfl) ?_
      refine lv_iload_n hx hb dK_sourceOf_23 rfl (lv_at hl 0 rfl) ?_
      obtain ⟨v24, ev24, hf⟩ := kb1 hf
      refine kr_callVi (av := [.int v15]) ⟨hx, hb, hml, hown, hts⟩ (mK_own l D q k cI cJ _ σ v15 v24 ev24) (cwV 1 hts (kgood_V TK_good (by decide +kernel)) rfl rfl rfl (by decide +kernel) ⟨Nat.le_of_ble_eq_true rfl, Nat.le_of_ble_eq_true rfl⟩) hK hP hD hS hA (ci := 0) (q0 := 0) rfl rfl rfl hl.1 rfl (Nat.le_of_ble_eq_true rfl) dK_sourceOf_24 ⟨Nat.le_of_ble_eq_true rfl, Nat.le_of_ble_eq_true rfl⟩ (fun H locs hP hD hS => ?_)
      refine lv_if_le (tgt := 34) hx hb dK_sourceOf_27 (by decide) (fun c27 => ?_) (fun c27 => ?_)
      · have hf := (if_pos c27).symm.trans hf
        refine lv_iconst (v := (-1)) hx hb dK_sourceOf_34 (by decide) ?_
        exact kr_iret C0 hK hP hD hS (Option.some.inj hf) rfl dK_sourceOf_35
      · have hf := (if_neg c27).symm.trans hf
        refine lv_iload_n hx hb dK_sourceOf_30 rfl (lv_at hl 0 rfl) ?_
        refine lv_goto (tgt := 35) hx hb dK_sourceOf_31 (by decide) ?_
        exact kr_iret C0 hK hP hD hS (Option.some.inj hf) rfl dK_sourceOf_35
  · have hf := (if_neg c5).symm.trans hf
    refine lv_iload_n hx hb dK_sourceOf_8 rfl (lv_at hl 1 rfl) ?_
    exact kr_iret C0 hK hP hD hS (Option.some.inj hf) rfl dK_sourceOf_9
theorem dK_ownOfAge_0 : decode cK_ownOfAge 0 = .ok (.aload_n 0, 1) := by decide +kernel
theorem dK_ownOfAge_1 : decode cK_ownOfAge 1 = .ok (.getfield 39, 3) := by decide +kernel
theorem dK_ownOfAge_4 : decode cK_ownOfAge 4 = .ok (.aload_n 0, 1) := by decide +kernel
theorem dK_ownOfAge_5 : decode cK_ownOfAge 5 = .ok (.aload_n 0, 1) := by decide +kernel
theorem dK_ownOfAge_6 : decode cK_ownOfAge 6 = .ok (.getfield 9, 3) := by decide +kernel
theorem dK_ownOfAge_9 : decode cK_ownOfAge 9 = .ok (.iload_n 1, 1) := by decide +kernel
theorem dK_ownOfAge_10 : decode cK_ownOfAge 10 = .ok (.iload_n 2, 1) := by decide +kernel
theorem dK_ownOfAge_11 : decode cK_ownOfAge 11 = .ok (.invokevirtual 96, 3) := by decide +kernel
theorem dK_ownOfAge_14 : decode cK_ownOfAge 14 = .ok (.iaload, 1) := by decide +kernel
theorem dK_ownOfAge_15 : decode cK_ownOfAge 15 = .ok (.ireturn, 1) := by decide +kernel
set_option maxHeartbeats 400000 in
set_option maxRecDepth 100000 in
theorem mK_ownOfAge (l : Launch) (D : va_G) (q : Nat → Nat) (k : kK) (cI cJ : ClassId) (sz : Nat) (σ : sK) (x1 : Int32) (x2 : Int32) (r : Int32) (hf : fK_ownOfAge k σ x1 x2 = some r) : Met l yK_ownOfAge (.code yK_ownOfAge cK_ownOfAge 3 (some .int) :: TK) ({ frames := 1, cells := 0, slots := 0, locals := 23 }) (kPre D cl0 [(cI, .int), (cJ, .long)] (wdK q k cI cJ) sz σ [.ref (q 0), .int x1, .int x2]) (kQi D cl0 [(cI, .int), (cJ, .long)] (wdK q k cI cJ) (va_A (wdK q k cI cJ σ) sz) r σ) 0 0 (va_A (wdK q k cI cJ σ) sz) := by
  refine kr_start (own := RK) (by decide) rfl (Nat.le_of_ble_eq_true rfl) ?_
  intro p e s m args below meth c ls C0 hsz hK hP hD hl
  subst hsz
  obtain ⟨hx, hb, hr, hml, hown, hts, hlocks⟩ := id C0
  have hA : ∀ z : Nat, s.heap.size ≤ z → va_A (wdK q k cI cJ σ) s.heap.size z := fun z h => Or.inr h
  generalize va_A (wdK q k cI cJ σ) s.heap.size = A at hD hA ⊢
  have hS : va_S A s.heap s.heap [] := va_S.rf
  have hl : lv_has ls 3 [(0, .ref (q 0)), (1, .int x1), (2, .int x2)] := hl
  unfold fK_ownOfAge at hf
  refine lv_aload_n hx hb dK_ownOfAge_0 rfl (lv_at hl 0 rfl) ?_
  refine gK_groupReadings hx hb hown hts hK hP dK_ownOfAge_1 ?_
  refine lv_aload_n hx hb dK_ownOfAge_4 rfl (lv_at hl 0 rfl) ?_
  refine lv_aload_n hx hb dK_ownOfAge_5 rfl (lv_at hl 0 rfl) ?_
  refine gK_chosenRow hx hb hown hts hK hP dK_ownOfAge_6 ?_
  refine lv_iload_n hx hb dK_ownOfAge_9 rfl (lv_at hl 1 rfl) ?_
  refine lv_iload_n hx hb dK_ownOfAge_10 rfl (lv_at hl 2 rfl) ?_
  refine kr_callVi (av := [.int (sK_chosenRow σ), .int x1, .int x2]) ⟨hx, hb, hml, hown, hts⟩ (mK_cell l D q k cI cJ _ σ (sK_chosenRow σ) x1 x2 _ rfl) (cwV 3 hts (kgood_V TK_good (by decide +kernel)) rfl rfl rfl (by decide +kernel) ⟨Nat.le_of_ble_eq_true rfl, Nat.le_of_ble_eq_true rfl⟩) hK hP hD hS hA (ci := 0) (q0 := 0) rfl rfl rfl hl.1 rfl (Nat.le_of_ble_eq_true rfl) dK_ownOfAge_11 ⟨Nat.le_of_ble_eq_true rfl, Nat.le_of_ble_eq_true rfl⟩ (fun H locs hP hD hS => ?_)
  obtain ⟨v14, ev14, hf⟩ := kb1 hf
  refine kr_iaload hx hb hK hP 3 0 rfl rfl ev14 dK_ownOfAge_14 ?_
  exact kr_iret C0 hK hP hD hS (Option.some.inj hf) rfl dK_ownOfAge_15
theorem dK_commonDivisor_0 : decode cK_commonDivisor 0 = .ok (.lload_n 0, 1) := by decide +kernel
theorem dK_commonDivisor_1 : decode cK_commonDivisor 1 = .ok (.lstore 4, 2) := by decide +kernel
theorem dK_commonDivisor_3 : decode cK_commonDivisor 3 = .ok (.lload_n 2, 1) := by decide +kernel
theorem dK_commonDivisor_4 : decode cK_commonDivisor 4 = .ok (.lstore 6, 2) := by decide +kernel
theorem dK_commonDivisor_6 : decode cK_commonDivisor 6 = .ok (.iconst 0, 1) := by decide +kernel
theorem dK_commonDivisor_7 : decode cK_commonDivisor 7 = .ok (.istore 8, 2) := by decide +kernel
theorem dK_commonDivisor_9 : decode cK_commonDivisor 9 = .ok (.iload 8, 2) := by decide +kernel
theorem dK_commonDivisor_11 : decode cK_commonDivisor 11 = .ok (.bipush (100), 2) := by decide +kernel
theorem dK_commonDivisor_13 : decode cK_commonDivisor 13 = .ok (.if_icmp .ge (31), 3) := by decide +kernel
theorem dK_commonDivisor_16 : decode cK_commonDivisor 16 = .ok (.lload 6, 2) := by decide +kernel
theorem dK_commonDivisor_18 : decode cK_commonDivisor 18 = .ok (.lconst 0, 1) := by decide +kernel
theorem dK_commonDivisor_19 : decode cK_commonDivisor 19 = .ok (.lcmp, 1) := by decide +kernel
theorem dK_commonDivisor_20 : decode cK_commonDivisor 20 = .ok (.ifCond .eq (24), 3) := by decide +kernel
theorem dK_commonDivisor_23 : decode cK_commonDivisor 23 = .ok (.lload 4, 2) := by decide +kernel
theorem dK_commonDivisor_25 : decode cK_commonDivisor 25 = .ok (.lload 6, 2) := by decide +kernel
theorem dK_commonDivisor_27 : decode cK_commonDivisor 27 = .ok (.lrem, 1) := by decide +kernel
theorem dK_commonDivisor_28 : decode cK_commonDivisor 28 = .ok (.lstore 9, 2) := by decide +kernel
theorem dK_commonDivisor_30 : decode cK_commonDivisor 30 = .ok (.lload 6, 2) := by decide +kernel
theorem dK_commonDivisor_32 : decode cK_commonDivisor 32 = .ok (.lstore 4, 2) := by decide +kernel
theorem dK_commonDivisor_34 : decode cK_commonDivisor 34 = .ok (.lload 9, 2) := by decide +kernel
theorem dK_commonDivisor_36 : decode cK_commonDivisor 36 = .ok (.lstore 6, 2) := by decide +kernel
theorem dK_commonDivisor_38 : decode cK_commonDivisor 38 = .ok (.iinc 8 (1), 3) := by decide +kernel
theorem dK_commonDivisor_41 : decode cK_commonDivisor 41 = .ok (.goto (-32), 3) := by decide +kernel
theorem dK_commonDivisor_44 : decode cK_commonDivisor 44 = .ok (.lload 4, 2) := by decide +kernel
theorem dK_commonDivisor_46 : decode cK_commonDivisor 46 = .ok (.lreturn, 1) := by decide +kernel
set_option maxHeartbeats 400000 in
set_option maxRecDepth 100000 in
theorem tK_commonDivisor_9 {p : Program} {l : Launch} {e : Env} {s : State} {m : MethodId} {args : Array Value} {below : List Frame} {meth : Method} {c : Code} {D : va_G} {A : Nat → Prop} {S : Type} {wd : S → va_W} {tys : List (ClassId × FieldType)} {cl : List vw_C} {r : Int64} {σ : S} {fu : Nat} (C0 : Cx p s m args meth c cK_commonDivisor 11 (some .long) RK TK) (hK : va_K D cl tys s) (hA : ∀ z, s.heap.size ≤ z → A z) : ∀ n : Nat, ∀ (x4 : Int64) (x6 : Int64) (x8 : Int32)(H : Heap) (locs : List Loc) (ls : Array Slot), fK_commonDivisor_9 fu n x4 x6 x8 = some r → lv_has ls 11 [(4, .long x4), (6, .long x6), (8, .int x8)] → va_P D cl (wd σ) H → va_D A (wd σ) → va_S A s.heap H locs → W p l e ({ frames := 0, cells := 0, slots := 0, locals := 0 }) s m args below meth c H locs 0 0 (MQ below (kQl D cl tys wd A r σ) args s 0 0 A) (F0 m 9 ls []) := by
  obtain ⟨hx, hb, hr, hml, hown, hts, hlocks⟩ := id C0
  intro n
  induction n with
  | zero =>
    intro x4 x6 x8 H locs ls hf hl hP hD hS
    cases hf
  | succ n ih =>
    intro x4 x6 x8 H locs ls hf hl hP hD hS
    rw [fK_commonDivisor_9] at hf
    refine lv_iload hx hb dK_commonDivisor_9 (lv_at hl 2 rfl) ?_
    refine lv_bipush (v := 100) hx hb dK_commonDivisor_11 (by decide) ?_
    refine lv_icmp_ge (tgt := 44) hx hb dK_commonDivisor_13 (by decide) (fun c13 => ?_) (fun c13 => ?_)
    · have hf := (if_pos c13).symm.trans hf
      refine lv_lload hx hb dK_commonDivisor_44 (lv_at hl 0 rfl) ?_
      exact kr_lret C0 hK hP hD hS (Option.some.inj hf) rfl dK_commonDivisor_46
    · have hf := (if_neg c13).symm.trans hf
      refine lv_lload hx hb dK_commonDivisor_16 (lv_at hl 1 rfl) ?_
      refine lv_lconst (v := 0) hx hb dK_commonDivisor_18 (by decide) ?_
      refine W.lcmp hx hb dK_commonDivisor_19 ?_
      refine lv_if_eq (tgt := 44) hx hb dK_commonDivisor_20 (by decide) (fun c19 => ?_) (fun c19 => ?_)
      · rw [lg_cmp_eq] at c19
        have hf := (if_pos c19).symm.trans hf
        refine lv_lload hx hb dK_commonDivisor_44 (lv_at hl 0 rfl) ?_
        exact kr_lret C0 hK hP hD hS (Option.some.inj hf) rfl dK_commonDivisor_46
      · rw [lg_cmp_eq] at c19
        have hf := (if_neg c19).symm.trans hf
        refine lv_lload hx hb dK_commonDivisor_23 (lv_at hl 0 rfl) ?_
        refine lv_lload hx hb dK_commonDivisor_25 (lv_at hl 1 rfl) ?_
        obtain ⟨v27, ev27, hf⟩ := kb1 hf
        refine kr_lrem hx hb ev27 dK_commonDivisor_27 ?_
        refine lv_lstore (lv' := [(9, .long v27), (4, .long x4), (6, .long x6), (8, .int x8)]) hx hb dK_commonDivisor_28 hl (by decide) rfl (fun ls hl => ?_)
        refine lv_lload hx hb dK_commonDivisor_30 (lv_at hl 2 rfl) ?_
        refine lv_lstore (lv' := [(4, .long x6), (9, .long v27), (6, .long x6), (8, .int x8)]) hx hb dK_commonDivisor_32 hl (by decide) rfl (fun ls hl => ?_)
        refine lv_lload hx hb dK_commonDivisor_34 (lv_at hl 1 rfl) ?_
        refine lv_lstore (lv' := [(6, .long v27), (4, .long x6), (9, .long v27), (8, .int x8)]) hx hb dK_commonDivisor_36 hl (by decide) rfl (fun ls hl => ?_)
        refine lv_iinc (v := (x8 + 1)) (lv' := [(8, .int (x8 + 1)), (6, .long v27), (4, .long x6), (9, .long v27)]) hx hb dK_commonDivisor_38 hl (k := 3) rfl rfl (by decide) rfl (fun ls hl => ?_)
        refine lv_goto (tgt := 9) hx hb dK_commonDivisor_41 (by decide) ?_
        exact ih x6 v27 (x8 + 1) _ _ ls hf (lv_sub hl [2, 1, 0] rfl) hP hD hS
set_option maxHeartbeats 400000 in
set_option maxRecDepth 100000 in
theorem mK_commonDivisor (l : Launch) (D : va_G) (S : Type) (wd : S → va_W) (tys : List (ClassId × FieldType)) (cl : List vw_C) (sz : Nat) (fu : Nat) (σ : S) (x0 : Int64) (x2 : Int64) (r : Int64) (hf : fK_commonDivisor fu x0 x2 = some r) : Met l yK_commonDivisor (.code yK_commonDivisor cK_commonDivisor 11 (some .long) :: TK) ({ frames := 0, cells := 0, slots := 0, locals := 0 }) (kPre D cl tys wd sz σ [.long x0, .long x2]) (kQl D cl tys wd (va_A (wd σ) sz) r σ) 0 0 (va_A (wd σ) sz) := by
  refine kr_start (own := RK) (by decide) rfl (Nat.le_of_ble_eq_true rfl) ?_
  intro p e s m args below meth c ls C0 hsz hK hP hD hl
  subst hsz
  obtain ⟨hx, hb, hr, hml, hown, hts, hlocks⟩ := id C0
  have hA : ∀ z : Nat, s.heap.size ≤ z → va_A (wd σ) s.heap.size z := fun z h => Or.inr h
  generalize va_A (wd σ) s.heap.size = A at hD hA ⊢
  have hS : va_S A s.heap s.heap [] := va_S.rf
  have hl : lv_has ls 11 [(0, .long x0), (2, .long x2)] := hl
  unfold fK_commonDivisor at hf
  refine lv_lload_n hx hb dK_commonDivisor_0 rfl (lv_at hl 0 rfl) ?_
  refine lv_lstore (lv' := [(4, .long x0), (0, .long x0), (2, .long x2)]) hx hb dK_commonDivisor_1 hl (by decide) rfl (fun ls hl => ?_)
  refine lv_lload_n hx hb dK_commonDivisor_3 rfl (lv_at hl 2 rfl) ?_
  refine lv_lstore (lv' := [(6, .long x2), (4, .long x0), (0, .long x0), (2, .long x2)]) hx hb dK_commonDivisor_4 hl (by decide) rfl (fun ls hl => ?_)
  refine lv_iconst (v := 0) hx hb dK_commonDivisor_6 (by decide) ?_
  refine lv_istore (lv' := [(8, .int 0), (6, .long x2), (4, .long x0), (0, .long x0), (2, .long x2)]) hx hb dK_commonDivisor_7 hl (by decide) rfl (fun ls hl => ?_)
  exact tK_commonDivisor_9 C0 hK hA fu x0 x2 0 _ _ ls hf (lv_sub hl [2, 1, 0] rfl) hP hD hS
theorem dK_fractionPart_0 : decode cK_fractionPart 0 = .ok (.lload_n 0, 1) := by decide +kernel
theorem dK_fractionPart_1 : decode cK_fractionPart 1 = .ok (.invokestatic 199, 3) := by decide +kernel
theorem dK_fractionPart_4 : decode cK_fractionPart 4 = .ok (.lload_n 2, 1) := by decide +kernel
theorem dK_fractionPart_5 : decode cK_fractionPart 5 = .ok (.invokestatic 202, 3) := by decide +kernel
theorem dK_fractionPart_8 : decode cK_fractionPart 8 = .ok (.lstore 5, 2) := by decide +kernel
theorem dK_fractionPart_10 : decode cK_fractionPart 10 = .ok (.lload 5, 2) := by decide +kernel
theorem dK_fractionPart_12 : decode cK_fractionPart 12 = .ok (.lconst 0, 1) := by decide +kernel
theorem dK_fractionPart_13 : decode cK_fractionPart 13 = .ok (.lcmp, 1) := by decide +kernel
theorem dK_fractionPart_14 : decode cK_fractionPart 14 = .ok (.ifCond .gt (7), 3) := by decide +kernel
theorem dK_fractionPart_17 : decode cK_fractionPart 17 = .ok (.ldc2_w 103, 3) := by decide +kernel
theorem dK_fractionPart_20 : decode cK_fractionPart 20 = .ok (.lreturn, 1) := by decide +kernel
theorem dK_fractionPart_21 : decode cK_fractionPart 21 = .ok (.iload 4, 2) := by decide +kernel
theorem dK_fractionPart_23 : decode cK_fractionPart 23 = .ok (.ifCond .ne (7), 3) := by decide +kernel
theorem dK_fractionPart_26 : decode cK_fractionPart 26 = .ok (.lload_n 0, 1) := by decide +kernel
theorem dK_fractionPart_27 : decode cK_fractionPart 27 = .ok (.goto (4), 3) := by decide +kernel
theorem dK_fractionPart_30 : decode cK_fractionPart 30 = .ok (.lload_n 2, 1) := by decide +kernel
theorem dK_fractionPart_31 : decode cK_fractionPart 31 = .ok (.lload 5, 2) := by decide +kernel
theorem dK_fractionPart_33 : decode cK_fractionPart 33 = .ok (.ldiv, 1) := by decide +kernel
theorem dK_fractionPart_34 : decode cK_fractionPart 34 = .ok (.lreturn, 1) := by decide +kernel
set_option maxHeartbeats 400000 in
set_option maxRecDepth 100000 in
theorem mK_fractionPart (l : Launch) (D : va_G) (S : Type) (wd : S → va_W) (tys : List (ClassId × FieldType)) (cl : List vw_C) (sz : Nat) (fu : Nat) (σ : S) (x0 : Int64) (x2 : Int64) (x4 : Int32) (r : Int64) (hf : fK_fractionPart fu x0 x2 x4 = some r) : Met l yK_fractionPart (.code yK_fractionPart cK_fractionPart 7 (some .long) :: TK) ({ frames := 1, cells := 0, slots := 0, locals := 30 }) (kPre D cl tys wd sz σ [.long x0, .long x2, .int x4]) (kQl D cl tys wd (va_A (wd σ) sz) r σ) 0 0 (va_A (wd σ) sz) := by
  refine kr_start (own := RK) (by decide) rfl (Nat.le_of_ble_eq_true rfl) ?_
  intro p e s m args below meth c ls C0 hsz hK hP hD hl
  subst hsz
  obtain ⟨hx, hb, hr, hml, hown, hts, hlocks⟩ := id C0
  have hA : ∀ z : Nat, s.heap.size ≤ z → va_A (wd σ) s.heap.size z := fun z h => Or.inr h
  generalize va_A (wd σ) s.heap.size = A at hD hA ⊢
  have hS : va_S A s.heap s.heap [] := va_S.rf
  have hl : lv_has ls 7 [(0, .long x0), (2, .long x2), (4, .int x4)] := hl
  unfold fK_fractionPart at hf
  refine lv_lload_n hx hb dK_fractionPart_0 rfl (lv_at hl 0 rfl) ?_
  refine va_mabs_long hx hb (hml.trans hl.1.symm) hown (hts (.methodLink RK 199 Lib.MathLoose.abs_long.x) (by decide +kernel)) (hts (.static Lib.MathLoose.abs_long.x) (by decide +kernel)) (hts (.initialized "java/lang/Math") (by decide +kernel)) (hts (.code Lib.MathLoose.abs_long.x Lib.MathLoose.abs_long.code 2 (some .long)) (by decide +kernel)) (Nat.le_of_ble_eq_true rfl) (Nat.le_of_ble_eq_true rfl) (Nat.le_of_ble_eq_true rfl) (Nat.le_of_ble_eq_true rfl) dK_fractionPart_1 ?_
  refine lv_lload_n hx hb dK_fractionPart_4 rfl (lv_at hl 1 rfl) ?_
  obtain ⟨v5, ev5, hf⟩ := kb1 hf
  refine kr_callSl (av := [.long (if 0 < x0 then x0 else -x0), .long x2]) ⟨hx, hb, hml, hown, hts⟩ (mK_commonDivisor l D _ wd tys cl _ fu σ (if 0 < x0 then x0 else -x0) x2 v5 ev5) (cwS 2 hts (kgood_S TK_good (by decide +kernel)) rfl rfl rfl (by decide +kernel) ⟨Nat.le_of_ble_eq_true rfl, Nat.le_of_ble_eq_true rfl⟩) hK hP hD hS hA rfl hl.1 rfl (Nat.le_of_ble_eq_true rfl) dK_fractionPart_5 ⟨Nat.le_of_ble_eq_true rfl, Nat.le_of_ble_eq_true rfl⟩ (fun H locs hP hD hS => ?_)
  refine lv_lstore (lv' := [(5, .long v5), (0, .long x0), (2, .long x2), (4, .int x4)]) hx hb dK_fractionPart_8 hl (by decide) rfl (fun ls hl => ?_)
  refine lv_lload hx hb dK_fractionPart_10 (lv_at hl 0 rfl) ?_
  refine lv_lconst (v := 0) hx hb dK_fractionPart_12 (by decide) ?_
  refine W.lcmp hx hb dK_fractionPart_13 ?_
  refine lv_if_gt (tgt := 21) hx hb dK_fractionPart_14 (by decide) (fun c13 => ?_) (fun c13 => ?_)
  · rw [lg_cmp_gt] at c13
    have hf := (if_pos c13).symm.trans hf
    refine lv_iload hx hb dK_fractionPart_21 (lv_at hl 3 rfl) ?_
    refine lv_if_ne (tgt := 30) hx hb dK_fractionPart_23 (by decide) (fun c23 => ?_) (fun c23 => ?_)
    · have hf := (if_neg c23).symm.trans hf
      refine lv_lload_n hx hb dK_fractionPart_30 rfl (lv_at hl 2 rfl) ?_
      refine lv_lload hx hb dK_fractionPart_31 (lv_at hl 0 rfl) ?_
      obtain ⟨v33, ev33, hf⟩ := kb1 hf
      refine kr_ldiv hx hb ev33 dK_fractionPart_33 ?_
      exact kr_lret C0 hK hP hD hS (Option.some.inj hf) rfl dK_fractionPart_34
    · have hf := (if_pos c23).symm.trans hf
      refine lv_lload_n hx hb dK_fractionPart_26 rfl (lv_at hl 1 rfl) ?_
      refine lv_goto (tgt := 31) hx hb dK_fractionPart_27 (by decide) ?_
      refine lv_lload hx hb dK_fractionPart_31 (lv_at hl 0 rfl) ?_
      obtain ⟨v33, ev33, hf⟩ := kb1 hf
      refine kr_ldiv hx hb ev33 dK_fractionPart_33 ?_
      exact kr_lret C0 hK hP hD hS (Option.some.inj hf) rfl dK_fractionPart_34
  · rw [lg_cmp_gt] at c13
    have hf := (if_neg c13).symm.trans hf
    refine lv_ldc2 (v := -1) hx hb hown (hts (.constantLong RK 103 (-1)) (by decide +kernel)) dK_fractionPart_17 ?_
    exact kr_lret C0 hK hP hD hS (Option.some.inj hf) rfl dK_fractionPart_20
theorem dK_share_0 : decode cK_share 0 = .ok (.aload_n 0, 1) := by decide +kernel
theorem dK_share_1 : decode cK_share 1 = .ok (.iload_n 1, 1) := by decide +kernel
theorem dK_share_2 : decode cK_share 2 = .ok (.invokevirtual 79, 3) := by decide +kernel
theorem dK_share_5 : decode cK_share 5 = .ok (.ifCond .eq (18), 3) := by decide +kernel
theorem dK_share_8 : decode cK_share 8 = .ok (.aload_n 0, 1) := by decide +kernel
theorem dK_share_9 : decode cK_share 9 = .ok (.iload_n 2, 1) := by decide +kernel
theorem dK_share_10 : decode cK_share 10 = .ok (.invokevirtual 83, 3) := by decide +kernel
theorem dK_share_13 : decode cK_share 13 = .ok (.ifCond .eq (10), 3) := by decide +kernel
theorem dK_share_16 : decode cK_share 16 = .ok (.iload_n 3, 1) := by decide +kernel
theorem dK_share_17 : decode cK_share 17 = .ok (.invokestatic 100, 3) := by decide +kernel
theorem dK_share_20 : decode cK_share 20 = .ok (.ifCond .ne (7), 3) := by decide +kernel
theorem dK_share_23 : decode cK_share 23 = .ok (.ldc2_w 103, 3) := by decide +kernel
theorem dK_share_26 : decode cK_share 26 = .ok (.lreturn, 1) := by decide +kernel
theorem dK_share_27 : decode cK_share 27 = .ok (.aload_n 0, 1) := by decide +kernel
theorem dK_share_28 : decode cK_share 28 = .ok (.aload_n 0, 1) := by decide +kernel
theorem dK_share_29 : decode cK_share 29 = .ok (.getfield 45, 3) := by decide +kernel
theorem dK_share_32 : decode cK_share 32 = .ok (.iload_n 1, 1) := by decide +kernel
theorem dK_share_33 : decode cK_share 33 = .ok (.iaload, 1) := by decide +kernel
theorem dK_share_34 : decode cK_share 34 = .ok (.invokevirtual 105, 3) := by decide +kernel
theorem dK_share_37 : decode cK_share 37 = .ok (.istore 4, 2) := by decide +kernel
theorem dK_share_39 : decode cK_share 39 = .ok (.iload 4, 2) := by decide +kernel
theorem dK_share_41 : decode cK_share 41 = .ok (.iconst (-1), 1) := by decide +kernel
theorem dK_share_42 : decode cK_share 42 = .ok (.if_icmp .ne (7), 3) := by decide +kernel
theorem dK_share_45 : decode cK_share 45 = .ok (.ldc2_w 103, 3) := by decide +kernel
theorem dK_share_48 : decode cK_share 48 = .ok (.lreturn, 1) := by decide +kernel
theorem dK_share_49 : decode cK_share 49 = .ok (.aload_n 0, 1) := by decide +kernel
theorem dK_share_50 : decode cK_share 50 = .ok (.iload 4, 2) := by decide +kernel
theorem dK_share_52 : decode cK_share 52 = .ok (.iload_n 2, 1) := by decide +kernel
theorem dK_share_53 : decode cK_share 53 = .ok (.invokevirtual 109, 3) := by decide +kernel
theorem dK_share_56 : decode cK_share 56 = .ok (.i2l, 1) := by decide +kernel
theorem dK_share_57 : decode cK_share 57 = .ok (.aload_n 0, 1) := by decide +kernel
theorem dK_share_58 : decode cK_share 58 = .ok (.iload 4, 2) := by decide +kernel
theorem dK_share_60 : decode cK_share 60 = .ok (.invokevirtual 112, 3) := by decide +kernel
theorem dK_share_63 : decode cK_share 63 = .ok (.i2l, 1) := by decide +kernel
theorem dK_share_64 : decode cK_share 64 = .ok (.iload_n 3, 1) := by decide +kernel
theorem dK_share_65 : decode cK_share 65 = .ok (.invokestatic 115, 3) := by decide +kernel
theorem dK_share_68 : decode cK_share 68 = .ok (.lreturn, 1) := by decide +kernel
set_option maxHeartbeats 400000 in
set_option maxRecDepth 100000 in
theorem mK_share (l : Launch) (D : va_G) (q : Nat → Nat) (k : kK) (cI cJ : ClassId) (sz : Nat) (fu : Nat) (σ : sK) (x1 : Int32) (x2 : Int32) (x3 : Int32) (r : Int64) (hf : fK_share fu k σ x1 x2 x3 = some r) : Met l yK_share (.code yK_share cK_share 5 (some .long) :: TK) ({ frames := 3, cells := 0, slots := 0, locals := 65 }) (kPre D cl0 [(cI, .int), (cJ, .long)] (wdK q k cI cJ) sz σ [.ref (q 0), .int x1, .int x2, .int x3]) (kQl D cl0 [(cI, .int), (cJ, .long)] (wdK q k cI cJ) (va_A (wdK q k cI cJ σ) sz) r σ) 0 0 (va_A (wdK q k cI cJ σ) sz) := by
  refine kr_start (own := RK) (by decide) rfl (Nat.le_of_ble_eq_true rfl) ?_
  intro p e s m args below meth c ls C0 hsz hK hP hD hl
  subst hsz
  obtain ⟨hx, hb, hr, hml, hown, hts, hlocks⟩ := id C0
  have hA : ∀ z : Nat, s.heap.size ≤ z → va_A (wdK q k cI cJ σ) s.heap.size z := fun z h => Or.inr h
  generalize va_A (wdK q k cI cJ σ) s.heap.size = A at hD hA ⊢
  have hS : va_S A s.heap s.heap [] := va_S.rf
  have hl : lv_has ls 5 [(0, .ref (q 0)), (1, .int x1), (2, .int x2), (3, .int x3)] := hl
  unfold fK_share at hf
  refine lv_aload_n hx hb dK_share_0 rfl (lv_at hl 0 rfl) ?_
  refine lv_iload_n hx hb dK_share_1 rfl (lv_at hl 1 rfl) ?_
  refine kr_callVi (av := [.int x1]) ⟨hx, hb, hml, hown, hts⟩ (mK_isClass l D q k cI cJ _ σ x1 _ rfl) (cwV 1 hts (kgood_V TK_good (by decide +kernel)) rfl rfl rfl (by decide +kernel) ⟨Nat.le_of_ble_eq_true rfl, Nat.le_of_ble_eq_true rfl⟩) hK hP hD hS hA (ci := 0) (q0 := 0) rfl rfl rfl hl.1 rfl (Nat.le_of_ble_eq_true rfl) dK_share_2 ⟨Nat.le_of_ble_eq_true rfl, Nat.le_of_ble_eq_true rfl⟩ (fun H locs hP hD hS => ?_)
  refine lv_if_eq (tgt := 23) hx hb dK_share_5 (by decide) (fun c5 => ?_) (fun c5 => ?_)
  · have hf := (if_pos c5).symm.trans hf
    refine lv_ldc2 (v := -1) hx hb hown (hts (.constantLong RK 103 (-1)) (by decide +kernel)) dK_share_23 ?_
    exact kr_lret C0 hK hP hD hS (Option.some.inj hf) rfl dK_share_26
  · have hf := (if_neg c5).symm.trans hf
    refine lv_aload_n hx hb dK_share_8 rfl (lv_at hl 0 rfl) ?_
    refine lv_iload_n hx hb dK_share_9 rfl (lv_at hl 2 rfl) ?_
    refine kr_callVi (av := [.int x2]) ⟨hx, hb, hml, hown, hts⟩ (mK_isAge l D q k cI cJ _ σ x2 _ rfl) (cwV 1 hts (kgood_V TK_good (by decide +kernel)) rfl rfl rfl (by decide +kernel) ⟨Nat.le_of_ble_eq_true rfl, Nat.le_of_ble_eq_true rfl⟩) hK hP hD hS hA (ci := 0) (q0 := 0) rfl rfl rfl hl.1 rfl (Nat.le_of_ble_eq_true rfl) dK_share_10 ⟨Nat.le_of_ble_eq_true rfl, Nat.le_of_ble_eq_true rfl⟩ (fun H locs hP hD hS => ?_)
    refine lv_if_eq (tgt := 23) hx hb dK_share_13 (by decide) (fun c13 => ?_) (fun c13 => ?_)
    · have hf := (if_pos c13).symm.trans hf
      refine lv_ldc2 (v := -1) hx hb hown (hts (.constantLong RK 103 (-1)) (by decide +kernel)) dK_share_23 ?_
      exact kr_lret C0 hK hP hD hS (Option.some.inj hf) rfl dK_share_26
    · have hf := (if_neg c13).symm.trans hf
      refine lv_iload_n hx hb dK_share_16 rfl (lv_at hl 3 rfl) ?_
      refine kr_callSi (av := [.int x3]) ⟨hx, hb, hml, hown, hts⟩ (mK_isZeroOrOne l D _ (wdK q k cI cJ) [(cI, .int), (cJ, .long)] cl0 _ σ x3 _ rfl) (cwS 1 hts (kgood_S TK_good (by decide +kernel)) rfl rfl rfl (by decide +kernel) ⟨Nat.le_of_ble_eq_true rfl, Nat.le_of_ble_eq_true rfl⟩) hK hP hD hS hA rfl hl.1 rfl (Nat.le_of_ble_eq_true rfl) dK_share_17 ⟨Nat.le_of_ble_eq_true rfl, Nat.le_of_ble_eq_true rfl⟩ (fun H locs hP hD hS => ?_)
      refine lv_if_ne (tgt := 27) hx hb dK_share_20 (by decide) (fun c20 => ?_) (fun c20 => ?_)
      · have hf := (if_neg c20).symm.trans hf
        refine lv_aload_n hx hb dK_share_27 rfl (lv_at hl 0 rfl) ?_
        refine lv_aload_n hx hb dK_share_28 rfl (lv_at hl 0 rfl) ?_
        refine gK_groupOf hx hb hown hts hK hP dK_share_29 ?_
        refine lv_iload_n hx hb dK_share_32 rfl (lv_at hl 1 rfl) ?_
        obtain ⟨v33, ev33, hf⟩ := kb1 hf
        refine kr_iaload hx hb hK hP 5 0 rfl rfl ev33 dK_share_33 ?_
        obtain ⟨v34, ev34, hf⟩ := kb1 hf
        refine kr_callVi (av := [.int v33]) ⟨hx, hb, hml, hown, hts⟩ (mK_sourceOf l D q k cI cJ _ σ v33 v34 ev34) (cwV 1 hts (kgood_V TK_good (by decide +kernel)) rfl rfl rfl (by decide +kernel) ⟨Nat.le_of_ble_eq_true rfl, Nat.le_of_ble_eq_true rfl⟩) hK hP hD hS hA (ci := 0) (q0 := 0) rfl rfl rfl hl.1 rfl (Nat.le_of_ble_eq_true rfl) dK_share_34 ⟨Nat.le_of_ble_eq_true rfl, Nat.le_of_ble_eq_true rfl⟩ (fun H locs hP hD hS => ?_)
        refine lv_istore (lv' := [(4, .int v34), (0, .ref (q 0)), (1, .int x1), (2, .int x2), (3, .int x3)]) hx hb dK_share_37 hl (by decide) rfl (fun ls hl => ?_)
        refine lv_iload hx hb dK_share_39 (lv_at hl 0 rfl) ?_
        refine lv_iconst (v := (-1)) hx hb dK_share_41 (by decide) ?_
        refine lv_icmp_ne (tgt := 49) hx hb dK_share_42 (by decide) (fun c42 => ?_) (fun c42 => ?_)
        · have hf := (if_neg c42).symm.trans hf
          refine lv_aload_n hx hb dK_share_49 rfl (lv_at hl 1 rfl) ?_
          refine lv_iload hx hb dK_share_50 (lv_at hl 0 rfl) ?_
          refine lv_iload_n hx hb dK_share_52 rfl (lv_at hl 3 rfl) ?_
          obtain ⟨v53, ev53, hf⟩ := kb1 hf
          refine kr_callVi (av := [.int v34, .int x2]) ⟨hx, hb, hml, hown, hts⟩ (mK_ownOfAge l D q k cI cJ _ σ v34 x2 v53 ev53) (cwV 2 hts (kgood_V TK_good (by decide +kernel)) rfl rfl rfl (by decide +kernel) ⟨Nat.le_of_ble_eq_true rfl, Nat.le_of_ble_eq_true rfl⟩) hK hP hD hS hA (ci := 0) (q0 := 0) rfl rfl rfl hl.1 rfl (Nat.le_of_ble_eq_true rfl) dK_share_53 ⟨Nat.le_of_ble_eq_true rfl, Nat.le_of_ble_eq_true rfl⟩ (fun H locs hP hD hS => ?_)
          refine lv_i2l (v := v53.toInt64) hx hb dK_share_56 rfl ?_
          refine lv_aload_n hx hb dK_share_57 rfl (lv_at hl 1 rfl) ?_
          refine lv_iload hx hb dK_share_58 (lv_at hl 0 rfl) ?_
          obtain ⟨v60, ev60, hf⟩ := kb1 hf
          refine kr_callVi (av := [.int v34]) ⟨hx, hb, hml, hown, hts⟩ (mK_own l D q k cI cJ _ σ v34 v60 ev60) (cwV 1 hts (kgood_V TK_good (by decide +kernel)) rfl rfl rfl (by decide +kernel) ⟨Nat.le_of_ble_eq_true rfl, Nat.le_of_ble_eq_true rfl⟩) hK hP hD hS hA (ci := 0) (q0 := 0) rfl rfl rfl hl.1 rfl (Nat.le_of_ble_eq_true rfl) dK_share_60 ⟨Nat.le_of_ble_eq_true rfl, Nat.le_of_ble_eq_true rfl⟩ (fun H locs hP hD hS => ?_)
          refine lv_i2l (v := v60.toInt64) hx hb dK_share_63 rfl ?_
          refine lv_iload_n hx hb dK_share_64 rfl (lv_at hl 4 rfl) ?_
          obtain ⟨v65, ev65, hf⟩ := kb1 hf
          refine kr_callSl (av := [.long v53.toInt64, .long v60.toInt64, .int x3]) ⟨hx, hb, hml, hown, hts⟩ (mK_fractionPart l D _ (wdK q k cI cJ) [(cI, .int), (cJ, .long)] cl0 _ fu σ v53.toInt64 v60.toInt64 x3 v65 ev65) (cwS 3 hts (kgood_S TK_good (by decide +kernel)) rfl rfl rfl (by decide +kernel) ⟨Nat.le_of_ble_eq_true rfl, Nat.le_of_ble_eq_true rfl⟩) hK hP hD hS hA rfl hl.1 rfl (Nat.le_of_ble_eq_true rfl) dK_share_65 ⟨Nat.le_of_ble_eq_true rfl, Nat.le_of_ble_eq_true rfl⟩ (fun H locs hP hD hS => ?_)
          exact kr_lret C0 hK hP hD hS (Option.some.inj hf) rfl dK_share_68
        · have hf := (if_pos c42).symm.trans hf
          refine lv_ldc2 (v := -1) hx hb hown (hts (.constantLong RK 103 (-1)) (by decide +kernel)) dK_share_45 ?_
          exact kr_lret C0 hK hP hD hS (Option.some.inj hf) rfl dK_share_48
      · have hf := (if_pos c20).symm.trans hf
        refine lv_ldc2 (v := -1) hx hb hown (hts (.constantLong RK 103 (-1)) (by decide +kernel)) dK_share_23 ?_
        exact kr_lret C0 hK hP hD hS (Option.some.inj hf) rfl dK_share_26
theorem dK_without_0 : decode cK_without 0 = .ok (.aload_n 0, 1) := by decide +kernel
theorem dK_without_1 : decode cK_without 1 = .ok (.iload_n 1, 1) := by decide +kernel
theorem dK_without_2 : decode cK_without 2 = .ok (.invokevirtual 79, 3) := by decide +kernel
theorem dK_without_5 : decode cK_without 5 = .ok (.ifCond .eq (26), 3) := by decide +kernel
theorem dK_without_8 : decode cK_without 8 = .ok (.aload_n 0, 1) := by decide +kernel
theorem dK_without_9 : decode cK_without 9 = .ok (.iload_n 2, 1) := by decide +kernel
theorem dK_without_10 : decode cK_without 10 = .ok (.invokevirtual 83, 3) := by decide +kernel
theorem dK_without_13 : decode cK_without 13 = .ok (.ifCond .eq (18), 3) := by decide +kernel
theorem dK_without_16 : decode cK_without 16 = .ok (.iload_n 3, 1) := by decide +kernel
theorem dK_without_17 : decode cK_without 17 = .ok (.invokestatic 100, 3) := by decide +kernel
theorem dK_without_20 : decode cK_without 20 = .ok (.ifCond .eq (11), 3) := by decide +kernel
theorem dK_without_23 : decode cK_without 23 = .ok (.iload 4, 2) := by decide +kernel
theorem dK_without_25 : decode cK_without 25 = .ok (.invokestatic 100, 3) := by decide +kernel
theorem dK_without_28 : decode cK_without 28 = .ok (.ifCond .ne (7), 3) := by decide +kernel
theorem dK_without_31 : decode cK_without 31 = .ok (.ldc2_w 103, 3) := by decide +kernel
theorem dK_without_34 : decode cK_without 34 = .ok (.lreturn, 1) := by decide +kernel
theorem dK_without_35 : decode cK_without 35 = .ok (.aload_n 0, 1) := by decide +kernel
theorem dK_without_36 : decode cK_without 36 = .ok (.aload_n 0, 1) := by decide +kernel
theorem dK_without_37 : decode cK_without 37 = .ok (.getfield 45, 3) := by decide +kernel
theorem dK_without_40 : decode cK_without 40 = .ok (.iload_n 1, 1) := by decide +kernel
theorem dK_without_41 : decode cK_without 41 = .ok (.iaload, 1) := by decide +kernel
theorem dK_without_42 : decode cK_without 42 = .ok (.invokevirtual 112, 3) := by decide +kernel
theorem dK_without_45 : decode cK_without 45 = .ok (.istore 5, 2) := by decide +kernel
theorem dK_without_47 : decode cK_without 47 = .ok (.iload 5, 2) := by decide +kernel
theorem dK_without_49 : decode cK_without 49 = .ok (.iconst 2, 1) := by decide +kernel
theorem dK_without_50 : decode cK_without 50 = .ok (.if_icmp .ge (7), 3) := by decide +kernel
theorem dK_without_53 : decode cK_without 53 = .ok (.ldc2_w 103, 3) := by decide +kernel
theorem dK_without_56 : decode cK_without 56 = .ok (.lreturn, 1) := by decide +kernel
theorem dK_without_57 : decode cK_without 57 = .ok (.aload_n 0, 1) := by decide +kernel
theorem dK_without_58 : decode cK_without 58 = .ok (.aload_n 0, 1) := by decide +kernel
theorem dK_without_59 : decode cK_without 59 = .ok (.getfield 45, 3) := by decide +kernel
theorem dK_without_62 : decode cK_without 62 = .ok (.iload_n 1, 1) := by decide +kernel
theorem dK_without_63 : decode cK_without 63 = .ok (.iaload, 1) := by decide +kernel
theorem dK_without_64 : decode cK_without 64 = .ok (.iload_n 2, 1) := by decide +kernel
theorem dK_without_65 : decode cK_without 65 = .ok (.invokevirtual 109, 3) := by decide +kernel
theorem dK_without_68 : decode cK_without 68 = .ok (.istore 6, 2) := by decide +kernel
theorem dK_without_70 : decode cK_without 70 = .ok (.iload_n 3, 1) := by decide +kernel
theorem dK_without_71 : decode cK_without 71 = .ok (.ifCond .ne (16), 3) := by decide +kernel
theorem dK_without_74 : decode cK_without 74 = .ok (.iload 6, 2) := by decide +kernel
theorem dK_without_76 : decode cK_without 76 = .ok (.ifCond .le (7), 3) := by decide +kernel
theorem dK_without_79 : decode cK_without 79 = .ok (.iconst 1, 1) := by decide +kernel
theorem dK_without_80 : decode cK_without 80 = .ok (.goto (19), 3) := by decide +kernel
theorem dK_without_83 : decode cK_without 83 = .ok (.iconst 0, 1) := by decide +kernel
theorem dK_without_84 : decode cK_without 84 = .ok (.goto (15), 3) := by decide +kernel
theorem dK_without_87 : decode cK_without 87 = .ok (.iload 6, 2) := by decide +kernel
theorem dK_without_89 : decode cK_without 89 = .ok (.iload 5, 2) := by decide +kernel
theorem dK_without_91 : decode cK_without 91 = .ok (.if_icmp .ne (7), 3) := by decide +kernel
theorem dK_without_94 : decode cK_without 94 = .ok (.iconst 1, 1) := by decide +kernel
theorem dK_without_95 : decode cK_without 95 = .ok (.goto (4), 3) := by decide +kernel
theorem dK_without_98 : decode cK_without 98 = .ok (.iconst 0, 1) := by decide +kernel
theorem dK_without_99 : decode cK_without 99 = .ok (.istore 7, 2) := by decide +kernel
theorem dK_without_101 : decode cK_without 101 = .ok (.iload 7, 2) := by decide +kernel
theorem dK_without_103 : decode cK_without 103 = .ok (.ifCond .eq (11), 3) := by decide +kernel
theorem dK_without_106 : decode cK_without 106 = .ok (.iload 6, 2) := by decide +kernel
theorem dK_without_108 : decode cK_without 108 = .ok (.iconst 1, 1) := by decide +kernel
theorem dK_without_109 : decode cK_without 109 = .ok (.isub, 1) := by decide +kernel
theorem dK_without_110 : decode cK_without 110 = .ok (.i2l, 1) := by decide +kernel
theorem dK_without_111 : decode cK_without 111 = .ok (.goto (6), 3) := by decide +kernel
theorem dK_without_114 : decode cK_without 114 = .ok (.iload 6, 2) := by decide +kernel
theorem dK_without_116 : decode cK_without 116 = .ok (.i2l, 1) := by decide +kernel
theorem dK_without_117 : decode cK_without 117 = .ok (.iload 5, 2) := by decide +kernel
theorem dK_without_119 : decode cK_without 119 = .ok (.iconst 1, 1) := by decide +kernel
theorem dK_without_120 : decode cK_without 120 = .ok (.isub, 1) := by decide +kernel
theorem dK_without_121 : decode cK_without 121 = .ok (.i2l, 1) := by decide +kernel
theorem dK_without_122 : decode cK_without 122 = .ok (.iload 4, 2) := by decide +kernel
theorem dK_without_124 : decode cK_without 124 = .ok (.invokestatic 115, 3) := by decide +kernel
theorem dK_without_127 : decode cK_without 127 = .ok (.lreturn, 1) := by decide +kernel
set_option maxHeartbeats 400000 in
set_option maxRecDepth 100000 in
theorem tK_without_117 {p : Program} {l : Launch} {e : Env} {s : State} {m : MethodId} {args : Array Value} {below : List Frame} {meth : Method} {c : Code} {D : va_G} {A : Nat → Prop} {q : Nat → Nat} {k : kK} {cI cJ : ClassId} {r : Int64} {σ : sK} {fu : Nat} (C0 : Cx p s m args meth c cK_without 8 (some .long) RK TK) (hK : va_K D cl0 [(cI, .int), (cJ, .long)] s) (hA : ∀ z, s.heap.size ≤ z → A z) : ∀ (y0 : Int64) (x4 : Int32) (x5 : Int32)(H : Heap) (locs : List Loc) (ls : Array Slot), fK_without_117 fu k σ y0 x4 x5 = some r → lv_has ls 8 [(4, .int x4), (5, .int x5)] → va_P D cl0 (wdK q k cI cJ σ) H → va_D A (wdK q k cI cJ σ) → va_S A s.heap H locs → W p l e ({ frames := 2, cells := 0, slots := 0, locals := 56 }) s m args below meth c H locs 0 0 (MQ below (kQl D cl0 [(cI, .int), (cJ, .long)] (wdK q k cI cJ) A r σ) args s 0 0 A) (F0 m 117 ls [.long y0]) := by
  obtain ⟨hx, hb, hr, hml, hown, hts, hlocks⟩ := id C0
  intro y0 x4 x5 H locs ls hf hl hP hD hS
  unfold fK_without_117 at hf
  refine lv_iload hx hb dK_without_117 (lv_at hl 1 rfl) ?_
  refine lv_iconst (v := 1) hx hb dK_without_119 (by decide) ?_
  refine lv_isub hx hb dK_without_120 ?_
  refine lv_i2l (v := (x5 - 1).toInt64) hx hb dK_without_121 rfl ?_
  refine lv_iload hx hb dK_without_122 (lv_at hl 0 rfl) ?_
  obtain ⟨v124, ev124, hf⟩ := kb1 hf
  refine kr_callSl (av := [.long y0, .long (x5 - 1).toInt64, .int x4]) ⟨hx, hb, hml, hown, hts⟩ (mK_fractionPart l D _ (wdK q k cI cJ) [(cI, .int), (cJ, .long)] cl0 _ fu σ y0 ((x5 - 1).toInt64) x4 v124 ev124) (cwS 3 hts (kgood_S TK_good (by decide +kernel)) rfl rfl rfl (by decide +kernel) ⟨Nat.le_of_ble_eq_true rfl, Nat.le_of_ble_eq_true rfl⟩) hK hP hD hS hA rfl hl.1 rfl (Nat.le_of_ble_eq_true rfl) dK_without_124 ⟨Nat.le_of_ble_eq_true rfl, Nat.le_of_ble_eq_true rfl⟩ (fun H locs hP hD hS => ?_)
  exact kr_lret C0 hK hP hD hS (Option.some.inj hf) rfl dK_without_127
set_option maxHeartbeats 400000 in
set_option maxRecDepth 100000 in
theorem tK_without_99 {p : Program} {l : Launch} {e : Env} {s : State} {m : MethodId} {args : Array Value} {below : List Frame} {meth : Method} {c : Code} {D : va_G} {A : Nat → Prop} {q : Nat → Nat} {k : kK} {cI cJ : ClassId} {r : Int64} {σ : sK} {fu : Nat} (C0 : Cx p s m args meth c cK_without 8 (some .long) RK TK) (hK : va_K D cl0 [(cI, .int), (cJ, .long)] s) (hA : ∀ z, s.heap.size ≤ z → A z) : ∀ (y0 : Int32) (x4 : Int32) (x5 : Int32) (x6 : Int32)(H : Heap) (locs : List Loc) (ls : Array Slot), fK_without_99 fu k σ y0 x4 x5 x6 = some r → lv_has ls 8 [(4, .int x4), (5, .int x5), (6, .int x6)] → va_P D cl0 (wdK q k cI cJ σ) H → va_D A (wdK q k cI cJ σ) → va_S A s.heap H locs → W p l e ({ frames := 2, cells := 0, slots := 0, locals := 56 }) s m args below meth c H locs 0 0 (MQ below (kQl D cl0 [(cI, .int), (cJ, .long)] (wdK q k cI cJ) A r σ) args s 0 0 A) (F0 m 99 ls [.int y0]) := by
  obtain ⟨hx, hb, hr, hml, hown, hts, hlocks⟩ := id C0
  intro y0 x4 x5 x6 H locs ls hf hl hP hD hS
  unfold fK_without_99 at hf
  refine lv_istore (lv' := [(7, .int y0), (4, .int x4), (5, .int x5), (6, .int x6)]) hx hb dK_without_99 hl (by decide) rfl (fun ls hl => ?_)
  refine lv_iload hx hb dK_without_101 (lv_at hl 0 rfl) ?_
  refine lv_if_eq (tgt := 114) hx hb dK_without_103 (by decide) (fun c103 => ?_) (fun c103 => ?_)
  · have hf := (if_pos c103).symm.trans hf
    refine lv_iload hx hb dK_without_114 (lv_at hl 3 rfl) ?_
    refine lv_i2l (v := x6.toInt64) hx hb dK_without_116 rfl ?_
    exact tK_without_117 C0 hK hA x6.toInt64 x4 x5 _ _ ls hf (lv_sub hl [1, 2] rfl) hP hD hS
  · have hf := (if_neg c103).symm.trans hf
    refine lv_iload hx hb dK_without_106 (lv_at hl 3 rfl) ?_
    refine lv_iconst (v := 1) hx hb dK_without_108 (by decide) ?_
    refine lv_isub hx hb dK_without_109 ?_
    refine lv_i2l (v := (x6 - 1).toInt64) hx hb dK_without_110 rfl ?_
    refine lv_goto (tgt := 117) hx hb dK_without_111 (by decide) ?_
    exact tK_without_117 C0 hK hA ((x6 - 1).toInt64) x4 x5 _ _ ls hf (lv_sub hl [1, 2] rfl) hP hD hS
set_option maxHeartbeats 400000 in
set_option maxRecDepth 100000 in
theorem mK_without (l : Launch) (D : va_G) (q : Nat → Nat) (k : kK) (cI cJ : ClassId) (sz : Nat) (fu : Nat) (σ : sK) (x1 : Int32) (x2 : Int32) (x3 : Int32) (x4 : Int32) (r : Int64) (hf : fK_without fu k σ x1 x2 x3 x4 = some r) : Met l yK_without (.code yK_without cK_without 8 (some .long) :: TK) ({ frames := 2, cells := 0, slots := 0, locals := 56 }) (kPre D cl0 [(cI, .int), (cJ, .long)] (wdK q k cI cJ) sz σ [.ref (q 0), .int x1, .int x2, .int x3, .int x4]) (kQl D cl0 [(cI, .int), (cJ, .long)] (wdK q k cI cJ) (va_A (wdK q k cI cJ σ) sz) r σ) 0 0 (va_A (wdK q k cI cJ σ) sz) := by
  refine kr_start (own := RK) (by decide) rfl (Nat.le_of_ble_eq_true rfl) ?_
  intro p e s m args below meth c ls C0 hsz hK hP hD hl
  subst hsz
  obtain ⟨hx, hb, hr, hml, hown, hts, hlocks⟩ := id C0
  have hA : ∀ z : Nat, s.heap.size ≤ z → va_A (wdK q k cI cJ σ) s.heap.size z := fun z h => Or.inr h
  generalize va_A (wdK q k cI cJ σ) s.heap.size = A at hD hA ⊢
  have hS : va_S A s.heap s.heap [] := va_S.rf
  have hl : lv_has ls 8 [(0, .ref (q 0)), (1, .int x1), (2, .int x2), (3, .int x3), (4, .int x4)] := hl
  unfold fK_without at hf
  refine lv_aload_n hx hb dK_without_0 rfl (lv_at hl 0 rfl) ?_
  refine lv_iload_n hx hb dK_without_1 rfl (lv_at hl 1 rfl) ?_
  refine kr_callVi (av := [.int x1]) ⟨hx, hb, hml, hown, hts⟩ (mK_isClass l D q k cI cJ _ σ x1 _ rfl) (cwV 1 hts (kgood_V TK_good (by decide +kernel)) rfl rfl rfl (by decide +kernel) ⟨Nat.le_of_ble_eq_true rfl, Nat.le_of_ble_eq_true rfl⟩) hK hP hD hS hA (ci := 0) (q0 := 0) rfl rfl rfl hl.1 rfl (Nat.le_of_ble_eq_true rfl) dK_without_2 ⟨Nat.le_of_ble_eq_true rfl, Nat.le_of_ble_eq_true rfl⟩ (fun H locs hP hD hS => ?_)
  refine lv_if_eq (tgt := 31) hx hb dK_without_5 (by decide) (fun c5 => ?_) (fun c5 => ?_)
  · have hf := (if_pos c5).symm.trans hf
    refine lv_ldc2 (v := -1) hx hb hown (hts (.constantLong RK 103 (-1)) (by decide +kernel)) dK_without_31 ?_
    exact kr_lret C0 hK hP hD hS (Option.some.inj hf) rfl dK_without_34
  · have hf := (if_neg c5).symm.trans hf
    refine lv_aload_n hx hb dK_without_8 rfl (lv_at hl 0 rfl) ?_
    refine lv_iload_n hx hb dK_without_9 rfl (lv_at hl 2 rfl) ?_
    refine kr_callVi (av := [.int x2]) ⟨hx, hb, hml, hown, hts⟩ (mK_isAge l D q k cI cJ _ σ x2 _ rfl) (cwV 1 hts (kgood_V TK_good (by decide +kernel)) rfl rfl rfl (by decide +kernel) ⟨Nat.le_of_ble_eq_true rfl, Nat.le_of_ble_eq_true rfl⟩) hK hP hD hS hA (ci := 0) (q0 := 0) rfl rfl rfl hl.1 rfl (Nat.le_of_ble_eq_true rfl) dK_without_10 ⟨Nat.le_of_ble_eq_true rfl, Nat.le_of_ble_eq_true rfl⟩ (fun H locs hP hD hS => ?_)
    refine lv_if_eq (tgt := 31) hx hb dK_without_13 (by decide) (fun c13 => ?_) (fun c13 => ?_)
    · have hf := (if_pos c13).symm.trans hf
      refine lv_ldc2 (v := -1) hx hb hown (hts (.constantLong RK 103 (-1)) (by decide +kernel)) dK_without_31 ?_
      exact kr_lret C0 hK hP hD hS (Option.some.inj hf) rfl dK_without_34
    · have hf := (if_neg c13).symm.trans hf
      refine lv_iload_n hx hb dK_without_16 rfl (lv_at hl 3 rfl) ?_
      refine kr_callSi (av := [.int x3]) ⟨hx, hb, hml, hown, hts⟩ (mK_isZeroOrOne l D _ (wdK q k cI cJ) [(cI, .int), (cJ, .long)] cl0 _ σ x3 _ rfl) (cwS 1 hts (kgood_S TK_good (by decide +kernel)) rfl rfl rfl (by decide +kernel) ⟨Nat.le_of_ble_eq_true rfl, Nat.le_of_ble_eq_true rfl⟩) hK hP hD hS hA rfl hl.1 rfl (Nat.le_of_ble_eq_true rfl) dK_without_17 ⟨Nat.le_of_ble_eq_true rfl, Nat.le_of_ble_eq_true rfl⟩ (fun H locs hP hD hS => ?_)
      refine lv_if_eq (tgt := 31) hx hb dK_without_20 (by decide) (fun c20 => ?_) (fun c20 => ?_)
      · have hf := (if_pos c20).symm.trans hf
        refine lv_ldc2 (v := -1) hx hb hown (hts (.constantLong RK 103 (-1)) (by decide +kernel)) dK_without_31 ?_
        exact kr_lret C0 hK hP hD hS (Option.some.inj hf) rfl dK_without_34
      · have hf := (if_neg c20).symm.trans hf
        refine lv_iload hx hb dK_without_23 (lv_at hl 4 rfl) ?_
        refine kr_callSi (av := [.int x4]) ⟨hx, hb, hml, hown, hts⟩ (mK_isZeroOrOne l D _ (wdK q k cI cJ) [(cI, .int), (cJ, .long)] cl0 _ σ x4 _ rfl) (cwS 1 hts (kgood_S TK_good (by decide +kernel)) rfl rfl rfl (by decide +kernel) ⟨Nat.le_of_ble_eq_true rfl, Nat.le_of_ble_eq_true rfl⟩) hK hP hD hS hA rfl hl.1 rfl (Nat.le_of_ble_eq_true rfl) dK_without_25 ⟨Nat.le_of_ble_eq_true rfl, Nat.le_of_ble_eq_true rfl⟩ (fun H locs hP hD hS => ?_)
        refine lv_if_ne (tgt := 35) hx hb dK_without_28 (by decide) (fun c28 => ?_) (fun c28 => ?_)
        · have hf := (if_neg c28).symm.trans hf
          refine lv_aload_n hx hb dK_without_35 rfl (lv_at hl 0 rfl) ?_
          refine lv_aload_n hx hb dK_without_36 rfl (lv_at hl 0 rfl) ?_
          refine gK_groupOf hx hb hown hts hK hP dK_without_37 ?_
          refine lv_iload_n hx hb dK_without_40 rfl (lv_at hl 1 rfl) ?_
          obtain ⟨v41, ev41, hf⟩ := kb1 hf
          refine kr_iaload hx hb hK hP 5 0 rfl rfl ev41 dK_without_41 ?_
          obtain ⟨v42, ev42, hf⟩ := kb1 hf
          refine kr_callVi (av := [.int v41]) ⟨hx, hb, hml, hown, hts⟩ (mK_own l D q k cI cJ _ σ v41 v42 ev42) (cwV 1 hts (kgood_V TK_good (by decide +kernel)) rfl rfl rfl (by decide +kernel) ⟨Nat.le_of_ble_eq_true rfl, Nat.le_of_ble_eq_true rfl⟩) hK hP hD hS hA (ci := 0) (q0 := 0) rfl rfl rfl hl.1 rfl (Nat.le_of_ble_eq_true rfl) dK_without_42 ⟨Nat.le_of_ble_eq_true rfl, Nat.le_of_ble_eq_true rfl⟩ (fun H locs hP hD hS => ?_)
          refine lv_istore (lv' := [(5, .int v42), (0, .ref (q 0)), (1, .int x1), (2, .int x2), (3, .int x3), (4, .int x4)]) hx hb dK_without_45 hl (by decide) rfl (fun ls hl => ?_)
          refine lv_iload hx hb dK_without_47 (lv_at hl 0 rfl) ?_
          refine lv_iconst (v := 2) hx hb dK_without_49 (by decide) ?_
          refine lv_icmp_ge (tgt := 57) hx hb dK_without_50 (by decide) (fun c50 => ?_) (fun c50 => ?_)
          · have hf := (if_pos c50).symm.trans hf
            refine lv_aload_n hx hb dK_without_57 rfl (lv_at hl 1 rfl) ?_
            refine lv_aload_n hx hb dK_without_58 rfl (lv_at hl 1 rfl) ?_
            refine gK_groupOf hx hb hown hts hK hP dK_without_59 ?_
            refine lv_iload_n hx hb dK_without_62 rfl (lv_at hl 2 rfl) ?_
            obtain ⟨v63, ev63, hf⟩ := kb1 hf
            refine kr_iaload hx hb hK hP 5 0 rfl rfl ev63 dK_without_63 ?_
            refine lv_iload_n hx hb dK_without_64 rfl (lv_at hl 3 rfl) ?_
            obtain ⟨v65, ev65, hf⟩ := kb1 hf
            refine kr_callVi (av := [.int v63, .int x2]) ⟨hx, hb, hml, hown, hts⟩ (mK_ownOfAge l D q k cI cJ _ σ v63 x2 v65 ev65) (cwV 2 hts (kgood_V TK_good (by decide +kernel)) rfl rfl rfl (by decide +kernel) ⟨Nat.le_of_ble_eq_true rfl, Nat.le_of_ble_eq_true rfl⟩) hK hP hD hS hA (ci := 0) (q0 := 0) rfl rfl rfl hl.1 rfl (Nat.le_of_ble_eq_true rfl) dK_without_65 ⟨Nat.le_of_ble_eq_true rfl, Nat.le_of_ble_eq_true rfl⟩ (fun H locs hP hD hS => ?_)
            refine lv_istore (lv' := [(6, .int v65), (5, .int v42), (0, .ref (q 0)), (1, .int x1), (2, .int x2), (3, .int x3), (4, .int x4)]) hx hb dK_without_68 hl (by decide) rfl (fun ls hl => ?_)
            refine lv_iload_n hx hb dK_without_70 rfl (lv_at hl 5 rfl) ?_
            refine lv_if_ne (tgt := 87) hx hb dK_without_71 (by decide) (fun c71 => ?_) (fun c71 => ?_)
            · have hf := (if_neg c71).symm.trans hf
              refine lv_iload hx hb dK_without_87 (lv_at hl 0 rfl) ?_
              refine lv_iload hx hb dK_without_89 (lv_at hl 1 rfl) ?_
              refine lv_icmp_ne (tgt := 98) hx hb dK_without_91 (by decide) (fun c91 => ?_) (fun c91 => ?_)
              · have hf := (if_neg c91).symm.trans hf
                refine lv_iconst (v := 0) hx hb dK_without_98 (by decide) ?_
                exact tK_without_99 C0 hK hA 0 x4 v42 v65 _ _ ls hf (lv_sub hl [6, 1, 0] rfl) hP hD hS
              · have hf := (if_pos c91).symm.trans hf
                refine lv_iconst (v := 1) hx hb dK_without_94 (by decide) ?_
                refine lv_goto (tgt := 99) hx hb dK_without_95 (by decide) ?_
                exact tK_without_99 C0 hK hA 1 x4 v42 v65 _ _ ls hf (lv_sub hl [6, 1, 0] rfl) hP hD hS
            · have hf := (if_pos c71).symm.trans hf
              refine lv_iload hx hb dK_without_74 (lv_at hl 0 rfl) ?_
              refine lv_if_le (tgt := 83) hx hb dK_without_76 (by decide) (fun c76 => ?_) (fun c76 => ?_)
              · have hf := (if_pos c76).symm.trans hf
                refine lv_iconst (v := 0) hx hb dK_without_83 (by decide) ?_
                refine lv_goto (tgt := 99) hx hb dK_without_84 (by decide) ?_
                exact tK_without_99 C0 hK hA 0 x4 v42 v65 _ _ ls hf (lv_sub hl [6, 1, 0] rfl) hP hD hS
              · have hf := (if_neg c76).symm.trans hf
                refine lv_iconst (v := 1) hx hb dK_without_79 (by decide) ?_
                refine lv_goto (tgt := 99) hx hb dK_without_80 (by decide) ?_
                exact tK_without_99 C0 hK hA 1 x4 v42 v65 _ _ ls hf (lv_sub hl [6, 1, 0] rfl) hP hD hS
          · have hf := (if_neg c50).symm.trans hf
            refine lv_ldc2 (v := -1) hx hb hown (hts (.constantLong RK 103 (-1)) (by decide +kernel)) dK_without_53 ?_
            exact kr_lret C0 hK hP hD hS (Option.some.inj hf) rfl dK_without_56
        · have hf := (if_pos c28).symm.trans hf
          refine lv_ldc2 (v := -1) hx hb hown (hts (.constantLong RK 103 (-1)) (by decide +kernel)) dK_without_31 ?_
          exact kr_lret C0 hK hP hD hS (Option.some.inj hf) rfl dK_without_34
