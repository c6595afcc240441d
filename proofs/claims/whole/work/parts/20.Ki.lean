theorem dK_poolOf_0 : decode cK_poolOf 0 = .ok (.aload_n 0, 1) := by decide +kernel
theorem dK_poolOf_1 : decode cK_poolOf 1 = .ok (.iload_n 1, 1) := by decide +kernel
theorem dK_poolOf_2 : decode cK_poolOf 2 = .ok (.invokevirtual 83, 3) := by decide +kernel
theorem dK_poolOf_5 : decode cK_poolOf 5 = .ok (.ifCond .eq (11), 3) := by decide +kernel
theorem dK_poolOf_8 : decode cK_poolOf 8 = .ok (.aload_n 0, 1) := by decide +kernel
theorem dK_poolOf_9 : decode cK_poolOf 9 = .ok (.iload_n 1, 1) := by decide +kernel
theorem dK_poolOf_10 : decode cK_poolOf 10 = .ok (.invokevirtual 183, 3) := by decide +kernel
theorem dK_poolOf_13 : decode cK_poolOf 13 = .ok (.ifCond .ne (5), 3) := by decide +kernel
theorem dK_poolOf_16 : decode cK_poolOf 16 = .ok (.iconst (-1), 1) := by decide +kernel
theorem dK_poolOf_17 : decode cK_poolOf 17 = .ok (.ireturn, 1) := by decide +kernel
theorem dK_poolOf_18 : decode cK_poolOf 18 = .ok (.aload_n 0, 1) := by decide +kernel
theorem dK_poolOf_19 : decode cK_poolOf 19 = .ok (.invokevirtual 186, 3) := by decide +kernel
theorem dK_poolOf_22 : decode cK_poolOf 22 = .ok (.istore_n 2, 1) := by decide +kernel
theorem dK_poolOf_23 : decode cK_poolOf 23 = .ok (.iconst 0, 1) := by decide +kernel
theorem dK_poolOf_24 : decode cK_poolOf 24 = .ok (.istore_n 3, 1) := by decide +kernel
theorem dK_poolOf_25 : decode cK_poolOf 25 = .ok (.iload_n 3, 1) := by decide +kernel
theorem dK_poolOf_26 : decode cK_poolOf 26 = .ok (.iload_n 2, 1) := by decide +kernel
theorem dK_poolOf_27 : decode cK_poolOf 27 = .ok (.if_icmp .ge (21), 3) := by decide +kernel
theorem dK_poolOf_30 : decode cK_poolOf 30 = .ok (.iload_n 1, 1) := by decide +kernel
theorem dK_poolOf_31 : decode cK_poolOf 31 = .ok (.aload_n 0, 1) := by decide +kernel
theorem dK_poolOf_32 : decode cK_poolOf 32 = .ok (.getfield 70, 3) := by decide +kernel
theorem dK_poolOf_35 : decode cK_poolOf 35 = .ok (.iload_n 3, 1) := by decide +kernel
theorem dK_poolOf_36 : decode cK_poolOf 36 = .ok (.iaload, 1) := by decide +kernel
theorem dK_poolOf_37 : decode cK_poolOf 37 = .ok (.if_icmp .gt (5), 3) := by decide +kernel
theorem dK_poolOf_40 : decode cK_poolOf 40 = .ok (.iload_n 3, 1) := by decide +kernel
theorem dK_poolOf_41 : decode cK_poolOf 41 = .ok (.ireturn, 1) := by decide +kernel
theorem dK_poolOf_42 : decode cK_poolOf 42 = .ok (.iinc 3 (1), 3) := by decide +kernel
theorem dK_poolOf_45 : decode cK_poolOf 45 = .ok (.goto (-20), 3) := by decide +kernel
theorem dK_poolOf_48 : decode cK_poolOf 48 = .ok (.iconst (-1), 1) := by decide +kernel
theorem dK_poolOf_49 : decode cK_poolOf 49 = .ok (.ireturn, 1) := by decide +kernel
set_option maxHeartbeats 400000 in
set_option maxRecDepth 100000 in
theorem tK_poolOf_25 {p : Program} {l : Launch} {e : Env} {s : State} {m : MethodId} {args : Array Value} {below : List Frame} {meth : Method} {c : Code} {D : va_G} {A : Nat → Prop} {q : Nat → Nat} {k : kK} {cI cJ : ClassId} {r : Int32} {σ' : sK} {fu : Nat} (C0 : Cx p s m args meth c cK_poolOf 4 (some .int) RK TK) (hK : va_K D cl0 [(cI, .int), (cJ, .long)] s) (hA : ∀ z, s.heap.size ≤ z → A z) : ∀ n : Nat, ∀ (σ : sK) (x1 : Int32) (x2 : Int32) (x3 : Int32)(H : Heap) (locs : List Loc) (ls : Array Slot), fK_poolOf_25 fu k n σ x1 x2 x3 = some (r, σ') → lv_has ls 4 [(0, .ref (q 0)), (1, .int x1), (2, .int x2), (3, .int x3)] → va_P D cl0 (wdK q k cI cJ σ) H → va_D A (wdK q k cI cJ σ) → va_S A s.heap H locs → W p l e ({ frames := 4, cells := 0, slots := 0, locals := 92 }) s m args below meth c H locs 0 0 (MQ below (kQi D cl0 [(cI, .int), (cJ, .long)] (wdK q k cI cJ) A r σ') args s 0 0 A) (F0 m 25 ls []) := by
  obtain ⟨hx, hb, hr, hml, hown, hts, hlocks⟩ := id C0
  intro n
  induction n with
  | zero =>
    intro σ x1 x2 x3 H locs ls hf hl hP hD hS
    cases hf
  | succ n ih =>
    intro σ x1 x2 x3 H locs ls hf hl hP hD hS
    rw [fK_poolOf_25] at hf
    refine lv_iload_n hx hb dK_poolOf_25 rfl (lv_at hl 3 rfl) ?_
    refine lv_iload_n hx hb dK_poolOf_26 rfl (lv_at hl 2 rfl) ?_
    refine lv_icmp_ge (tgt := 48) hx hb dK_poolOf_27 (by decide) (fun c27 => ?_) (fun c27 => ?_)
    · have hf := (if_pos c27).symm.trans hf
      refine lv_iconst (v := (-1)) hx hb dK_poolOf_48 (by decide) ?_
      exact kr_iret C0 hK hP hD hS (congrArg Prod.fst (Option.some.inj hf)) (congrArg Prod.snd (Option.some.inj hf)) dK_poolOf_49
    · have hf := (if_neg c27).symm.trans hf
      refine lv_iload_n hx hb dK_poolOf_30 rfl (lv_at hl 1 rfl) ?_
      refine lv_aload_n hx hb dK_poolOf_31 rfl (lv_at hl 0 rfl) ?_
      refine gK_poolLastAge hx hb hown hts hK hP dK_poolOf_32 ?_
      refine lv_iload_n hx hb dK_poolOf_35 rfl (lv_at hl 3 rfl) ?_
      obtain ⟨v36, ev36, hf⟩ := kb1 hf
      refine kr_iaload hx hb hK hP 13 0 rfl rfl ev36 dK_poolOf_36 ?_
      refine lv_icmp_gt (tgt := 42) hx hb dK_poolOf_37 (by decide) (fun c37 => ?_) (fun c37 => ?_)
      · have hf := (if_pos c37).symm.trans hf
        refine lv_iinc (v := (x3 + 1)) (lv' := [(3, .int (x3 + 1)), (0, .ref (q 0)), (1, .int x1), (2, .int x2)]) hx hb dK_poolOf_42 hl (k := 3) rfl rfl (by decide) rfl (fun ls hl => ?_)
        refine lv_goto (tgt := 25) hx hb dK_poolOf_45 (by decide) ?_
        exact ih σ x1 x2 (x3 + 1) _ _ ls hf (lv_sub hl [1, 2, 3, 0] rfl) hP hD hS
      · have hf := (if_neg c37).symm.trans hf
        refine lv_iload_n hx hb dK_poolOf_40 rfl (lv_at hl 3 rfl) ?_
        exact kr_iret C0 hK hP hD hS (congrArg Prod.fst (Option.some.inj hf)) (congrArg Prod.snd (Option.some.inj hf)) dK_poolOf_41
set_option maxHeartbeats 400000 in
set_option maxRecDepth 100000 in
theorem mK_poolOf (l : Launch) (D : va_G) (q : Nat → Nat) (k : kK) (cI cJ : ClassId) (sz : Nat) (fu : Nat) (σ : sK) (σ' : sK) (x1 : Int32) (r : Int32) (hf : fK_poolOf fu k σ x1 = some (r, σ')) : Met l yK_poolOf (.code yK_poolOf cK_poolOf 4 (some .int) :: TK) ({ frames := 4, cells := 0, slots := 0, locals := 92 }) (kPre D cl0 [(cI, .int), (cJ, .long)] (wdK q k cI cJ) sz σ [.ref (q 0), .int x1]) (kQi D cl0 [(cI, .int), (cJ, .long)] (wdK q k cI cJ) (va_A (wdK q k cI cJ σ) sz) r σ') 0 0 (va_A (wdK q k cI cJ σ) sz) := by
  refine kr_start (own := RK) (by decide) rfl (Nat.le_of_ble_eq_true rfl) ?_
  intro p e s m args below meth c ls C0 hsz hK hP hD hl
  subst hsz
  obtain ⟨hx, hb, hr, hml, hown, hts, hlocks⟩ := id C0
  have hA : ∀ z : Nat, s.heap.size ≤ z → va_A (wdK q k cI cJ σ) s.heap.size z := fun z h => Or.inr h
  generalize va_A (wdK q k cI cJ σ) s.heap.size = A at hD hA ⊢
  have hS : va_S A s.heap s.heap [] := va_S.rf
  have hl : lv_has ls 4 [(0, .ref (q 0)), (1, .int x1)] := hl
  unfold fK_poolOf at hf
  refine lv_aload_n hx hb dK_poolOf_0 rfl (lv_at hl 0 rfl) ?_
  refine lv_iload_n hx hb dK_poolOf_1 rfl (lv_at hl 1 rfl) ?_
  refine kr_callVi (av := [.int x1]) ⟨hx, hb, hml, hown, hts⟩ (mK_isAge l D q k cI cJ _ σ x1 _ rfl) (cwV 1 hts (kgood_V TK_good (by decide +kernel)) rfl rfl rfl (by decide +kernel) ⟨Nat.le_of_ble_eq_true rfl, Nat.le_of_ble_eq_true rfl⟩) hK hP hD hS hA (ci := 0) (q0 := 0) rfl rfl rfl hl.1 rfl (Nat.le_of_ble_eq_true rfl) dK_poolOf_2 ⟨Nat.le_of_ble_eq_true rfl, Nat.le_of_ble_eq_true rfl⟩ (fun H locs hP hD hS => ?_)
  refine lv_if_eq (tgt := 16) hx hb dK_poolOf_5 (by decide) (fun c5 => ?_) (fun c5 => ?_)
  · have hf := (if_pos c5).symm.trans hf
    refine lv_iconst (v := (-1)) hx hb dK_poolOf_16 (by decide) ?_
    exact kr_iret C0 hK hP hD hS (congrArg Prod.fst (Option.some.inj hf)) (congrArg Prod.snd (Option.some.inj hf)) dK_poolOf_17
  · have hf := (if_neg c5).symm.trans hf
    refine lv_aload_n hx hb dK_poolOf_8 rfl (lv_at hl 0 rfl) ?_
    refine lv_iload_n hx hb dK_poolOf_9 rfl (lv_at hl 1 rfl) ?_
    obtain ⟨v10, ev10, hf⟩ := kb1 hf
    refine kr_callVi (av := [.int x1]) ⟨hx, hb, hml, hown, hts⟩ (mK_readingsOfAge l D q k cI cJ _ fu σ x1 v10 ev10) (cwV 1 hts (kgood_V TK_good (by decide +kernel)) rfl rfl rfl (by decide +kernel) ⟨Nat.le_of_ble_eq_true rfl, Nat.le_of_ble_eq_true rfl⟩) hK hP hD hS hA (ci := 0) (q0 := 0) rfl rfl rfl hl.1 rfl (Nat.le_of_ble_eq_true rfl) dK_poolOf_10 ⟨Nat.le_of_ble_eq_true rfl, Nat.le_of_ble_eq_true rfl⟩ (fun H locs hP hD hS => ?_)
    refine lv_if_ne (tgt := 18) hx hb dK_poolOf_13 (by decide) (fun c13 => ?_) (fun c13 => ?_)
    · have hf := (if_neg c13).symm.trans hf
      refine lv_aload_n hx hb dK_poolOf_18 rfl (lv_at hl 0 rfl) ?_
      obtain ⟨v19, s19, es19, hf⟩ := kb2 hf
      refine kr_callVi (av := []) ⟨hx, hb, hml, hown, hts⟩ (mK_makePools l D q k cI cJ _ fu σ s19 v19 es19) (cwV 0 hts (kgood_V TK_good (by decide +kernel)) rfl rfl rfl (by decide +kernel) ⟨Nat.le_of_ble_eq_true rfl, Nat.le_of_ble_eq_true rfl⟩) hK hP hD hS hA (ci := 0) (q0 := 0) rfl rfl rfl hl.1 rfl (Nat.le_of_ble_eq_true rfl) dK_poolOf_19 ⟨Nat.le_of_ble_eq_true rfl, Nat.le_of_ble_eq_true rfl⟩ (fun H locs hP hD hS => ?_)
      refine lv_istore_n (lv' := [(2, .int v19), (0, .ref (q 0)), (1, .int x1)]) hx hb dK_poolOf_22 rfl hl (by decide) rfl (fun ls hl => ?_)
      refine lv_iconst (v := 0) hx hb dK_poolOf_23 (by decide) ?_
      refine lv_istore_n (lv' := [(3, .int 0), (2, .int v19), (0, .ref (q 0)), (1, .int x1)]) hx hb dK_poolOf_24 rfl hl (by decide) rfl (fun ls hl => ?_)
      exact tK_poolOf_25 C0 hK hA fu s19 x1 v19 0 _ _ ls hf (lv_sub hl [2, 3, 1, 0] rfl) hP hD hS
    · have hf := (if_pos c13).symm.trans hf
      refine lv_iconst (v := (-1)) hx hb dK_poolOf_16 (by decide) ?_
      exact kr_iret C0 hK hP hD hS (congrArg Prod.fst (Option.some.inj hf)) (congrArg Prod.snd (Option.some.inj hf)) dK_poolOf_17
theorem dK_length_0 : decode cK_length 0 = .ok (.iload_n 2, 1) := by decide +kernel
theorem dK_length_1 : decode cK_length 1 = .ok (.invokestatic 100, 3) := by decide +kernel
theorem dK_length_4 : decode cK_length 4 = .ok (.ifCond .ne (7), 3) := by decide +kernel
theorem dK_length_7 : decode cK_length 7 = .ok (.ldc2_w 103, 3) := by decide +kernel
theorem dK_length_10 : decode cK_length 10 = .ok (.lreturn, 1) := by decide +kernel
theorem dK_length_11 : decode cK_length 11 = .ok (.aload_n 0, 1) := by decide +kernel
theorem dK_length_12 : decode cK_length 12 = .ok (.iload_n 1, 1) := by decide +kernel
theorem dK_length_13 : decode cK_length 13 = .ok (.invokevirtual 180, 3) := by decide +kernel
theorem dK_length_16 : decode cK_length 16 = .ok (.istore_n 3, 1) := by decide +kernel
theorem dK_length_17 : decode cK_length 17 = .ok (.iload_n 3, 1) := by decide +kernel
theorem dK_length_18 : decode cK_length 18 = .ok (.iconst (-1), 1) := by decide +kernel
theorem dK_length_19 : decode cK_length 19 = .ok (.if_icmp .ne (9), 3) := by decide +kernel
theorem dK_length_22 : decode cK_length 22 = .ok (.ldc2_w 103, 3) := by decide +kernel
theorem dK_length_25 : decode cK_length 25 = .ok (.goto (21), 3) := by decide +kernel
theorem dK_length_28 : decode cK_length 28 = .ok (.aload_n 0, 1) := by decide +kernel
theorem dK_length_29 : decode cK_length 29 = .ok (.getfield 61, 3) := by decide +kernel
theorem dK_length_32 : decode cK_length 32 = .ok (.iload_n 3, 1) := by decide +kernel
theorem dK_length_33 : decode cK_length 33 = .ok (.iaload, 1) := by decide +kernel
theorem dK_length_34 : decode cK_length 34 = .ok (.i2l, 1) := by decide +kernel
theorem dK_length_35 : decode cK_length 35 = .ok (.aload_n 0, 1) := by decide +kernel
theorem dK_length_36 : decode cK_length 36 = .ok (.getfield 64, 3) := by decide +kernel
theorem dK_length_39 : decode cK_length 39 = .ok (.iload_n 3, 1) := by decide +kernel
theorem dK_length_40 : decode cK_length 40 = .ok (.iaload, 1) := by decide +kernel
theorem dK_length_41 : decode cK_length 41 = .ok (.i2l, 1) := by decide +kernel
theorem dK_length_42 : decode cK_length 42 = .ok (.iload_n 2, 1) := by decide +kernel
theorem dK_length_43 : decode cK_length 43 = .ok (.invokestatic 115, 3) := by decide +kernel
theorem dK_length_46 : decode cK_length 46 = .ok (.lreturn, 1) := by decide +kernel
set_option maxHeartbeats 400000 in
set_option maxRecDepth 100000 in
theorem mK_length (l : Launch) (D : va_G) (q : Nat → Nat) (k : kK) (cI cJ : ClassId) (sz : Nat) (fu : Nat) (σ : sK) (σ' : sK) (x1 : Int32) (x2 : Int32) (r : Int64) (hf : fK_length fu k σ x1 x2 = some (r, σ')) : Met l yK_length (.code yK_length cK_length 4 (some .long) :: TK) ({ frames := 5, cells := 0, slots := 0, locals := 115 }) (kPre D cl0 [(cI, .int), (cJ, .long)] (wdK q k cI cJ) sz σ [.ref (q 0), .int x1, .int x2]) (kQl D cl0 [(cI, .int), (cJ, .long)] (wdK q k cI cJ) (va_A (wdK q k cI cJ σ) sz) r σ') 0 0 (va_A (wdK q k cI cJ σ) sz) := by
  refine kr_start (own := RK) (by decide) rfl (Nat.le_of_ble_eq_true rfl) ?_
  intro p e s m args below meth c ls C0 hsz hK hP hD hl
  subst hsz
  obtain ⟨hx, hb, hr, hml, hown, hts, hlocks⟩ := id C0
  have hA : ∀ z : Nat, s.heap.size ≤ z → va_A (wdK q k cI cJ σ) s.heap.size z := fun z h => Or.inr h
  generalize va_A (wdK q k cI cJ σ) s.heap.size = A at hD hA ⊢
  have hS : va_S A s.heap s.heap [] := va_S.rf
  have hl : lv_has ls 4 [(0, .ref (q 0)), (1, .int x1), (2, .int x2)] := hl
  unfold fK_length at hf
  refine lv_iload_n hx hb dK_length_0 rfl (lv_at hl 2 rfl) ?_
  refine kr_callSi (av := [.int x2]) ⟨hx, hb, hml, hown, hts⟩ (mK_isZeroOrOne l D _ (wdK q k cI cJ) [(cI, .int), (cJ, .long)] cl0 _ σ x2 _ rfl) (cwS 1 hts (kgood_S TK_good (by decide +kernel)) rfl rfl rfl (by decide +kernel) ⟨Nat.le_of_ble_eq_true rfl, Nat.le_of_ble_eq_true rfl⟩) hK hP hD hS hA rfl hl.1 rfl (Nat.le_of_ble_eq_true rfl) dK_length_1 ⟨Nat.le_of_ble_eq_true rfl, Nat.le_of_ble_eq_true rfl⟩ (fun H locs hP hD hS => ?_)
  refine lv_if_ne (tgt := 11) hx hb dK_length_4 (by decide) (fun c4 => ?_) (fun c4 => ?_)
  · have hf := (if_neg c4).symm.trans hf
    refine lv_aload_n hx hb dK_length_11 rfl (lv_at hl 0 rfl) ?_
    refine lv_iload_n hx hb dK_length_12 rfl (lv_at hl 1 rfl) ?_
    obtain ⟨v13, s13, es13, hf⟩ := kb2 hf
    refine kr_callVi (av := [.int x1]) ⟨hx, hb, hml, hown, hts⟩ (mK_poolOf l D q k cI cJ _ fu σ s13 x1 v13 es13) (cwV 1 hts (kgood_V TK_good (by decide +kernel)) rfl rfl rfl (by decide +kernel) ⟨Nat.le_of_ble_eq_true rfl, Nat.le_of_ble_eq_true rfl⟩) hK hP hD hS hA (ci := 0) (q0 := 0) rfl rfl rfl hl.1 rfl (Nat.le_of_ble_eq_true rfl) dK_length_13 ⟨Nat.le_of_ble_eq_true rfl, Nat.le_of_ble_eq_true rfl⟩ (fun H locs hP hD hS => ?_)
    refine lv_istore_n (lv' := [(3, .int v13), (0, .ref (q 0)), (1, .int x1), (2, .int x2)]) hx hb dK_length_16 rfl hl (by decide) rfl (fun ls hl => ?_)
    refine lv_iload_n hx hb dK_length_17 rfl (lv_at hl 0 rfl) ?_
    refine lv_iconst (v := (-1)) hx hb dK_length_18 (by decide) ?_
    refine lv_icmp_ne (tgt := 28) hx hb dK_length_19 (by decide) (fun c19 => ?_) (fun c19 => ?_)
    · have hf := (if_neg c19).symm.trans hf
      refine lv_aload_n hx hb dK_length_28 rfl (lv_at hl 1 rfl) ?_
      refine gK_poolSum hx hb hown hts hK hP dK_length_29 ?_
      refine lv_iload_n hx hb dK_length_32 rfl (lv_at hl 0 rfl) ?_
      obtain ⟨v33, ev33, hf⟩ := kb1 hf
      refine kr_iaload hx hb hK hP 10 0 rfl rfl ev33 dK_length_33 ?_
      refine lv_i2l (v := v33.toInt64) hx hb dK_length_34 rfl ?_
      refine lv_aload_n hx hb dK_length_35 rfl (lv_at hl 1 rfl) ?_
      refine gK_poolSize hx hb hown hts hK hP dK_length_36 ?_
      refine lv_iload_n hx hb dK_length_39 rfl (lv_at hl 0 rfl) ?_
      obtain ⟨v40, ev40, hf⟩ := kb1 hf
      refine kr_iaload hx hb hK hP 11 0 rfl rfl ev40 dK_length_40 ?_
      refine lv_i2l (v := v40.toInt64) hx hb dK_length_41 rfl ?_
      refine lv_iload_n hx hb dK_length_42 rfl (lv_at hl 3 rfl) ?_
      obtain ⟨v43, ev43, hf⟩ := kb1 hf
      refine kr_callSl (av := [.long v33.toInt64, .long v40.toInt64, .int x2]) ⟨hx, hb, hml, hown, hts⟩ (mK_fractionPart l D _ (wdK q k cI cJ) [(cI, .int), (cJ, .long)] cl0 _ fu s13 v33.toInt64 v40.toInt64 x2 v43 ev43) (cwS 3 hts (kgood_S TK_good (by decide +kernel)) rfl rfl rfl (by decide +kernel) ⟨Nat.le_of_ble_eq_true rfl, Nat.le_of_ble_eq_true rfl⟩) hK hP hD hS hA rfl hl.1 rfl (Nat.le_of_ble_eq_true rfl) dK_length_43 ⟨Nat.le_of_ble_eq_true rfl, Nat.le_of_ble_eq_true rfl⟩ (fun H locs hP hD hS => ?_)
      exact kr_lret C0 hK hP hD hS (congrArg Prod.fst (Option.some.inj hf)) (congrArg Prod.snd (Option.some.inj hf)) dK_length_46
    · have hf := (if_pos c19).symm.trans hf
      refine lv_ldc2 (v := -1) hx hb hown (hts (.constantLong RK 103 (-1)) (by decide +kernel)) dK_length_22 ?_
      refine lv_goto (tgt := 46) hx hb dK_length_25 (by decide) ?_
      exact kr_lret C0 hK hP hD hS (congrArg Prod.fst (Option.some.inj hf)) (congrArg Prod.snd (Option.some.inj hf)) dK_length_46
  · have hf := (if_pos c4).symm.trans hf
    refine lv_ldc2 (v := -1) hx hb hown (hts (.constantLong RK 103 (-1)) (by decide +kernel)) dK_length_7 ?_
    exact kr_lret C0 hK hP hD hS (congrArg Prod.fst (Option.some.inj hf)) (congrArg Prod.snd (Option.some.inj hf)) dK_length_10
theorem dK_pooled_0 : decode cK_pooled 0 = .ok (.aload_n 0, 1) := by decide +kernel
theorem dK_pooled_1 : decode cK_pooled 1 = .ok (.iload_n 1, 1) := by decide +kernel
theorem dK_pooled_2 : decode cK_pooled 2 = .ok (.invokevirtual 180, 3) := by decide +kernel
theorem dK_pooled_5 : decode cK_pooled 5 = .ok (.istore_n 2, 1) := by decide +kernel
theorem dK_pooled_6 : decode cK_pooled 6 = .ok (.iload_n 2, 1) := by decide +kernel
theorem dK_pooled_7 : decode cK_pooled 7 = .ok (.iconst (-1), 1) := by decide +kernel
theorem dK_pooled_8 : decode cK_pooled 8 = .ok (.if_icmp .ne (7), 3) := by decide +kernel
theorem dK_pooled_11 : decode cK_pooled 11 = .ok (.iconst 0, 1) := by decide +kernel
theorem dK_pooled_12 : decode cK_pooled 12 = .ok (.goto (9), 3) := by decide +kernel
theorem dK_pooled_15 : decode cK_pooled 15 = .ok (.aload_n 0, 1) := by decide +kernel
theorem dK_pooled_16 : decode cK_pooled 16 = .ok (.getfield 67, 3) := by decide +kernel
theorem dK_pooled_19 : decode cK_pooled 19 = .ok (.iload_n 2, 1) := by decide +kernel
theorem dK_pooled_20 : decode cK_pooled 20 = .ok (.iaload, 1) := by decide +kernel
theorem dK_pooled_21 : decode cK_pooled 21 = .ok (.ireturn, 1) := by decide +kernel
set_option maxHeartbeats 400000 in
set_option maxRecDepth 100000 in
theorem mK_pooled (l : Launch) (D : va_G) (q : Nat → Nat) (k : kK) (cI cJ : ClassId) (sz : Nat) (fu : Nat) (σ : sK) (σ' : sK) (x1 : Int32) (r : Int32) (hf : fK_pooled fu k σ x1 = some (r, σ')) : Met l yK_pooled (.code yK_pooled cK_pooled 3 (some .int) :: TK) ({ frames := 5, cells := 0, slots := 0, locals := 115 }) (kPre D cl0 [(cI, .int), (cJ, .long)] (wdK q k cI cJ) sz σ [.ref (q 0), .int x1]) (kQi D cl0 [(cI, .int), (cJ, .long)] (wdK q k cI cJ) (va_A (wdK q k cI cJ σ) sz) r σ') 0 0 (va_A (wdK q k cI cJ σ) sz) := by
  refine kr_start (own := RK) (by decide) rfl (Nat.le_of_ble_eq_true rfl) ?_
  intro p e s m args below meth c ls C0 hsz hK hP hD hl
  subst hsz
  obtain ⟨hx, hb, hr, hml, hown, hts, hlocks⟩ := id C0
  have hA : ∀ z : Nat, s.heap.size ≤ z → va_A (wdK q k cI cJ σ) s.heap.size z := fun z h => Or.inr h
  generalize va_A (wdK q k cI cJ σ) s.heap.size = A at hD hA ⊢
  have hS : va_S A s.heap s.heap [] := va_S.rf
  have hl : lv_has ls 3 [(0, .ref (q 0)), (1, .int x1)] := hl
  unfold fK_pooled at hf
  refine lv_aload_n hx hb dK_pooled_0 rfl (lv_at hl 0 rfl) ?_
  refine lv_iload_n hx hb dK_pooled_1 rfl (lv_at hl 1 rfl) ?_
  obtain ⟨v2, s2, es2, hf⟩ := kb2 hf
  refine kr_callVi (av := [.int x1]) ⟨hx, hb, hml, hown, hts⟩ (mK_poolOf l D q k cI cJ _ fu σ s2 x1 v2 es2) (cwV 1 hts (kgood_V TK_good (by decide +kernel)) rfl rfl rfl (by decide +kernel) ⟨Nat.le_of_ble_eq_true rfl, Nat.le_of_ble_eq_true rfl⟩) hK hP hD hS hA (ci := 0) (q0 := 0) rfl rfl rfl hl.1 rfl (Nat.le_of_ble_eq_true rfl) dK_pooled_2 ⟨Nat.le_of_ble_eq_true rfl, Nat.le_of_ble_eq_true rfl⟩ (fun H locs hP hD hS => ?_)
  refine lv_istore_n (lv' := [(2, .int v2), (0, .ref (q 0)), (1, .int x1)]) hx hb dK_pooled_5 rfl hl (by decide) rfl (fun ls hl => ?_)
  refine lv_iload_n hx hb dK_pooled_6 rfl (lv_at hl 0 rfl) ?_
  refine lv_iconst (v := (-1)) hx hb dK_pooled_7 (by decide) ?_
  refine lv_icmp_ne (tgt := 15) hx hb dK_pooled_8 (by decide) (fun c8 => ?_) (fun c8 => ?_)
  · have hf := (if_neg c8).symm.trans hf
    refine lv_aload_n hx hb dK_pooled_15 rfl (lv_at hl 1 rfl) ?_
    refine gK_poolAges hx hb hown hts hK hP dK_pooled_16 ?_
    refine lv_iload_n hx hb dK_pooled_19 rfl (lv_at hl 0 rfl) ?_
    obtain ⟨v20, ev20, hf⟩ := kb1 hf
    refine kr_iaload hx hb hK hP 12 0 rfl rfl ev20 dK_pooled_20 ?_
    exact kr_iret C0 hK hP hD hS (congrArg Prod.fst (Option.some.inj hf)) (congrArg Prod.snd (Option.some.inj hf)) dK_pooled_21
  · have hf := (if_pos c8).symm.trans hf
    refine lv_iconst (v := 0) hx hb dK_pooled_11 (by decide) ?_
    refine lv_goto (tgt := 21) hx hb dK_pooled_12 (by decide) ?_
    exact kr_iret C0 hK hP hD hS (congrArg Prod.fst (Option.some.inj hf)) (congrArg Prod.snd (Option.some.inj hf)) dK_pooled_21
theorem dK_sex_0 : decode cK_sex 0 = .ok (.aload_n 0, 1) := by decide +kernel
theorem dK_sex_1 : decode cK_sex 1 = .ok (.iload_n 1, 1) := by decide +kernel
theorem dK_sex_2 : decode cK_sex 2 = .ok (.invokevirtual 79, 3) := by decide +kernel
theorem dK_sex_5 : decode cK_sex 5 = .ok (.ifCond .eq (18), 3) := by decide +kernel
theorem dK_sex_8 : decode cK_sex 8 = .ok (.iload_n 2, 1) := by decide +kernel
theorem dK_sex_9 : decode cK_sex 9 = .ok (.ifCond .lt (14), 3) := by decide +kernel
theorem dK_sex_12 : decode cK_sex 12 = .ok (.iload_n 2, 1) := by decide +kernel
theorem dK_sex_13 : decode cK_sex 13 = .ok (.iload_n 3, 1) := by decide +kernel
theorem dK_sex_14 : decode cK_sex 14 = .ok (.if_icmp .gt (9), 3) := by decide +kernel
theorem dK_sex_17 : decode cK_sex 17 = .ok (.iload_n 3, 1) := by decide +kernel
theorem dK_sex_18 : decode cK_sex 18 = .ok (.bipush (100), 2) := by decide +kernel
theorem dK_sex_20 : decode cK_sex 20 = .ok (.if_icmp .le (5), 3) := by decide +kernel
theorem dK_sex_23 : decode cK_sex 23 = .ok (.iconst 0, 1) := by decide +kernel
theorem dK_sex_24 : decode cK_sex 24 = .ok (.ireturn, 1) := by decide +kernel
theorem dK_sex_25 : decode cK_sex 25 = .ok (.aload_n 0, 1) := by decide +kernel
theorem dK_sex_26 : decode cK_sex 26 = .ok (.getfield 73, 3) := by decide +kernel
theorem dK_sex_29 : decode cK_sex 29 = .ok (.iload_n 1, 1) := by decide +kernel
theorem dK_sex_30 : decode cK_sex 30 = .ok (.iload_n 2, 1) := by decide +kernel
theorem dK_sex_31 : decode cK_sex 31 = .ok (.iastore, 1) := by decide +kernel
theorem dK_sex_32 : decode cK_sex 32 = .ok (.aload_n 0, 1) := by decide +kernel
theorem dK_sex_33 : decode cK_sex 33 = .ok (.getfield 76, 3) := by decide +kernel
theorem dK_sex_36 : decode cK_sex 36 = .ok (.iload_n 1, 1) := by decide +kernel
theorem dK_sex_37 : decode cK_sex 37 = .ok (.iload_n 3, 1) := by decide +kernel
theorem dK_sex_38 : decode cK_sex 38 = .ok (.iastore, 1) := by decide +kernel
theorem dK_sex_39 : decode cK_sex 39 = .ok (.iconst 1, 1) := by decide +kernel
theorem dK_sex_40 : decode cK_sex 40 = .ok (.ireturn, 1) := by decide +kernel
set_option maxHeartbeats 400000 in
set_option maxRecDepth 100000 in
theorem mK_sex (l : Launch) (D : va_G) (q : Nat → Nat) (k : kK) (cI cJ : ClassId) (sz : Nat) (σ : sK) (σ' : sK) (x1 : Int32) (x2 : Int32) (x3 : Int32) (r : Int32) (hf : fK_sex k σ x1 x2 x3 = some (r, σ')) : Met l yK_sex (.code yK_sex cK_sex 4 (some .boolean) :: TK) ({ frames := 1, cells := 0, slots := 0, locals := 21 }) (kPre D cl0 [(cI, .int), (cJ, .long)] (wdK q k cI cJ) sz σ [.ref (q 0), .int x1, .int x2, .int x3]) (kQi D cl0 [(cI, .int), (cJ, .long)] (wdK q k cI cJ) (va_A (wdK q k cI cJ σ) sz) r σ') 0 0 (va_A (wdK q k cI cJ σ) sz) := by
  refine kr_start (own := RK) (by decide) rfl (Nat.le_of_ble_eq_true rfl) ?_
  intro p e s m args below meth c ls C0 hsz hK hP hD hl
  subst hsz
  obtain ⟨hx, hb, hr, hml, hown, hts, hlocks⟩ := id C0
  have hA : ∀ z : Nat, s.heap.size ≤ z → va_A (wdK q k cI cJ σ) s.heap.size z := fun z h => Or.inr h
  generalize va_A (wdK q k cI cJ σ) s.heap.size = A at hD hA ⊢
  have hS : va_S A s.heap s.heap [] := va_S.rf
  have hl : lv_has ls 4 [(0, .ref (q 0)), (1, .int x1), (2, .int x2), (3, .int x3)] := hl
  unfold fK_sex at hf
  refine lv_aload_n hx hb dK_sex_0 rfl (lv_at hl 0 rfl) ?_
  refine lv_iload_n hx hb dK_sex_1 rfl (lv_at hl 1 rfl) ?_
  refine kr_callVi (av := [.int x1]) ⟨hx, hb, hml, hown, hts⟩ (mK_isClass l D q k cI cJ _ σ x1 _ rfl) (cwV 1 hts (kgood_V TK_good (by decide +kernel)) rfl rfl rfl (by decide +kernel) ⟨Nat.le_of_ble_eq_true rfl, Nat.le_of_ble_eq_true rfl⟩) hK hP hD hS hA (ci := 0) (q0 := 0) rfl rfl rfl hl.1 rfl (Nat.le_of_ble_eq_true rfl) dK_sex_2 ⟨Nat.le_of_ble_eq_true rfl, Nat.le_of_ble_eq_true rfl⟩ (fun H locs hP hD hS => ?_)
  refine lv_if_eq (tgt := 23) hx hb dK_sex_5 (by decide) (fun c5 => ?_) (fun c5 => ?_)
  · have hf := (if_pos c5).symm.trans hf
    refine lv_iconst (v := 0) hx hb dK_sex_23 (by decide) ?_
    exact kr_zret C0 hK hP hD hS rfl (congrArg Prod.fst (Option.some.inj hf)) (congrArg Prod.snd (Option.some.inj hf)) dK_sex_24
  · have hf := (if_neg c5).symm.trans hf
    refine lv_iload_n hx hb dK_sex_8 rfl (lv_at hl 2 rfl) ?_
    refine lv_if_lt (tgt := 23) hx hb dK_sex_9 (by decide) (fun c9 => ?_) (fun c9 => ?_)
    · have hf := (if_pos c9).symm.trans hf
      refine lv_iconst (v := 0) hx hb dK_sex_23 (by decide) ?_
      exact kr_zret C0 hK hP hD hS rfl (congrArg Prod.fst (Option.some.inj hf)) (congrArg Prod.snd (Option.some.inj hf)) dK_sex_24
    · have hf := (if_neg c9).symm.trans hf
      refine lv_iload_n hx hb dK_sex_12 rfl (lv_at hl 2 rfl) ?_
      refine lv_iload_n hx hb dK_sex_13 rfl (lv_at hl 3 rfl) ?_
      refine lv_icmp_gt (tgt := 23) hx hb dK_sex_14 (by decide) (fun c14 => ?_) (fun c14 => ?_)
      · have hf := (if_pos c14).symm.trans hf
        refine lv_iconst (v := 0) hx hb dK_sex_23 (by decide) ?_
        exact kr_zret C0 hK hP hD hS rfl (congrArg Prod.fst (Option.some.inj hf)) (congrArg Prod.snd (Option.some.inj hf)) dK_sex_24
      · have hf := (if_neg c14).symm.trans hf
        refine lv_iload_n hx hb dK_sex_17 rfl (lv_at hl 3 rfl) ?_
        refine lv_bipush (v := 100) hx hb dK_sex_18 (by decide) ?_
        refine lv_icmp_le (tgt := 25) hx hb dK_sex_20 (by decide) (fun c20 => ?_) (fun c20 => ?_)
        · have hf := (if_pos c20).symm.trans hf
          refine lv_aload_n hx hb dK_sex_25 rfl (lv_at hl 0 rfl) ?_
          refine gK_maleCount hx hb hown hts hK hP dK_sex_26 ?_
          refine lv_iload_n hx hb dK_sex_29 rfl (lv_at hl 1 rfl) ?_
          refine lv_iload_n hx hb dK_sex_30 rfl (lv_at hl 2 rfl) ?_
          obtain ⟨a31, ea31, hf⟩ := kb1 hf
          refine kr_iastore (σ' := (uK_maleCount σ a31)) hx hb hK hP hD hS 14 0 rfl rfl ea31 (wK_maleCount q k cI cJ _ _) dK_sex_31 (fun H locs hP hD hS => ?_)
          generalize (uK_maleCount σ a31) = s31 at hf hP hD
          refine lv_aload_n hx hb dK_sex_32 rfl (lv_at hl 0 rfl) ?_
          refine gK_lookedAt hx hb hown hts hK hP dK_sex_33 ?_
          refine lv_iload_n hx hb dK_sex_36 rfl (lv_at hl 1 rfl) ?_
          refine lv_iload_n hx hb dK_sex_37 rfl (lv_at hl 3 rfl) ?_
          obtain ⟨a38, ea38, hf⟩ := kb1 hf
          refine kr_iastore (σ' := (uK_lookedAt s31 a38)) hx hb hK hP hD hS 15 0 rfl rfl ea38 (wK_lookedAt q k cI cJ _ _) dK_sex_38 (fun H locs hP hD hS => ?_)
          generalize (uK_lookedAt s31 a38) = s38 at hf hP hD
          refine lv_iconst (v := 1) hx hb dK_sex_39 (by decide) ?_
          exact kr_zret C0 hK hP hD hS rfl (congrArg Prod.fst (Option.some.inj hf)) (congrArg Prod.snd (Option.some.inj hf)) dK_sex_40
        · have hf := (if_neg c20).symm.trans hf
          refine lv_iconst (v := 0) hx hb dK_sex_23 (by decide) ?_
          exact kr_zret C0 hK hP hD hS rfl (congrArg Prod.fst (Option.some.inj hf)) (congrArg Prod.snd (Option.some.inj hf)) dK_sex_24
theorem dK_males_0 : decode cK_males 0 = .ok (.aload_n 0, 1) := by decide +kernel
theorem dK_males_1 : decode cK_males 1 = .ok (.iload_n 1, 1) := by decide +kernel
theorem dK_males_2 : decode cK_males 2 = .ok (.invokevirtual 79, 3) := by decide +kernel
theorem dK_males_5 : decode cK_males 5 = .ok (.ifCond .eq (10), 3) := by decide +kernel
theorem dK_males_8 : decode cK_males 8 = .ok (.iload_n 2, 1) := by decide +kernel
theorem dK_males_9 : decode cK_males 9 = .ok (.invokestatic 100, 3) := by decide +kernel
theorem dK_males_12 : decode cK_males 12 = .ok (.ifCond .ne (7), 3) := by decide +kernel
theorem dK_males_15 : decode cK_males 15 = .ok (.ldc2_w 103, 3) := by decide +kernel
theorem dK_males_18 : decode cK_males 18 = .ok (.lreturn, 1) := by decide +kernel
theorem dK_males_19 : decode cK_males 19 = .ok (.iconst 0, 1) := by decide +kernel
theorem dK_males_20 : decode cK_males 20 = .ok (.istore_n 3, 1) := by decide +kernel
theorem dK_males_21 : decode cK_males 21 = .ok (.iconst 0, 1) := by decide +kernel
theorem dK_males_22 : decode cK_males 22 = .ok (.istore 4, 2) := by decide +kernel
theorem dK_males_24 : decode cK_males 24 = .ok (.iconst 0, 1) := by decide +kernel
theorem dK_males_25 : decode cK_males 25 = .ok (.istore 5, 2) := by decide +kernel
theorem dK_males_27 : decode cK_males 27 = .ok (.iload 5, 2) := by decide +kernel
theorem dK_males_29 : decode cK_males 29 = .ok (.aload_n 0, 1) := by decide +kernel
theorem dK_males_30 : decode cK_males 30 = .ok (.getfield 26, 3) := by decide +kernel
theorem dK_males_33 : decode cK_males 33 = .ok (.if_icmp .ge (47), 3) := by decide +kernel
theorem dK_males_36 : decode cK_males 36 = .ok (.aload_n 0, 1) := by decide +kernel
theorem dK_males_37 : decode cK_males 37 = .ok (.getfield 45, 3) := by decide +kernel
theorem dK_males_40 : decode cK_males 40 = .ok (.iload 5, 2) := by decide +kernel
theorem dK_males_42 : decode cK_males 42 = .ok (.iaload, 1) := by decide +kernel
theorem dK_males_43 : decode cK_males 43 = .ok (.aload_n 0, 1) := by decide +kernel
theorem dK_males_44 : decode cK_males 44 = .ok (.getfield 45, 3) := by decide +kernel
theorem dK_males_47 : decode cK_males 47 = .ok (.iload_n 1, 1) := by decide +kernel
theorem dK_males_48 : decode cK_males 48 = .ok (.iaload, 1) := by decide +kernel
theorem dK_males_49 : decode cK_males 49 = .ok (.if_icmp .ne (25), 3) := by decide +kernel
theorem dK_males_52 : decode cK_males 52 = .ok (.iload_n 3, 1) := by decide +kernel
theorem dK_males_53 : decode cK_males 53 = .ok (.aload_n 0, 1) := by decide +kernel
theorem dK_males_54 : decode cK_males 54 = .ok (.getfield 73, 3) := by decide +kernel
theorem dK_males_57 : decode cK_males 57 = .ok (.iload 5, 2) := by decide +kernel
theorem dK_males_59 : decode cK_males 59 = .ok (.iaload, 1) := by decide +kernel
theorem dK_males_60 : decode cK_males 60 = .ok (.iadd, 1) := by decide +kernel
theorem dK_males_61 : decode cK_males 61 = .ok (.istore_n 3, 1) := by decide +kernel
theorem dK_males_62 : decode cK_males 62 = .ok (.iload 4, 2) := by decide +kernel
theorem dK_males_64 : decode cK_males 64 = .ok (.aload_n 0, 1) := by decide +kernel
theorem dK_males_65 : decode cK_males 65 = .ok (.getfield 76, 3) := by decide +kernel
theorem dK_males_68 : decode cK_males 68 = .ok (.iload 5, 2) := by decide +kernel
theorem dK_males_70 : decode cK_males 70 = .ok (.iaload, 1) := by decide +kernel
theorem dK_males_71 : decode cK_males 71 = .ok (.iadd, 1) := by decide +kernel
theorem dK_males_72 : decode cK_males 72 = .ok (.istore 4, 2) := by decide +kernel
theorem dK_males_74 : decode cK_males 74 = .ok (.iinc 5 (1), 3) := by decide +kernel
theorem dK_males_77 : decode cK_males 77 = .ok (.goto (-50), 3) := by decide +kernel
theorem dK_males_80 : decode cK_males 80 = .ok (.iload 4, 2) := by decide +kernel
theorem dK_males_82 : decode cK_males 82 = .ok (.ifCond .ne (9), 3) := by decide +kernel
theorem dK_males_85 : decode cK_males 85 = .ok (.ldc2_w 103, 3) := by decide +kernel
theorem dK_males_88 : decode cK_males 88 = .ok (.goto (12), 3) := by decide +kernel
theorem dK_males_91 : decode cK_males 91 = .ok (.iload_n 3, 1) := by decide +kernel
theorem dK_males_92 : decode cK_males 92 = .ok (.i2l, 1) := by decide +kernel
theorem dK_males_93 : decode cK_males 93 = .ok (.iload 4, 2) := by decide +kernel
theorem dK_males_95 : decode cK_males 95 = .ok (.i2l, 1) := by decide +kernel
theorem dK_males_96 : decode cK_males 96 = .ok (.iload_n 2, 1) := by decide +kernel
theorem dK_males_97 : decode cK_males 97 = .ok (.invokestatic 115, 3) := by decide +kernel
theorem dK_males_100 : decode cK_males 100 = .ok (.lreturn, 1) := by decide +kernel
set_option maxHeartbeats 400000 in
set_option maxRecDepth 100000 in
theorem tK_males_27 {p : Program} {l : Launch} {e : Env} {s : State} {m : MethodId} {args : Array Value} {below : List Frame} {meth : Method} {c : Code} {D : va_G} {A : Nat → Prop} {q : Nat → Nat} {k : kK} {cI cJ : ClassId} {r : Int64} {σ : sK} {fu : Nat} (C0 : Cx p s m args meth c cK_males 6 (some .long) RK TK) (hK : va_K D cl0 [(cI, .int), (cJ, .long)] s) (hA : ∀ z, s.heap.size ≤ z → A z) : ∀ n : Nat, ∀ (x1 : Int32) (x2 : Int32) (x3 : Int32) (x4 : Int32) (x5 : Int32)(H : Heap) (locs : List Loc) (ls : Array Slot), fK_males_27 fu k σ n x1 x2 x3 x4 x5 = some r → lv_has ls 6 [(0, .ref (q 0)), (1, .int x1), (2, .int x2), (3, .int x3), (4, .int x4), (5, .int x5)] → va_P D cl0 (wdK q k cI cJ σ) H → va_D A (wdK q k cI cJ σ) → va_S A s.heap H locs → W p l e ({ frames := 2, cells := 0, slots := 0, locals := 56 }) s m args below meth c H locs 0 0 (MQ below (kQl D cl0 [(cI, .int), (cJ, .long)] (wdK q k cI cJ) A r σ) args s 0 0 A) (F0 m 27 ls []) := by
  obtain ⟨hx, hb, hr, hml, hown, hts, hlocks⟩ := id C0
  intro n
  induction n with
  | zero =>
    intro x1 x2 x3 x4 x5 H locs ls hf hl hP hD hS
    cases hf
  | succ n ih =>
    intro x1 x2 x3 x4 x5 H locs ls hf hl hP hD hS
    rw [fK_males_27] at hf
    refine lv_iload hx hb dK_males_27 (lv_at hl 5 rfl) ?_
    refine lv_aload_n hx hb dK_males_29 rfl (lv_at hl 0 rfl) ?_
    refine gK_classes hx hb hown hts hK hP dK_males_30 ?_
    refine lv_icmp_ge (tgt := 80) hx hb dK_males_33 (by decide) (fun c33 => ?_) (fun c33 => ?_)
    · have hf := (if_pos c33).symm.trans hf
      refine lv_iload hx hb dK_males_80 (lv_at hl 4 rfl) ?_
      refine lv_if_ne (tgt := 91) hx hb dK_males_82 (by decide) (fun c82 => ?_) (fun c82 => ?_)
      · have hf := (if_neg c82).symm.trans hf
        refine lv_iload_n hx hb dK_males_91 rfl (lv_at hl 3 rfl) ?_
        refine lv_i2l (v := x3.toInt64) hx hb dK_males_92 rfl ?_
        refine lv_iload hx hb dK_males_93 (lv_at hl 4 rfl) ?_
        refine lv_i2l (v := x4.toInt64) hx hb dK_males_95 rfl ?_
        refine lv_iload_n hx hb dK_males_96 rfl (lv_at hl 2 rfl) ?_
        obtain ⟨v97, ev97, hf⟩ := kb1 hf
        refine kr_callSl (av := [.long x3.toInt64, .long x4.toInt64, .int x2]) ⟨hx, hb, hml, hown, hts⟩ (mK_fractionPart l D _ (wdK q k cI cJ) [(cI, .int), (cJ, .long)] cl0 _ fu σ x3.toInt64 x4.toInt64 x2 v97 ev97) (cwS 3 hts (kgood_S TK_good (by decide +kernel)) rfl rfl rfl (by decide +kernel) ⟨Nat.le_of_ble_eq_true rfl, Nat.le_of_ble_eq_true rfl⟩) hK hP hD hS hA rfl hl.1 rfl (Nat.le_of_ble_eq_true rfl) dK_males_97 ⟨Nat.le_of_ble_eq_true rfl, Nat.le_of_ble_eq_true rfl⟩ (fun H locs hP hD hS => ?_)
        exact kr_lret C0 hK hP hD hS (Option.some.inj hf) rfl dK_males_100
      · have hf := (if_pos c82).symm.trans hf
        refine lv_ldc2 (v := -1) hx hb hown (hts (.constantLong RK 103 (-1)) (by decide +kernel)) dK_males_85 ?_
        refine lv_goto (tgt := 100) hx hb dK_males_88 (by decide) ?_
        exact kr_lret C0 hK hP hD hS (Option.some.inj hf) rfl dK_males_100
    · have hf := (if_neg c33).symm.trans hf
      refine lv_aload_n hx hb dK_males_36 rfl (lv_at hl 0 rfl) ?_
      refine gK_groupOf hx hb hown hts hK hP dK_males_37 ?_
      refine lv_iload hx hb dK_males_40 (lv_at hl 5 rfl) ?_
      obtain ⟨v42, ev42, hf⟩ := kb1 hf
      refine kr_iaload hx hb hK hP 5 0 rfl rfl ev42 dK_males_42 ?_
      refine lv_aload_n hx hb dK_males_43 rfl (lv_at hl 0 rfl) ?_
      refine gK_groupOf hx hb hown hts hK hP dK_males_44 ?_
      refine lv_iload_n hx hb dK_males_47 rfl (lv_at hl 1 rfl) ?_
      obtain ⟨v48, ev48, hf⟩ := kb1 hf
      refine kr_iaload hx hb hK hP 5 0 rfl rfl ev48 dK_males_48 ?_
      refine lv_icmp_ne (tgt := 74) hx hb dK_males_49 (by decide) (fun c49 => ?_) (fun c49 => ?_)
      · have hf := (if_neg c49).symm.trans hf
        refine lv_iinc (v := (x5 + 1)) (lv' := [(5, .int (x5 + 1)), (0, .ref (q 0)), (1, .int x1), (2, .int x2), (3, .int x3), (4, .int x4)]) hx hb dK_males_74 hl (k := 5) rfl rfl (by decide) rfl (fun ls hl => ?_)
        refine lv_goto (tgt := 27) hx hb dK_males_77 (by decide) ?_
        exact ih x1 x2 x3 x4 (x5 + 1) _ _ ls hf (lv_sub hl [1, 2, 3, 4, 5, 0] rfl) hP hD hS
      · have hf := (if_pos c49).symm.trans hf
        refine lv_iload_n hx hb dK_males_52 rfl (lv_at hl 3 rfl) ?_
        refine lv_aload_n hx hb dK_males_53 rfl (lv_at hl 0 rfl) ?_
        refine gK_maleCount hx hb hown hts hK hP dK_males_54 ?_
        refine lv_iload hx hb dK_males_57 (lv_at hl 5 rfl) ?_
        obtain ⟨v59, ev59, hf⟩ := kb1 hf
        refine kr_iaload hx hb hK hP 14 0 rfl rfl ev59 dK_males_59 ?_
        refine lv_iadd hx hb dK_males_60 ?_
        refine lv_istore_n (lv' := [(3, .int (x3 + v59)), (0, .ref (q 0)), (1, .int x1), (2, .int x2), (4, .int x4), (5, .int x5)]) hx hb dK_males_61 rfl hl (by decide) rfl (fun ls hl => ?_)
        refine lv_iload hx hb dK_males_62 (lv_at hl 4 rfl) ?_
        refine lv_aload_n hx hb dK_males_64 rfl (lv_at hl 1 rfl) ?_
        refine gK_lookedAt hx hb hown hts hK hP dK_males_65 ?_
        refine lv_iload hx hb dK_males_68 (lv_at hl 5 rfl) ?_
        obtain ⟨v70, ev70, hf⟩ := kb1 hf
        refine kr_iaload hx hb hK hP 15 0 rfl rfl ev70 dK_males_70 ?_
        refine lv_iadd hx hb dK_males_71 ?_
        refine lv_istore (lv' := [(4, .int (x4 + v70)), (3, .int (x3 + v59)), (0, .ref (q 0)), (1, .int x1), (2, .int x2), (5, .int x5)]) hx hb dK_males_72 hl (by decide) rfl (fun ls hl => ?_)
        refine lv_iinc (v := (x5 + 1)) (lv' := [(5, .int (x5 + 1)), (4, .int (x4 + v70)), (3, .int (x3 + v59)), (0, .ref (q 0)), (1, .int x1), (2, .int x2)]) hx hb dK_males_74 hl (k := 5) rfl rfl (by decide) rfl (fun ls hl => ?_)
        refine lv_goto (tgt := 27) hx hb dK_males_77 (by decide) ?_
        exact ih x1 x2 (x3 + v59) (x4 + v70) (x5 + 1) _ _ ls hf (lv_sub hl [3, 4, 5, 2, 1, 0] rfl) hP hD hS
set_option maxHeartbeats 400000 in
set_option maxRecDepth 100000 in
theorem mK_males (l : Launch) (D : va_G) (q : Nat → Nat) (k : kK) (cI cJ : ClassId) (sz : Nat) (fu : Nat) (σ : sK) (x1 : Int32) (x2 : Int32) (r : Int64) (hf : fK_males fu k σ x1 x2 = some r) : Met l yK_males (.code yK_males cK_males 6 (some .long) :: TK) ({ frames := 2, cells := 0, slots := 0, locals := 56 }) (kPre D cl0 [(cI, .int), (cJ, .long)] (wdK q k cI cJ) sz σ [.ref (q 0), .int x1, .int x2]) (kQl D cl0 [(cI, .int), (cJ, .long)] (wdK q k cI cJ) (va_A (wdK q k cI cJ σ) sz) r σ) 0 0 (va_A (wdK q k cI cJ σ) sz) := by
  refine kr_start (own := RK) (by decide) rfl (Nat.le_of_ble_eq_true rfl) ?_
  intro p e s m args below meth c ls C0 hsz hK hP hD hl
  subst hsz
  obtain ⟨hx, hb, hr, hml, hown, hts, hlocks⟩ := id C0
  have hA : ∀ z : Nat, s.heap.size ≤ z → va_A (wdK q k cI cJ σ) s.heap.size z := fun z h => Or.inr h
  generalize va_A (wdK q k cI cJ σ) s.heap.size = A at hD hA ⊢
  have hS : va_S A s.heap s.heap [] := va_S.rf
  have hl : lv_has ls 6 [(0, .ref (q 0)), (1, .int x1), (2, .int x2)] := hl
  unfold fK_males at hf
  refine lv_aload_n hx hb dK_males_0 rfl (lv_at hl 0 rfl) ?_
  refine lv_iload_n hx hb dK_males_1 rfl (lv_at hl 1 rfl) ?_
  refine kr_callVi (av := [.int x1]) ⟨hx, hb, hml, hown, hts⟩ (mK_isClass l D q k cI cJ _ σ x1 _ rfl) (cwV 1 hts (kgood_V TK_good (by decide +kernel)) rfl rfl rfl (by decide +kernel) ⟨Nat.le_of_ble_eq_true rfl, Nat.le_of_ble_eq_true rfl⟩) hK hP hD hS hA (ci := 0) (q0 := 0) rfl rfl rfl hl.1 rfl (Nat.le_of_ble_eq_true rfl) dK_males_2 ⟨Nat.le_of_ble_eq_true rfl, Nat.le_of_ble_eq_true rfl⟩ (fun H locs hP hD hS => ?_)
  refine lv_if_eq (tgt := 15) hx hb dK_males_5 (by decide) (fun c5 => ?_) (fun c5 => ?_)
  · have hf := (if_pos c5).symm.trans hf
    refine lv_ldc2 (v := -1) hx hb hown (hts (.constantLong RK 103 (-1)) (by decide +kernel)) dK_males_15 ?_
    exact kr_lret C0 hK hP hD hS (Option.some.inj hf) rfl dK_males_18
  · have hf := (if_neg c5).symm.trans hf
    refine lv_iload_n hx hb dK_males_8 rfl (lv_at hl 2 rfl) ?_
    refine kr_callSi (av := [.int x2]) ⟨hx, hb, hml, hown, hts⟩ (mK_isZeroOrOne l D _ (wdK q k cI cJ) [(cI, .int), (cJ, .long)] cl0 _ σ x2 _ rfl) (cwS 1 hts (kgood_S TK_good (by decide +kernel)) rfl rfl rfl (by decide +kernel) ⟨Nat.le_of_ble_eq_true rfl, Nat.le_of_ble_eq_true rfl⟩) hK hP hD hS hA rfl hl.1 rfl (Nat.le_of_ble_eq_true rfl) dK_males_9 ⟨Nat.le_of_ble_eq_true rfl, Nat.le_of_ble_eq_true rfl⟩ (fun H locs hP hD hS => ?_)
    refine lv_if_ne (tgt := 19) hx hb dK_males_12 (by decide) (fun c12 => ?_) (fun c12 => ?_)
    · have hf := (if_neg c12).symm.trans hf
      refine lv_iconst (v := 0) hx hb dK_males_19 (by decide) ?_
      refine lv_istore_n (lv' := [(3, .int 0), (0, .ref (q 0)), (1, .int x1), (2, .int x2)]) hx hb dK_males_20 rfl hl (by decide) rfl (fun ls hl => ?_)
      refine lv_iconst (v := 0) hx hb dK_males_21 (by decide) ?_
      refine lv_istore (lv' := [(4, .int 0), (3, .int 0), (0, .ref (q 0)), (1, .int x1), (2, .int x2)]) hx hb dK_males_22 hl (by decide) rfl (fun ls hl => ?_)
      refine lv_iconst (v := 0) hx hb dK_males_24 (by decide) ?_
      refine lv_istore (lv' := [(5, .int 0), (4, .int 0), (3, .int 0), (0, .ref (q 0)), (1, .int x1), (2, .int x2)]) hx hb dK_males_25 hl (by decide) rfl (fun ls hl => ?_)
      exact tK_males_27 C0 hK hA fu x1 x2 0 0 0 _ _ ls hf (lv_sub hl [3, 4, 5, 2, 1, 0] rfl) hP hD hS
    · have hf := (if_pos c12).symm.trans hf
      refine lv_ldc2 (v := -1) hx hb hown (hts (.constantLong RK 103 (-1)) (by decide +kernel)) dK_males_15 ?_
      exact kr_lret C0 hK hP hD hS (Option.some.inj hf) rfl dK_males_18
