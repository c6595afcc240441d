theorem dK_readingsOfAge_0 : decode cK_readingsOfAge 0 = .ok (.iconst 0, 1) := by decide +kernel
theorem dK_readingsOfAge_1 : decode cK_readingsOfAge 1 = .ok (.istore_n 2, 1) := by decide +kernel
theorem dK_readingsOfAge_2 : decode cK_readingsOfAge 2 = .ok (.iconst 0, 1) := by decide +kernel
theorem dK_readingsOfAge_3 : decode cK_readingsOfAge 3 = .ok (.istore_n 3, 1) := by decide +kernel
theorem dK_readingsOfAge_4 : decode cK_readingsOfAge 4 = .ok (.iload_n 3, 1) := by decide +kernel
theorem dK_readingsOfAge_5 : decode cK_readingsOfAge 5 = .ok (.aload_n 0, 1) := by decide +kernel
theorem dK_readingsOfAge_6 : decode cK_readingsOfAge 6 = .ok (.getfield 26, 3) := by decide +kernel
theorem dK_readingsOfAge_9 : decode cK_readingsOfAge 9 = .ok (.if_icmp .ge (27), 3) := by decide +kernel
theorem dK_readingsOfAge_12 : decode cK_readingsOfAge 12 = .ok (.iload_n 2, 1) := by decide +kernel
theorem dK_readingsOfAge_13 : decode cK_readingsOfAge 13 = .ok (.aload_n 0, 1) := by decide +kernel
theorem dK_readingsOfAge_14 : decode cK_readingsOfAge 14 = .ok (.getfield 32, 3) := by decide +kernel
theorem dK_readingsOfAge_17 : decode cK_readingsOfAge 17 = .ok (.aload_n 0, 1) := by decide +kernel
theorem dK_readingsOfAge_18 : decode cK_readingsOfAge 18 = .ok (.aload_n 0, 1) := by decide +kernel
theorem dK_readingsOfAge_19 : decode cK_readingsOfAge 19 = .ok (.getfield 9, 3) := by decide +kernel
theorem dK_readingsOfAge_22 : decode cK_readingsOfAge 22 = .ok (.iload_n 3, 1) := by decide +kernel
theorem dK_readingsOfAge_23 : decode cK_readingsOfAge 23 = .ok (.iload_n 1, 1) := by decide +kernel
theorem dK_readingsOfAge_24 : decode cK_readingsOfAge 24 = .ok (.invokevirtual 96, 3) := by decide +kernel
theorem dK_readingsOfAge_27 : decode cK_readingsOfAge 27 = .ok (.iaload, 1) := by decide +kernel
theorem dK_readingsOfAge_28 : decode cK_readingsOfAge 28 = .ok (.iadd, 1) := by decide +kernel
theorem dK_readingsOfAge_29 : decode cK_readingsOfAge 29 = .ok (.istore_n 2, 1) := by decide +kernel
theorem dK_readingsOfAge_30 : decode cK_readingsOfAge 30 = .ok (.iinc 3 (1), 3) := by decide +kernel
theorem dK_readingsOfAge_33 : decode cK_readingsOfAge 33 = .ok (.goto (-29), 3) := by decide +kernel
theorem dK_readingsOfAge_36 : decode cK_readingsOfAge 36 = .ok (.iload_n 2, 1) := by decide +kernel
theorem dK_readingsOfAge_37 : decode cK_readingsOfAge 37 = .ok (.ireturn, 1) := by decide +kernel
set_option maxHeartbeats 400000 in
set_option maxRecDepth 100000 in
theorem tK_readingsOfAge_4 {p : Program} {l : Launch} {e : Env} {s : State} {m : MethodId} {args : Array Value} {below : List Frame} {meth : Method} {c : Code} {D : va_G} {A : Nat → Prop} {q : Nat → Nat} {k : kK} {cI cJ : ClassId} {r : Int32} {σ : sK} {fu : Nat} (C0 : Cx p s m args meth c cK_readingsOfAge 4 (some .int) RK TK) (hK : va_K D cl0 [(cI, .int), (cJ, .long)] s) (hA : ∀ z, s.heap.size ≤ z → A z) : ∀ n : Nat, ∀ (x1 : Int32) (x2 : Int32) (x3 : Int32)(H : Heap) (locs : List Loc) (ls : Array Slot), fK_readingsOfAge_4 fu k σ n x1 x2 x3 = some r → lv_has ls 4 [(0, .ref (q 0)), (1, .int x1), (2, .int x2), (3, .int x3)] → va_P D cl0 (wdK q k cI cJ σ) H → va_D A (wdK q k cI cJ σ) → va_S A s.heap H locs → W p l e ({ frames := 1, cells := 0, slots := 0, locals := 23 }) s m args below meth c H locs 0 0 (MQ below (kQi D cl0 [(cI, .int), (cJ, .long)] (wdK q k cI cJ) A r σ) args s 0 0 A) (F0 m 4 ls []) := by
  obtain ⟨hx, hb, hr, hml, hown, hts, hlocks⟩ := id C0
  intro n
  induction n with
  | zero =>
    intro x1 x2 x3 H locs ls hf hl hP hD hS
    cases hf
  | succ n ih =>
    intro x1 x2 x3 H locs ls hf hl hP hD hS
    rw [fK_readingsOfAge_4] at hf
    refine lv_iload_n hx hb dK_readingsOfAge_4 rfl (lv_at hl 3 rfl) ?_
    refine lv_aload_n hx hb dK_readingsOfAge_5 rfl (lv_at hl 0 rfl) ?_
    refine gK_classes hx hb hown hts hK hP dK_readingsOfAge_6 ?_
    refine lv_icmp_ge (tgt := 36) hx hb dK_readingsOfAge_9 (by decide) (fun c9 => ?_) (fun c9 => ?_)
    · have hf := (if_pos c9).symm.trans hf
      refine lv_iload_n hx hb dK_readingsOfAge_36 rfl (lv_at hl 2 rfl) ?_
      exact kr_iret C0 hK hP hD hS (Option.some.inj hf) rfl dK_readingsOfAge_37
    · have hf := (if_neg c9).symm.trans hf
      refine lv_iload_n hx hb dK_readingsOfAge_12 rfl (lv_at hl 2 rfl) ?_
      refine lv_aload_n hx hb dK_readingsOfAge_13 rfl (lv_at hl 0 rfl) ?_
      refine gK_readings hx hb hown hts hK hP dK_readingsOfAge_14 ?_
      refine lv_aload_n hx hb dK_readingsOfAge_17 rfl (lv_at hl 0 rfl) ?_
      refine lv_aload_n hx hb dK_readingsOfAge_18 rfl (lv_at hl 0 rfl) ?_
      refine gK_chosenRow hx hb hown hts hK hP dK_readingsOfAge_19 ?_
      refine lv_iload_n hx hb dK_readingsOfAge_22 rfl (lv_at hl 3 rfl) ?_
      refine lv_iload_n hx hb dK_readingsOfAge_23 rfl (lv_at hl 1 rfl) ?_
      refine kr_callVi (av := [.int (sK_chosenRow σ), .int x3, .int x1]) ⟨hx, hb, hml, hown, hts⟩ (mK_cell l D q k cI cJ _ σ (sK_chosenRow σ) x3 x1 _ rfl) (cwV 3 hts (kgood_V TK_good (by decide +kernel)) rfl rfl rfl (by decide +kernel) ⟨Nat.le_of_ble_eq_true rfl, Nat.le_of_ble_eq_true rfl⟩) hK hP hD hS hA (ci := 0) (q0 := 0) rfl rfl rfl hl.1 rfl (Nat.le_of_ble_eq_true rfl) dK_readingsOfAge_24 ⟨Nat.le_of_ble_eq_true rfl, Nat.le_of_ble_eq_true rfl⟩ (fun H locs hP hD hS => ?_)
      obtain ⟨v27, ev27, hf⟩ := kb1 hf
      refine kr_iaload hx hb hK hP 1 0 rfl rfl ev27 dK_readingsOfAge_27 ?_
      refine lv_iadd hx hb dK_readingsOfAge_28 ?_
      refine lv_istore_n (lv' := [(2, .int (x2 + v27)), (0, .ref (q 0)), (1, .int x1), (3, .int x3)]) hx hb dK_readingsOfAge_29 rfl hl (by decide) rfl (fun ls hl => ?_)
      refine lv_iinc (v := (x3 + 1)) (lv' := [(3, .int (x3 + 1)), (2, .int (x2 + v27)), (0, .ref (q 0)), (1, .int x1)]) hx hb dK_readingsOfAge_30 hl (k := 3) rfl rfl (by decide) rfl (fun ls hl => ?_)
      refine lv_goto (tgt := 4) hx hb dK_readingsOfAge_33 (by decide) ?_
      exact ih x1 (x2 + v27) (x3 + 1) _ _ ls hf (lv_sub hl [2, 3, 1, 0] rfl) hP hD hS
set_option maxHeartbeats 400000 in
set_option maxRecDepth 100000 in
theorem mK_readingsOfAge (l : Launch) (D : va_G) (q : Nat → Nat) (k : kK) (cI cJ : ClassId) (sz : Nat) (fu : Nat) (σ : sK) (x1 : Int32) (r : Int32) (hf : fK_readingsOfAge fu k σ x1 = some r) : Met l yK_readingsOfAge (.code yK_readingsOfAge cK_readingsOfAge 4 (some .int) :: TK) ({ frames := 1, cells := 0, slots := 0, locals := 23 }) (kPre D cl0 [(cI, .int), (cJ, .long)] (wdK q k cI cJ) sz σ [.ref (q 0), .int x1]) (kQi D cl0 [(cI, .int), (cJ, .long)] (wdK q k cI cJ) (va_A (wdK q k cI cJ σ) sz) r σ) 0 0 (va_A (wdK q k cI cJ σ) sz) := by
  refine kr_start (own := RK) (by decide) rfl (Nat.le_of_ble_eq_true rfl) ?_
  intro p e s m args below meth c ls C0 hsz hK hP hD hl
  subst hsz
  obtain ⟨hx, hb, hr, hml, hown, hts, hlocks⟩ := id C0
  have hA : ∀ z : Nat, s.heap.size ≤ z → va_A (wdK q k cI cJ σ) s.heap.size z := fun z h => Or.inr h
  generalize va_A (wdK q k cI cJ σ) s.heap.size = A at hD hA ⊢
  have hS : va_S A s.heap s.heap [] := va_S.rf
  have hl : lv_has ls 4 [(0, .ref (q 0)), (1, .int x1)] := hl
  unfold fK_readingsOfAge at hf
  refine lv_iconst (v := 0) hx hb dK_readingsOfAge_0 (by decide) ?_
  refine lv_istore_n (lv' := [(2, .int 0), (0, .ref (q 0)), (1, .int x1)]) hx hb dK_readingsOfAge_1 rfl hl (by decide) rfl (fun ls hl => ?_)
  refine lv_iconst (v := 0) hx hb dK_readingsOfAge_2 (by decide) ?_
  refine lv_istore_n (lv' := [(3, .int 0), (2, .int 0), (0, .ref (q 0)), (1, .int x1)]) hx hb dK_readingsOfAge_3 rfl hl (by decide) rfl (fun ls hl => ?_)
  exact tK_readingsOfAge_4 C0 hK hA fu x1 0 0 _ _ ls hf (lv_sub hl [2, 3, 1, 0] rfl) hP hD hS
theorem dK_openPool_0 : decode cK_openPool 0 = .ok (.iconst 0, 1) := by decide +kernel
theorem dK_openPool_1 : decode cK_openPool 1 = .ok (.istore_n 3, 1) := by decide +kernel
theorem dK_openPool_2 : decode cK_openPool 2 = .ok (.iconst 0, 1) := by decide +kernel
theorem dK_openPool_3 : decode cK_openPool 3 = .ok (.istore 4, 2) := by decide +kernel
theorem dK_openPool_5 : decode cK_openPool 5 = .ok (.iload 4, 2) := by decide +kernel
theorem dK_openPool_7 : decode cK_openPool 7 = .ok (.aload_n 0, 1) := by decide +kernel
theorem dK_openPool_8 : decode cK_openPool 8 = .ok (.getfield 26, 3) := by decide +kernel
theorem dK_openPool_11 : decode cK_openPool 11 = .ok (.if_icmp .ge (31), 3) := by decide +kernel
theorem dK_openPool_14 : decode cK_openPool 14 = .ok (.iload_n 3, 1) := by decide +kernel
theorem dK_openPool_15 : decode cK_openPool 15 = .ok (.iload 4, 2) := by decide +kernel
theorem dK_openPool_17 : decode cK_openPool 17 = .ok (.aload_n 0, 1) := by decide +kernel
theorem dK_openPool_18 : decode cK_openPool 18 = .ok (.getfield 32, 3) := by decide +kernel
theorem dK_openPool_21 : decode cK_openPool 21 = .ok (.aload_n 0, 1) := by decide +kernel
theorem dK_openPool_22 : decode cK_openPool 22 = .ok (.aload_n 0, 1) := by decide +kernel
theorem dK_openPool_23 : decode cK_openPool 23 = .ok (.getfield 9, 3) := by decide +kernel
theorem dK_openPool_26 : decode cK_openPool 26 = .ok (.iload 4, 2) := by decide +kernel
theorem dK_openPool_28 : decode cK_openPool 28 = .ok (.iload_n 2, 1) := by decide +kernel
theorem dK_openPool_29 : decode cK_openPool 29 = .ok (.invokevirtual 96, 3) := by decide +kernel
theorem dK_openPool_32 : decode cK_openPool 32 = .ok (.iaload, 1) := by decide +kernel
theorem dK_openPool_33 : decode cK_openPool 33 = .ok (.imul, 1) := by decide +kernel
theorem dK_openPool_34 : decode cK_openPool 34 = .ok (.iadd, 1) := by decide +kernel
theorem dK_openPool_35 : decode cK_openPool 35 = .ok (.istore_n 3, 1) := by decide +kernel
theorem dK_openPool_36 : decode cK_openPool 36 = .ok (.iinc 4 (1), 3) := by decide +kernel
theorem dK_openPool_39 : decode cK_openPool 39 = .ok (.goto (-34), 3) := by decide +kernel
theorem dK_openPool_42 : decode cK_openPool 42 = .ok (.aload_n 0, 1) := by decide +kernel
theorem dK_openPool_43 : decode cK_openPool 43 = .ok (.getfield 61, 3) := by decide +kernel
theorem dK_openPool_46 : decode cK_openPool 46 = .ok (.iload_n 1, 1) := by decide +kernel
theorem dK_openPool_47 : decode cK_openPool 47 = .ok (.iload_n 3, 1) := by decide +kernel
theorem dK_openPool_48 : decode cK_openPool 48 = .ok (.iastore, 1) := by decide +kernel
theorem dK_openPool_49 : decode cK_openPool 49 = .ok (.aload_n 0, 1) := by decide +kernel
theorem dK_openPool_50 : decode cK_openPool 50 = .ok (.getfield 64, 3) := by decide +kernel
theorem dK_openPool_53 : decode cK_openPool 53 = .ok (.iload_n 1, 1) := by decide +kernel
theorem dK_openPool_54 : decode cK_openPool 54 = .ok (.aload_n 0, 1) := by decide +kernel
theorem dK_openPool_55 : decode cK_openPool 55 = .ok (.iload_n 2, 1) := by decide +kernel
theorem dK_openPool_56 : decode cK_openPool 56 = .ok (.invokevirtual 183, 3) := by decide +kernel
theorem dK_openPool_59 : decode cK_openPool 59 = .ok (.iastore, 1) := by decide +kernel
theorem dK_openPool_60 : decode cK_openPool 60 = .ok (.aload_n 0, 1) := by decide +kernel
theorem dK_openPool_61 : decode cK_openPool 61 = .ok (.getfield 67, 3) := by decide +kernel
theorem dK_openPool_64 : decode cK_openPool 64 = .ok (.iload_n 1, 1) := by decide +kernel
theorem dK_openPool_65 : decode cK_openPool 65 = .ok (.iconst 1, 1) := by decide +kernel
theorem dK_openPool_66 : decode cK_openPool 66 = .ok (.iastore, 1) := by decide +kernel
theorem dK_openPool_67 : decode cK_openPool 67 = .ok (.aload_n 0, 1) := by decide +kernel
theorem dK_openPool_68 : decode cK_openPool 68 = .ok (.getfield 70, 3) := by decide +kernel
theorem dK_openPool_71 : decode cK_openPool 71 = .ok (.iload_n 1, 1) := by decide +kernel
theorem dK_openPool_72 : decode cK_openPool 72 = .ok (.iload_n 2, 1) := by decide +kernel
theorem dK_openPool_73 : decode cK_openPool 73 = .ok (.iastore, 1) := by decide +kernel
theorem dK_openPool_74 : decode cK_openPool 74 = .ok (.return_, 1) := by decide +kernel
set_option maxHeartbeats 400000 in
set_option maxRecDepth 100000 in
theorem tK_openPool_5 {p : Program} {l : Launch} {e : Env} {s : State} {m : MethodId} {args : Array Value} {below : List Frame} {meth : Method} {c : Code} {D : va_G} {A : Nat → Prop} {q : Nat → Nat} {k : kK} {cI cJ : ClassId} {σ' : sK} {fu : Nat} (C0 : Cx p s m args meth c cK_openPool 5 none RK TK) (hK : va_K D cl0 [(cI, .int), (cJ, .long)] s) (hA : ∀ z, s.heap.size ≤ z → A z) : ∀ n : Nat, ∀ (σ : sK) (x1 : Int32) (x2 : Int32) (x3 : Int32) (x4 : Int32)(H : Heap) (locs : List Loc) (ls : Array Slot), fK_openPool_5 fu k n σ x1 x2 x3 x4 = some σ' → lv_has ls 5 [(0, .ref (q 0)), (1, .int x1), (2, .int x2), (3, .int x3), (4, .int x4)] → va_P D cl0 (wdK q k cI cJ σ) H → va_D A (wdK q k cI cJ σ) → va_S A s.heap H locs → W p l e ({ frames := 2, cells := 0, slots := 0, locals := 46 }) s m args below meth c H locs 0 0 (MQ below (kQv D cl0 [(cI, .int), (cJ, .long)] (wdK q k cI cJ) A σ') args s 0 0 A) (F0 m 5 ls []) := by
  obtain ⟨hx, hb, hr, hml, hown, hts, hlocks⟩ := id C0
  intro n
  induction n with
  | zero =>
    intro σ x1 x2 x3 x4 H locs ls hf hl hP hD hS
    cases hf
  | succ n ih =>
    intro σ x1 x2 x3 x4 H locs ls hf hl hP hD hS
    rw [fK_openPool_5] at hf
    refine lv_iload hx hb dK_openPool_5 (lv_at hl 4 rfl) ?_
    refine lv_aload_n hx hb dK_openPool_7 rfl (lv_at hl 0 rfl) ?_
    refine gK_classes hx hb hown hts hK hP dK_openPool_8 ?_
    refine lv_icmp_ge (tgt := 42) hx hb dK_openPool_11 (by decide) (fun c11 => ?_) (fun c11 => ?_)
    · have hf := (if_pos c11).symm.trans hf
      refine lv_aload_n hx hb dK_openPool_42 rfl (lv_at hl 0 rfl) ?_
      refine gK_poolSum hx hb hown hts hK hP dK_openPool_43 ?_
      refine lv_iload_n hx hb dK_openPool_46 rfl (lv_at hl 1 rfl) ?_
      refine lv_iload_n hx hb dK_openPool_47 rfl (lv_at hl 3 rfl) ?_
      obtain ⟨a48, ea48, hf⟩ := kb1 hf
      refine kr_iastore (σ' := (uK_poolSum σ a48)) hx hb hK hP hD hS 10 0 rfl rfl ea48 (wK_poolSum q k cI cJ _ _) dK_openPool_48 (fun H locs hP hD hS => ?_)
      generalize (uK_poolSum σ a48) = s48 at hf hP hD
      refine lv_aload_n hx hb dK_openPool_49 rfl (lv_at hl 0 rfl) ?_
      refine gK_poolSize hx hb hown hts hK hP dK_openPool_50 ?_
      refine lv_iload_n hx hb dK_openPool_53 rfl (lv_at hl 1 rfl) ?_
      refine lv_aload_n hx hb dK_openPool_54 rfl (lv_at hl 0 rfl) ?_
      refine lv_iload_n hx hb dK_openPool_55 rfl (lv_at hl 2 rfl) ?_
      obtain ⟨v56, ev56, hf⟩ := kb1 hf
      refine kr_callVi (av := [.int x2]) ⟨hx, hb, hml, hown, hts⟩ (mK_readingsOfAge l D q k cI cJ _ fu s48 x2 v56 ev56) (cwV 1 hts (kgood_V TK_good (by decide +kernel)) rfl rfl rfl (by decide +kernel) ⟨Nat.le_of_ble_eq_true rfl, Nat.le_of_ble_eq_true rfl⟩) hK hP hD hS hA (ci := 0) (q0 := 0) rfl rfl rfl hl.1 rfl (Nat.le_of_ble_eq_true rfl) dK_openPool_56 ⟨Nat.le_of_ble_eq_true rfl, Nat.le_of_ble_eq_true rfl⟩ (fun H locs hP hD hS => ?_)
      obtain ⟨a59, ea59, hf⟩ := kb1 hf
      refine kr_iastore (σ' := (uK_poolSize s48 a59)) hx hb hK hP hD hS 11 0 rfl rfl ea59 (wK_poolSize q k cI cJ _ _) dK_openPool_59 (fun H locs hP hD hS => ?_)
      generalize (uK_poolSize s48 a59) = s59 at hf hP hD
      refine lv_aload_n hx hb dK_openPool_60 rfl (lv_at hl 0 rfl) ?_
      refine gK_poolAges hx hb hown hts hK hP dK_openPool_61 ?_
      refine lv_iload_n hx hb dK_openPool_64 rfl (lv_at hl 1 rfl) ?_
      refine lv_iconst (v := 1) hx hb dK_openPool_65 (by decide) ?_
      obtain ⟨a66, ea66, hf⟩ := kb1 hf
      refine kr_iastore (σ' := (uK_poolAges s59 a66)) hx hb hK hP hD hS 12 0 rfl rfl ea66 (wK_poolAges q k cI cJ _ _) dK_openPool_66 (fun H locs hP hD hS => ?_)
      generalize (uK_poolAges s59 a66) = s66 at hf hP hD
      refine lv_aload_n hx hb dK_openPool_67 rfl (lv_at hl 0 rfl) ?_
      refine gK_poolLastAge hx hb hown hts hK hP dK_openPool_68 ?_
      refine lv_iload_n hx hb dK_openPool_71 rfl (lv_at hl 1 rfl) ?_
      refine lv_iload_n hx hb dK_openPool_72 rfl (lv_at hl 2 rfl) ?_
      obtain ⟨a73, ea73, hf⟩ := kb1 hf
      refine kr_iastore (σ' := (uK_poolLastAge s66 a73)) hx hb hK hP hD hS 13 0 rfl rfl ea73 (wK_poolLastAge q k cI cJ _ _) dK_openPool_73 (fun H locs hP hD hS => ?_)
      generalize (uK_poolLastAge s66 a73) = s73 at hf hP hD
      exact kr_vret C0 hK hP hD hS (Option.some.inj hf) dK_openPool_74
    · have hf := (if_neg c11).symm.trans hf
      refine lv_iload_n hx hb dK_openPool_14 rfl (lv_at hl 3 rfl) ?_
      refine lv_iload hx hb dK_openPool_15 (lv_at hl 4 rfl) ?_
      refine lv_aload_n hx hb dK_openPool_17 rfl (lv_at hl 0 rfl) ?_
      refine gK_readings hx hb hown hts hK hP dK_openPool_18 ?_
      refine lv_aload_n hx hb dK_openPool_21 rfl (lv_at hl 0 rfl) ?_
      refine lv_aload_n hx hb dK_openPool_22 rfl (lv_at hl 0 rfl) ?_
      refine gK_chosenRow hx hb hown hts hK hP dK_openPool_23 ?_
      refine lv_iload hx hb dK_openPool_26 (lv_at hl 4 rfl) ?_
      refine lv_iload_n hx hb dK_openPool_28 rfl (lv_at hl 2 rfl) ?_
      refine kr_callVi (av := [.int (sK_chosenRow σ), .int x4, .int x2]) ⟨hx, hb, hml, hown, hts⟩ (mK_cell l D q k cI cJ _ σ (sK_chosenRow σ) x4 x2 _ rfl) (cwV 3 hts (kgood_V TK_good (by decide +kernel)) rfl rfl rfl (by decide +kernel) ⟨Nat.le_of_ble_eq_true rfl, Nat.le_of_ble_eq_true rfl⟩) hK hP hD hS hA (ci := 0) (q0 := 0) rfl rfl rfl hl.1 rfl (Nat.le_of_ble_eq_true rfl) dK_openPool_29 ⟨Nat.le_of_ble_eq_true rfl, Nat.le_of_ble_eq_true rfl⟩ (fun H locs hP hD hS => ?_)
      obtain ⟨v32, ev32, hf⟩ := kb1 hf
      refine kr_iaload hx hb hK hP 1 0 rfl rfl ev32 dK_openPool_32 ?_
      refine lv_imul hx hb dK_openPool_33 ?_
      refine lv_iadd hx hb dK_openPool_34 ?_
      refine lv_istore_n (lv' := [(3, .int (x3 + (x4 * v32))), (0, .ref (q 0)), (1, .int x1), (2, .int x2), (4, .int x4)]) hx hb dK_openPool_35 rfl hl (by decide) rfl (fun ls hl => ?_)
      refine lv_iinc (v := (x4 + 1)) (lv' := [(4, .int (x4 + 1)), (3, .int (x3 + (x4 * v32))), (0, .ref (q 0)), (1, .int x1), (2, .int x2)]) hx hb dK_openPool_36 hl (k := 4) rfl rfl (by decide) rfl (fun ls hl => ?_)
      refine lv_goto (tgt := 5) hx hb dK_openPool_39 (by decide) ?_
      exact ih σ x1 x2 (x3 + (x4 * v32)) (x4 + 1) _ _ ls hf (lv_sub hl [2, 3, 4, 1, 0] rfl) hP hD hS
set_option maxHeartbeats 400000 in
set_option maxRecDepth 100000 in
theorem mK_openPool (l : Launch) (D : va_G) (q : Nat → Nat) (k : kK) (cI cJ : ClassId) (sz : Nat) (fu : Nat) (σ : sK) (σ' : sK) (x1 : Int32) (x2 : Int32) (hf : fK_openPool fu k σ x1 x2 = some σ') : Met l yK_openPool (.code yK_openPool cK_openPool 5 none :: TK) ({ frames := 2, cells := 0, slots := 0, locals := 46 }) (kPre D cl0 [(cI, .int), (cJ, .long)] (wdK q k cI cJ) sz σ [.ref (q 0), .int x1, .int x2]) (kQv D cl0 [(cI, .int), (cJ, .long)] (wdK q k cI cJ) (va_A (wdK q k cI cJ σ) sz) σ') 0 0 (va_A (wdK q k cI cJ σ) sz) := by
  refine kr_start (own := RK) (by decide) rfl (Nat.le_of_ble_eq_true rfl) ?_
  intro p e s m args below meth c ls C0 hsz hK hP hD hl
  subst hsz
  obtain ⟨hx, hb, hr, hml, hown, hts, hlocks⟩ := id C0
  have hA : ∀ z : Nat, s.heap.size ≤ z → va_A (wdK q k cI cJ σ) s.heap.size z := fun z h => Or.inr h
  generalize va_A (wdK q k cI cJ σ) s.heap.size = A at hD hA ⊢
  have hS : va_S A s.heap s.heap [] := va_S.rf
  have hl : lv_has ls 5 [(0, .ref (q 0)), (1, .int x1), (2, .int x2)] := hl
  unfold fK_openPool at hf
  refine lv_iconst (v := 0) hx hb dK_openPool_0 (by decide) ?_
  refine lv_istore_n (lv' := [(3, .int 0), (0, .ref (q 0)), (1, .int x1), (2, .int x2)]) hx hb dK_openPool_1 rfl hl (by decide) rfl (fun ls hl => ?_)
  refine lv_iconst (v := 0) hx hb dK_openPool_2 (by decide) ?_
  refine lv_istore (lv' := [(4, .int 0), (3, .int 0), (0, .ref (q 0)), (1, .int x1), (2, .int x2)]) hx hb dK_openPool_3 hl (by decide) rfl (fun ls hl => ?_)
  exact tK_openPool_5 C0 hK hA fu σ x1 x2 0 0 _ _ ls hf (lv_sub hl [2, 3, 4, 1, 0] rfl) hP hD hS
theorem dK_doesNotRise_0 : decode cK_doesNotRise 0 = .ok (.aload_n 0, 1) := by decide +kernel
theorem dK_doesNotRise_1 : decode cK_doesNotRise 1 = .ok (.getfield 61, 3) := by decide +kernel
theorem dK_doesNotRise_4 : decode cK_doesNotRise 4 = .ok (.iload_n 1, 1) := by decide +kernel
theorem dK_doesNotRise_5 : decode cK_doesNotRise 5 = .ok (.iaload, 1) := by decide +kernel
theorem dK_doesNotRise_6 : decode cK_doesNotRise 6 = .ok (.aload_n 0, 1) := by decide +kernel
theorem dK_doesNotRise_7 : decode cK_doesNotRise 7 = .ok (.getfield 64, 3) := by decide +kernel
theorem dK_doesNotRise_10 : decode cK_doesNotRise 10 = .ok (.iload_n 1, 1) := by decide +kernel
theorem dK_doesNotRise_11 : decode cK_doesNotRise 11 = .ok (.iconst 1, 1) := by decide +kernel
theorem dK_doesNotRise_12 : decode cK_doesNotRise 12 = .ok (.isub, 1) := by decide +kernel
theorem dK_doesNotRise_13 : decode cK_doesNotRise 13 = .ok (.iaload, 1) := by decide +kernel
theorem dK_doesNotRise_14 : decode cK_doesNotRise 14 = .ok (.imul, 1) := by decide +kernel
theorem dK_doesNotRise_15 : decode cK_doesNotRise 15 = .ok (.aload_n 0, 1) := by decide +kernel
theorem dK_doesNotRise_16 : decode cK_doesNotRise 16 = .ok (.getfield 61, 3) := by decide +kernel
theorem dK_doesNotRise_19 : decode cK_doesNotRise 19 = .ok (.iload_n 1, 1) := by decide +kernel
theorem dK_doesNotRise_20 : decode cK_doesNotRise 20 = .ok (.iconst 1, 1) := by decide +kernel
theorem dK_doesNotRise_21 : decode cK_doesNotRise 21 = .ok (.isub, 1) := by decide +kernel
theorem dK_doesNotRise_22 : decode cK_doesNotRise 22 = .ok (.iaload, 1) := by decide +kernel
theorem dK_doesNotRise_23 : decode cK_doesNotRise 23 = .ok (.aload_n 0, 1) := by decide +kernel
theorem dK_doesNotRise_24 : decode cK_doesNotRise 24 = .ok (.getfield 64, 3) := by decide +kernel
theorem dK_doesNotRise_27 : decode cK_doesNotRise 27 = .ok (.iload_n 1, 1) := by decide +kernel
theorem dK_doesNotRise_28 : decode cK_doesNotRise 28 = .ok (.iaload, 1) := by decide +kernel
theorem dK_doesNotRise_29 : decode cK_doesNotRise 29 = .ok (.imul, 1) := by decide +kernel
theorem dK_doesNotRise_30 : decode cK_doesNotRise 30 = .ok (.if_icmp .gt (7), 3) := by decide +kernel
theorem dK_doesNotRise_33 : decode cK_doesNotRise 33 = .ok (.iconst 1, 1) := by decide +kernel
theorem dK_doesNotRise_34 : decode cK_doesNotRise 34 = .ok (.goto (4), 3) := by decide +kernel
theorem dK_doesNotRise_37 : decode cK_doesNotRise 37 = .ok (.iconst 0, 1) := by decide +kernel
theorem dK_doesNotRise_38 : decode cK_doesNotRise 38 = .ok (.ireturn, 1) := by decide +kernel
set_option maxHeartbeats 400000 in
set_option maxRecDepth 100000 in
theorem mK_doesNotRise (l : Launch) (D : va_G) (q : Nat → Nat) (k : kK) (cI cJ : ClassId) (sz : Nat) (σ : sK) (x1 : Int32) (r : Int32) (hf : fK_doesNotRise k σ x1 = some r) : Met l yK_doesNotRise (.code yK_doesNotRise cK_doesNotRise 2 (some .boolean) :: TK) ({ frames := 0, cells := 0, slots := 0, locals := 0 }) (kPre D cl0 [(cI, .int), (cJ, .long)] (wdK q k cI cJ) sz σ [.ref (q 0), .int x1]) (kQi D cl0 [(cI, .int), (cJ, .long)] (wdK q k cI cJ) (va_A (wdK q k cI cJ σ) sz) r σ) 0 0 (va_A (wdK q k cI cJ σ) sz) := by
  refine kr_start (own := RK) (by decide) rfl (Nat.le_of_ble_eq_true rfl) ?_
  intro p e s m args below meth c ls C0 hsz hK hP hD hl
  subst hsz
  obtain ⟨hx, hb, hr, hml, hown, hts, hlocks⟩ := id C0
  have hA : ∀ z : Nat, s.heap.size ≤ z → va_A (wdK q k cI cJ σ) s.heap.size z := fun z h => Or.inr h
  generalize va_A (wdK q k cI cJ σ) s.heap.size = A at hD hA ⊢
  have hS : va_S A s.heap s.heap [] := va_S.rf
  have hl : lv_has ls 2 [(0, .ref (q 0)), (1, .int x1)] := hl
  unfold fK_doesNotRise at hf
  refine lv_aload_n hx hb dK_doesNotRise_0 rfl (lv_at hl 0 rfl) ?_
  refine gK_poolSum hx hb hown hts hK hP dK_doesNotRise_1 ?_
  refine lv_iload_n hx hb dK_doesNotRise_4 rfl (lv_at hl 1 rfl) ?_
  obtain ⟨v5, ev5, hf⟩ := kb1 hf
  refine kr_iaload hx hb hK hP 10 0 rfl rfl ev5 dK_doesNotRise_5 ?_
  refine lv_aload_n hx hb dK_doesNotRise_6 rfl (lv_at hl 0 rfl) ?_
  refine gK_poolSize hx hb hown hts hK hP dK_doesNotRise_7 ?_
  refine lv_iload_n hx hb dK_doesNotRise_10 rfl (lv_at hl 1 rfl) ?_
  refine lv_iconst (v := 1) hx hb dK_doesNotRise_11 (by decide) ?_
  refine lv_isub hx hb dK_doesNotRise_12 ?_
  obtain ⟨v13, ev13, hf⟩ := kb1 hf
  refine kr_iaload hx hb hK hP 11 0 rfl rfl ev13 dK_doesNotRise_13 ?_
  refine lv_imul hx hb dK_doesNotRise_14 ?_
  refine lv_aload_n hx hb dK_doesNotRise_15 rfl (lv_at hl 0 rfl) ?_
  refine gK_poolSum hx hb hown hts hK hP dK_doesNotRise_16 ?_
  refine lv_iload_n hx hb dK_doesNotRise_19 rfl (lv_at hl 1 rfl) ?_
  refine lv_iconst (v := 1) hx hb dK_doesNotRise_20 (by decide) ?_
  refine lv_isub hx hb dK_doesNotRise_21 ?_
  obtain ⟨v22, ev22, hf⟩ := kb1 hf
  refine kr_iaload hx hb hK hP 10 0 rfl rfl ev22 dK_doesNotRise_22 ?_
  refine lv_aload_n hx hb dK_doesNotRise_23 rfl (lv_at hl 0 rfl) ?_
  refine gK_poolSize hx hb hown hts hK hP dK_doesNotRise_24 ?_
  refine lv_iload_n hx hb dK_doesNotRise_27 rfl (lv_at hl 1 rfl) ?_
  obtain ⟨v28, ev28, hf⟩ := kb1 hf
  refine kr_iaload hx hb hK hP 11 0 rfl rfl ev28 dK_doesNotRise_28 ?_
  refine lv_imul hx hb dK_doesNotRise_29 ?_
  refine lv_icmp_gt (tgt := 37) hx hb dK_doesNotRise_30 (by decide) (fun c30 => ?_) (fun c30 => ?_)
  · have hf := (if_pos c30).symm.trans hf
    refine lv_iconst (v := 0) hx hb dK_doesNotRise_37 (by decide) ?_
    exact kr_zret C0 hK hP hD hS rfl (Option.some.inj hf) rfl dK_doesNotRise_38
  · have hf := (if_neg c30).symm.trans hf
    refine lv_iconst (v := 1) hx hb dK_doesNotRise_33 (by decide) ?_
    refine lv_goto (tgt := 38) hx hb dK_doesNotRise_34 (by decide) ?_
    exact kr_zret C0 hK hP hD hS rfl (Option.some.inj hf) rfl dK_doesNotRise_38
theorem dK_joinWithPoolBefore_0 : decode cK_joinWithPoolBefore 0 = .ok (.aload_n 0, 1) := by decide +kernel
theorem dK_joinWithPoolBefore_1 : decode cK_joinWithPoolBefore 1 = .ok (.getfield 61, 3) := by decide +kernel
theorem dK_joinWithPoolBefore_4 : decode cK_joinWithPoolBefore 4 = .ok (.iload_n 1, 1) := by decide +kernel
theorem dK_joinWithPoolBefore_5 : decode cK_joinWithPoolBefore 5 = .ok (.iconst 1, 1) := by decide +kernel
theorem dK_joinWithPoolBefore_6 : decode cK_joinWithPoolBefore 6 = .ok (.isub, 1) := by decide +kernel
theorem dK_joinWithPoolBefore_7 : decode cK_joinWithPoolBefore 7 = .ok (.dup2, 1) := by decide +kernel
theorem dK_joinWithPoolBefore_8 : decode cK_joinWithPoolBefore 8 = .ok (.iaload, 1) := by decide +kernel
theorem dK_joinWithPoolBefore_9 : decode cK_joinWithPoolBefore 9 = .ok (.aload_n 0, 1) := by decide +kernel
theorem dK_joinWithPoolBefore_10 : decode cK_joinWithPoolBefore 10 = .ok (.getfield 61, 3) := by decide +kernel
theorem dK_joinWithPoolBefore_13 : decode cK_joinWithPoolBefore 13 = .ok (.iload_n 1, 1) := by decide +kernel
theorem dK_joinWithPoolBefore_14 : decode cK_joinWithPoolBefore 14 = .ok (.iaload, 1) := by decide +kernel
theorem dK_joinWithPoolBefore_15 : decode cK_joinWithPoolBefore 15 = .ok (.iadd, 1) := by decide +kernel
theorem dK_joinWithPoolBefore_16 : decode cK_joinWithPoolBefore 16 = .ok (.iastore, 1) := by decide +kernel
theorem dK_joinWithPoolBefore_17 : decode cK_joinWithPoolBefore 17 = .ok (.aload_n 0, 1) := by decide +kernel
theorem dK_joinWithPoolBefore_18 : decode cK_joinWithPoolBefore 18 = .ok (.getfield 64, 3) := by decide +kernel
theorem dK_joinWithPoolBefore_21 : decode cK_joinWithPoolBefore 21 = .ok (.iload_n 1, 1) := by decide +kernel
theorem dK_joinWithPoolBefore_22 : decode cK_joinWithPoolBefore 22 = .ok (.iconst 1, 1) := by decide +kernel
theorem dK_joinWithPoolBefore_23 : decode cK_joinWithPoolBefore 23 = .ok (.isub, 1) := by decide +kernel
theorem dK_joinWithPoolBefore_24 : decode cK_joinWithPoolBefore 24 = .ok (.dup2, 1) := by decide +kernel
theorem dK_joinWithPoolBefore_25 : decode cK_joinWithPoolBefore 25 = .ok (.iaload, 1) := by decide +kernel
theorem dK_joinWithPoolBefore_26 : decode cK_joinWithPoolBefore 26 = .ok (.aload_n 0, 1) := by decide +kernel
theorem dK_joinWithPoolBefore_27 : decode cK_joinWithPoolBefore 27 = .ok (.getfield 64, 3) := by decide +kernel
theorem dK_joinWithPoolBefore_30 : decode cK_joinWithPoolBefore 30 = .ok (.iload_n 1, 1) := by decide +kernel
theorem dK_joinWithPoolBefore_31 : decode cK_joinWithPoolBefore 31 = .ok (.iaload, 1) := by decide +kernel
theorem dK_joinWithPoolBefore_32 : decode cK_joinWithPoolBefore 32 = .ok (.iadd, 1) := by decide +kernel
theorem dK_joinWithPoolBefore_33 : decode cK_joinWithPoolBefore 33 = .ok (.iastore, 1) := by decide +kernel
theorem dK_joinWithPoolBefore_34 : decode cK_joinWithPoolBefore 34 = .ok (.aload_n 0, 1) := by decide +kernel
theorem dK_joinWithPoolBefore_35 : decode cK_joinWithPoolBefore 35 = .ok (.getfield 67, 3) := by decide +kernel
theorem dK_joinWithPoolBefore_38 : decode cK_joinWithPoolBefore 38 = .ok (.iload_n 1, 1) := by decide +kernel
theorem dK_joinWithPoolBefore_39 : decode cK_joinWithPoolBefore 39 = .ok (.iconst 1, 1) := by decide +kernel
theorem dK_joinWithPoolBefore_40 : decode cK_joinWithPoolBefore 40 = .ok (.isub, 1) := by decide +kernel
theorem dK_joinWithPoolBefore_41 : decode cK_joinWithPoolBefore 41 = .ok (.dup2, 1) := by decide +kernel
theorem dK_joinWithPoolBefore_42 : decode cK_joinWithPoolBefore 42 = .ok (.iaload, 1) := by decide +kernel
theorem dK_joinWithPoolBefore_43 : decode cK_joinWithPoolBefore 43 = .ok (.aload_n 0, 1) := by decide +kernel
theorem dK_joinWithPoolBefore_44 : decode cK_joinWithPoolBefore 44 = .ok (.getfield 67, 3) := by decide +kernel
theorem dK_joinWithPoolBefore_47 : decode cK_joinWithPoolBefore 47 = .ok (.iload_n 1, 1) := by decide +kernel
theorem dK_joinWithPoolBefore_48 : decode cK_joinWithPoolBefore 48 = .ok (.iaload, 1) := by decide +kernel
theorem dK_joinWithPoolBefore_49 : decode cK_joinWithPoolBefore 49 = .ok (.iadd, 1) := by decide +kernel
theorem dK_joinWithPoolBefore_50 : decode cK_joinWithPoolBefore 50 = .ok (.iastore, 1) := by decide +kernel
theorem dK_joinWithPoolBefore_51 : decode cK_joinWithPoolBefore 51 = .ok (.aload_n 0, 1) := by decide +kernel
theorem dK_joinWithPoolBefore_52 : decode cK_joinWithPoolBefore 52 = .ok (.getfield 70, 3) := by decide +kernel
theorem dK_joinWithPoolBefore_55 : decode cK_joinWithPoolBefore 55 = .ok (.iload_n 1, 1) := by decide +kernel
theorem dK_joinWithPoolBefore_56 : decode cK_joinWithPoolBefore 56 = .ok (.iconst 1, 1) := by decide +kernel
theorem dK_joinWithPoolBefore_57 : decode cK_joinWithPoolBefore 57 = .ok (.isub, 1) := by decide +kernel
theorem dK_joinWithPoolBefore_58 : decode cK_joinWithPoolBefore 58 = .ok (.aload_n 0, 1) := by decide +kernel
theorem dK_joinWithPoolBefore_59 : decode cK_joinWithPoolBefore 59 = .ok (.getfield 70, 3) := by decide +kernel
theorem dK_joinWithPoolBefore_62 : decode cK_joinWithPoolBefore 62 = .ok (.iload_n 1, 1) := by decide +kernel
theorem dK_joinWithPoolBefore_63 : decode cK_joinWithPoolBefore 63 = .ok (.iaload, 1) := by decide +kernel
theorem dK_joinWithPoolBefore_64 : decode cK_joinWithPoolBefore 64 = .ok (.iastore, 1) := by decide +kernel
theorem dK_joinWithPoolBefore_65 : decode cK_joinWithPoolBefore 65 = .ok (.return_, 1) := by decide +kernel
set_option maxHeartbeats 400000 in
set_option maxRecDepth 100000 in
theorem mK_joinWithPoolBefore (l : Launch) (D : va_G) (q : Nat → Nat) (k : kK) (cI cJ : ClassId) (sz : Nat) (σ : sK) (σ' : sK) (x1 : Int32) (hf : fK_joinWithPoolBefore k σ x1 = some σ') : Met l yK_joinWithPoolBefore (.code yK_joinWithPoolBefore cK_joinWithPoolBefore 2 none :: TK) ({ frames := 0, cells := 0, slots := 0, locals := 0 }) (kPre D cl0 [(cI, .int), (cJ, .long)] (wdK q k cI cJ) sz σ [.ref (q 0), .int x1]) (kQv D cl0 [(cI, .int), (cJ, .long)] (wdK q k cI cJ) (va_A (wdK q k cI cJ σ) sz) σ') 0 0 (va_A (wdK q k cI cJ σ) sz) := by
  refine kr_start (own := RK) (by decide) rfl (Nat.le_of_ble_eq_true rfl) ?_
  intro p e s m args below meth c ls C0 hsz hK hP hD hl
  subst hsz
  obtain ⟨hx, hb, hr, hml, hown, hts, hlocks⟩ := id C0
  have hA : ∀ z : Nat, s.heap.size ≤ z → va_A (wdK q k cI cJ σ) s.heap.size z := fun z h => Or.inr h
  generalize va_A (wdK q k cI cJ σ) s.heap.size = A at hD hA ⊢
  have hS : va_S A s.heap s.heap [] := va_S.rf
  have hl : lv_has ls 2 [(0, .ref (q 0)), (1, .int x1)] := hl
  unfold fK_joinWithPoolBefore at hf
  refine lv_aload_n hx hb dK_joinWithPoolBefore_0 rfl (lv_at hl 0 rfl) ?_
  refine gK_poolSum hx hb hown hts hK hP dK_joinWithPoolBefore_1 ?_
  refine lv_iload_n hx hb dK_joinWithPoolBefore_4 rfl (lv_at hl 1 rfl) ?_
  refine lv_iconst (v := 1) hx hb dK_joinWithPoolBefore_5 (by decide) ?_
  refine lv_isub hx hb dK_joinWithPoolBefore_6 ?_
  refine lv_dup2_11 hx hb dK_joinWithPoolBefore_7 rfl rfl ?_
  obtain ⟨v8, ev8, hf⟩ := kb1 hf
  refine kr_iaload hx hb hK hP 10 0 rfl rfl ev8 dK_joinWithPoolBefore_8 ?_
  refine lv_aload_n hx hb dK_joinWithPoolBefore_9 rfl (lv_at hl 0 rfl) ?_
  refine gK_poolSum hx hb hown hts hK hP dK_joinWithPoolBefore_10 ?_
  refine lv_iload_n hx hb dK_joinWithPoolBefore_13 rfl (lv_at hl 1 rfl) ?_
  obtain ⟨v14, ev14, hf⟩ := kb1 hf
  refine kr_iaload hx hb hK hP 10 0 rfl rfl ev14 dK_joinWithPoolBefore_14 ?_
  refine lv_iadd hx hb dK_joinWithPoolBefore_15 ?_
  obtain ⟨a16, ea16, hf⟩ := kb1 hf
  refine kr_iastore (σ' := (uK_poolSum σ a16)) hx hb hK hP hD hS 10 0 rfl rfl ea16 (wK_poolSum q k cI cJ _ _) dK_joinWithPoolBefore_16 (fun H locs hP hD hS => ?_)
  generalize (uK_poolSum σ a16) = s16 at hf hP hD
  refine lv_aload_n hx hb dK_joinWithPoolBefore_17 rfl (lv_at hl 0 rfl) ?_
  refine gK_poolSize hx hb hown hts hK hP dK_joinWithPoolBefore_18 ?_
  refine lv_iload_n hx hb dK_joinWithPoolBefore_21 rfl (lv_at hl 1 rfl) ?_
  refine lv_iconst (v := 1) hx hb dK_joinWithPoolBefore_22 (by decide) ?_
  refine lv_isub hx hb dK_joinWithPoolBefore_23 ?_
  refine lv_dup2_11 hx hb dK_joinWithPoolBefore_24 rfl rfl ?_
  obtain ⟨v25, ev25, hf⟩ := kb1 hf
  refine kr_iaload hx hb hK hP 11 0 rfl rfl ev25 dK_joinWithPoolBefore_25 ?_
  refine lv_aload_n hx hb dK_joinWithPoolBefore_26 rfl (lv_at hl 0 rfl) ?_
  refine gK_poolSize hx hb hown hts hK hP dK_joinWithPoolBefore_27 ?_
  refine lv_iload_n hx hb dK_joinWithPoolBefore_30 rfl (lv_at hl 1 rfl) ?_
  obtain ⟨v31, ev31, hf⟩ := kb1 hf
  refine kr_iaload hx hb hK hP 11 0 rfl rfl ev31 dK_joinWithPoolBefore_31 ?_
  refine lv_iadd hx hb dK_joinWithPoolBefore_32 ?_
  obtain ⟨a33, ea33, hf⟩ := kb1 hf
  refine kr_iastore (σ' := (uK_poolSize s16 a33)) hx hb hK hP hD hS 11 0 rfl rfl ea33 (wK_poolSize q k cI cJ _ _) dK_joinWithPoolBefore_33 (fun H locs hP hD hS => ?_)
  generalize (uK_poolSize s16 a33) = s33 at hf hP hD
  refine lv_aload_n hx hb dK_joinWithPoolBefore_34 rfl (lv_at hl 0 rfl) ?_
  refine gK_poolAges hx hb hown hts hK hP dK_joinWithPoolBefore_35 ?_
  refine lv_iload_n hx hb dK_joinWithPoolBefore_38 rfl (lv_at hl 1 rfl) ?_
  refine lv_iconst (v := 1) hx hb dK_joinWithPoolBefore_39 (by decide) ?_
  refine lv_isub hx hb dK_joinWithPoolBefore_40 ?_
  refine lv_dup2_11 hx hb dK_joinWithPoolBefore_41 rfl rfl ?_
  obtain ⟨v42, ev42, hf⟩ := kb1 hf
  refine kr_iaload hx hb hK hP 12 0 rfl rfl ev42 dK_joinWithPoolBefore_42 ?_
  refine lv_aload_n hx hb dK_joinWithPoolBefore_43 rfl (lv_at hl 0 rfl) ?_
  refine gK_poolAges hx hb hown hts hK hP dK_joinWithPoolBefore_44 ?_
  refine lv_iload_n hx hb dK_joinWithPoolBefore_47 rfl (lv_at hl 1 rfl) ?_
  obtain ⟨v48, ev48, hf⟩ := kb1 hf
  refine kr_iaload hx hb hK hP 12 0 rfl rfl ev48 dK_joinWithPoolBefore_48 ?_
  refine lv_iadd hx hb dK_joinWithPoolBefore_49 ?_
  obtain ⟨a50, ea50, hf⟩ := kb1 hf
  refine kr_iastore (σ' := (uK_poolAges s33 a50)) hx hb hK hP hD hS 12 0 rfl rfl ea50 (wK_poolAges q k cI cJ _ _) dK_joinWithPoolBefore_50 (fun H locs hP hD hS => ?_)
  generalize (uK_poolAges s33 a50) = s50 at hf hP hD
  refine lv_aload_n hx hb dK_joinWithPoolBefore_51 rfl (lv_at hl 0 rfl) ?_
  refine gK_poolLastAge hx hb hown hts hK hP dK_joinWithPoolBefore_52 ?_
  refine lv_iload_n hx hb dK_joinWithPoolBefore_55 rfl (lv_at hl 1 rfl) ?_
  refine lv_iconst (v := 1) hx hb dK_joinWithPoolBefore_56 (by decide) ?_
  refine lv_isub hx hb dK_joinWithPoolBefore_57 ?_
  refine lv_aload_n hx hb dK_joinWithPoolBefore_58 rfl (lv_at hl 0 rfl) ?_
  refine gK_poolLastAge hx hb hown hts hK hP dK_joinWithPoolBefore_59 ?_
  refine lv_iload_n hx hb dK_joinWithPoolBefore_62 rfl (lv_at hl 1 rfl) ?_
  obtain ⟨v63, ev63, hf⟩ := kb1 hf
  refine kr_iaload hx hb hK hP 13 0 rfl rfl ev63 dK_joinWithPoolBefore_63 ?_
  obtain ⟨a64, ea64, hf⟩ := kb1 hf
  refine kr_iastore (σ' := (uK_poolLastAge s50 a64)) hx hb hK hP hD hS 13 0 rfl rfl ea64 (wK_poolLastAge q k cI cJ _ _) dK_joinWithPoolBefore_64 (fun H locs hP hD hS => ?_)
  generalize (uK_poolLastAge s50 a64) = s64 at hf hP hD
  exact kr_vret C0 hK hP hD hS (Option.some.inj hf) dK_joinWithPoolBefore_65
theorem dK_makePools_0 : decode cK_makePools 0 = .ok (.iconst 0, 1) := by decide +kernel
theorem dK_makePools_1 : decode cK_makePools 1 = .ok (.istore_n 1, 1) := by decide +kernel
theorem dK_makePools_2 : decode cK_makePools 2 = .ok (.iconst 0, 1) := by decide +kernel
theorem dK_makePools_3 : decode cK_makePools 3 = .ok (.istore_n 2, 1) := by decide +kernel
theorem dK_makePools_4 : decode cK_makePools 4 = .ok (.iload_n 2, 1) := by decide +kernel
theorem dK_makePools_5 : decode cK_makePools 5 = .ok (.aload_n 0, 1) := by decide +kernel
theorem dK_makePools_6 : decode cK_makePools 6 = .ok (.getfield 29, 3) := by decide +kernel
theorem dK_makePools_9 : decode cK_makePools 9 = .ok (.if_icmp .ge (57), 3) := by decide +kernel
theorem dK_makePools_12 : decode cK_makePools 12 = .ok (.aload_n 0, 1) := by decide +kernel
theorem dK_makePools_13 : decode cK_makePools 13 = .ok (.iload_n 2, 1) := by decide +kernel
theorem dK_makePools_14 : decode cK_makePools 14 = .ok (.invokevirtual 183, 3) := by decide +kernel
theorem dK_makePools_17 : decode cK_makePools 17 = .ok (.ifCond .ne (6), 3) := by decide +kernel
theorem dK_makePools_20 : decode cK_makePools 20 = .ok (.goto (40), 3) := by decide +kernel
theorem dK_makePools_23 : decode cK_makePools 23 = .ok (.aload_n 0, 1) := by decide +kernel
theorem dK_makePools_24 : decode cK_makePools 24 = .ok (.iload_n 1, 1) := by decide +kernel
theorem dK_makePools_25 : decode cK_makePools 25 = .ok (.iload_n 2, 1) := by decide +kernel
theorem dK_makePools_26 : decode cK_makePools 26 = .ok (.invokevirtual 189, 3) := by decide +kernel
theorem dK_makePools_29 : decode cK_makePools 29 = .ok (.iinc 1 (1), 3) := by decide +kernel
theorem dK_makePools_32 : decode cK_makePools 32 = .ok (.iload_n 1, 1) := by decide +kernel
theorem dK_makePools_33 : decode cK_makePools 33 = .ok (.iconst 1, 1) := by decide +kernel
theorem dK_makePools_34 : decode cK_makePools 34 = .ok (.if_icmp .le (26), 3) := by decide +kernel
theorem dK_makePools_37 : decode cK_makePools 37 = .ok (.aload_n 0, 1) := by decide +kernel
theorem dK_makePools_38 : decode cK_makePools 38 = .ok (.iload_n 1, 1) := by decide +kernel
theorem dK_makePools_39 : decode cK_makePools 39 = .ok (.iconst 1, 1) := by decide +kernel
theorem dK_makePools_40 : decode cK_makePools 40 = .ok (.isub, 1) := by decide +kernel
theorem dK_makePools_41 : decode cK_makePools 41 = .ok (.invokevirtual 192, 3) := by decide +kernel
theorem dK_makePools_44 : decode cK_makePools 44 = .ok (.ifCond .eq (16), 3) := by decide +kernel
theorem dK_makePools_47 : decode cK_makePools 47 = .ok (.aload_n 0, 1) := by decide +kernel
theorem dK_makePools_48 : decode cK_makePools 48 = .ok (.iload_n 1, 1) := by decide +kernel
theorem dK_makePools_49 : decode cK_makePools 49 = .ok (.iconst 1, 1) := by decide +kernel
theorem dK_makePools_50 : decode cK_makePools 50 = .ok (.isub, 1) := by decide +kernel
theorem dK_makePools_51 : decode cK_makePools 51 = .ok (.invokevirtual 195, 3) := by decide +kernel
theorem dK_makePools_54 : decode cK_makePools 54 = .ok (.iinc 1 (-1), 3) := by decide +kernel
theorem dK_makePools_57 : decode cK_makePools 57 = .ok (.goto (-25), 3) := by decide +kernel
theorem dK_makePools_60 : decode cK_makePools 60 = .ok (.iinc 2 (1), 3) := by decide +kernel
theorem dK_makePools_63 : decode cK_makePools 63 = .ok (.goto (-59), 3) := by decide +kernel
theorem dK_makePools_66 : decode cK_makePools 66 = .ok (.iload_n 1, 1) := by decide +kernel
theorem dK_makePools_67 : decode cK_makePools 67 = .ok (.ireturn, 1) := by decide +kernel
set_option maxHeartbeats 400000 in
set_option maxRecDepth 100000 in
theorem tK_makePools_32 {p : Program} {l : Launch} {e : Env} {s : State} {m : MethodId} {args : Array Value} {below : List Frame} {meth : Method} {c : Code} {D : va_G} {A : Nat → Prop} {q : Nat → Nat} {k : kK} {cI cJ : ClassId} {r : Int32} {σ' : sK} {fu : Nat} {h4 : sK → Int32 → Int32 → Option (Int32 × sK)} (C0 : Cx p s m args meth c cK_makePools 3 (some .int) RK TK) (hK : va_K D cl0 [(cI, .int), (cJ, .long)] s) (hA : ∀ z, s.heap.size ≤ z → A z) (ih4 : ∀ (σ : sK) (x1 : Int32) (x2 : Int32)(H : Heap) (locs : List Loc) (ls : Array Slot), h4 σ x1 x2 = some (r, σ') → lv_has ls 3 [(0, .ref (q 0)), (1, .int x1), (2, .int x2)] → va_P D cl0 (wdK q k cI cJ σ) H → va_D A (wdK q k cI cJ σ) → va_S A s.heap H locs → W p l e ({ frames := 3, cells := 0, slots := 0, locals := 70 }) s m args below meth c H locs 0 0 (MQ below (kQi D cl0 [(cI, .int), (cJ, .long)] (wdK q k cI cJ) A r σ') args s 0 0 A) (F0 m 4 ls [])) : ∀ n : Nat, ∀ (σ : sK) (x1 : Int32) (x2 : Int32)(H : Heap) (locs : List Loc) (ls : Array Slot), fK_makePools_32 fu k h4 n σ x1 x2 = some (r, σ') → lv_has ls 3 [(0, .ref (q 0)), (1, .int x1), (2, .int x2)] → va_P D cl0 (wdK q k cI cJ σ) H → va_D A (wdK q k cI cJ σ) → va_S A s.heap H locs → W p l e ({ frames := 3, cells := 0, slots := 0, locals := 70 }) s m args below meth c H locs 0 0 (MQ below (kQi D cl0 [(cI, .int), (cJ, .long)] (wdK q k cI cJ) A r σ') args s 0 0 A) (F0 m 32 ls []) := by
  obtain ⟨hx, hb, hr, hml, hown, hts, hlocks⟩ := id C0
  intro n
  induction n with
  | zero =>
    intro σ x1 x2 H locs ls hf hl hP hD hS
    cases hf
  | succ n ih =>
    intro σ x1 x2 H locs ls hf hl hP hD hS
    rw [fK_makePools_32] at hf
    refine lv_iload_n hx hb dK_makePools_32 rfl (lv_at hl 1 rfl) ?_
    refine lv_iconst (v := 1) hx hb dK_makePools_33 (by decide) ?_
    refine lv_icmp_le (tgt := 60) hx hb dK_makePools_34 (by decide) (fun c34 => ?_) (fun c34 => ?_)
    · have hf := (if_pos c34).symm.trans hf
      refine lv_iinc (v := (x2 + 1)) (lv' := [(2, .int (x2 + 1)), (0, .ref (q 0)), (1, .int x1)]) hx hb dK_makePools_60 hl (k := 2) rfl rfl (by decide) rfl (fun ls hl => ?_)
      refine lv_goto (tgt := 4) hx hb dK_makePools_63 (by decide) ?_
      exact ih4 σ x1 (x2 + 1) _ _ ls hf (lv_sub hl [1, 2, 0] rfl) hP hD hS
    · have hf := (if_neg c34).symm.trans hf
      refine lv_aload_n hx hb dK_makePools_37 rfl (lv_at hl 0 rfl) ?_
      refine lv_iload_n hx hb dK_makePools_38 rfl (lv_at hl 1 rfl) ?_
      refine lv_iconst (v := 1) hx hb dK_makePools_39 (by decide) ?_
      refine lv_isub hx hb dK_makePools_40 ?_
      obtain ⟨v41, ev41, hf⟩ := kb1 hf
      refine kr_callVi (av := [.int (x1 - 1)]) ⟨hx, hb, hml, hown, hts⟩ (mK_doesNotRise l D q k cI cJ _ σ (x1 - 1) v41 ev41) (cwV 1 hts (kgood_V TK_good (by decide +kernel)) rfl rfl rfl (by decide +kernel) ⟨Nat.le_of_ble_eq_true rfl, Nat.le_of_ble_eq_true rfl⟩) hK hP hD hS hA (ci := 0) (q0 := 0) rfl rfl rfl hl.1 rfl (Nat.le_of_ble_eq_true rfl) dK_makePools_41 ⟨Nat.le_of_ble_eq_true rfl, Nat.le_of_ble_eq_true rfl⟩ (fun H locs hP hD hS => ?_)
      refine lv_if_eq (tgt := 60) hx hb dK_makePools_44 (by decide) (fun c44 => ?_) (fun c44 => ?_)
      · have hf := (if_pos c44).symm.trans hf
        refine lv_iinc (v := (x2 + 1)) (lv' := [(2, .int (x2 + 1)), (0, .ref (q 0)), (1, .int x1)]) hx hb dK_makePools_60 hl (k := 2) rfl rfl (by decide) rfl (fun ls hl => ?_)
        refine lv_goto (tgt := 4) hx hb dK_makePools_63 (by decide) ?_
        exact ih4 σ x1 (x2 + 1) _ _ ls hf (lv_sub hl [1, 2, 0] rfl) hP hD hS
      · have hf := (if_neg c44).symm.trans hf
        refine lv_aload_n hx hb dK_makePools_47 rfl (lv_at hl 0 rfl) ?_
        refine lv_iload_n hx hb dK_makePools_48 rfl (lv_at hl 1 rfl) ?_
        refine lv_iconst (v := 1) hx hb dK_makePools_49 (by decide) ?_
        refine lv_isub hx hb dK_makePools_50 ?_
        obtain ⟨s51, es51, hf⟩ := kb1 hf
        refine kr_callVv (av := [.int (x1 - 1)]) ⟨hx, hb, hml, hown, hts⟩ (mK_joinWithPoolBefore l D q k cI cJ _ σ s51 (x1 - 1) es51) (cwV 1 hts (kgood_V TK_good (by decide +kernel)) rfl rfl rfl (by decide +kernel) ⟨Nat.le_of_ble_eq_true rfl, Nat.le_of_ble_eq_true rfl⟩) hK hP hD hS hA (ci := 0) (q0 := 0) rfl rfl rfl hl.1 rfl (Nat.le_of_ble_eq_true rfl) dK_makePools_51 ⟨Nat.le_of_ble_eq_true rfl, Nat.le_of_ble_eq_true rfl⟩ (fun H locs hP hD hS => ?_)
        refine lv_iinc (v := (x1 + (-1))) (lv' := [(1, .int (x1 + (-1))), (0, .ref (q 0)), (2, .int x2)]) hx hb dK_makePools_54 hl (k := 1) rfl rfl (by decide) rfl (fun ls hl => ?_)
        refine lv_goto (tgt := 32) hx hb dK_makePools_57 (by decide) ?_
        exact ih s51 (x1 + (-1)) x2 _ _ ls hf (lv_sub hl [1, 0, 2] rfl) hP hD hS
set_option maxHeartbeats 400000 in
set_option maxRecDepth 100000 in
theorem tK_makePools_4 {p : Program} {l : Launch} {e : Env} {s : State} {m : MethodId} {args : Array Value} {below : List Frame} {meth : Method} {c : Code} {D : va_G} {A : Nat → Prop} {q : Nat → Nat} {k : kK} {cI cJ : ClassId} {r : Int32} {σ' : sK} {fu : Nat} (C0 : Cx p s m args meth c cK_makePools 3 (some .int) RK TK) (hK : va_K D cl0 [(cI, .int), (cJ, .long)] s) (hA : ∀ z, s.heap.size ≤ z → A z) : ∀ n : Nat, ∀ (σ : sK) (x1 : Int32) (x2 : Int32)(H : Heap) (locs : List Loc) (ls : Array Slot), fK_makePools_4 fu k n σ x1 x2 = some (r, σ') → lv_has ls 3 [(0, .ref (q 0)), (1, .int x1), (2, .int x2)] → va_P D cl0 (wdK q k cI cJ σ) H → va_D A (wdK q k cI cJ σ) → va_S A s.heap H locs → W p l e ({ frames := 3, cells := 0, slots := 0, locals := 70 }) s m args below meth c H locs 0 0 (MQ below (kQi D cl0 [(cI, .int), (cJ, .long)] (wdK q k cI cJ) A r σ') args s 0 0 A) (F0 m 4 ls []) := by
  obtain ⟨hx, hb, hr, hml, hown, hts, hlocks⟩ := id C0
  intro n
  induction n with
  | zero =>
    intro σ x1 x2 H locs ls hf hl hP hD hS
    cases hf
  | succ n ih =>
    intro σ x1 x2 H locs ls hf hl hP hD hS
    rw [fK_makePools_4] at hf
    refine lv_iload_n hx hb dK_makePools_4 rfl (lv_at hl 2 rfl) ?_
    refine lv_aload_n hx hb dK_makePools_5 rfl (lv_at hl 0 rfl) ?_
    refine gK_ages hx hb hown hts hK hP dK_makePools_6 ?_
    refine lv_icmp_ge (tgt := 66) hx hb dK_makePools_9 (by decide) (fun c9 => ?_) (fun c9 => ?_)
    · have hf := (if_pos c9).symm.trans hf
      refine lv_iload_n hx hb dK_makePools_66 rfl (lv_at hl 1 rfl) ?_
      exact kr_iret C0 hK hP hD hS (congrArg Prod.fst (Option.some.inj hf)) (congrArg Prod.snd (Option.some.inj hf)) dK_makePools_67
    · have hf := (if_neg c9).symm.trans hf
      refine lv_aload_n hx hb dK_makePools_12 rfl (lv_at hl 0 rfl) ?_
      refine lv_iload_n hx hb dK_makePools_13 rfl (lv_at hl 2 rfl) ?_
      obtain ⟨v14, ev14, hf⟩ := kb1 hf
      refine kr_callVi (av := [.int x2]) ⟨hx, hb, hml, hown, hts⟩ (mK_readingsOfAge l D q k cI cJ _ fu σ x2 v14 ev14) (cwV 1 hts (kgood_V TK_good (by decide +kernel)) rfl rfl rfl (by decide +kernel) ⟨Nat.le_of_ble_eq_true rfl, Nat.le_of_ble_eq_true rfl⟩) hK hP hD hS hA (ci := 0) (q0 := 0) rfl rfl rfl hl.1 rfl (Nat.le_of_ble_eq_true rfl) dK_makePools_14 ⟨Nat.le_of_ble_eq_true rfl, Nat.le_of_ble_eq_true rfl⟩ (fun H locs hP hD hS => ?_)
      refine lv_if_ne (tgt := 23) hx hb dK_makePools_17 (by decide) (fun c17 => ?_) (fun c17 => ?_)
      · have hf := (if_neg c17).symm.trans hf
        refine lv_aload_n hx hb dK_makePools_23 rfl (lv_at hl 0 rfl) ?_
        refine lv_iload_n hx hb dK_makePools_24 rfl (lv_at hl 1 rfl) ?_
        refine lv_iload_n hx hb dK_makePools_25 rfl (lv_at hl 2 rfl) ?_
        obtain ⟨s26, es26, hf⟩ := kb1 hf
        refine kr_callVv (av := [.int x1, .int x2]) ⟨hx, hb, hml, hown, hts⟩ (mK_openPool l D q k cI cJ _ fu σ s26 x1 x2 es26) (cwV 2 hts (kgood_V TK_good (by decide +kernel)) rfl rfl rfl (by decide +kernel) ⟨Nat.le_of_ble_eq_true rfl, Nat.le_of_ble_eq_true rfl⟩) hK hP hD hS hA (ci := 0) (q0 := 0) rfl rfl rfl hl.1 rfl (Nat.le_of_ble_eq_true rfl) dK_makePools_26 ⟨Nat.le_of_ble_eq_true rfl, Nat.le_of_ble_eq_true rfl⟩ (fun H locs hP hD hS => ?_)
        refine lv_iinc (v := (x1 + 1)) (lv' := [(1, .int (x1 + 1)), (0, .ref (q 0)), (2, .int x2)]) hx hb dK_makePools_29 hl (k := 1) rfl rfl (by decide) rfl (fun ls hl => ?_)
        exact tK_makePools_32 C0 hK hA ih fu s26 (x1 + 1) x2 _ _ ls hf (lv_sub hl [1, 0, 2] rfl) hP hD hS
      · have hf := (if_pos c17).symm.trans hf
        refine lv_goto (tgt := 60) hx hb dK_makePools_20 (by decide) ?_
        refine lv_iinc (v := (x2 + 1)) (lv' := [(2, .int (x2 + 1)), (0, .ref (q 0)), (1, .int x1)]) hx hb dK_makePools_60 hl (k := 2) rfl rfl (by decide) rfl (fun ls hl => ?_)
        refine lv_goto (tgt := 4) hx hb dK_makePools_63 (by decide) ?_
        exact ih σ x1 (x2 + 1) _ _ ls hf (lv_sub hl [1, 2, 0] rfl) hP hD hS
set_option maxHeartbeats 400000 in
set_option maxRecDepth 100000 in
theorem mK_makePools (l : Launch) (D : va_G) (q : Nat → Nat) (k : kK) (cI cJ : ClassId) (sz : Nat) (fu : Nat) (σ : sK) (σ' : sK) (r : Int32) (hf : fK_makePools fu k σ = some (r, σ')) : Met l yK_makePools (.code yK_makePools cK_makePools 3 (some .int) :: TK) ({ frames := 3, cells := 0, slots := 0, locals := 70 }) (kPre D cl0 [(cI, .int), (cJ, .long)] (wdK q k cI cJ) sz σ [.ref (q 0)]) (kQi D cl0 [(cI, .int), (cJ, .long)] (wdK q k cI cJ) (va_A (wdK q k cI cJ σ) sz) r σ') 0 0 (va_A (wdK q k cI cJ σ) sz) := by
  refine kr_start (own := RK) (by decide) rfl (Nat.le_of_ble_eq_true rfl) ?_
  intro p e s m args below meth c ls C0 hsz hK hP hD hl
  subst hsz
  obtain ⟨hx, hb, hr, hml, hown, hts, hlocks⟩ := id C0
  have hA : ∀ z : Nat, s.heap.size ≤ z → va_A (wdK q k cI cJ σ) s.heap.size z := fun z h => Or.inr h
  generalize va_A (wdK q k cI cJ σ) s.heap.size = A at hD hA ⊢
  have hS : va_S A s.heap s.heap [] := va_S.rf
  have hl : lv_has ls 3 [(0, .ref (q 0))] := hl
  unfold fK_makePools at hf
  refine lv_iconst (v := 0) hx hb dK_makePools_0 (by decide) ?_
  refine lv_istore_n (lv' := [(1, .int 0), (0, .ref (q 0))]) hx hb dK_makePools_1 rfl hl (by decide) rfl (fun ls hl => ?_)
  refine lv_iconst (v := 0) hx hb dK_makePools_2 (by decide) ?_
  refine lv_istore_n (lv' := [(2, .int 0), (1, .int 0), (0, .ref (q 0))]) hx hb dK_makePools_3 rfl hl (by decide) rfl (fun ls hl => ?_)
  exact tK_makePools_4 C0 hK hA fu σ 0 0 _ _ ls hf (lv_sub hl [2, 1, 0] rfl) hP hD hS
