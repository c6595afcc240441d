theorem dM_ofAge_0 : decode cM_ofAge 0 = .ok (.iconst 0, 1) := by decide +kernel
theorem dM_ofAge_1 : decode cM_ofAge 1 = .ok (.istore_n 2, 1) := by decide +kernel
theorem dM_ofAge_2 : decode cM_ofAge 2 = .ok (.iconst 0, 1) := by decide +kernel
theorem dM_ofAge_3 : decode cM_ofAge 3 = .ok (.istore_n 3, 1) := by decide +kernel
theorem dM_ofAge_4 : decode cM_ofAge 4 = .ok (.iload_n 3, 1) := by decide +kernel
theorem dM_ofAge_5 : decode cM_ofAge 5 = .ok (.aload_n 0, 1) := by decide +kernel
theorem dM_ofAge_6 : decode cM_ofAge 6 = .ok (.getfield 39, 3) := by decide +kernel
theorem dM_ofAge_9 : decode cM_ofAge 9 = .ok (.if_icmp .ge (22), 3) := by decide +kernel
theorem dM_ofAge_12 : decode cM_ofAge 12 = .ok (.iload_n 2, 1) := by decide +kernel
theorem dM_ofAge_13 : decode cM_ofAge 13 = .ok (.aload_n 0, 1) := by decide +kernel
theorem dM_ofAge_14 : decode cM_ofAge 14 = .ok (.aload_n 0, 1) := by decide +kernel
theorem dM_ofAge_15 : decode cM_ofAge 15 = .ok (.getfield 13, 3) := by decide +kernel
theorem dM_ofAge_18 : decode cM_ofAge 18 = .ok (.iload_n 3, 1) := by decide +kernel
theorem dM_ofAge_19 : decode cM_ofAge 19 = .ok (.iload_n 1, 1) := by decide +kernel
theorem dM_ofAge_20 : decode cM_ofAge 20 = .ok (.invokevirtual 49, 3) := by decide +kernel
theorem dM_ofAge_23 : decode cM_ofAge 23 = .ok (.iadd, 1) := by decide +kernel
theorem dM_ofAge_24 : decode cM_ofAge 24 = .ok (.istore_n 2, 1) := by decide +kernel
theorem dM_ofAge_25 : decode cM_ofAge 25 = .ok (.iinc 3 (1), 3) := by decide +kernel
theorem dM_ofAge_28 : decode cM_ofAge 28 = .ok (.goto (-24), 3) := by decide +kernel
theorem dM_ofAge_31 : decode cM_ofAge 31 = .ok (.iload_n 2, 1) := by decide +kernel
theorem dM_ofAge_32 : decode cM_ofAge 32 = .ok (.ireturn, 1) := by decide +kernel
set_option maxHeartbeats 400000 in
set_option maxRecDepth 100000 in
theorem tM_ofAge_4 {p : Program} {l : Launch} {e : Env} {s : State} {m : MethodId} {args : Array Value} {below : List Frame} {meth : Method} {c : Code} {D : va_G} {A : Nat → Prop} {q : Nat → Nat} {k : kM} {cI cJ : ClassId} {r : Int32} {σ : sM} {fu : Nat} (C0 : Cx p s m args meth c cM_ofAge 4 (some .int) RM TM) (hK : va_K D cl0 [(cI, .int), (cJ, .long)] s) (hA : ∀ z, s.heap.size ≤ z → A z) : ∀ n : Nat, ∀ (x1 : Int32) (x2 : Int32) (x3 : Int32)(H : Heap) (locs : List Loc) (ls : Array Slot), fM_ofAge_4 fu k σ n x1 x2 x3 = some r → lv_has ls 4 [(0, .ref (q 0)), (1, .int x1), (2, .int x2), (3, .int x3)] → va_P D cl0 (wdM q k cI cJ σ) H → va_D A (wdM q k cI cJ σ) → va_S A s.heap H locs → W p l e ({ frames := 2, cells := 0, slots := 0, locals := 47 }) s m args below meth c H locs 0 0 (MQ below (kQi D cl0 [(cI, .int), (cJ, .long)] (wdM q k cI cJ) A r σ) args s 0 0 A) (F0 m 4 ls []) := by
  obtain ⟨hx, hb, hr, hml, hown, hts, hlocks⟩ := id C0
  intro n
  induction n with
  | zero =>
    intro x1 x2 x3 H locs ls hf hl hP hD hS
    cases hf
  | succ n ih =>
    intro x1 x2 x3 H locs ls hf hl hP hD hS
    rw [fM_ofAge_4] at hf
    refine lv_iload_n hx hb dM_ofAge_4 rfl (lv_at hl 3 rfl) ?_
    refine lv_aload_n hx hb dM_ofAge_5 rfl (lv_at hl 0 rfl) ?_
    refine gM_classes hx hb hown hts hK hP dM_ofAge_6 ?_
    refine lv_icmp_ge (tgt := 31) hx hb dM_ofAge_9 (by decide) (fun c9 => ?_) (fun c9 => ?_)
    · have hf := (if_pos c9).symm.trans hf
      refine lv_iload_n hx hb dM_ofAge_31 rfl (lv_at hl 2 rfl) ?_
      exact kr_iret C0 hK hP hD hS (Option.some.inj hf) rfl dM_ofAge_32
    · have hf := (if_neg c9).symm.trans hf
      refine lv_iload_n hx hb dM_ofAge_12 rfl (lv_at hl 2 rfl) ?_
      refine lv_aload_n hx hb dM_ofAge_13 rfl (lv_at hl 0 rfl) ?_
      refine lv_aload_n hx hb dM_ofAge_14 rfl (lv_at hl 0 rfl) ?_
      refine gM_chosen hx hb hown hts hK hP dM_ofAge_15 ?_
      refine lv_iload_n hx hb dM_ofAge_18 rfl (lv_at hl 3 rfl) ?_
      refine lv_iload_n hx hb dM_ofAge_19 rfl (lv_at hl 1 rfl) ?_
      obtain ⟨v20, ev20, hf⟩ := kb1 hf
      refine kr_callVi (av := [.int (sM_chosen σ), .int x3, .int x1]) ⟨hx, hb, hml, hown, hts⟩ (mM_count l D q k cI cJ _ fu σ (sM_chosen σ) x3 x1 v20 ev20) (cwV 3 hts (kgood_V TM_good (by decide +kernel)) rfl rfl rfl (by decide +kernel) ⟨Nat.le_of_ble_eq_true rfl, Nat.le_of_ble_eq_true rfl⟩) hK hP hD hS hA (ci := 1) (q0 := 0) rfl rfl rfl hl.1 rfl (Nat.le_of_ble_eq_true rfl) dM_ofAge_20 ⟨Nat.le_of_ble_eq_true rfl, Nat.le_of_ble_eq_true rfl⟩ (fun H locs hP hD hS => ?_)
      refine lv_iadd hx hb dM_ofAge_23 ?_
      refine lv_istore_n (lv' := [(2, .int (x2 + v20)), (0, .ref (q 0)), (1, .int x1), (3, .int x3)]) hx hb dM_ofAge_24 rfl hl (by decide) rfl (fun ls hl => ?_)
      refine lv_iinc (v := (x3 + 1)) (lv' := [(3, .int (x3 + 1)), (2, .int (x2 + v20)), (0, .ref (q 0)), (1, .int x1)]) hx hb dM_ofAge_25 hl (k := 3) rfl rfl (by decide) rfl (fun ls hl => ?_)
      refine lv_goto (tgt := 4) hx hb dM_ofAge_28 (by decide) ?_
      exact ih x1 (x2 + v20) (x3 + 1) _ _ ls hf (lv_sub hl [2, 3, 1, 0] rfl) hP hD hS
set_option maxHeartbeats 400000 in
set_option maxRecDepth 100000 in
theorem mM_ofAge (l : Launch) (D : va_G) (q : Nat → Nat) (k : kM) (cI cJ : ClassId) (sz : Nat) (fu : Nat) (σ : sM) (x1 : Int32) (r : Int32) (hf : fM_ofAge fu k σ x1 = some r) : Met l yM_ofAge (.code yM_ofAge cM_ofAge 4 (some .int) :: TM) ({ frames := 2, cells := 0, slots := 0, locals := 47 }) (kPre D cl0 [(cI, .int), (cJ, .long)] (wdM q k cI cJ) sz σ [.ref (q 0), .int x1]) (kQi D cl0 [(cI, .int), (cJ, .long)] (wdM q k cI cJ) (va_A (wdM q k cI cJ σ) sz) r σ) 0 0 (va_A (wdM q k cI cJ σ) sz) := by
  refine kr_start (own := RM) (by decide) rfl (Nat.le_of_ble_eq_true rfl) ?_
  intro p e s m args below meth c ls C0 hsz hK hP hD hl
  subst hsz
  obtain ⟨hx, hb, hr, hml, hown, hts, hlocks⟩ := id C0
  have hA : ∀ z : Nat, s.heap.size ≤ z → va_A (wdM q k cI cJ σ) s.heap.size z := fun z h => Or.inr h
  generalize va_A (wdM q k cI cJ σ) s.heap.size = A at hD hA ⊢
  have hS : va_S A s.heap s.heap [] := va_S.rf
  have hl : lv_has ls 4 [(0, .ref (q 0)), (1, .int x1)] := hl
  unfold fM_ofAge at hf
  refine lv_iconst (v := 0) hx hb dM_ofAge_0 (by decide) ?_
  refine lv_istore_n (lv' := [(2, .int 0), (0, .ref (q 0)), (1, .int x1)]) hx hb dM_ofAge_1 rfl hl (by decide) rfl (fun ls hl => ?_)
  refine lv_iconst (v := 0) hx hb dM_ofAge_2 (by decide) ?_
  refine lv_istore_n (lv' := [(3, .int 0), (2, .int 0), (0, .ref (q 0)), (1, .int x1)]) hx hb dM_ofAge_3 rfl hl (by decide) rfl (fun ls hl => ?_)
  exact tM_ofAge_4 C0 hK hA fu x1 0 0 _ _ ls hf (lv_sub hl [2, 3, 1, 0] rfl) hP hD hS
theorem dM_classesOf_0 : decode cM_classesOf 0 = .ok (.iconst 0, 1) := by decide +kernel
theorem dM_classesOf_1 : decode cM_classesOf 1 = .ok (.istore_n 2, 1) := by decide +kernel
theorem dM_classesOf_2 : decode cM_classesOf 2 = .ok (.iconst 0, 1) := by decide +kernel
theorem dM_classesOf_3 : decode cM_classesOf 3 = .ok (.istore_n 3, 1) := by decide +kernel
theorem dM_classesOf_4 : decode cM_classesOf 4 = .ok (.iload_n 3, 1) := by decide +kernel
theorem dM_classesOf_5 : decode cM_classesOf 5 = .ok (.aload_n 0, 1) := by decide +kernel
theorem dM_classesOf_6 : decode cM_classesOf 6 = .ok (.getfield 39, 3) := by decide +kernel
theorem dM_classesOf_9 : decode cM_classesOf 9 = .ok (.if_icmp .ge (24), 3) := by decide +kernel
theorem dM_classesOf_12 : decode cM_classesOf 12 = .ok (.iload_n 2, 1) := by decide +kernel
theorem dM_classesOf_13 : decode cM_classesOf 13 = .ok (.iload_n 3, 1) := by decide +kernel
theorem dM_classesOf_14 : decode cM_classesOf 14 = .ok (.aload_n 0, 1) := by decide +kernel
theorem dM_classesOf_15 : decode cM_classesOf 15 = .ok (.aload_n 0, 1) := by decide +kernel
theorem dM_classesOf_16 : decode cM_classesOf 16 = .ok (.getfield 13, 3) := by decide +kernel
theorem dM_classesOf_19 : decode cM_classesOf 19 = .ok (.iload_n 3, 1) := by decide +kernel
theorem dM_classesOf_20 : decode cM_classesOf 20 = .ok (.iload_n 1, 1) := by decide +kernel
theorem dM_classesOf_21 : decode cM_classesOf 21 = .ok (.invokevirtual 49, 3) := by decide +kernel
theorem dM_classesOf_24 : decode cM_classesOf 24 = .ok (.imul, 1) := by decide +kernel
theorem dM_classesOf_25 : decode cM_classesOf 25 = .ok (.iadd, 1) := by decide +kernel
theorem dM_classesOf_26 : decode cM_classesOf 26 = .ok (.istore_n 2, 1) := by decide +kernel
theorem dM_classesOf_27 : decode cM_classesOf 27 = .ok (.iinc 3 (1), 3) := by decide +kernel
theorem dM_classesOf_30 : decode cM_classesOf 30 = .ok (.goto (-26), 3) := by decide +kernel
theorem dM_classesOf_33 : decode cM_classesOf 33 = .ok (.iload_n 2, 1) := by decide +kernel
theorem dM_classesOf_34 : decode cM_classesOf 34 = .ok (.ireturn, 1) := by decide +kernel
set_option maxHeartbeats 400000 in
set_option maxRecDepth 100000 in
theorem tM_classesOf_4 {p : Program} {l : Launch} {e : Env} {s : State} {m : MethodId} {args : Array Value} {below : List Frame} {meth : Method} {c : Code} {D : va_G} {A : Nat → Prop} {q : Nat → Nat} {k : kM} {cI cJ : ClassId} {r : Int32} {σ : sM} {fu : Nat} (C0 : Cx p s m args meth c cM_classesOf 4 (some .int) RM TM) (hK : va_K D cl0 [(cI, .int), (cJ, .long)] s) (hA : ∀ z, s.heap.size ≤ z → A z) : ∀ n : Nat, ∀ (x1 : Int32) (x2 : Int32) (x3 : Int32)(H : Heap) (locs : List Loc) (ls : Array Slot), fM_classesOf_4 fu k σ n x1 x2 x3 = some r → lv_has ls 4 [(0, .ref (q 0)), (1, .int x1), (2, .int x2), (3, .int x3)] → va_P D cl0 (wdM q k cI cJ σ) H → va_D A (wdM q k cI cJ σ) → va_S A s.heap H locs → W p l e ({ frames := 2, cells := 0, slots := 0, locals := 47 }) s m args below meth c H locs 0 0 (MQ below (kQi D cl0 [(cI, .int), (cJ, .long)] (wdM q k cI cJ) A r σ) args s 0 0 A) (F0 m 4 ls []) := by
  obtain ⟨hx, hb, hr, hml, hown, hts, hlocks⟩ := id C0
  intro n
  induction n with
  | zero =>
    intro x1 x2 x3 H locs ls hf hl hP hD hS
    cases hf
  | succ n ih =>
    intro x1 x2 x3 H locs ls hf hl hP hD hS
    rw [fM_classesOf_4] at hf
    refine lv_iload_n hx hb dM_classesOf_4 rfl (lv_at hl 3 rfl) ?_
    refine lv_aload_n hx hb dM_classesOf_5 rfl (lv_at hl 0 rfl) ?_
    refine gM_classes hx hb hown hts hK hP dM_classesOf_6 ?_
    refine lv_icmp_ge (tgt := 33) hx hb dM_classesOf_9 (by decide) (fun c9 => ?_) (fun c9 => ?_)
    · have hf := (if_pos c9).symm.trans hf
      refine lv_iload_n hx hb dM_classesOf_33 rfl (lv_at hl 2 rfl) ?_
      exact kr_iret C0 hK hP hD hS (Option.some.inj hf) rfl dM_classesOf_34
    · have hf := (if_neg c9).symm.trans hf
      refine lv_iload_n hx hb dM_classesOf_12 rfl (lv_at hl 2 rfl) ?_
      refine lv_iload_n hx hb dM_classesOf_13 rfl (lv_at hl 3 rfl) ?_
      refine lv_aload_n hx hb dM_classesOf_14 rfl (lv_at hl 0 rfl) ?_
      refine lv_aload_n hx hb dM_classesOf_15 rfl (lv_at hl 0 rfl) ?_
      refine gM_chosen hx hb hown hts hK hP dM_classesOf_16 ?_
      refine lv_iload_n hx hb dM_classesOf_19 rfl (lv_at hl 3 rfl) ?_
      refine lv_iload_n hx hb dM_classesOf_20 rfl (lv_at hl 1 rfl) ?_
      obtain ⟨v21, ev21, hf⟩ := kb1 hf
      refine kr_callVi (av := [.int (sM_chosen σ), .int x3, .int x1]) ⟨hx, hb, hml, hown, hts⟩ (mM_count l D q k cI cJ _ fu σ (sM_chosen σ) x3 x1 v21 ev21) (cwV 3 hts (kgood_V TM_good (by decide +kernel)) rfl rfl rfl (by decide +kernel) ⟨Nat.le_of_ble_eq_true rfl, Nat.le_of_ble_eq_true rfl⟩) hK hP hD hS hA (ci := 1) (q0 := 0) rfl rfl rfl hl.1 rfl (Nat.le_of_ble_eq_true rfl) dM_classesOf_21 ⟨Nat.le_of_ble_eq_true rfl, Nat.le_of_ble_eq_true rfl⟩ (fun H locs hP hD hS => ?_)
      refine lv_imul hx hb dM_classesOf_24 ?_
      refine lv_iadd hx hb dM_classesOf_25 ?_
      refine lv_istore_n (lv' := [(2, .int (x2 + (x3 * v21))), (0, .ref (q 0)), (1, .int x1), (3, .int x3)]) hx hb dM_classesOf_26 rfl hl (by decide) rfl (fun ls hl => ?_)
      refine lv_iinc (v := (x3 + 1)) (lv' := [(3, .int (x3 + 1)), (2, .int (x2 + (x3 * v21))), (0, .ref (q 0)), (1, .int x1)]) hx hb dM_classesOf_27 hl (k := 3) rfl rfl (by decide) rfl (fun ls hl => ?_)
      refine lv_goto (tgt := 4) hx hb dM_classesOf_30 (by decide) ?_
      exact ih x1 (x2 + (x3 * v21)) (x3 + 1) _ _ ls hf (lv_sub hl [2, 3, 1, 0] rfl) hP hD hS
set_option maxHeartbeats 400000 in
set_option maxRecDepth 100000 in
theorem mM_classesOf (l : Launch) (D : va_G) (q : Nat → Nat) (k : kM) (cI cJ : ClassId) (sz : Nat) (fu : Nat) (σ : sM) (x1 : Int32) (r : Int32) (hf : fM_classesOf fu k σ x1 = some r) : Met l yM_classesOf (.code yM_classesOf cM_classesOf 4 (some .int) :: TM) ({ frames := 2, cells := 0, slots := 0, locals := 47 }) (kPre D cl0 [(cI, .int), (cJ, .long)] (wdM q k cI cJ) sz σ [.ref (q 0), .int x1]) (kQi D cl0 [(cI, .int), (cJ, .long)] (wdM q k cI cJ) (va_A (wdM q k cI cJ σ) sz) r σ) 0 0 (va_A (wdM q k cI cJ σ) sz) := by
  refine kr_start (own := RM) (by decide) rfl (Nat.le_of_ble_eq_true rfl) ?_
  intro p e s m args below meth c ls C0 hsz hK hP hD hl
  subst hsz
  obtain ⟨hx, hb, hr, hml, hown, hts, hlocks⟩ := id C0
  have hA : ∀ z : Nat, s.heap.size ≤ z → va_A (wdM q k cI cJ σ) s.heap.size z := fun z h => Or.inr h
  generalize va_A (wdM q k cI cJ σ) s.heap.size = A at hD hA ⊢
  have hS : va_S A s.heap s.heap [] := va_S.rf
  have hl : lv_has ls 4 [(0, .ref (q 0)), (1, .int x1)] := hl
  unfold fM_classesOf at hf
  refine lv_iconst (v := 0) hx hb dM_classesOf_0 (by decide) ?_
  refine lv_istore_n (lv' := [(2, .int 0), (0, .ref (q 0)), (1, .int x1)]) hx hb dM_classesOf_1 rfl hl (by decide) rfl (fun ls hl => ?_)
  refine lv_iconst (v := 0) hx hb dM_classesOf_2 (by decide) ?_
  refine lv_istore_n (lv' := [(3, .int 0), (2, .int 0), (0, .ref (q 0)), (1, .int x1)]) hx hb dM_classesOf_3 rfl hl (by decide) rfl (fun ls hl => ?_)
  exact tM_classesOf_4 C0 hK hA fu x1 0 0 _ _ ls hf (lv_sub hl [2, 3, 1, 0] rfl) hP hD hS
theorem dM_mean_0 : decode cM_mean 0 = .ok (.aload_n 0, 1) := by decide +kernel
theorem dM_mean_1 : decode cM_mean 1 = .ok (.ldc2_w 52, 3) := by decide +kernel
theorem dM_mean_4 : decode cM_mean 4 = .ok (.putfield 91, 3) := by decide +kernel
theorem dM_mean_7 : decode cM_mean 7 = .ok (.aload_n 0, 1) := by decide +kernel
theorem dM_mean_8 : decode cM_mean 8 = .ok (.lconst 1, 1) := by decide +kernel
theorem dM_mean_9 : decode cM_mean 9 = .ok (.putfield 97, 3) := by decide +kernel
theorem dM_mean_12 : decode cM_mean 12 = .ok (.iload_n 1, 1) := by decide +kernel
theorem dM_mean_13 : decode cM_mean 13 = .ok (.istore_n 2, 1) := by decide +kernel
theorem dM_mean_14 : decode cM_mean 14 = .ok (.iload_n 2, 1) := by decide +kernel
theorem dM_mean_15 : decode cM_mean 15 = .ok (.ifCond .lt (133), 3) := by decide +kernel
theorem dM_mean_18 : decode cM_mean 18 = .ok (.lconst 0, 1) := by decide +kernel
theorem dM_mean_19 : decode cM_mean 19 = .ok (.lstore_n 3, 1) := by decide +kernel
theorem dM_mean_20 : decode cM_mean 20 = .ok (.lconst 0, 1) := by decide +kernel
theorem dM_mean_21 : decode cM_mean 21 = .ok (.lstore 5, 2) := by decide +kernel
theorem dM_mean_23 : decode cM_mean 23 = .ok (.iload_n 1, 1) := by decide +kernel
theorem dM_mean_24 : decode cM_mean 24 = .ok (.istore 7, 2) := by decide +kernel
theorem dM_mean_26 : decode cM_mean 26 = .ok (.iload 7, 2) := by decide +kernel
theorem dM_mean_28 : decode cM_mean 28 = .ok (.aload_n 0, 1) := by decide +kernel
theorem dM_mean_29 : decode cM_mean 29 = .ok (.getfield 42, 3) := by decide +kernel
theorem dM_mean_32 : decode cM_mean 32 = .ok (.if_icmp .ge (82), 3) := by decide +kernel
theorem dM_mean_35 : decode cM_mean 35 = .ok (.lconst 0, 1) := by decide +kernel
theorem dM_mean_36 : decode cM_mean 36 = .ok (.lstore 8, 2) := by decide +kernel
theorem dM_mean_38 : decode cM_mean 38 = .ok (.lconst 0, 1) := by decide +kernel
theorem dM_mean_39 : decode cM_mean 39 = .ok (.lstore 10, 2) := by decide +kernel
theorem dM_mean_41 : decode cM_mean 41 = .ok (.iload_n 2, 1) := by decide +kernel
theorem dM_mean_42 : decode cM_mean 42 = .ok (.istore 12, 2) := by decide +kernel
theorem dM_mean_44 : decode cM_mean 44 = .ok (.iload 12, 2) := by decide +kernel
theorem dM_mean_46 : decode cM_mean 46 = .ok (.iload 7, 2) := by decide +kernel
theorem dM_mean_48 : decode cM_mean 48 = .ok (.if_icmp .gt (33), 3) := by decide +kernel
theorem dM_mean_51 : decode cM_mean 51 = .ok (.lload 8, 2) := by decide +kernel
theorem dM_mean_53 : decode cM_mean 53 = .ok (.aload_n 0, 1) := by decide +kernel
theorem dM_mean_54 : decode cM_mean 54 = .ok (.iload 12, 2) := by decide +kernel
theorem dM_mean_56 : decode cM_mean 56 = .ok (.invokevirtual 117, 3) := by decide +kernel
theorem dM_mean_59 : decode cM_mean 59 = .ok (.i2l, 1) := by decide +kernel
theorem dM_mean_60 : decode cM_mean 60 = .ok (.ladd, 1) := by decide +kernel
theorem dM_mean_61 : decode cM_mean 61 = .ok (.lstore 8, 2) := by decide +kernel
theorem dM_mean_63 : decode cM_mean 63 = .ok (.lload 10, 2) := by decide +kernel
theorem dM_mean_65 : decode cM_mean 65 = .ok (.aload_n 0, 1) := by decide +kernel
theorem dM_mean_66 : decode cM_mean 66 = .ok (.iload 12, 2) := by decide +kernel
theorem dM_mean_68 : decode cM_mean 68 = .ok (.invokevirtual 120, 3) := by decide +kernel
theorem dM_mean_71 : decode cM_mean 71 = .ok (.i2l, 1) := by decide +kernel
theorem dM_mean_72 : decode cM_mean 72 = .ok (.ladd, 1) := by decide +kernel
theorem dM_mean_73 : decode cM_mean 73 = .ok (.lstore 10, 2) := by decide +kernel
theorem dM_mean_75 : decode cM_mean 75 = .ok (.iinc 12 (1), 3) := by decide +kernel
theorem dM_mean_78 : decode cM_mean 78 = .ok (.goto (-34), 3) := by decide +kernel
theorem dM_mean_81 : decode cM_mean 81 = .ok (.lload 5, 2) := by decide +kernel
theorem dM_mean_83 : decode cM_mean 83 = .ok (.lconst 0, 1) := by decide +kernel
theorem dM_mean_84 : decode cM_mean 84 = .ok (.lcmp, 1) := by decide +kernel
theorem dM_mean_85 : decode cM_mean 85 = .ok (.ifCond .eq (16), 3) := by decide +kernel
theorem dM_mean_88 : decode cM_mean 88 = .ok (.lload 8, 2) := by decide +kernel
theorem dM_mean_90 : decode cM_mean 90 = .ok (.lload 5, 2) := by decide +kernel
theorem dM_mean_92 : decode cM_mean 92 = .ok (.lmul, 1) := by decide +kernel
theorem dM_mean_93 : decode cM_mean 93 = .ok (.lload_n 3, 1) := by decide +kernel
theorem dM_mean_94 : decode cM_mean 94 = .ok (.lload 10, 2) := by decide +kernel
theorem dM_mean_96 : decode cM_mean 96 = .ok (.lmul, 1) := by decide +kernel
theorem dM_mean_97 : decode cM_mean 97 = .ok (.lcmp, 1) := by decide +kernel
theorem dM_mean_98 : decode cM_mean 98 = .ok (.ifCond .ge (10), 3) := by decide +kernel
theorem dM_mean_101 : decode cM_mean 101 = .ok (.lload 8, 2) := by decide +kernel
theorem dM_mean_103 : decode cM_mean 103 = .ok (.lstore_n 3, 1) := by decide +kernel
theorem dM_mean_104 : decode cM_mean 104 = .ok (.lload 10, 2) := by decide +kernel
theorem dM_mean_106 : decode cM_mean 106 = .ok (.lstore 5, 2) := by decide +kernel
theorem dM_mean_108 : decode cM_mean 108 = .ok (.iinc 7 (1), 3) := by decide +kernel
theorem dM_mean_111 : decode cM_mean 111 = .ok (.goto (-85), 3) := by decide +kernel
theorem dM_mean_114 : decode cM_mean 114 = .ok (.lload_n 3, 1) := by decide +kernel
theorem dM_mean_115 : decode cM_mean 115 = .ok (.aload_n 0, 1) := by decide +kernel
theorem dM_mean_116 : decode cM_mean 116 = .ok (.getfield 97, 3) := by decide +kernel
theorem dM_mean_119 : decode cM_mean 119 = .ok (.lmul, 1) := by decide +kernel
theorem dM_mean_120 : decode cM_mean 120 = .ok (.aload_n 0, 1) := by decide +kernel
theorem dM_mean_121 : decode cM_mean 121 = .ok (.getfield 91, 3) := by decide +kernel
theorem dM_mean_124 : decode cM_mean 124 = .ok (.lload 5, 2) := by decide +kernel
theorem dM_mean_126 : decode cM_mean 126 = .ok (.lmul, 1) := by decide +kernel
theorem dM_mean_127 : decode cM_mean 127 = .ok (.lcmp, 1) := by decide +kernel
theorem dM_mean_128 : decode cM_mean 128 = .ok (.ifCond .le (14), 3) := by decide +kernel
theorem dM_mean_131 : decode cM_mean 131 = .ok (.aload_n 0, 1) := by decide +kernel
theorem dM_mean_132 : decode cM_mean 132 = .ok (.lload_n 3, 1) := by decide +kernel
theorem dM_mean_133 : decode cM_mean 133 = .ok (.putfield 91, 3) := by decide +kernel
theorem dM_mean_136 : decode cM_mean 136 = .ok (.aload_n 0, 1) := by decide +kernel
theorem dM_mean_137 : decode cM_mean 137 = .ok (.lload 5, 2) := by decide +kernel
theorem dM_mean_139 : decode cM_mean 139 = .ok (.putfield 97, 3) := by decide +kernel
theorem dM_mean_142 : decode cM_mean 142 = .ok (.iinc 2 (-1), 3) := by decide +kernel
theorem dM_mean_145 : decode cM_mean 145 = .ok (.goto (-131), 3) := by decide +kernel
theorem dM_mean_148 : decode cM_mean 148 = .ok (.return_, 1) := by decide +kernel
set_option maxHeartbeats 400000 in
set_option maxRecDepth 100000 in
theorem tM_mean_101 {p : Program} {l : Launch} {e : Env} {s : State} {m : MethodId} {args : Array Value} {below : List Frame} {meth : Method} {c : Code} {D : va_G} {A : Nat → Prop} {q : Nat → Nat} {k : kM} {cI cJ : ClassId} {σ' : sM} {fu : Nat} {h14 : sM → Int32 → Int32 → Option sM} {h26 : sM → Int32 → Int32 → Int64 → Int64 → Int32 → Option sM} (C0 : Cx p s m args meth c cM_mean 13 none RM TM) (hK : va_K D cl0 [(cI, .int), (cJ, .long)] s) (hA : ∀ z, s.heap.size ≤ z → A z) (ih14 : ∀ (σ : sM) (x1 : Int32) (x2 : Int32)(H : Heap) (locs : List Loc) (ls : Array Slot), h14 σ x1 x2 = some σ' → lv_has ls 13 [(0, .ref (q 0)), (1, .int x1), (2, .int x2)] → va_P D cl0 (wdM q k cI cJ σ) H → va_D A (wdM q k cI cJ σ) → va_S A s.heap H locs → W p l e ({ frames := 3, cells := 0, slots := 0, locals := 70 }) s m args below meth c H locs 0 0 (MQ below (kQv D cl0 [(cI, .int), (cJ, .long)] (wdM q k cI cJ) A σ') args s 0 0 A) (F0 m 14 ls [])) (ih26 : ∀ (σ : sM) (x1 : Int32) (x2 : Int32) (x3 : Int64) (x5 : Int64) (x7 : Int32)(H : Heap) (locs : List Loc) (ls : Array Slot), h26 σ x1 x2 x3 x5 x7 = some σ' → lv_has ls 13 [(0, .ref (q 0)), (1, .int x1), (2, .int x2), (3, .long x3), (5, .long x5), (7, .int x7)] → va_P D cl0 (wdM q k cI cJ σ) H → va_D A (wdM q k cI cJ σ) → va_S A s.heap H locs → W p l e ({ frames := 3, cells := 0, slots := 0, locals := 70 }) s m args below meth c H locs 0 0 (MQ below (kQv D cl0 [(cI, .int), (cJ, .long)] (wdM q k cI cJ) A σ') args s 0 0 A) (F0 m 26 ls [])) : ∀ (σ : sM) (x1 : Int32) (x2 : Int32) (x7 : Int32) (x8 : Int64) (x10 : Int64)(H : Heap) (locs : List Loc) (ls : Array Slot), fM_mean_101 fu k h14 h26 σ x1 x2 x7 x8 x10 = some σ' → lv_has ls 13 [(0, .ref (q 0)), (1, .int x1), (2, .int x2), (7, .int x7), (8, .long x8), (10, .long x10)] → va_P D cl0 (wdM q k cI cJ σ) H → va_D A (wdM q k cI cJ σ) → va_S A s.heap H locs → W p l e ({ frames := 3, cells := 0, slots := 0, locals := 70 }) s m args below meth c H locs 0 0 (MQ below (kQv D cl0 [(cI, .int), (cJ, .long)] (wdM q k cI cJ) A σ') args s 0 0 A) (F0 m 101 ls []) := by
  obtain ⟨hx, hb, hr, hml, hown, hts, hlocks⟩ := id C0
  intro σ x1 x2 x7 x8 x10 H locs ls hf hl hP hD hS
  unfold fM_mean_101 at hf
  refine lv_lload hx hb dM_mean_101 (lv_at hl 4 rfl) ?_
  refine lv_lstore_n (lv' := [(3, .long x8), (0, .ref (q 0)), (1, .int x1), (2, .int x2), (7, .int x7), (8, .long x8), (10, .long x10)]) hx hb dM_mean_103 rfl hl (by decide) rfl (fun ls hl => ?_)
  refine lv_lload hx hb dM_mean_104 (lv_at hl 6 rfl) ?_
  refine lv_lstore (lv' := [(5, .long x10), (3, .long x8), (0, .ref (q 0)), (1, .int x1), (2, .int x2), (7, .int x7), (8, .long x8), (10, .long x10)]) hx hb dM_mean_106 hl (by decide) rfl (fun ls hl => ?_)
  refine lv_iinc (v := (x7 + 1)) (lv' := [(7, .int (x7 + 1)), (5, .long x10), (3, .long x8), (0, .ref (q 0)), (1, .int x1), (2, .int x2), (8, .long x8), (10, .long x10)]) hx hb dM_mean_108 hl (k := 5) rfl rfl (by decide) rfl (fun ls hl => ?_)
  refine lv_goto (tgt := 26) hx hb dM_mean_111 (by decide) ?_
  exact ih26 σ x1 x2 x8 x10 (x7 + 1) _ _ ls hf (lv_sub hl [3, 4, 5, 2, 1, 0] rfl) hP hD hS
set_option maxHeartbeats 400000 in
set_option maxRecDepth 100000 in
theorem tM_mean_44 {p : Program} {l : Launch} {e : Env} {s : State} {m : MethodId} {args : Array Value} {below : List Frame} {meth : Method} {c : Code} {D : va_G} {A : Nat → Prop} {q : Nat → Nat} {k : kM} {cI cJ : ClassId} {σ' : sM} {fu : Nat} {h14 : sM → Int32 → Int32 → Option sM} {h26 : sM → Int32 → Int32 → Int64 → Int64 → Int32 → Option sM} (C0 : Cx p s m args meth c cM_mean 13 none RM TM) (hK : va_K D cl0 [(cI, .int), (cJ, .long)] s) (hA : ∀ z, s.heap.size ≤ z → A z) (ih14 : ∀ (σ : sM) (x1 : Int32) (x2 : Int32)(H : Heap) (locs : List Loc) (ls : Array Slot), h14 σ x1 x2 = some σ' → lv_has ls 13 [(0, .ref (q 0)), (1, .int x1), (2, .int x2)] → va_P D cl0 (wdM q k cI cJ σ) H → va_D A (wdM q k cI cJ σ) → va_S A s.heap H locs → W p l e ({ frames := 3, cells := 0, slots := 0, locals := 70 }) s m args below meth c H locs 0 0 (MQ below (kQv D cl0 [(cI, .int), (cJ, .long)] (wdM q k cI cJ) A σ') args s 0 0 A) (F0 m 14 ls [])) (ih26 : ∀ (σ : sM) (x1 : Int32) (x2 : Int32) (x3 : Int64) (x5 : Int64) (x7 : Int32)(H : Heap) (locs : List Loc) (ls : Array Slot), h26 σ x1 x2 x3 x5 x7 = some σ' → lv_has ls 13 [(0, .ref (q 0)), (1, .int x1), (2, .int x2), (3, .long x3), (5, .long x5), (7, .int x7)] → va_P D cl0 (wdM q k cI cJ σ) H → va_D A (wdM q k cI cJ σ) → va_S A s.heap H locs → W p l e ({ frames := 3, cells := 0, slots := 0, locals := 70 }) s m args below meth c H locs 0 0 (MQ below (kQv D cl0 [(cI, .int), (cJ, .long)] (wdM q k cI cJ) A σ') args s 0 0 A) (F0 m 26 ls [])) : ∀ n : Nat, ∀ (σ : sM) (x1 : Int32) (x2 : Int32) (x3 : Int64) (x5 : Int64) (x7 : Int32) (x8 : Int64) (x10 : Int64) (x12 : Int32)(H : Heap) (locs : List Loc) (ls : Array Slot), fM_mean_44 fu k h14 h26 n σ x1 x2 x3 x5 x7 x8 x10 x12 = some σ' → lv_has ls 13 [(0, .ref (q 0)), (1, .int x1), (2, .int x2), (3, .long x3), (5, .long x5), (7, .int x7), (8, .long x8), (10, .long x10), (12, .int x12)] → va_P D cl0 (wdM q k cI cJ σ) H → va_D A (wdM q k cI cJ σ) → va_S A s.heap H locs → W p l e ({ frames := 3, cells := 0, slots := 0, locals := 70 }) s m args below meth c H locs 0 0 (MQ below (kQv D cl0 [(cI, .int), (cJ, .long)] (wdM q k cI cJ) A σ') args s 0 0 A) (F0 m 44 ls []) := by
  obtain ⟨hx, hb, hr, hml, hown, hts, hlocks⟩ := id C0
  intro n
  induction n with
  | zero =>
    intro σ x1 x2 x3 x5 x7 x8 x10 x12 H locs ls hf hl hP hD hS
    cases hf
  | succ n ih =>
    intro σ x1 x2 x3 x5 x7 x8 x10 x12 H locs ls hf hl hP hD hS
    rw [fM_mean_44] at hf
    refine lv_iload hx hb dM_mean_44 (lv_at hl 8 rfl) ?_
    refine lv_iload hx hb dM_mean_46 (lv_at hl 5 rfl) ?_
    refine lv_icmp_gt (tgt := 81) hx hb dM_mean_48 (by decide) (fun c48 => ?_) (fun c48 => ?_)
    · have hf := (if_pos c48).symm.trans hf
      refine lv_lload hx hb dM_mean_81 (lv_at hl 4 rfl) ?_
      refine lv_lconst (v := 0) hx hb dM_mean_83 (by decide) ?_
      refine W.lcmp hx hb dM_mean_84 ?_
      refine lv_if_eq (tgt := 101) hx hb dM_mean_85 (by decide) (fun c84 => ?_) (fun c84 => ?_)
      · rw [lg_cmp_eq] at c84
        have hf := (if_pos c84).symm.trans hf
        exact tM_mean_101 C0 hK hA ih14 ih26 σ x1 x2 x7 x8 x10 _ _ ls hf (lv_sub hl [0, 1, 2, 5, 6, 7] rfl) hP hD hS
      · rw [lg_cmp_eq] at c84
        have hf := (if_neg c84).symm.trans hf
        refine lv_lload hx hb dM_mean_88 (lv_at hl 6 rfl) ?_
        refine lv_lload hx hb dM_mean_90 (lv_at hl 4 rfl) ?_
        refine lv_lmul hx hb dM_mean_92 ?_
        refine lv_lload_n hx hb dM_mean_93 rfl (lv_at hl 3 rfl) ?_
        refine lv_lload hx hb dM_mean_94 (lv_at hl 7 rfl) ?_
        refine lv_lmul hx hb dM_mean_96 ?_
        refine W.lcmp hx hb dM_mean_97 ?_
        refine lv_if_ge (tgt := 108) hx hb dM_mean_98 (by decide) (fun c97 => ?_) (fun c97 => ?_)
        · rw [lg_cmp_ge] at c97
          have hf := (if_pos c97).symm.trans hf
          refine lv_iinc (v := (x7 + 1)) (lv' := [(7, .int (x7 + 1)), (0, .ref (q 0)), (1, .int x1), (2, .int x2), (3, .long x3), (5, .long x5), (8, .long x8), (10, .long x10), (12, .int x12)]) hx hb dM_mean_108 hl (k := 5) rfl rfl (by decide) rfl (fun ls hl => ?_)
          refine lv_goto (tgt := 26) hx hb dM_mean_111 (by decide) ?_
          exact ih26 σ x1 x2 x3 x5 (x7 + 1) _ _ ls hf (lv_sub hl [1, 2, 3, 4, 5, 0] rfl) hP hD hS
        · rw [lg_cmp_ge] at c97
          have hf := (if_neg c97).symm.trans hf
          exact tM_mean_101 C0 hK hA ih14 ih26 σ x1 x2 x7 x8 x10 _ _ ls hf (lv_sub hl [0, 1, 2, 5, 6, 7] rfl) hP hD hS
    · have hf := (if_neg c48).symm.trans hf
      refine lv_lload hx hb dM_mean_51 (lv_at hl 6 rfl) ?_
      refine lv_aload_n hx hb dM_mean_53 rfl (lv_at hl 0 rfl) ?_
      refine lv_iload hx hb dM_mean_54 (lv_at hl 8 rfl) ?_
      obtain ⟨v56, ev56, hf⟩ := kb1 hf
      refine kr_callVi (av := [.int x12]) ⟨hx, hb, hml, hown, hts⟩ (mM_classesOf l D q k cI cJ _ fu σ x12 v56 ev56) (cwV 1 hts (kgood_V TM_good (by decide +kernel)) rfl rfl rfl (by decide +kernel) ⟨Nat.le_of_ble_eq_true rfl, Nat.le_of_ble_eq_true rfl⟩) hK hP hD hS hA (ci := 1) (q0 := 0) rfl rfl rfl hl.1 rfl (Nat.le_of_ble_eq_true rfl) dM_mean_56 ⟨Nat.le_of_ble_eq_true rfl, Nat.le_of_ble_eq_true rfl⟩ (fun H locs hP hD hS => ?_)
      refine lv_i2l (v := v56.toInt64) hx hb dM_mean_59 rfl ?_
      refine lv_ladd hx hb dM_mean_60 ?_
      refine lv_lstore (lv' := [(8, .long (x8 + v56.toInt64)), (0, .ref (q 0)), (1, .int x1), (2, .int x2), (3, .long x3), (5, .long x5), (7, .int x7), (10, .long x10), (12, .int x12)]) hx hb dM_mean_61 hl (by decide) rfl (fun ls hl => ?_)
      refine lv_lload hx hb dM_mean_63 (lv_at hl 7 rfl) ?_
      refine lv_aload_n hx hb dM_mean_65 rfl (lv_at hl 1 rfl) ?_
      refine lv_iload hx hb dM_mean_66 (lv_at hl 8 rfl) ?_
      obtain ⟨v68, ev68, hf⟩ := kb1 hf
      refine kr_callVi (av := [.int x12]) ⟨hx, hb, hml, hown, hts⟩ (mM_ofAge l D q k cI cJ _ fu σ x12 v68 ev68) (cwV 1 hts (kgood_V TM_good (by decide +kernel)) rfl rfl rfl (by decide +kernel) ⟨Nat.le_of_ble_eq_true rfl, Nat.le_of_ble_eq_true rfl⟩) hK hP hD hS hA (ci := 1) (q0 := 0) rfl rfl rfl hl.1 rfl (Nat.le_of_ble_eq_true rfl) dM_mean_68 ⟨Nat.le_of_ble_eq_true rfl, Nat.le_of_ble_eq_true rfl⟩ (fun H locs hP hD hS => ?_)
      refine lv_i2l (v := v68.toInt64) hx hb dM_mean_71 rfl ?_
      refine lv_ladd hx hb dM_mean_72 ?_
      refine lv_lstore (lv' := [(10, .long (x10 + v68.toInt64)), (8, .long (x8 + v56.toInt64)), (0, .ref (q 0)), (1, .int x1), (2, .int x2), (3, .long x3), (5, .long x5), (7, .int x7), (12, .int x12)]) hx hb dM_mean_73 hl (by decide) rfl (fun ls hl => ?_)
      refine lv_iinc (v := (x12 + 1)) (lv' := [(12, .int (x12 + 1)), (10, .long (x10 + v68.toInt64)), (8, .long (x8 + v56.toInt64)), (0, .ref (q 0)), (1, .int x1), (2, .int x2), (3, .long x3), (5, .long x5), (7, .int x7)]) hx hb dM_mean_75 hl (k := 8) rfl rfl (by decide) rfl (fun ls hl => ?_)
      refine lv_goto (tgt := 44) hx hb dM_mean_78 (by decide) ?_
      exact ih σ x1 x2 x3 x5 x7 (x8 + v56.toInt64) (x10 + v68.toInt64) (x12 + 1) _ _ ls hf (lv_sub hl [3, 4, 5, 6, 7, 8, 2, 1, 0] rfl) hP hD hS
set_option maxHeartbeats 400000 in
set_option maxRecDepth 100000 in
theorem tM_mean_26 {p : Program} {l : Launch} {e : Env} {s : State} {m : MethodId} {args : Array Value} {below : List Frame} {meth : Method} {c : Code} {D : va_G} {A : Nat → Prop} {q : Nat → Nat} {k : kM} {cI cJ : ClassId} {σ' : sM} {fu : Nat} {h14 : sM → Int32 → Int32 → Option sM} (C0 : Cx p s m args meth c cM_mean 13 none RM TM) (hK : va_K D cl0 [(cI, .int), (cJ, .long)] s) (hA : ∀ z, s.heap.size ≤ z → A z) (ih14 : ∀ (σ : sM) (x1 : Int32) (x2 : Int32)(H : Heap) (locs : List Loc) (ls : Array Slot), h14 σ x1 x2 = some σ' → lv_has ls 13 [(0, .ref (q 0)), (1, .int x1), (2, .int x2)] → va_P D cl0 (wdM q k cI cJ σ) H → va_D A (wdM q k cI cJ σ) → va_S A s.heap H locs → W p l e ({ frames := 3, cells := 0, slots := 0, locals := 70 }) s m args below meth c H locs 0 0 (MQ below (kQv D cl0 [(cI, .int), (cJ, .long)] (wdM q k cI cJ) A σ') args s 0 0 A) (F0 m 14 ls [])) : ∀ n : Nat, ∀ (σ : sM) (x1 : Int32) (x2 : Int32) (x3 : Int64) (x5 : Int64) (x7 : Int32)(H : Heap) (locs : List Loc) (ls : Array Slot), fM_mean_26 fu k h14 n σ x1 x2 x3 x5 x7 = some σ' → lv_has ls 13 [(0, .ref (q 0)), (1, .int x1), (2, .int x2), (3, .long x3), (5, .long x5), (7, .int x7)] → va_P D cl0 (wdM q k cI cJ σ) H → va_D A (wdM q k cI cJ σ) → va_S A s.heap H locs → W p l e ({ frames := 3, cells := 0, slots := 0, locals := 70 }) s m args below meth c H locs 0 0 (MQ below (kQv D cl0 [(cI, .int), (cJ, .long)] (wdM q k cI cJ) A σ') args s 0 0 A) (F0 m 26 ls []) := by
  obtain ⟨hx, hb, hr, hml, hown, hts, hlocks⟩ := id C0
  intro n
  induction n with
  | zero =>
    intro σ x1 x2 x3 x5 x7 H locs ls hf hl hP hD hS
    cases hf
  | succ n ih =>
    intro σ x1 x2 x3 x5 x7 H locs ls hf hl hP hD hS
    rw [fM_mean_26] at hf
    refine lv_iload hx hb dM_mean_26 (lv_at hl 5 rfl) ?_
    refine lv_aload_n hx hb dM_mean_28 rfl (lv_at hl 0 rfl) ?_
    refine gM_ages hx hb hown hts hK hP dM_mean_29 ?_
    refine lv_icmp_ge (tgt := 114) hx hb dM_mean_32 (by decide) (fun c32 => ?_) (fun c32 => ?_)
    · have hf := (if_pos c32).symm.trans hf
      refine lv_lload_n hx hb dM_mean_114 rfl (lv_at hl 3 rfl) ?_
      refine lv_aload_n hx hb dM_mean_115 rfl (lv_at hl 0 rfl) ?_
      refine gM_below hx hb hown hts hK hP dM_mean_116 ?_
      refine lv_lmul hx hb dM_mean_119 ?_
      refine lv_aload_n hx hb dM_mean_120 rfl (lv_at hl 0 rfl) ?_
      refine gM_above hx hb hown hts hK hP dM_mean_121 ?_
      refine lv_lload hx hb dM_mean_124 (lv_at hl 4 rfl) ?_
      refine lv_lmul hx hb dM_mean_126 ?_
      refine W.lcmp hx hb dM_mean_127 ?_
      refine lv_if_le (tgt := 142) hx hb dM_mean_128 (by decide) (fun c127 => ?_) (fun c127 => ?_)
      · rw [lg_cmp_le] at c127
        have hf := (if_pos c127).symm.trans hf
        refine lv_iinc (v := (x2 + (-1))) (lv' := [(2, .int (x2 + (-1))), (0, .ref (q 0)), (1, .int x1), (3, .long x3), (5, .long x5), (7, .int x7)]) hx hb dM_mean_142 hl (k := 2) rfl rfl (by decide) rfl (fun ls hl => ?_)
        refine lv_goto (tgt := 14) hx hb dM_mean_145 (by decide) ?_
        exact ih14 σ x1 (x2 + (-1)) _ _ ls hf (lv_sub hl [1, 2, 0] rfl) hP hD hS
      · rw [lg_cmp_le] at c127
        have hf := (if_neg c127).symm.trans hf
        refine lv_aload_n hx hb dM_mean_131 rfl (lv_at hl 0 rfl) ?_
        refine lv_lload_n hx hb dM_mean_132 rfl (lv_at hl 3 rfl) ?_
        refine pM_above hx hb hown hts hK hP hD hS dM_mean_133 (fun H locs hP hD hS => ?_)
        generalize (uM_above σ x3) = s133 at hf hP hD
        refine lv_aload_n hx hb dM_mean_136 rfl (lv_at hl 0 rfl) ?_
        refine lv_lload hx hb dM_mean_137 (lv_at hl 4 rfl) ?_
        refine pM_below hx hb hown hts hK hP hD hS dM_mean_139 (fun H locs hP hD hS => ?_)
        generalize (uM_below s133 x5) = s139 at hf hP hD
        refine lv_iinc (v := (x2 + (-1))) (lv' := [(2, .int (x2 + (-1))), (0, .ref (q 0)), (1, .int x1), (3, .long x3), (5, .long x5), (7, .int x7)]) hx hb dM_mean_142 hl (k := 2) rfl rfl (by decide) rfl (fun ls hl => ?_)
        refine lv_goto (tgt := 14) hx hb dM_mean_145 (by decide) ?_
        exact ih14 s139 x1 (x2 + (-1)) _ _ ls hf (lv_sub hl [1, 2, 0] rfl) hP hD hS
    · have hf := (if_neg c32).symm.trans hf
      refine lv_lconst (v := 0) hx hb dM_mean_35 (by decide) ?_
      refine lv_lstore (lv' := [(8, .long (0 : Int64)), (0, .ref (q 0)), (1, .int x1), (2, .int x2), (3, .long x3), (5, .long x5), (7, .int x7)]) hx hb dM_mean_36 hl (by decide) rfl (fun ls hl => ?_)
      refine lv_lconst (v := 0) hx hb dM_mean_38 (by decide) ?_
      refine lv_lstore (lv' := [(10, .long (0 : Int64)), (8, .long (0 : Int64)), (0, .ref (q 0)), (1, .int x1), (2, .int x2), (3, .long x3), (5, .long x5), (7, .int x7)]) hx hb dM_mean_39 hl (by decide) rfl (fun ls hl => ?_)
      refine lv_iload_n hx hb dM_mean_41 rfl (lv_at hl 4 rfl) ?_
      refine lv_istore (lv' := [(12, .int x2), (10, .long (0 : Int64)), (8, .long (0 : Int64)), (0, .ref (q 0)), (1, .int x1), (2, .int x2), (3, .long x3), (5, .long x5), (7, .int x7)]) hx hb dM_mean_42 hl (by decide) rfl (fun ls hl => ?_)
      exact tM_mean_44 C0 hK hA ih14 ih fu σ x1 x2 x3 x5 x7 (0 : Int64) (0 : Int64) x2 _ _ ls hf (lv_sub hl [3, 4, 5, 6, 7, 8, 2, 1, 0] rfl) hP hD hS
set_option maxHeartbeats 400000 in
set_option maxRecDepth 100000 in
theorem tM_mean_14 {p : Program} {l : Launch} {e : Env} {s : State} {m : MethodId} {args : Array Value} {below : List Frame} {meth : Method} {c : Code} {D : va_G} {A : Nat → Prop} {q : Nat → Nat} {k : kM} {cI cJ : ClassId} {σ' : sM} {fu : Nat} (C0 : Cx p s m args meth c cM_mean 13 none RM TM) (hK : va_K D cl0 [(cI, .int), (cJ, .long)] s) (hA : ∀ z, s.heap.size ≤ z → A z) : ∀ n : Nat, ∀ (σ : sM) (x1 : Int32) (x2 : Int32)(H : Heap) (locs : List Loc) (ls : Array Slot), fM_mean_14 fu k n σ x1 x2 = some σ' → lv_has ls 13 [(0, .ref (q 0)), (1, .int x1), (2, .int x2)] → va_P D cl0 (wdM q k cI cJ σ) H → va_D A (wdM q k cI cJ σ) → va_S A s.heap H locs → W p l e ({ frames := 3, cells := 0, slots := 0, locals := 70 }) s m args below meth c H locs 0 0 (MQ below (kQv D cl0 [(cI, .int), (cJ, .long)] (wdM q k cI cJ) A σ') args s 0 0 A) (F0 m 14 ls []) := by
  obtain ⟨hx, hb, hr, hml, hown, hts, hlocks⟩ := id C0
  intro n
  induction n with
  | zero =>
    intro σ x1 x2 H locs ls hf hl hP hD hS
    cases hf
  | succ n ih =>
    intro σ x1 x2 H locs ls hf hl hP hD hS
    rw [fM_mean_14] at hf
    refine lv_iload_n hx hb dM_mean_14 rfl (lv_at hl 2 rfl) ?_
    refine lv_if_lt (tgt := 148) hx hb dM_mean_15 (by decide) (fun c15 => ?_) (fun c15 => ?_)
    · have hf := (if_pos c15).symm.trans hf
      exact kr_vret C0 hK hP hD hS (Option.some.inj hf) dM_mean_148
    · have hf := (if_neg c15).symm.trans hf
      refine lv_lconst (v := 0) hx hb dM_mean_18 (by decide) ?_
      refine lv_lstore_n (lv' := [(3, .long (0 : Int64)), (0, .ref (q 0)), (1, .int x1), (2, .int x2)]) hx hb dM_mean_19 rfl hl (by decide) rfl (fun ls hl => ?_)
      refine lv_lconst (v := 0) hx hb dM_mean_20 (by decide) ?_
      refine lv_lstore (lv' := [(5, .long (0 : Int64)), (3, .long (0 : Int64)), (0, .ref (q 0)), (1, .int x1), (2, .int x2)]) hx hb dM_mean_21 hl (by decide) rfl (fun ls hl => ?_)
      refine lv_iload_n hx hb dM_mean_23 rfl (lv_at hl 3 rfl) ?_
      refine lv_istore (lv' := [(7, .int x1), (5, .long (0 : Int64)), (3, .long (0 : Int64)), (0, .ref (q 0)), (1, .int x1), (2, .int x2)]) hx hb dM_mean_24 hl (by decide) rfl (fun ls hl => ?_)
      exact tM_mean_26 C0 hK hA ih fu σ x1 x2 (0 : Int64) (0 : Int64) x1 _ _ ls hf (lv_sub hl [3, 4, 5, 2, 1, 0] rfl) hP hD hS
set_option maxHeartbeats 400000 in
set_option maxRecDepth 100000 in
theorem mM_mean (l : Launch) (D : va_G) (q : Nat → Nat) (k : kM) (cI cJ : ClassId) (sz : Nat) (fu : Nat) (σ : sM) (σ' : sM) (x1 : Int32) (hf : fM_mean fu k σ x1 = some σ') : Met l yM_mean (.code yM_mean cM_mean 13 none :: TM) ({ frames := 3, cells := 0, slots := 0, locals := 70 }) (kPre D cl0 [(cI, .int), (cJ, .long)] (wdM q k cI cJ) sz σ [.ref (q 0), .int x1]) (kQv D cl0 [(cI, .int), (cJ, .long)] (wdM q k cI cJ) (va_A (wdM q k cI cJ σ) sz) σ') 0 0 (va_A (wdM q k cI cJ σ) sz) := by
  refine kr_start (own := RM) (by decide) rfl (Nat.le_of_ble_eq_true rfl) ?_
  intro p e s m args below meth c ls C0 hsz hK hP hD hl
  subst hsz
  obtain ⟨hx, hb, hr, hml, hown, hts, hlocks⟩ := id C0
  have hA : ∀ z : Nat, s.heap.size ≤ z → va_A (wdM q k cI cJ σ) s.heap.size z := fun z h => Or.inr h
  generalize va_A (wdM q k cI cJ σ) s.heap.size = A at hD hA ⊢
  have hS : va_S A s.heap s.heap [] := va_S.rf
  have hl : lv_has ls 13 [(0, .ref (q 0)), (1, .int x1)] := hl
  unfold fM_mean at hf
  refine lv_aload_n hx hb dM_mean_0 rfl (lv_at hl 0 rfl) ?_
  refine lv_ldc2 (v := -1) hx hb hown (hts (.constantLong RM 52 (-1)) (by decide +kernel)) dM_mean_1 ?_
  refine pM_above hx hb hown hts hK hP hD hS dM_mean_4 (fun H locs hP hD hS => ?_)
  generalize (uM_above σ (-1 : Int64)) = s4 at hf hP hD
  refine lv_aload_n hx hb dM_mean_7 rfl (lv_at hl 0 rfl) ?_
  refine lv_lconst (v := 1) hx hb dM_mean_8 (by decide) ?_
  refine pM_below hx hb hown hts hK hP hD hS dM_mean_9 (fun H locs hP hD hS => ?_)
  generalize (uM_below s4 (1 : Int64)) = s9 at hf hP hD
  refine lv_iload_n hx hb dM_mean_12 rfl (lv_at hl 1 rfl) ?_
  refine lv_istore_n (lv' := [(2, .int x1), (0, .ref (q 0)), (1, .int x1)]) hx hb dM_mean_13 rfl hl (by decide) rfl (fun ls hl => ?_)
  exact tM_mean_14 C0 hK hA fu s9 x1 x1 _ _ ls hf (lv_sub hl [1, 2, 0] rfl) hP hD hS
theorem dM_length_0 : decode cM_length 0 = .ok (.aload_n 0, 1) := by decide +kernel
theorem dM_length_1 : decode cM_length 1 = .ok (.iload_n 1, 1) := by decide +kernel
theorem dM_length_2 : decode cM_length 2 = .ok (.invokevirtual 58, 3) := by decide +kernel
theorem dM_length_5 : decode cM_length 5 = .ok (.ifCond .eq (18), 3) := by decide +kernel
theorem dM_length_8 : decode cM_length 8 = .ok (.iload_n 2, 1) := by decide +kernel
theorem dM_length_9 : decode cM_length 9 = .ok (.invokestatic 71, 3) := by decide +kernel
theorem dM_length_12 : decode cM_length 12 = .ok (.ifCond .eq (11), 3) := by decide +kernel
theorem dM_length_15 : decode cM_length 15 = .ok (.aload_n 0, 1) := by decide +kernel
theorem dM_length_16 : decode cM_length 16 = .ok (.iload_n 1, 1) := by decide +kernel
theorem dM_length_17 : decode cM_length 17 = .ok (.invokevirtual 120, 3) := by decide +kernel
theorem dM_length_20 : decode cM_length 20 = .ok (.ifCond .ne (7), 3) := by decide +kernel
theorem dM_length_23 : decode cM_length 23 = .ok (.ldc2_w 52, 3) := by decide +kernel
theorem dM_length_26 : decode cM_length 26 = .ok (.lreturn, 1) := by decide +kernel
theorem dM_length_27 : decode cM_length 27 = .ok (.aload_n 0, 1) := by decide +kernel
theorem dM_length_28 : decode cM_length 28 = .ok (.iload_n 1, 1) := by decide +kernel
theorem dM_length_29 : decode cM_length 29 = .ok (.invokevirtual 123, 3) := by decide +kernel
theorem dM_length_32 : decode cM_length 32 = .ok (.aload_n 0, 1) := by decide +kernel
theorem dM_length_33 : decode cM_length 33 = .ok (.getfield 91, 3) := by decide +kernel
theorem dM_length_36 : decode cM_length 36 = .ok (.aload_n 0, 1) := by decide +kernel
theorem dM_length_37 : decode cM_length 37 = .ok (.getfield 97, 3) := by decide +kernel
theorem dM_length_40 : decode cM_length 40 = .ok (.iload_n 2, 1) := by decide +kernel
theorem dM_length_41 : decode cM_length 41 = .ok (.invokestatic 77, 3) := by decide +kernel
theorem dM_length_44 : decode cM_length 44 = .ok (.lreturn, 1) := by decide +kernel
set_option maxHeartbeats 400000 in
set_option maxRecDepth 100000 in
theorem mM_length (l : Launch) (D : va_G) (q : Nat → Nat) (k : kM) (cI cJ : ClassId) (sz : Nat) (fu : Nat) (σ : sM) (σ' : sM) (x1 : Int32) (x2 : Int32) (r : Int64) (hf : fM_length fu k σ x1 x2 = some (r, σ')) : Met l yM_length (.code yM_length cM_length 3 (some .long) :: TM) ({ frames := 4, cells := 0, slots := 0, locals := 102 }) (kPre D cl0 [(cI, .int), (cJ, .long)] (wdM q k cI cJ) sz σ [.ref (q 0), .int x1, .int x2]) (kQl D cl0 [(cI, .int), (cJ, .long)] (wdM q k cI cJ) (va_A (wdM q k cI cJ σ) sz) r σ') 0 0 (va_A (wdM q k cI cJ σ) sz) := by
  refine kr_start (own := RM) (by decide) rfl (Nat.le_of_ble_eq_true rfl) ?_
  intro p e s m args below meth c ls C0 hsz hK hP hD hl
  subst hsz
  obtain ⟨hx, hb, hr, hml, hown, hts, hlocks⟩ := id C0
  have hA : ∀ z : Nat, s.heap.size ≤ z → va_A (wdM q k cI cJ σ) s.heap.size z := fun z h => Or.inr h
  generalize va_A (wdM q k cI cJ σ) s.heap.size = A at hD hA ⊢
  have hS : va_S A s.heap s.heap [] := va_S.rf
  have hl : lv_has ls 3 [(0, .ref (q 0)), (1, .int x1), (2, .int x2)] := hl
  unfold fM_length at hf
  refine lv_aload_n hx hb dM_length_0 rfl (lv_at hl 0 rfl) ?_
  refine lv_iload_n hx hb dM_length_1 rfl (lv_at hl 1 rfl) ?_
  refine kr_callVi (av := [.int x1]) ⟨hx, hb, hml, hown, hts⟩ (mM_isAge l D q k cI cJ _ σ x1 _ rfl) (cwV 1 hts (kgood_V TM_good (by decide +kernel)) rfl rfl rfl (by decide +kernel) ⟨Nat.le_of_ble_eq_true rfl, Nat.le_of_ble_eq_true rfl⟩) hK hP hD hS hA (ci := 1) (q0 := 0) rfl rfl rfl hl.1 rfl (Nat.le_of_ble_eq_true rfl) dM_length_2 ⟨Nat.le_of_ble_eq_true rfl, Nat.le_of_ble_eq_true rfl⟩ (fun H locs hP hD hS => ?_)
  refine lv_if_eq (tgt := 23) hx hb dM_length_5 (by decide) (fun c5 => ?_) (fun c5 => ?_)
  · have hf := (if_pos c5).symm.trans hf
    refine lv_ldc2 (v := -1) hx hb hown (hts (.constantLong RM 52 (-1)) (by decide +kernel)) dM_length_23 ?_
    exact kr_lret C0 hK hP hD hS (congrArg Prod.fst (Option.some.inj hf)) (congrArg Prod.snd (Option.some.inj hf)) dM_length_26
  · have hf := (if_neg c5).symm.trans hf
    refine lv_iload_n hx hb dM_length_8 rfl (lv_at hl 2 rfl) ?_
    refine kr_callSi (av := [.int x2]) ⟨hx, hb, hml, hown, hts⟩ (mM_isPart l D _ (wdM q k cI cJ) [(cI, .int), (cJ, .long)] cl0 _ σ x2 _ rfl) (cwS 1 hts (kgood_S TM_good (by decide +kernel)) rfl rfl rfl (by decide +kernel) ⟨Nat.le_of_ble_eq_true rfl, Nat.le_of_ble_eq_true rfl⟩) hK hP hD hS hA rfl hl.1 rfl (Nat.le_of_ble_eq_true rfl) dM_length_9 ⟨Nat.le_of_ble_eq_true rfl, Nat.le_of_ble_eq_true rfl⟩ (fun H locs hP hD hS => ?_)
    refine lv_if_eq (tgt := 23) hx hb dM_length_12 (by decide) (fun c12 => ?_) (fun c12 => ?_)
    · have hf := (if_pos c12).symm.trans hf
      refine lv_ldc2 (v := -1) hx hb hown (hts (.constantLong RM 52 (-1)) (by decide +kernel)) dM_length_23 ?_
      exact kr_lret C0 hK hP hD hS (congrArg Prod.fst (Option.some.inj hf)) (congrArg Prod.snd (Option.some.inj hf)) dM_length_26
    · have hf := (if_neg c12).symm.trans hf
      refine lv_aload_n hx hb dM_length_15 rfl (lv_at hl 0 rfl) ?_
      refine lv_iload_n hx hb dM_length_16 rfl (lv_at hl 1 rfl) ?_
      obtain ⟨v17, ev17, hf⟩ := kb1 hf
      refine kr_callVi (av := [.int x1]) ⟨hx, hb, hml, hown, hts⟩ (mM_ofAge l D q k cI cJ _ fu σ x1 v17 ev17) (cwV 1 hts (kgood_V TM_good (by decide +kernel)) rfl rfl rfl (by decide +kernel) ⟨Nat.le_of_ble_eq_true rfl, Nat.le_of_ble_eq_true rfl⟩) hK hP hD hS hA (ci := 1) (q0 := 0) rfl rfl rfl hl.1 rfl (Nat.le_of_ble_eq_true rfl) dM_length_17 ⟨Nat.le_of_ble_eq_true rfl, Nat.le_of_ble_eq_true rfl⟩ (fun H locs hP hD hS => ?_)
      refine lv_if_ne (tgt := 27) hx hb dM_length_20 (by decide) (fun c20 => ?_) (fun c20 => ?_)
      · have hf := (if_neg c20).symm.trans hf
        refine lv_aload_n hx hb dM_length_27 rfl (lv_at hl 0 rfl) ?_
        refine lv_iload_n hx hb dM_length_28 rfl (lv_at hl 1 rfl) ?_
        obtain ⟨s29, es29, hf⟩ := kb1 hf
        refine kr_callVv (av := [.int x1]) ⟨hx, hb, hml, hown, hts⟩ (mM_mean l D q k cI cJ _ fu σ s29 x1 es29) (cwV 1 hts (kgood_V TM_good (by decide +kernel)) rfl rfl rfl (by decide +kernel) ⟨Nat.le_of_ble_eq_true rfl, Nat.le_of_ble_eq_true rfl⟩) hK hP hD hS hA (ci := 1) (q0 := 0) rfl rfl rfl hl.1 rfl (Nat.le_of_ble_eq_true rfl) dM_length_29 ⟨Nat.le_of_ble_eq_true rfl, Nat.le_of_ble_eq_true rfl⟩ (fun H locs hP hD hS => ?_)
        refine lv_aload_n hx hb dM_length_32 rfl (lv_at hl 0 rfl) ?_
        refine gM_above hx hb hown hts hK hP dM_length_33 ?_
        refine lv_aload_n hx hb dM_length_36 rfl (lv_at hl 0 rfl) ?_
        refine gM_below hx hb hown hts hK hP dM_length_37 ?_
        refine lv_iload_n hx hb dM_length_40 rfl (lv_at hl 2 rfl) ?_
        obtain ⟨v41, ev41, hf⟩ := kb1 hf
        refine kr_callSl (av := [.long (sM_above s29), .long (sM_below s29), .int x2]) ⟨hx, hb, hml, hown, hts⟩ (mM_partOf l D _ (wdM q k cI cJ) [(cI, .int), (cJ, .long)] cl0 _ fu s29 (sM_above s29) (sM_below s29) x2 v41 ev41) (cwS 3 hts (kgood_S TM_good (by decide +kernel)) rfl rfl rfl (by decide +kernel) ⟨Nat.le_of_ble_eq_true rfl, Nat.le_of_ble_eq_true rfl⟩) hK hP hD hS hA rfl hl.1 rfl (Nat.le_of_ble_eq_true rfl) dM_length_41 ⟨Nat.le_of_ble_eq_true rfl, Nat.le_of_ble_eq_true rfl⟩ (fun H locs hP hD hS => ?_)
        exact kr_lret C0 hK hP hD hS (congrArg Prod.fst (Option.some.inj hf)) (congrArg Prod.snd (Option.some.inj hf)) dM_length_44
      · have hf := (if_pos c20).symm.trans hf
        refine lv_ldc2 (v := -1) hx hb hown (hts (.constantLong RM 52 (-1)) (by decide +kernel)) dM_length_23 ?_
        exact kr_lret C0 hK hP hD hS (congrArg Prod.fst (Option.some.inj hf)) (congrArg Prod.snd (Option.some.inj hf)) dM_length_26
theorem dM_isSame_0 : decode cM_isSame 0 = .ok (.aload_n 0, 1) := by decide +kernel
theorem dM_isSame_1 : decode cM_isSame 1 = .ok (.iload_n 1, 1) := by decide +kernel
theorem dM_isSame_2 : decode cM_isSame 2 = .ok (.invokevirtual 123, 3) := by decide +kernel
theorem dM_isSame_5 : decode cM_isSame 5 = .ok (.aload_n 0, 1) := by decide +kernel
theorem dM_isSame_6 : decode cM_isSame 6 = .ok (.getfield 91, 3) := by decide +kernel
theorem dM_isSame_9 : decode cM_isSame 9 = .ok (.lstore_n 3, 1) := by decide +kernel
theorem dM_isSame_10 : decode cM_isSame 10 = .ok (.aload_n 0, 1) := by decide +kernel
theorem dM_isSame_11 : decode cM_isSame 11 = .ok (.getfield 97, 3) := by decide +kernel
theorem dM_isSame_14 : decode cM_isSame 14 = .ok (.lstore 5, 2) := by decide +kernel
theorem dM_isSame_16 : decode cM_isSame 16 = .ok (.aload_n 0, 1) := by decide +kernel
theorem dM_isSame_17 : decode cM_isSame 17 = .ok (.iload_n 2, 1) := by decide +kernel
theorem dM_isSame_18 : decode cM_isSame 18 = .ok (.invokevirtual 123, 3) := by decide +kernel
theorem dM_isSame_21 : decode cM_isSame 21 = .ok (.lload_n 3, 1) := by decide +kernel
theorem dM_isSame_22 : decode cM_isSame 22 = .ok (.aload_n 0, 1) := by decide +kernel
theorem dM_isSame_23 : decode cM_isSame 23 = .ok (.getfield 97, 3) := by decide +kernel
theorem dM_isSame_26 : decode cM_isSame 26 = .ok (.lmul, 1) := by decide +kernel
theorem dM_isSame_27 : decode cM_isSame 27 = .ok (.aload_n 0, 1) := by decide +kernel
theorem dM_isSame_28 : decode cM_isSame 28 = .ok (.getfield 91, 3) := by decide +kernel
theorem dM_isSame_31 : decode cM_isSame 31 = .ok (.lload 5, 2) := by decide +kernel
theorem dM_isSame_33 : decode cM_isSame 33 = .ok (.lmul, 1) := by decide +kernel
theorem dM_isSame_34 : decode cM_isSame 34 = .ok (.lcmp, 1) := by decide +kernel
theorem dM_isSame_35 : decode cM_isSame 35 = .ok (.ifCond .ne (7), 3) := by decide +kernel
theorem dM_isSame_38 : decode cM_isSame 38 = .ok (.iconst 1, 1) := by decide +kernel
theorem dM_isSame_39 : decode cM_isSame 39 = .ok (.goto (4), 3) := by decide +kernel
theorem dM_isSame_42 : decode cM_isSame 42 = .ok (.iconst 0, 1) := by decide +kernel
theorem dM_isSame_43 : decode cM_isSame 43 = .ok (.ireturn, 1) := by decide +kernel
set_option maxHeartbeats 400000 in
set_option maxRecDepth 100000 in
theorem mM_isSame (l : Launch) (D : va_G) (q : Nat → Nat) (k : kM) (cI cJ : ClassId) (sz : Nat) (fu : Nat) (σ : sM) (σ' : sM) (x1 : Int32) (x2 : Int32) (r : Int32) (hf : fM_isSame fu k σ x1 x2 = some (r, σ')) : Met l yM_isSame (.code yM_isSame cM_isSame 7 (some .boolean) :: TM) ({ frames := 4, cells := 0, slots := 0, locals := 102 }) (kPre D cl0 [(cI, .int), (cJ, .long)] (wdM q k cI cJ) sz σ [.ref (q 0), .int x1, .int x2]) (kQi D cl0 [(cI, .int), (cJ, .long)] (wdM q k cI cJ) (va_A (wdM q k cI cJ σ) sz) r σ') 0 0 (va_A (wdM q k cI cJ σ) sz) := by
  refine kr_start (own := RM) (by decide) rfl (Nat.le_of_ble_eq_true rfl) ?_
  intro p e s m args below meth c ls C0 hsz hK hP hD hl
  subst hsz
  obtain ⟨hx, hb, hr, hml, hown, hts, hlocks⟩ := id C0
  have hA : ∀ z : Nat, s.heap.size ≤ z → va_A (wdM q k cI cJ σ) s.heap.size z := fun z h => Or.inr h
  generalize va_A (wdM q k cI cJ σ) s.heap.size = A at hD hA ⊢
  have hS : va_S A s.heap s.heap [] := va_S.rf
  have hl : lv_has ls 7 [(0, .ref (q 0)), (1, .int x1), (2, .int x2)] := hl
  unfold fM_isSame at hf
  refine lv_aload_n hx hb dM_isSame_0 rfl (lv_at hl 0 rfl) ?_
  refine lv_iload_n hx hb dM_isSame_1 rfl (lv_at hl 1 rfl) ?_
  obtain ⟨s2, es2, hf⟩ := kb1 hf
  refine kr_callVv (av := [.int x1]) ⟨hx, hb, hml, hown, hts⟩ (mM_mean l D q k cI cJ _ fu σ s2 x1 es2) (cwV 1 hts (kgood_V TM_good (by decide +kernel)) rfl rfl rfl (by decide +kernel) ⟨Nat.le_of_ble_eq_true rfl, Nat.le_of_ble_eq_true rfl⟩) hK hP hD hS hA (ci := 1) (q0 := 0) rfl rfl rfl hl.1 rfl (Nat.le_of_ble_eq_true rfl) dM_isSame_2 ⟨Nat.le_of_ble_eq_true rfl, Nat.le_of_ble_eq_true rfl⟩ (fun H locs hP hD hS => ?_)
  refine lv_aload_n hx hb dM_isSame_5 rfl (lv_at hl 0 rfl) ?_
  refine gM_above hx hb hown hts hK hP dM_isSame_6 ?_
  refine lv_lstore_n (lv' := [(3, .long (sM_above s2)), (0, .ref (q 0)), (1, .int x1), (2, .int x2)]) hx hb dM_isSame_9 rfl hl (by decide) rfl (fun ls hl => ?_)
  refine lv_aload_n hx hb dM_isSame_10 rfl (lv_at hl 1 rfl) ?_
  refine gM_below hx hb hown hts hK hP dM_isSame_11 ?_
  refine lv_lstore (lv' := [(5, .long (sM_below s2)), (3, .long (sM_above s2)), (0, .ref (q 0)), (1, .int x1), (2, .int x2)]) hx hb dM_isSame_14 hl (by decide) rfl (fun ls hl => ?_)
  refine lv_aload_n hx hb dM_isSame_16 rfl (lv_at hl 2 rfl) ?_
  refine lv_iload_n hx hb dM_isSame_17 rfl (lv_at hl 4 rfl) ?_
  obtain ⟨s18, es18, hf⟩ := kb1 hf
  refine kr_callVv (av := [.int x2]) ⟨hx, hb, hml, hown, hts⟩ (mM_mean l D q k cI cJ _ fu s2 s18 x2 es18) (cwV 1 hts (kgood_V TM_good (by decide +kernel)) rfl rfl rfl (by decide +kernel) ⟨Nat.le_of_ble_eq_true rfl, Nat.le_of_ble_eq_true rfl⟩) hK hP hD hS hA (ci := 1) (q0 := 0) rfl rfl rfl hl.1 rfl (Nat.le_of_ble_eq_true rfl) dM_isSame_18 ⟨Nat.le_of_ble_eq_true rfl, Nat.le_of_ble_eq_true rfl⟩ (fun H locs hP hD hS => ?_)
  refine lv_lload_n hx hb dM_isSame_21 rfl (lv_at hl 1 rfl) ?_
  refine lv_aload_n hx hb dM_isSame_22 rfl (lv_at hl 2 rfl) ?_
  refine gM_below hx hb hown hts hK hP dM_isSame_23 ?_
  refine lv_lmul hx hb dM_isSame_26 ?_
  refine lv_aload_n hx hb dM_isSame_27 rfl (lv_at hl 2 rfl) ?_
  refine gM_above hx hb hown hts hK hP dM_isSame_28 ?_
  refine lv_lload hx hb dM_isSame_31 (lv_at hl 0 rfl) ?_
  refine lv_lmul hx hb dM_isSame_33 ?_
  refine W.lcmp hx hb dM_isSame_34 ?_
  refine lv_if_ne (tgt := 42) hx hb dM_isSame_35 (by decide) (fun c34 => ?_) (fun c34 => ?_)
  · rw [lg_cmp_eq] at c34
    have hf := (if_neg c34).symm.trans hf
    refine lv_iconst (v := 0) hx hb dM_isSame_42 (by decide) ?_
    exact kr_zret C0 hK hP hD hS rfl (congrArg Prod.fst (Option.some.inj hf)) (congrArg Prod.snd (Option.some.inj hf)) dM_isSame_43
  · rw [lg_cmp_eq] at c34
    have hf := (if_pos c34).symm.trans hf
    refine lv_iconst (v := 1) hx hb dM_isSame_38 (by decide) ?_
    refine lv_goto (tgt := 43) hx hb dM_isSame_39 (by decide) ?_
    exact kr_zret C0 hK hP hD hS rfl (congrArg Prod.fst (Option.some.inj hf)) (congrArg Prod.snd (Option.some.inj hf)) dM_isSame_43
