theorem dM_groups_0 : decode cM_groups 0 = .ok (.iconst 0, 1) := by decide +kernel
theorem dM_groups_1 : decode cM_groups 1 = .ok (.istore_n 1, 1) := by decide +kernel
theorem dM_groups_2 : decode cM_groups 2 = .ok (.iconst 0, 1) := by decide +kernel
theorem dM_groups_3 : decode cM_groups 3 = .ok (.istore_n 2, 1) := by decide +kernel
theorem dM_groups_4 : decode cM_groups 4 = .ok (.iload_n 2, 1) := by decide +kernel
theorem dM_groups_5 : decode cM_groups 5 = .ok (.aload_n 0, 1) := by decide +kernel
theorem dM_groups_6 : decode cM_groups 6 = .ok (.getfield 39, 3) := by decide +kernel
theorem dM_groups_9 : decode cM_groups 9 = .ok (.if_icmp .ge (27), 3) := by decide +kernel
theorem dM_groups_12 : decode cM_groups 12 = .ok (.iload_n 1, 1) := by decide +kernel
theorem dM_groups_13 : decode cM_groups 13 = .ok (.aload_n 0, 1) := by decide +kernel
theorem dM_groups_14 : decode cM_groups 14 = .ok (.getfield 17, 3) := by decide +kernel
theorem dM_groups_17 : decode cM_groups 17 = .ok (.iload_n 2, 1) := by decide +kernel
theorem dM_groups_18 : decode cM_groups 18 = .ok (.iaload, 1) := by decide +kernel
theorem dM_groups_19 : decode cM_groups 19 = .ok (.iload_n 2, 1) := by decide +kernel
theorem dM_groups_20 : decode cM_groups 20 = .ok (.if_icmp .ne (7), 3) := by decide +kernel
theorem dM_groups_23 : decode cM_groups 23 = .ok (.iconst 1, 1) := by decide +kernel
theorem dM_groups_24 : decode cM_groups 24 = .ok (.goto (4), 3) := by decide +kernel
theorem dM_groups_27 : decode cM_groups 27 = .ok (.iconst 0, 1) := by decide +kernel
theorem dM_groups_28 : decode cM_groups 28 = .ok (.iadd, 1) := by decide +kernel
theorem dM_groups_29 : decode cM_groups 29 = .ok (.istore_n 1, 1) := by decide +kernel
theorem dM_groups_30 : decode cM_groups 30 = .ok (.iinc 2 (1), 3) := by decide +kernel
theorem dM_groups_33 : decode cM_groups 33 = .ok (.goto (-29), 3) := by decide +kernel
theorem dM_groups_36 : decode cM_groups 36 = .ok (.iload_n 1, 1) := by decide +kernel
theorem dM_groups_37 : decode cM_groups 37 = .ok (.ireturn, 1) := by decide +kernel
set_option maxHeartbeats 400000 in
set_option maxRecDepth 100000 in
theorem tM_groups_28 {p : Program} {l : Launch} {e : Env} {s : State} {m : MethodId} {args : Array Value} {below : List Frame} {meth : Method} {c : Code} {D : va_G} {A : Nat → Prop} {q : Nat → Nat} {k : kM} {cI cJ : ClassId} {r : Int32} {σ : sM} {fu : Nat} {h4 : Int32 → Int32 → Option Int32} (C0 : Cx p s m args meth c cM_groups 3 (some .int) RM TM) (hK : va_K D cl0 [(cI, .int), (cJ, .long)] s) (hA : ∀ z, s.heap.size ≤ z → A z) (ih4 : ∀ (x1 : Int32) (x2 : Int32)(H : Heap) (locs : List Loc) (ls : Array Slot), h4 x1 x2 = some r → lv_has ls 3 [(0, .ref (q 0)), (1, .int x1), (2, .int x2)] → va_P D cl0 (wdM q k cI cJ σ) H → va_D A (wdM q k cI cJ σ) → va_S A s.heap H locs → W p l e ({ frames := 0, cells := 0, slots := 0, locals := 0 }) s m args below meth c H locs 0 0 (MQ below (kQi D cl0 [(cI, .int), (cJ, .long)] (wdM q k cI cJ) A r σ) args s 0 0 A) (F0 m 4 ls [])) : ∀ (y0 : Int32) (y1 : Int32) (x2 : Int32)(H : Heap) (locs : List Loc) (ls : Array Slot), fM_groups_28 fu k σ h4 y0 y1 x2 = some r → lv_has ls 3 [(0, .ref (q 0)), (2, .int x2)] → va_P D cl0 (wdM q k cI cJ σ) H → va_D A (wdM q k cI cJ σ) → va_S A s.heap H locs → W p l e ({ frames := 0, cells := 0, slots := 0, locals := 0 }) s m args below meth c H locs 0 0 (MQ below (kQi D cl0 [(cI, .int), (cJ, .long)] (wdM q k cI cJ) A r σ) args s 0 0 A) (F0 m 28 ls [.int y1, .int y0]) := by
  obtain ⟨hx, hb, hr, hml, hown, hts, hlocks⟩ := id C0
  intro y0 y1 x2 H locs ls hf hl hP hD hS
  unfold fM_groups_28 at hf
  refine lv_iadd hx hb dM_groups_28 ?_
  refine lv_istore_n (lv' := [(1, .int (y0 + y1)), (0, .ref (q 0)), (2, .int x2)]) hx hb dM_groups_29 rfl hl (by decide) rfl (fun ls hl => ?_)
  refine lv_iinc (v := (x2 + 1)) (lv' := [(2, .int (x2 + 1)), (1, .int (y0 + y1)), (0, .ref (q 0))]) hx hb dM_groups_30 hl (k := 2) rfl rfl (by decide) rfl (fun ls hl => ?_)
  refine lv_goto (tgt := 4) hx hb dM_groups_33 (by decide) ?_
  exact ih4 (y0 + y1) (x2 + 1) _ _ ls hf (lv_sub hl [2, 1, 0] rfl) hP hD hS
set_option maxHeartbeats 400000 in
set_option maxRecDepth 100000 in
theorem tM_groups_4 {p : Program} {l : Launch} {e : Env} {s : State} {m : MethodId} {args : Array Value} {below : List Frame} {meth : Method} {c : Code} {D : va_G} {A : Nat → Prop} {q : Nat → Nat} {k : kM} {cI cJ : ClassId} {r : Int32} {σ : sM} {fu : Nat} (C0 : Cx p s m args meth c cM_groups 3 (some .int) RM TM) (hK : va_K D cl0 [(cI, .int), (cJ, .long)] s) (hA : ∀ z, s.heap.size ≤ z → A z) : ∀ n : Nat, ∀ (x1 : Int32) (x2 : Int32)(H : Heap) (locs : List Loc) (ls : Array Slot), fM_groups_4 fu k σ n x1 x2 = some r → lv_has ls 3 [(0, .ref (q 0)), (1, .int x1), (2, .int x2)] → va_P D cl0 (wdM q k cI cJ σ) H → va_D A (wdM q k cI cJ σ) → va_S A s.heap H locs → W p l e ({ frames := 0, cells := 0, slots := 0, locals := 0 }) s m args below meth c H locs 0 0 (MQ below (kQi D cl0 [(cI, .int), (cJ, .long)] (wdM q k cI cJ) A r σ) args s 0 0 A) (F0 m 4 ls []) := by
  obtain ⟨hx, hb, hr, hml, hown, hts, hlocks⟩ := id C0
  intro n
  induction n with
  | zero =>
    intro x1 x2 H locs ls hf hl hP hD hS
    cases hf
  | succ n ih =>
    intro x1 x2 H locs ls hf hl hP hD hS
    rw [fM_groups_4] at hf
    refine lv_iload_n hx hb dM_groups_4 rfl (lv_at hl 2 rfl) ?_
    refine lv_aload_n hx hb dM_groups_5 rfl (lv_at hl 0 rfl) ?_
    refine gM_classes hx hb hown hts hK hP dM_groups_6 ?_
    refine lv_icmp_ge (tgt := 36) hx hb dM_groups_9 (by decide) (fun c9 => ?_) (fun c9 => ?_)
    · have hf := (if_pos c9).symm.trans hf
      refine lv_iload_n hx hb dM_groups_36 rfl (lv_at hl 1 rfl) ?_
      exact kr_iret C0 hK hP hD hS (Option.some.inj hf) rfl dM_groups_37
    · have hf := (if_neg c9).symm.trans hf
      refine lv_iload_n hx hb dM_groups_12 rfl (lv_at hl 1 rfl) ?_
      refine lv_aload_n hx hb dM_groups_13 rfl (lv_at hl 0 rfl) ?_
      refine gM_group hx hb hown hts hK hP dM_groups_14 ?_
      refine lv_iload_n hx hb dM_groups_17 rfl (lv_at hl 2 rfl) ?_
      obtain ⟨v18, ev18, hf⟩ := kb1 hf
      refine kr_iaload hx hb hK hP 2 0 rfl rfl ev18 dM_groups_18 ?_
      refine lv_iload_n hx hb dM_groups_19 rfl (lv_at hl 2 rfl) ?_
      refine lv_icmp_ne (tgt := 27) hx hb dM_groups_20 (by decide) (fun c20 => ?_) (fun c20 => ?_)
      · have hf := (if_neg c20).symm.trans hf
        refine lv_iconst (v := 0) hx hb dM_groups_27 (by decide) ?_
        exact tM_groups_28 C0 hK hA ih x1 0 x2 _ _ ls hf (lv_sub hl [0, 2] rfl) hP hD hS
      · have hf := (if_pos c20).symm.trans hf
        refine lv_iconst (v := 1) hx hb dM_groups_23 (by decide) ?_
        refine lv_goto (tgt := 28) hx hb dM_groups_24 (by decide) ?_
        exact tM_groups_28 C0 hK hA ih x1 1 x2 _ _ ls hf (lv_sub hl [0, 2] rfl) hP hD hS
set_option maxHeartbeats 400000 in
set_option maxRecDepth 100000 in
theorem mM_groups (l : Launch) (D : va_G) (q : Nat → Nat) (k : kM) (cI cJ : ClassId) (sz : Nat) (fu : Nat) (σ : sM) (r : Int32) (hf : fM_groups fu k σ = some r) : Met l yM_groups (.code yM_groups cM_groups 3 (some .int) :: TM) ({ frames := 0, cells := 0, slots := 0, locals := 0 }) (kPre D cl0 [(cI, .int), (cJ, .long)] (wdM q k cI cJ) sz σ [.ref (q 0)]) (kQi D cl0 [(cI, .int), (cJ, .long)] (wdM q k cI cJ) (va_A (wdM q k cI cJ σ) sz) r σ) 0 0 (va_A (wdM q k cI cJ σ) sz) := by
  refine kr_start (own := RM) (by decide) rfl (Nat.le_of_ble_eq_true rfl) ?_
  intro p e s m args below meth c ls C0 hsz hK hP hD hl
  subst hsz
  obtain ⟨hx, hb, hr, hml, hown, hts, hlocks⟩ := id C0
  have hA : ∀ z : Nat, s.heap.size ≤ z → va_A (wdM q k cI cJ σ) s.heap.size z := fun z h => Or.inr h
  generalize va_A (wdM q k cI cJ σ) s.heap.size = A at hD hA ⊢
  have hS : va_S A s.heap s.heap [] := va_S.rf
  have hl : lv_has ls 3 [(0, .ref (q 0))] := hl
  unfold fM_groups at hf
  refine lv_iconst (v := 0) hx hb dM_groups_0 (by decide) ?_
  refine lv_istore_n (lv' := [(1, .int 0), (0, .ref (q 0))]) hx hb dM_groups_1 rfl hl (by decide) rfl (fun ls hl => ?_)
  refine lv_iconst (v := 0) hx hb dM_groups_2 (by decide) ?_
  refine lv_istore_n (lv' := [(2, .int 0), (1, .int 0), (0, .ref (q 0))]) hx hb dM_groups_3 rfl hl (by decide) rfl (fun ls hl => ?_)
  exact tM_groups_4 C0 hK hA fu 0 0 _ _ ls hf (lv_sub hl [2, 1, 0] rfl) hP hD hS
theorem dM_allMeasured_0 : decode cM_allMeasured 0 = .ok (.lconst 0, 1) := by decide +kernel
theorem dM_allMeasured_1 : decode cM_allMeasured 1 = .ok (.lstore_n 1, 1) := by decide +kernel
theorem dM_allMeasured_2 : decode cM_allMeasured 2 = .ok (.iconst 0, 1) := by decide +kernel
theorem dM_allMeasured_3 : decode cM_allMeasured 3 = .ok (.istore_n 3, 1) := by decide +kernel
theorem dM_allMeasured_4 : decode cM_allMeasured 4 = .ok (.iload_n 3, 1) := by decide +kernel
theorem dM_allMeasured_5 : decode cM_allMeasured 5 = .ok (.aload_n 0, 1) := by decide +kernel
theorem dM_allMeasured_6 : decode cM_allMeasured 6 = .ok (.getfield 39, 3) := by decide +kernel
theorem dM_allMeasured_9 : decode cM_allMeasured 9 = .ok (.if_icmp .ge (18), 3) := by decide +kernel
theorem dM_allMeasured_12 : decode cM_allMeasured 12 = .ok (.lload_n 1, 1) := by decide +kernel
theorem dM_allMeasured_13 : decode cM_allMeasured 13 = .ok (.aload_n 0, 1) := by decide +kernel
theorem dM_allMeasured_14 : decode cM_allMeasured 14 = .ok (.getfield 23, 3) := by decide +kernel
theorem dM_allMeasured_17 : decode cM_allMeasured 17 = .ok (.iload_n 3, 1) := by decide +kernel
theorem dM_allMeasured_18 : decode cM_allMeasured 18 = .ok (.laload, 1) := by decide +kernel
theorem dM_allMeasured_19 : decode cM_allMeasured 19 = .ok (.ladd, 1) := by decide +kernel
theorem dM_allMeasured_20 : decode cM_allMeasured 20 = .ok (.lstore_n 1, 1) := by decide +kernel
theorem dM_allMeasured_21 : decode cM_allMeasured 21 = .ok (.iinc 3 (1), 3) := by decide +kernel
theorem dM_allMeasured_24 : decode cM_allMeasured 24 = .ok (.goto (-20), 3) := by decide +kernel
theorem dM_allMeasured_27 : decode cM_allMeasured 27 = .ok (.lload_n 1, 1) := by decide +kernel
theorem dM_allMeasured_28 : decode cM_allMeasured 28 = .ok (.lreturn, 1) := by decide +kernel
set_option maxHeartbeats 400000 in
set_option maxRecDepth 100000 in
theorem tM_allMeasured_4 {p : Program} {l : Launch} {e : Env} {s : State} {m : MethodId} {args : Array Value} {below : List Frame} {meth : Method} {c : Code} {D : va_G} {A : Nat → Prop} {q : Nat → Nat} {k : kM} {cI cJ : ClassId} {r : Int64} {σ : sM} {fu : Nat} (C0 : Cx p s m args meth c cM_allMeasured 4 (some .long) RM TM) (hK : va_K D cl0 [(cI, .int), (cJ, .long)] s) (hA : ∀ z, s.heap.size ≤ z → A z) : ∀ n : Nat, ∀ (x1 : Int64) (x3 : Int32)(H : Heap) (locs : List Loc) (ls : Array Slot), fM_allMeasured_4 fu k σ n x1 x3 = some r → lv_has ls 4 [(0, .ref (q 0)), (1, .long x1), (3, .int x3)] → va_P D cl0 (wdM q k cI cJ σ) H → va_D A (wdM q k cI cJ σ) → va_S A s.heap H locs → W p l e ({ frames := 0, cells := 0, slots := 0, locals := 0 }) s m args below meth c H locs 0 0 (MQ below (kQl D cl0 [(cI, .int), (cJ, .long)] (wdM q k cI cJ) A r σ) args s 0 0 A) (F0 m 4 ls []) := by
  obtain ⟨hx, hb, hr, hml, hown, hts, hlocks⟩ := id C0
  intro n
  induction n with
  | zero =>
    intro x1 x3 H locs ls hf hl hP hD hS
    cases hf
  | succ n ih =>
    intro x1 x3 H locs ls hf hl hP hD hS
    rw [fM_allMeasured_4] at hf
    refine lv_iload_n hx hb dM_allMeasured_4 rfl (lv_at hl 2 rfl) ?_
    refine lv_aload_n hx hb dM_allMeasured_5 rfl (lv_at hl 0 rfl) ?_
    refine gM_classes hx hb hown hts hK hP dM_allMeasured_6 ?_
    refine lv_icmp_ge (tgt := 27) hx hb dM_allMeasured_9 (by decide) (fun c9 => ?_) (fun c9 => ?_)
    · have hf := (if_pos c9).symm.trans hf
      refine lv_lload_n hx hb dM_allMeasured_27 rfl (lv_at hl 1 rfl) ?_
      exact kr_lret C0 hK hP hD hS (Option.some.inj hf) rfl dM_allMeasured_28
    · have hf := (if_neg c9).symm.trans hf
      refine lv_lload_n hx hb dM_allMeasured_12 rfl (lv_at hl 1 rfl) ?_
      refine lv_aload_n hx hb dM_allMeasured_13 rfl (lv_at hl 0 rfl) ?_
      refine gM_measured hx hb hown hts hK hP dM_allMeasured_14 ?_
      refine lv_iload_n hx hb dM_allMeasured_17 rfl (lv_at hl 2 rfl) ?_
      obtain ⟨v18, ev18, hf⟩ := kb1 hf
      refine kr_laload hx hb hK hP 4 1 rfl rfl ev18 dM_allMeasured_18 ?_
      refine lv_ladd hx hb dM_allMeasured_19 ?_
      refine lv_lstore_n (lv' := [(1, .long (x1 + v18)), (0, .ref (q 0)), (3, .int x3)]) hx hb dM_allMeasured_20 rfl hl (by decide) rfl (fun ls hl => ?_)
      refine lv_iinc (v := (x3 + 1)) (lv' := [(3, .int (x3 + 1)), (1, .long (x1 + v18)), (0, .ref (q 0))]) hx hb dM_allMeasured_21 hl (k := 2) rfl rfl (by decide) rfl (fun ls hl => ?_)
      refine lv_goto (tgt := 4) hx hb dM_allMeasured_24 (by decide) ?_
      exact ih (x1 + v18) (x3 + 1) _ _ ls hf (lv_sub hl [2, 1, 0] rfl) hP hD hS
set_option maxHeartbeats 400000 in
set_option maxRecDepth 100000 in
theorem mM_allMeasured (l : Launch) (D : va_G) (q : Nat → Nat) (k : kM) (cI cJ : ClassId) (sz : Nat) (fu : Nat) (σ : sM) (r : Int64) (hf : fM_allMeasured fu k σ = some r) : Met l yM_allMeasured (.code yM_allMeasured cM_allMeasured 4 (some .long) :: TM) ({ frames := 0, cells := 0, slots := 0, locals := 0 }) (kPre D cl0 [(cI, .int), (cJ, .long)] (wdM q k cI cJ) sz σ [.ref (q 0)]) (kQl D cl0 [(cI, .int), (cJ, .long)] (wdM q k cI cJ) (va_A (wdM q k cI cJ σ) sz) r σ) 0 0 (va_A (wdM q k cI cJ σ) sz) := by
  refine kr_start (own := RM) (by decide) rfl (Nat.le_of_ble_eq_true rfl) ?_
  intro p e s m args below meth c ls C0 hsz hK hP hD hl
  subst hsz
  obtain ⟨hx, hb, hr, hml, hown, hts, hlocks⟩ := id C0
  have hA : ∀ z : Nat, s.heap.size ≤ z → va_A (wdM q k cI cJ σ) s.heap.size z := fun z h => Or.inr h
  generalize va_A (wdM q k cI cJ σ) s.heap.size = A at hD hA ⊢
  have hS : va_S A s.heap s.heap [] := va_S.rf
  have hl : lv_has ls 4 [(0, .ref (q 0))] := hl
  unfold fM_allMeasured at hf
  refine lv_lconst (v := 0) hx hb dM_allMeasured_0 (by decide) ?_
  refine lv_lstore_n (lv' := [(1, .long (0 : Int64)), (0, .ref (q 0))]) hx hb dM_allMeasured_1 rfl hl (by decide) rfl (fun ls hl => ?_)
  refine lv_iconst (v := 0) hx hb dM_allMeasured_2 (by decide) ?_
  refine lv_istore_n (lv' := [(3, .int 0), (1, .long (0 : Int64)), (0, .ref (q 0))]) hx hb dM_allMeasured_3 rfl hl (by decide) rfl (fun ls hl => ?_)
  exact tM_allMeasured_4 C0 hK hA fu (0 : Int64) 0 _ _ ls hf (lv_sub hl [2, 1, 0] rfl) hP hD hS
theorem dM_sample_0 : decode cM_sample 0 = .ok (.aload_n 0, 1) := by decide +kernel
theorem dM_sample_1 : decode cM_sample 1 = .ok (.iload_n 1, 1) := by decide +kernel
theorem dM_sample_2 : decode cM_sample 2 = .ok (.invokevirtual 54, 3) := by decide +kernel
theorem dM_sample_5 : decode cM_sample 5 = .ok (.ifCond .eq (30), 3) := by decide +kernel
theorem dM_sample_8 : decode cM_sample 8 = .ok (.lload_n 2, 1) := by decide +kernel
theorem dM_sample_9 : decode cM_sample 9 = .ok (.lconst 0, 1) := by decide +kernel
theorem dM_sample_10 : decode cM_sample 10 = .ok (.lcmp, 1) := by decide +kernel
theorem dM_sample_11 : decode cM_sample 11 = .ok (.ifCond .lt (24), 3) := by decide +kernel
theorem dM_sample_14 : decode cM_sample 14 = .ok (.lload_n 2, 1) := by decide +kernel
theorem dM_sample_15 : decode cM_sample 15 = .ok (.ldc2_w 85, 3) := by decide +kernel
theorem dM_sample_18 : decode cM_sample 18 = .ok (.lcmp, 1) := by decide +kernel
theorem dM_sample_19 : decode cM_sample 19 = .ok (.ifCond .gt (16), 3) := by decide +kernel
theorem dM_sample_22 : decode cM_sample 22 = .ok (.aload_n 0, 1) := by decide +kernel
theorem dM_sample_23 : decode cM_sample 23 = .ok (.invokevirtual 87, 3) := by decide +kernel
theorem dM_sample_26 : decode cM_sample 26 = .ok (.lload_n 2, 1) := by decide +kernel
theorem dM_sample_27 : decode cM_sample 27 = .ok (.ladd, 1) := by decide +kernel
theorem dM_sample_28 : decode cM_sample 28 = .ok (.ldc2_w 85, 3) := by decide +kernel
theorem dM_sample_31 : decode cM_sample 31 = .ok (.lcmp, 1) := by decide +kernel
theorem dM_sample_32 : decode cM_sample 32 = .ok (.ifCond .le (5), 3) := by decide +kernel
theorem dM_sample_35 : decode cM_sample 35 = .ok (.iconst 0, 1) := by decide +kernel
theorem dM_sample_36 : decode cM_sample 36 = .ok (.ireturn, 1) := by decide +kernel
theorem dM_sample_37 : decode cM_sample 37 = .ok (.aload_n 0, 1) := by decide +kernel
theorem dM_sample_38 : decode cM_sample 38 = .ok (.getfield 23, 3) := by decide +kernel
theorem dM_sample_41 : decode cM_sample 41 = .ok (.iload_n 1, 1) := by decide +kernel
theorem dM_sample_42 : decode cM_sample 42 = .ok (.dup2, 1) := by decide +kernel
theorem dM_sample_43 : decode cM_sample 43 = .ok (.laload, 1) := by decide +kernel
theorem dM_sample_44 : decode cM_sample 44 = .ok (.lload_n 2, 1) := by decide +kernel
theorem dM_sample_45 : decode cM_sample 45 = .ok (.ladd, 1) := by decide +kernel
theorem dM_sample_46 : decode cM_sample 46 = .ok (.lastore, 1) := by decide +kernel
theorem dM_sample_47 : decode cM_sample 47 = .ok (.iconst 1, 1) := by decide +kernel
theorem dM_sample_48 : decode cM_sample 48 = .ok (.ireturn, 1) := by decide +kernel
set_option maxHeartbeats 400000 in
set_option maxRecDepth 100000 in
theorem mM_sample (l : Launch) (D : va_G) (q : Nat → Nat) (k : kM) (cI cJ : ClassId) (sz : Nat) (fu : Nat) (σ : sM) (σ' : sM) (x1 : Int32) (x2 : Int64) (r : Int32) (hf : fM_sample fu k σ x1 x2 = some (r, σ')) : Met l yM_sample (.code yM_sample cM_sample 4 (some .boolean) :: TM) ({ frames := 1, cells := 0, slots := 0, locals := 23 }) (kPre D cl0 [(cI, .int), (cJ, .long)] (wdM q k cI cJ) sz σ [.ref (q 0), .int x1, .long x2]) (kQi D cl0 [(cI, .int), (cJ, .long)] (wdM q k cI cJ) (va_A (wdM q k cI cJ σ) sz) r σ') 0 0 (va_A (wdM q k cI cJ σ) sz) := by
  refine kr_start (own := RM) (by decide) rfl (Nat.le_of_ble_eq_true rfl) ?_
  intro p e s m args below meth c ls C0 hsz hK hP hD hl
  subst hsz
  obtain ⟨hx, hb, hr, hml, hown, hts, hlocks⟩ := id C0
  have hA : ∀ z : Nat, s.heap.size ≤ z → va_A (wdM q k cI cJ σ) s.heap.size z := fun z h => Or.inr h
  generalize va_A (wdM q k cI cJ σ) s.heap.size = A at hD hA ⊢
  have hS : va_S A s.heap s.heap [] := va_S.rf
  have hl : lv_has ls 4 [(0, .ref (q 0)), (1, .int x1), (2, .long x2)] := hl
  unfold fM_sample at hf
  refine lv_aload_n hx hb dM_sample_0 rfl (lv_at hl 0 rfl) ?_
  refine lv_iload_n hx hb dM_sample_1 rfl (lv_at hl 1 rfl) ?_
  refine kr_callVi (av := [.int x1]) ⟨hx, hb, hml, hown, hts⟩ (mM_isClass l D q k cI cJ _ σ x1 _ rfl) (cwV 1 hts (kgood_V TM_good (by decide +kernel)) rfl rfl rfl (by decide +kernel) ⟨Nat.le_of_ble_eq_true rfl, Nat.le_of_ble_eq_true rfl⟩) hK hP hD hS hA (ci := 1) (q0 := 0) rfl rfl rfl hl.1 rfl (Nat.le_of_ble_eq_true rfl) dM_sample_2 ⟨Nat.le_of_ble_eq_true rfl, Nat.le_of_ble_eq_true rfl⟩ (fun H locs hP hD hS => ?_)
  refine lv_if_eq (tgt := 35) hx hb dM_sample_5 (by decide) (fun c5 => ?_) (fun c5 => ?_)
  · have hf := (if_pos c5).symm.trans hf
    refine lv_iconst (v := 0) hx hb dM_sample_35 (by decide) ?_
    exact kr_zret C0 hK hP hD hS rfl (congrArg Prod.fst (Option.some.inj hf)) (congrArg Prod.snd (Option.some.inj hf)) dM_sample_36
  · have hf := (if_neg c5).symm.trans hf
    refine lv_lload_n hx hb dM_sample_8 rfl (lv_at hl 2 rfl) ?_
    refine lv_lconst (v := 0) hx hb dM_sample_9 (by decide) ?_
    refine W.lcmp hx hb dM_sample_10 ?_
    refine lv_if_lt (tgt := 35) hx hb dM_sample_11 (by decide) (fun c10 => ?_) (fun c10 => ?_)
    · rw [lg_cmp_lt] at c10
      have hf := (if_pos c10).symm.trans hf
      refine lv_iconst (v := 0) hx hb dM_sample_35 (by decide) ?_
      exact kr_zret C0 hK hP hD hS rfl (congrArg Prod.fst (Option.some.inj hf)) (congrArg Prod.snd (Option.some.inj hf)) dM_sample_36
    · rw [lg_cmp_lt] at c10
      have hf := (if_neg c10).symm.trans hf
      refine lv_lload_n hx hb dM_sample_14 rfl (lv_at hl 2 rfl) ?_
      refine lv_ldc2 (v := 10000) hx hb hown (hts (.constantLong RM 85 (10000)) (by decide +kernel)) dM_sample_15 ?_
      refine W.lcmp hx hb dM_sample_18 ?_
      refine lv_if_gt (tgt := 35) hx hb dM_sample_19 (by decide) (fun c18 => ?_) (fun c18 => ?_)
      · rw [lg_cmp_gt] at c18
        have hf := (if_pos c18).symm.trans hf
        refine lv_iconst (v := 0) hx hb dM_sample_35 (by decide) ?_
        exact kr_zret C0 hK hP hD hS rfl (congrArg Prod.fst (Option.some.inj hf)) (congrArg Prod.snd (Option.some.inj hf)) dM_sample_36
      · rw [lg_cmp_gt] at c18
        have hf := (if_neg c18).symm.trans hf
        refine lv_aload_n hx hb dM_sample_22 rfl (lv_at hl 0 rfl) ?_
        obtain ⟨v23, ev23, hf⟩ := kb1 hf
        refine kr_callVl (av := []) ⟨hx, hb, hml, hown, hts⟩ (mM_allMeasured l D q k cI cJ _ fu σ v23 ev23) (cwV 0 hts (kgood_V TM_good (by decide +kernel)) rfl rfl rfl (by decide +kernel) ⟨Nat.le_of_ble_eq_true rfl, Nat.le_of_ble_eq_true rfl⟩) hK hP hD hS hA (ci := 1) (q0 := 0) rfl rfl rfl hl.1 rfl (Nat.le_of_ble_eq_true rfl) dM_sample_23 ⟨Nat.le_of_ble_eq_true rfl, Nat.le_of_ble_eq_true rfl⟩ (fun H locs hP hD hS => ?_)
        refine lv_lload_n hx hb dM_sample_26 rfl (lv_at hl 2 rfl) ?_
        refine lv_ladd hx hb dM_sample_27 ?_
        refine lv_ldc2 (v := 10000) hx hb hown (hts (.constantLong RM 85 (10000)) (by decide +kernel)) dM_sample_28 ?_
        refine W.lcmp hx hb dM_sample_31 ?_
        refine lv_if_le (tgt := 37) hx hb dM_sample_32 (by decide) (fun c31 => ?_) (fun c31 => ?_)
        · rw [lg_cmp_le] at c31
          have hf := (if_pos c31).symm.trans hf
          refine lv_aload_n hx hb dM_sample_37 rfl (lv_at hl 0 rfl) ?_
          refine gM_measured hx hb hown hts hK hP dM_sample_38 ?_
          refine lv_iload_n hx hb dM_sample_41 rfl (lv_at hl 1 rfl) ?_
          refine lv_dup2_11 hx hb dM_sample_42 rfl rfl ?_
          obtain ⟨v43, ev43, hf⟩ := kb1 hf
          refine kr_laload hx hb hK hP 4 1 rfl rfl ev43 dM_sample_43 ?_
          refine lv_lload_n hx hb dM_sample_44 rfl (lv_at hl 2 rfl) ?_
          refine lv_ladd hx hb dM_sample_45 ?_
          obtain ⟨a46, ea46, hf⟩ := kb1 hf
          refine kr_lastore (σ' := (uM_measured σ a46)) hx hb hK hP hD hS 4 1 rfl rfl ea46 (wM_measured q k cI cJ _ _) dM_sample_46 (fun H locs hP hD hS => ?_)
          generalize (uM_measured σ a46) = s46 at hf hP hD
          refine lv_iconst (v := 1) hx hb dM_sample_47 (by decide) ?_
          exact kr_zret C0 hK hP hD hS rfl (congrArg Prod.fst (Option.some.inj hf)) (congrArg Prod.snd (Option.some.inj hf)) dM_sample_48
        · rw [lg_cmp_le] at c31
          have hf := (if_neg c31).symm.trans hf
          refine lv_iconst (v := 0) hx hb dM_sample_35 (by decide) ?_
          exact kr_zret C0 hK hP hD hS rfl (congrArg Prod.fst (Option.some.inj hf)) (congrArg Prod.snd (Option.some.inj hf)) dM_sample_36
theorem dM_raise_0 : decode cM_raise 0 = .ok (.lload_n 1, 1) := by decide +kernel
theorem dM_raise_1 : decode cM_raise 1 = .ok (.lconst 0, 1) := by decide +kernel
theorem dM_raise_2 : decode cM_raise 2 = .ok (.lcmp, 1) := by decide +kernel
theorem dM_raise_3 : decode cM_raise 3 = .ok (.ifCond .lt (24), 3) := by decide +kernel
theorem dM_raise_6 : decode cM_raise 6 = .ok (.lload_n 1, 1) := by decide +kernel
theorem dM_raise_7 : decode cM_raise 7 = .ok (.ldc2_w 85, 3) := by decide +kernel
theorem dM_raise_10 : decode cM_raise 10 = .ok (.lcmp, 1) := by decide +kernel
theorem dM_raise_11 : decode cM_raise 11 = .ok (.ifCond .gt (16), 3) := by decide +kernel
theorem dM_raise_14 : decode cM_raise 14 = .ok (.aload_n 0, 1) := by decide +kernel
theorem dM_raise_15 : decode cM_raise 15 = .ok (.invokevirtual 87, 3) := by decide +kernel
theorem dM_raise_18 : decode cM_raise 18 = .ok (.lconst 0, 1) := by decide +kernel
theorem dM_raise_19 : decode cM_raise 19 = .ok (.lcmp, 1) := by decide +kernel
theorem dM_raise_20 : decode cM_raise 20 = .ok (.ifCond .le (7), 3) := by decide +kernel
theorem dM_raise_23 : decode cM_raise 23 = .ok (.iconst 1, 1) := by decide +kernel
theorem dM_raise_24 : decode cM_raise 24 = .ok (.goto (4), 3) := by decide +kernel
theorem dM_raise_27 : decode cM_raise 27 = .ok (.iconst 0, 1) := by decide +kernel
theorem dM_raise_28 : decode cM_raise 28 = .ok (.istore 4, 2) := by decide +kernel
theorem dM_raise_30 : decode cM_raise 30 = .ok (.aload_n 0, 1) := by decide +kernel
theorem dM_raise_31 : decode cM_raise 31 = .ok (.lconst 0, 1) := by decide +kernel
theorem dM_raise_32 : decode cM_raise 32 = .ok (.putfield 91, 3) := by decide +kernel
theorem dM_raise_35 : decode cM_raise 35 = .ok (.aload_n 0, 1) := by decide +kernel
theorem dM_raise_36 : decode cM_raise 36 = .ok (.iload 4, 2) := by decide +kernel
theorem dM_raise_38 : decode cM_raise 38 = .ok (.ifCond .eq (14), 3) := by decide +kernel
theorem dM_raise_41 : decode cM_raise 41 = .ok (.aload_n 0, 1) := by decide +kernel
theorem dM_raise_42 : decode cM_raise 42 = .ok (.invokevirtual 87, 3) := by decide +kernel
theorem dM_raise_45 : decode cM_raise 45 = .ok (.ldc2_w 95, 3) := by decide +kernel
theorem dM_raise_48 : decode cM_raise 48 = .ok (.lmul, 1) := by decide +kernel
theorem dM_raise_49 : decode cM_raise 49 = .ok (.goto (4), 3) := by decide +kernel
theorem dM_raise_52 : decode cM_raise 52 = .ok (.lconst 1, 1) := by decide +kernel
theorem dM_raise_53 : decode cM_raise 53 = .ok (.putfield 97, 3) := by decide +kernel
theorem dM_raise_56 : decode cM_raise 56 = .ok (.iconst 0, 1) := by decide +kernel
theorem dM_raise_57 : decode cM_raise 57 = .ok (.istore 5, 2) := by decide +kernel
theorem dM_raise_59 : decode cM_raise 59 = .ok (.iload 5, 2) := by decide +kernel
theorem dM_raise_61 : decode cM_raise 61 = .ok (.aload_n 0, 1) := by decide +kernel
theorem dM_raise_62 : decode cM_raise 62 = .ok (.getfield 39, 3) := by decide +kernel
theorem dM_raise_65 : decode cM_raise 65 = .ok (.if_icmp .ge (117), 3) := by decide +kernel
theorem dM_raise_68 : decode cM_raise 68 = .ok (.iload 4, 2) := by decide +kernel
theorem dM_raise_70 : decode cM_raise 70 = .ok (.ifCond .eq (112), 3) := by decide +kernel
theorem dM_raise_73 : decode cM_raise 73 = .ok (.aload_n 0, 1) := by decide +kernel
theorem dM_raise_74 : decode cM_raise 74 = .ok (.getfield 23, 3) := by decide +kernel
theorem dM_raise_77 : decode cM_raise 77 = .ok (.iload 5, 2) := by decide +kernel
theorem dM_raise_79 : decode cM_raise 79 = .ok (.laload, 1) := by decide +kernel
theorem dM_raise_80 : decode cM_raise 80 = .ok (.lconst 0, 1) := by decide +kernel
theorem dM_raise_81 : decode cM_raise 81 = .ok (.lcmp, 1) := by decide +kernel
theorem dM_raise_82 : decode cM_raise 82 = .ok (.ifCond .ne (7), 3) := by decide +kernel
theorem dM_raise_85 : decode cM_raise 85 = .ok (.iconst (-1), 1) := by decide +kernel
theorem dM_raise_86 : decode cM_raise 86 = .ok (.goto (14), 3) := by decide +kernel
theorem dM_raise_89 : decode cM_raise 89 = .ok (.aload_n 0, 1) := by decide +kernel
theorem dM_raise_90 : decode cM_raise 90 = .ok (.aload_n 0, 1) := by decide +kernel
theorem dM_raise_91 : decode cM_raise 91 = .ok (.getfield 17, 3) := by decide +kernel
theorem dM_raise_94 : decode cM_raise 94 = .ok (.iload 5, 2) := by decide +kernel
theorem dM_raise_96 : decode cM_raise 96 = .ok (.iaload, 1) := by decide +kernel
theorem dM_raise_97 : decode cM_raise 97 = .ok (.invokevirtual 74, 3) := by decide +kernel
theorem dM_raise_100 : decode cM_raise 100 = .ok (.istore 6, 2) := by decide +kernel
theorem dM_raise_102 : decode cM_raise 102 = .ok (.iload 6, 2) := by decide +kernel
theorem dM_raise_104 : decode cM_raise 104 = .ok (.iconst (-1), 1) := by decide +kernel
theorem dM_raise_105 : decode cM_raise 105 = .ok (.if_icmp .ne (15), 3) := by decide +kernel
theorem dM_raise_108 : decode cM_raise 108 = .ok (.aload_n 0, 1) := by decide +kernel
theorem dM_raise_109 : decode cM_raise 109 = .ok (.getfield 23, 3) := by decide +kernel
theorem dM_raise_112 : decode cM_raise 112 = .ok (.iload 5, 2) := by decide +kernel
theorem dM_raise_114 : decode cM_raise 114 = .ok (.laload, 1) := by decide +kernel
theorem dM_raise_115 : decode cM_raise 115 = .ok (.lconst 0, 1) := by decide +kernel
theorem dM_raise_116 : decode cM_raise 116 = .ok (.lcmp, 1) := by decide +kernel
theorem dM_raise_117 : decode cM_raise 117 = .ok (.ifCond .ne (7), 3) := by decide +kernel
theorem dM_raise_120 : decode cM_raise 120 = .ok (.iconst 1, 1) := by decide +kernel
theorem dM_raise_121 : decode cM_raise 121 = .ok (.goto (4), 3) := by decide +kernel
theorem dM_raise_124 : decode cM_raise 124 = .ok (.iconst 0, 1) := by decide +kernel
theorem dM_raise_125 : decode cM_raise 125 = .ok (.istore 4, 2) := by decide +kernel
theorem dM_raise_127 : decode cM_raise 127 = .ok (.iload 6, 2) := by decide +kernel
theorem dM_raise_129 : decode cM_raise 129 = .ok (.iconst (-1), 1) := by decide +kernel
theorem dM_raise_130 : decode cM_raise 130 = .ok (.if_icmp .eq (46), 3) := by decide +kernel
theorem dM_raise_133 : decode cM_raise 133 = .ok (.aload_n 0, 1) := by decide +kernel
theorem dM_raise_134 : decode cM_raise 134 = .ok (.dup, 1) := by decide +kernel
theorem dM_raise_135 : decode cM_raise 135 = .ok (.getfield 91, 3) := by decide +kernel
theorem dM_raise_138 : decode cM_raise 138 = .ok (.lload_n 1, 1) := by decide +kernel
theorem dM_raise_139 : decode cM_raise 139 = .ok (.aload_n 0, 1) := by decide +kernel
theorem dM_raise_140 : decode cM_raise 140 = .ok (.getfield 23, 3) := by decide +kernel
theorem dM_raise_143 : decode cM_raise 143 = .ok (.iload 5, 2) := by decide +kernel
theorem dM_raise_145 : decode cM_raise 145 = .ok (.laload, 1) := by decide +kernel
theorem dM_raise_146 : decode cM_raise 146 = .ok (.lmul, 1) := by decide +kernel
theorem dM_raise_147 : decode cM_raise 147 = .ok (.aload_n 0, 1) := by decide +kernel
theorem dM_raise_148 : decode cM_raise 148 = .ok (.iload 6, 2) := by decide +kernel
theorem dM_raise_150 : decode cM_raise 150 = .ok (.aload_n 0, 1) := by decide +kernel
theorem dM_raise_151 : decode cM_raise 151 = .ok (.getfield 13, 3) := by decide +kernel
theorem dM_raise_154 : decode cM_raise 154 = .ok (.iload_n 3, 1) := by decide +kernel
theorem dM_raise_155 : decode cM_raise 155 = .ok (.invokevirtual 61, 3) := by decide +kernel
theorem dM_raise_158 : decode cM_raise 158 = .ok (.i2l, 1) := by decide +kernel
theorem dM_raise_159 : decode cM_raise 159 = .ok (.ldc2_w 95, 3) := by decide +kernel
theorem dM_raise_162 : decode cM_raise 162 = .ok (.aload_n 0, 1) := by decide +kernel
theorem dM_raise_163 : decode cM_raise 163 = .ok (.iload 6, 2) := by decide +kernel
theorem dM_raise_165 : decode cM_raise 165 = .ok (.invokevirtual 68, 3) := by decide +kernel
theorem dM_raise_168 : decode cM_raise 168 = .ok (.i2l, 1) := by decide +kernel
theorem dM_raise_169 : decode cM_raise 169 = .ok (.ldiv, 1) := by decide +kernel
theorem dM_raise_170 : decode cM_raise 170 = .ok (.lmul, 1) := by decide +kernel
theorem dM_raise_171 : decode cM_raise 171 = .ok (.lmul, 1) := by decide +kernel
theorem dM_raise_172 : decode cM_raise 172 = .ok (.ladd, 1) := by decide +kernel
theorem dM_raise_173 : decode cM_raise 173 = .ok (.putfield 91, 3) := by decide +kernel
theorem dM_raise_176 : decode cM_raise 176 = .ok (.iinc 5 (1), 3) := by decide +kernel
theorem dM_raise_179 : decode cM_raise 179 = .ok (.goto (-120), 3) := by decide +kernel
theorem dM_raise_182 : decode cM_raise 182 = .ok (.iload 4, 2) := by decide +kernel
theorem dM_raise_184 : decode cM_raise 184 = .ok (.ireturn, 1) := by decide +kernel
set_option maxHeartbeats 400000 in
set_option maxRecDepth 100000 in
theorem tM_raise_125 {p : Program} {l : Launch} {e : Env} {s : State} {m : MethodId} {args : Array Value} {below : List Frame} {meth : Method} {c : Code} {D : va_G} {A : Nat → Prop} {q : Nat → Nat} {k : kM} {cI cJ : ClassId} {r : Int32} {σ' : sM} {fu : Nat} {h59 : sM → Int64 → Int32 → Int32 → Int32 → Option (Int32 × sM)} (C0 : Cx p s m args meth c cM_raise 7 (some .boolean) RM TM) (hK : va_K D cl0 [(cI, .int), (cJ, .long)] s) (hA : ∀ z, s.heap.size ≤ z → A z) (ih59 : ∀ (σ : sM) (x1 : Int64) (x3 : Int32) (x4 : Int32) (x5 : Int32)(H : Heap) (locs : List Loc) (ls : Array Slot), h59 σ x1 x3 x4 x5 = some (r, σ') → lv_has ls 7 [(0, .ref (q 0)), (1, .long x1), (3, .int x3), (4, .int x4), (5, .int x5)] → va_P D cl0 (wdM q k cI cJ σ) H → va_D A (wdM q k cI cJ σ) → va_S A s.heap H locs → W p l e ({ frames := 5, cells := 0, slots := 0, locals := 117 }) s m args below meth c H locs 0 0 (MQ below (kQi D cl0 [(cI, .int), (cJ, .long)] (wdM q k cI cJ) A r σ') args s 0 0 A) (F0 m 59 ls [])) : ∀ (σ : sM) (y0 : Int32) (x1 : Int64) (x3 : Int32) (x5 : Int32) (x6 : Int32)(H : Heap) (locs : List Loc) (ls : Array Slot), fM_raise_125 fu k h59 σ y0 x1 x3 x5 x6 = some (r, σ') → lv_has ls 7 [(0, .ref (q 0)), (1, .long x1), (3, .int x3), (5, .int x5), (6, .int x6)] → va_P D cl0 (wdM q k cI cJ σ) H → va_D A (wdM q k cI cJ σ) → va_S A s.heap H locs → W p l e ({ frames := 5, cells := 0, slots := 0, locals := 117 }) s m args below meth c H locs 0 0 (MQ below (kQi D cl0 [(cI, .int), (cJ, .long)] (wdM q k cI cJ) A r σ') args s 0 0 A) (F0 m 125 ls [.int y0]) := by
  obtain ⟨hx, hb, hr, hml, hown, hts, hlocks⟩ := id C0
  intro σ y0 x1 x3 x5 x6 H locs ls hf hl hP hD hS
  unfold fM_raise_125 at hf
  refine lv_istore (lv' := [(4, .int y0), (0, .ref (q 0)), (1, .long x1), (3, .int x3), (5, .int x5), (6, .int x6)]) hx hb dM_raise_125 hl (by decide) rfl (fun ls hl => ?_)
  refine lv_iload hx hb dM_raise_127 (lv_at hl 5 rfl) ?_
  refine lv_iconst (v := (-1)) hx hb dM_raise_129 (by decide) ?_
  refine lv_icmp_eq (tgt := 176) hx hb dM_raise_130 (by decide) (fun c130 => ?_) (fun c130 => ?_)
  · have hf := (if_pos c130).symm.trans hf
    refine lv_iinc (v := (x5 + 1)) (lv' := [(5, .int (x5 + 1)), (4, .int y0), (0, .ref (q 0)), (1, .long x1), (3, .int x3), (6, .int x6)]) hx hb dM_raise_176 hl (k := 4) rfl rfl (by decide) rfl (fun ls hl => ?_)
    refine lv_goto (tgt := 59) hx hb dM_raise_179 (by decide) ?_
    exact ih59 σ x1 x3 y0 (x5 + 1) _ _ ls hf (lv_sub hl [2, 3, 4, 1, 0] rfl) hP hD hS
  · have hf := (if_neg c130).symm.trans hf
    refine lv_aload_n hx hb dM_raise_133 rfl (lv_at hl 1 rfl) ?_
    refine lv_dup hx hb dM_raise_134 rfl ?_
    refine gM_above hx hb hown hts hK hP dM_raise_135 ?_
    refine lv_lload_n hx hb dM_raise_138 rfl (lv_at hl 2 rfl) ?_
    refine lv_aload_n hx hb dM_raise_139 rfl (lv_at hl 1 rfl) ?_
    refine gM_measured hx hb hown hts hK hP dM_raise_140 ?_
    refine lv_iload hx hb dM_raise_143 (lv_at hl 4 rfl) ?_
    obtain ⟨v145, ev145, hf⟩ := kb1 hf
    refine kr_laload hx hb hK hP 4 1 rfl rfl ev145 dM_raise_145 ?_
    refine lv_lmul hx hb dM_raise_146 ?_
    refine lv_aload_n hx hb dM_raise_147 rfl (lv_at hl 1 rfl) ?_
    refine lv_iload hx hb dM_raise_148 (lv_at hl 5 rfl) ?_
    refine lv_aload_n hx hb dM_raise_150 rfl (lv_at hl 1 rfl) ?_
    refine gM_chosen hx hb hown hts hK hP dM_raise_151 ?_
    refine lv_iload_n hx hb dM_raise_154 rfl (lv_at hl 3 rfl) ?_
    obtain ⟨v155, ev155, hf⟩ := kb1 hf
    refine kr_callVi (av := [.int x6, .int (sM_chosen σ), .int x3]) ⟨hx, hb, hml, hown, hts⟩ (mM_inGroup l D q k cI cJ _ fu σ x6 (sM_chosen σ) x3 v155 ev155) (cwV 3 hts (kgood_V TM_good (by decide +kernel)) rfl rfl rfl (by decide +kernel) ⟨Nat.le_of_ble_eq_true rfl, Nat.le_of_ble_eq_true rfl⟩) hK hP hD hS hA (ci := 1) (q0 := 0) rfl rfl rfl hl.1 rfl (Nat.le_of_ble_eq_true rfl) dM_raise_155 ⟨Nat.le_of_ble_eq_true rfl, Nat.le_of_ble_eq_true rfl⟩ (fun H locs hP hD hS => ?_)
    refine lv_i2l (v := v155.toInt64) hx hb dM_raise_158 rfl ?_
    refine lv_ldc2 (v := 232792560) hx hb hown (hts (.constantLong RM 95 (232792560)) (by decide +kernel)) dM_raise_159 ?_
    refine lv_aload_n hx hb dM_raise_162 rfl (lv_at hl 1 rfl) ?_
    refine lv_iload hx hb dM_raise_163 (lv_at hl 5 rfl) ?_
    obtain ⟨v165, ev165, hf⟩ := kb1 hf
    refine kr_callVi9 (av := [.int x6]) ⟨hx, hb, hml, hown, hts⟩ (mM_own l D q k cI cJ _ fu σ x6 v165 ev165) (cwV 1 hts (kgood_V TM_good (by decide +kernel)) rfl rfl rfl (by decide +kernel) ⟨Nat.le_of_ble_eq_true rfl, Nat.le_of_ble_eq_true rfl⟩) (Nat.le_of_ble_eq_true rfl) hK hP hD hS hA (ci := 1) (q0 := 0) rfl rfl rfl hl.1 rfl (Nat.le_of_ble_eq_true rfl) dM_raise_165 ⟨Nat.le_of_ble_eq_true rfl, Nat.le_of_ble_eq_true rfl⟩ (fun H locs hP hD hS => ?_)
    refine lv_i2l (v := v165.toInt64) hx hb dM_raise_168 rfl ?_
    obtain ⟨v169, ev169, hf⟩ := kb1 hf
    refine kr_ldiv hx hb ev169 dM_raise_169 ?_
    refine lv_lmul hx hb dM_raise_170 ?_
    refine lv_lmul hx hb dM_raise_171 ?_
    refine lv_ladd hx hb dM_raise_172 ?_
    refine pM_above hx hb hown hts hK hP hD hS dM_raise_173 (fun H locs hP hD hS => ?_)
    generalize (uM_above σ ((sM_above σ) + ((x1 * v145) * (v155.toInt64 * v169)))) = s173 at hf hP hD
    refine lv_iinc (v := (x5 + 1)) (lv' := [(5, .int (x5 + 1)), (4, .int y0), (0, .ref (q 0)), (1, .long x1), (3, .int x3), (6, .int x6)]) hx hb dM_raise_176 hl (k := 4) rfl rfl (by decide) rfl (fun ls hl => ?_)
    refine lv_goto (tgt := 59) hx hb dM_raise_179 (by decide) ?_
    exact ih59 s173 x1 x3 y0 (x5 + 1) _ _ ls hf (lv_sub hl [2, 3, 4, 1, 0] rfl) hP hD hS
set_option maxHeartbeats 400000 in
set_option maxRecDepth 100000 in
theorem tM_raise_120 {p : Program} {l : Launch} {e : Env} {s : State} {m : MethodId} {args : Array Value} {below : List Frame} {meth : Method} {c : Code} {D : va_G} {A : Nat → Prop} {q : Nat → Nat} {k : kM} {cI cJ : ClassId} {r : Int32} {σ' : sM} {fu : Nat} {h59 : sM → Int64 → Int32 → Int32 → Int32 → Option (Int32 × sM)} (C0 : Cx p s m args meth c cM_raise 7 (some .boolean) RM TM) (hK : va_K D cl0 [(cI, .int), (cJ, .long)] s) (hA : ∀ z, s.heap.size ≤ z → A z) (ih59 : ∀ (σ : sM) (x1 : Int64) (x3 : Int32) (x4 : Int32) (x5 : Int32)(H : Heap) (locs : List Loc) (ls : Array Slot), h59 σ x1 x3 x4 x5 = some (r, σ') → lv_has ls 7 [(0, .ref (q 0)), (1, .long x1), (3, .int x3), (4, .int x4), (5, .int x5)] → va_P D cl0 (wdM q k cI cJ σ) H → va_D A (wdM q k cI cJ σ) → va_S A s.heap H locs → W p l e ({ frames := 5, cells := 0, slots := 0, locals := 117 }) s m args below meth c H locs 0 0 (MQ below (kQi D cl0 [(cI, .int), (cJ, .long)] (wdM q k cI cJ) A r σ') args s 0 0 A) (F0 m 59 ls [])) : ∀ (σ : sM) (x1 : Int64) (x3 : Int32) (x5 : Int32) (x6 : Int32)(H : Heap) (locs : List Loc) (ls : Array Slot), fM_raise_120 fu k h59 σ x1 x3 x5 x6 = some (r, σ') → lv_has ls 7 [(0, .ref (q 0)), (1, .long x1), (3, .int x3), (5, .int x5), (6, .int x6)] → va_P D cl0 (wdM q k cI cJ σ) H → va_D A (wdM q k cI cJ σ) → va_S A s.heap H locs → W p l e ({ frames := 5, cells := 0, slots := 0, locals := 117 }) s m args below meth c H locs 0 0 (MQ below (kQi D cl0 [(cI, .int), (cJ, .long)] (wdM q k cI cJ) A r σ') args s 0 0 A) (F0 m 120 ls []) := by
  obtain ⟨hx, hb, hr, hml, hown, hts, hlocks⟩ := id C0
  intro σ x1 x3 x5 x6 H locs ls hf hl hP hD hS
  unfold fM_raise_120 at hf
  refine lv_iconst (v := 1) hx hb dM_raise_120 (by decide) ?_
  refine lv_goto (tgt := 125) hx hb dM_raise_121 (by decide) ?_
  exact tM_raise_125 C0 hK hA ih59 σ 1 x1 x3 x5 x6 _ _ ls hf (lv_sub hl [0, 1, 2, 3, 4] rfl) hP hD hS
set_option maxHeartbeats 400000 in
set_option maxRecDepth 100000 in
theorem tM_raise_100 {p : Program} {l : Launch} {e : Env} {s : State} {m : MethodId} {args : Array Value} {below : List Frame} {meth : Method} {c : Code} {D : va_G} {A : Nat → Prop} {q : Nat → Nat} {k : kM} {cI cJ : ClassId} {r : Int32} {σ' : sM} {fu : Nat} {h59 : sM → Int64 → Int32 → Int32 → Int32 → Option (Int32 × sM)} (C0 : Cx p s m args meth c cM_raise 7 (some .boolean) RM TM) (hK : va_K D cl0 [(cI, .int), (cJ, .long)] s) (hA : ∀ z, s.heap.size ≤ z → A z) (ih59 : ∀ (σ : sM) (x1 : Int64) (x3 : Int32) (x4 : Int32) (x5 : Int32)(H : Heap) (locs : List Loc) (ls : Array Slot), h59 σ x1 x3 x4 x5 = some (r, σ') → lv_has ls 7 [(0, .ref (q 0)), (1, .long x1), (3, .int x3), (4, .int x4), (5, .int x5)] → va_P D cl0 (wdM q k cI cJ σ) H → va_D A (wdM q k cI cJ σ) → va_S A s.heap H locs → W p l e ({ frames := 5, cells := 0, slots := 0, locals := 117 }) s m args below meth c H locs 0 0 (MQ below (kQi D cl0 [(cI, .int), (cJ, .long)] (wdM q k cI cJ) A r σ') args s 0 0 A) (F0 m 59 ls [])) : ∀ (σ : sM) (y0 : Int32) (x1 : Int64) (x3 : Int32) (x5 : Int32)(H : Heap) (locs : List Loc) (ls : Array Slot), fM_raise_100 fu k h59 σ y0 x1 x3 x5 = some (r, σ') → lv_has ls 7 [(0, .ref (q 0)), (1, .long x1), (3, .int x3), (5, .int x5)] → va_P D cl0 (wdM q k cI cJ σ) H → va_D A (wdM q k cI cJ σ) → va_S A s.heap H locs → W p l e ({ frames := 5, cells := 0, slots := 0, locals := 117 }) s m args below meth c H locs 0 0 (MQ below (kQi D cl0 [(cI, .int), (cJ, .long)] (wdM q k cI cJ) A r σ') args s 0 0 A) (F0 m 100 ls [.int y0]) := by
  obtain ⟨hx, hb, hr, hml, hown, hts, hlocks⟩ := id C0
  intro σ y0 x1 x3 x5 H locs ls hf hl hP hD hS
  unfold fM_raise_100 at hf
  refine lv_istore (lv' := [(6, .int y0), (0, .ref (q 0)), (1, .long x1), (3, .int x3), (5, .int x5)]) hx hb dM_raise_100 hl (by decide) rfl (fun ls hl => ?_)
  refine lv_iload hx hb dM_raise_102 (lv_at hl 0 rfl) ?_
  refine lv_iconst (v := (-1)) hx hb dM_raise_104 (by decide) ?_
  refine lv_icmp_ne (tgt := 120) hx hb dM_raise_105 (by decide) (fun c105 => ?_) (fun c105 => ?_)
  · have hf := (if_neg c105).symm.trans hf
    exact tM_raise_120 C0 hK hA ih59 σ x1 x3 x5 y0 _ _ ls hf (lv_sub hl [1, 2, 3, 4, 0] rfl) hP hD hS
  · have hf := (if_pos c105).symm.trans hf
    refine lv_aload_n hx hb dM_raise_108 rfl (lv_at hl 1 rfl) ?_
    refine gM_measured hx hb hown hts hK hP dM_raise_109 ?_
    refine lv_iload hx hb dM_raise_112 (lv_at hl 4 rfl) ?_
    obtain ⟨v114, ev114, hf⟩ := kb1 hf
    refine kr_laload hx hb hK hP 4 1 rfl rfl ev114 dM_raise_114 ?_
    refine lv_lconst (v := 0) hx hb dM_raise_115 (by decide) ?_
    refine W.lcmp hx hb dM_raise_116 ?_
    refine lv_if_ne (tgt := 124) hx hb dM_raise_117 (by decide) (fun c116 => ?_) (fun c116 => ?_)
    · rw [lg_cmp_eq] at c116
      have hf := (if_neg c116).symm.trans hf
      refine lv_iconst (v := 0) hx hb dM_raise_124 (by decide) ?_
      exact tM_raise_125 C0 hK hA ih59 σ 0 x1 x3 x5 y0 _ _ ls hf (lv_sub hl [1, 2, 3, 4, 0] rfl) hP hD hS
    · rw [lg_cmp_eq] at c116
      have hf := (if_pos c116).symm.trans hf
      exact tM_raise_120 C0 hK hA ih59 σ x1 x3 x5 y0 _ _ ls hf (lv_sub hl [1, 2, 3, 4, 0] rfl) hP hD hS
set_option maxHeartbeats 400000 in
set_option maxRecDepth 100000 in
theorem tM_raise_59 {p : Program} {l : Launch} {e : Env} {s : State} {m : MethodId} {args : Array Value} {below : List Frame} {meth : Method} {c : Code} {D : va_G} {A : Nat → Prop} {q : Nat → Nat} {k : kM} {cI cJ : ClassId} {r : Int32} {σ' : sM} {fu : Nat} (C0 : Cx p s m args meth c cM_raise 7 (some .boolean) RM TM) (hK : va_K D cl0 [(cI, .int), (cJ, .long)] s) (hA : ∀ z, s.heap.size ≤ z → A z) : ∀ n : Nat, ∀ (σ : sM) (x1 : Int64) (x3 : Int32) (x4 : Int32) (x5 : Int32)(H : Heap) (locs : List Loc) (ls : Array Slot), fM_raise_59 fu k n σ x1 x3 x4 x5 = some (r, σ') → lv_has ls 7 [(0, .ref (q 0)), (1, .long x1), (3, .int x3), (4, .int x4), (5, .int x5)] → va_P D cl0 (wdM q k cI cJ σ) H → va_D A (wdM q k cI cJ σ) → va_S A s.heap H locs → W p l e ({ frames := 5, cells := 0, slots := 0, locals := 117 }) s m args below meth c H locs 0 0 (MQ below (kQi D cl0 [(cI, .int), (cJ, .long)] (wdM q k cI cJ) A r σ') args s 0 0 A) (F0 m 59 ls []) := by
  obtain ⟨hx, hb, hr, hml, hown, hts, hlocks⟩ := id C0
  intro n
  induction n with
  | zero =>
    intro σ x1 x3 x4 x5 H locs ls hf hl hP hD hS
    cases hf
  | succ n ih =>
    intro σ x1 x3 x4 x5 H locs ls hf hl hP hD hS
    rw [fM_raise_59] at hf
    refine lv_iload hx hb dM_raise_59 (lv_at hl 4 rfl) ?_
    refine lv_aload_n hx hb dM_raise_61 rfl (lv_at hl 0 rfl) ?_
    refine gM_classes hx hb hown hts hK hP dM_raise_62 ?_
    refine lv_icmp_ge (tgt := 182) hx hb dM_raise_65 (by decide) (fun c65 => ?_) (fun c65 => ?_)
    · have hf := (if_pos c65).symm.trans hf
      refine lv_iload hx hb dM_raise_182 (lv_at hl 3 rfl) ?_
      obtain ⟨b184, eb184, hf⟩ := kb1 hf
      obtain ⟨zb184, nb184⟩ := kbool_some eb184
      exact kr_zret C0 hK hP hD hS nb184 (zb184.trans (congrArg Prod.fst (Option.some.inj hf))) (congrArg Prod.snd (Option.some.inj hf)) dM_raise_184
    · have hf := (if_neg c65).symm.trans hf
      refine lv_iload hx hb dM_raise_68 (lv_at hl 3 rfl) ?_
      refine lv_if_eq (tgt := 182) hx hb dM_raise_70 (by decide) (fun c70 => ?_) (fun c70 => ?_)
      · have hf := (if_pos c70).symm.trans hf
        refine lv_iload hx hb dM_raise_182 (lv_at hl 3 rfl) ?_
        obtain ⟨b184, eb184, hf⟩ := kb1 hf
        obtain ⟨zb184, nb184⟩ := kbool_some eb184
        exact kr_zret C0 hK hP hD hS nb184 (zb184.trans (congrArg Prod.fst (Option.some.inj hf))) (congrArg Prod.snd (Option.some.inj hf)) dM_raise_184
      · have hf := (if_neg c70).symm.trans hf
        refine lv_aload_n hx hb dM_raise_73 rfl (lv_at hl 0 rfl) ?_
        refine gM_measured hx hb hown hts hK hP dM_raise_74 ?_
        refine lv_iload hx hb dM_raise_77 (lv_at hl 4 rfl) ?_
        obtain ⟨v79, ev79, hf⟩ := kb1 hf
        refine kr_laload hx hb hK hP 4 1 rfl rfl ev79 dM_raise_79 ?_
        refine lv_lconst (v := 0) hx hb dM_raise_80 (by decide) ?_
        refine W.lcmp hx hb dM_raise_81 ?_
        refine lv_if_ne (tgt := 89) hx hb dM_raise_82 (by decide) (fun c81 => ?_) (fun c81 => ?_)
        · rw [lg_cmp_eq] at c81
          have hf := (if_neg c81).symm.trans hf
          refine lv_aload_n hx hb dM_raise_89 rfl (lv_at hl 0 rfl) ?_
          refine lv_aload_n hx hb dM_raise_90 rfl (lv_at hl 0 rfl) ?_
          refine gM_group hx hb hown hts hK hP dM_raise_91 ?_
          refine lv_iload hx hb dM_raise_94 (lv_at hl 4 rfl) ?_
          obtain ⟨v96, ev96, hf⟩ := kb1 hf
          refine kr_iaload hx hb hK hP 2 0 rfl rfl ev96 dM_raise_96 ?_
          obtain ⟨v97, ev97, hf⟩ := kb1 hf
          refine kr_callVi (av := [.int v96]) ⟨hx, hb, hml, hown, hts⟩ (mM_source l D q k cI cJ _ fu σ v96 v97 ev97) (cwV 1 hts (kgood_V TM_good (by decide +kernel)) rfl rfl rfl (by decide +kernel) ⟨Nat.le_of_ble_eq_true rfl, Nat.le_of_ble_eq_true rfl⟩) hK hP hD hS hA (ci := 1) (q0 := 0) rfl rfl rfl hl.1 rfl (Nat.le_of_ble_eq_true rfl) dM_raise_97 ⟨Nat.le_of_ble_eq_true rfl, Nat.le_of_ble_eq_true rfl⟩ (fun H locs hP hD hS => ?_)
          exact tM_raise_100 C0 hK hA ih σ v97 x1 x3 x5 _ _ ls hf (lv_sub hl [0, 1, 2, 4] rfl) hP hD hS
        · rw [lg_cmp_eq] at c81
          have hf := (if_pos c81).symm.trans hf
          refine lv_iconst (v := (-1)) hx hb dM_raise_85 (by decide) ?_
          refine lv_goto (tgt := 100) hx hb dM_raise_86 (by decide) ?_
          exact tM_raise_100 C0 hK hA ih σ (-1) x1 x3 x5 _ _ ls hf (lv_sub hl [0, 1, 2, 4] rfl) hP hD hS
set_option maxHeartbeats 400000 in
set_option maxRecDepth 100000 in
theorem tM_raise_53 {p : Program} {l : Launch} {e : Env} {s : State} {m : MethodId} {args : Array Value} {below : List Frame} {meth : Method} {c : Code} {D : va_G} {A : Nat → Prop} {q : Nat → Nat} {k : kM} {cI cJ : ClassId} {r : Int32} {σ' : sM} {fu : Nat} (C0 : Cx p s m args meth c cM_raise 7 (some .boolean) RM TM) (hK : va_K D cl0 [(cI, .int), (cJ, .long)] s) (hA : ∀ z, s.heap.size ≤ z → A z) : ∀ (σ : sM) (y1 : Int64) (x1 : Int64) (x3 : Int32) (x4 : Int32)(H : Heap) (locs : List Loc) (ls : Array Slot), fM_raise_53 fu k σ y1 x1 x3 x4 = some (r, σ') → lv_has ls 7 [(0, .ref (q 0)), (1, .long x1), (3, .int x3), (4, .int x4)] → va_P D cl0 (wdM q k cI cJ σ) H → va_D A (wdM q k cI cJ σ) → va_S A s.heap H locs → W p l e ({ frames := 5, cells := 0, slots := 0, locals := 117 }) s m args below meth c H locs 0 0 (MQ below (kQi D cl0 [(cI, .int), (cJ, .long)] (wdM q k cI cJ) A r σ') args s 0 0 A) (F0 m 53 ls [.long y1, .ref (q 0)]) := by
  obtain ⟨hx, hb, hr, hml, hown, hts, hlocks⟩ := id C0
  intro σ y1 x1 x3 x4 H locs ls hf hl hP hD hS
  unfold fM_raise_53 at hf
  refine pM_below hx hb hown hts hK hP hD hS dM_raise_53 (fun H locs hP hD hS => ?_)
  generalize (uM_below σ y1) = s53 at hf hP hD
  refine lv_iconst (v := 0) hx hb dM_raise_56 (by decide) ?_
  refine lv_istore (lv' := [(5, .int 0), (0, .ref (q 0)), (1, .long x1), (3, .int x3), (4, .int x4)]) hx hb dM_raise_57 hl (by decide) rfl (fun ls hl => ?_)
  exact tM_raise_59 C0 hK hA fu s53 x1 x3 x4 0 _ _ ls hf (lv_sub hl [1, 2, 3, 4, 0] rfl) hP hD hS
set_option maxHeartbeats 400000 in
set_option maxRecDepth 100000 in
theorem tM_raise_28 {p : Program} {l : Launch} {e : Env} {s : State} {m : MethodId} {args : Array Value} {below : List Frame} {meth : Method} {c : Code} {D : va_G} {A : Nat → Prop} {q : Nat → Nat} {k : kM} {cI cJ : ClassId} {r : Int32} {σ' : sM} {fu : Nat} (C0 : Cx p s m args meth c cM_raise 7 (some .boolean) RM TM) (hK : va_K D cl0 [(cI, .int), (cJ, .long)] s) (hA : ∀ z, s.heap.size ≤ z → A z) : ∀ (σ : sM) (y0 : Int32) (x1 : Int64) (x3 : Int32)(H : Heap) (locs : List Loc) (ls : Array Slot), fM_raise_28 fu k σ y0 x1 x3 = some (r, σ') → lv_has ls 7 [(0, .ref (q 0)), (1, .long x1), (3, .int x3)] → va_P D cl0 (wdM q k cI cJ σ) H → va_D A (wdM q k cI cJ σ) → va_S A s.heap H locs → W p l e ({ frames := 5, cells := 0, slots := 0, locals := 117 }) s m args below meth c H locs 0 0 (MQ below (kQi D cl0 [(cI, .int), (cJ, .long)] (wdM q k cI cJ) A r σ') args s 0 0 A) (F0 m 28 ls [.int y0]) := by
  obtain ⟨hx, hb, hr, hml, hown, hts, hlocks⟩ := id C0
  intro σ y0 x1 x3 H locs ls hf hl hP hD hS
  unfold fM_raise_28 at hf
  refine lv_istore (lv' := [(4, .int y0), (0, .ref (q 0)), (1, .long x1), (3, .int x3)]) hx hb dM_raise_28 hl (by decide) rfl (fun ls hl => ?_)
  refine lv_aload_n hx hb dM_raise_30 rfl (lv_at hl 1 rfl) ?_
  refine lv_lconst (v := 0) hx hb dM_raise_31 (by decide) ?_
  refine pM_above hx hb hown hts hK hP hD hS dM_raise_32 (fun H locs hP hD hS => ?_)
  generalize (uM_above σ (0 : Int64)) = s32 at hf hP hD
  refine lv_aload_n hx hb dM_raise_35 rfl (lv_at hl 1 rfl) ?_
  refine lv_iload hx hb dM_raise_36 (lv_at hl 0 rfl) ?_
  refine lv_if_eq (tgt := 52) hx hb dM_raise_38 (by decide) (fun c38 => ?_) (fun c38 => ?_)
  · have hf := (if_pos c38).symm.trans hf
    refine lv_lconst (v := 1) hx hb dM_raise_52 (by decide) ?_
    exact tM_raise_53 C0 hK hA s32 (1 : Int64) x1 x3 y0 _ _ ls hf (lv_sub hl [1, 2, 3, 0] rfl) hP hD hS
  · have hf := (if_neg c38).symm.trans hf
    refine lv_aload_n hx hb dM_raise_41 rfl (lv_at hl 1 rfl) ?_
    obtain ⟨v42, ev42, hf⟩ := kb1 hf
    refine kr_callVl (av := []) ⟨hx, hb, hml, hown, hts⟩ (mM_allMeasured l D q k cI cJ _ fu s32 v42 ev42) (cwV 0 hts (kgood_V TM_good (by decide +kernel)) rfl rfl rfl (by decide +kernel) ⟨Nat.le_of_ble_eq_true rfl, Nat.le_of_ble_eq_true rfl⟩) hK hP hD hS hA (ci := 1) (q0 := 0) rfl rfl rfl hl.1 rfl (Nat.le_of_ble_eq_true rfl) dM_raise_42 ⟨Nat.le_of_ble_eq_true rfl, Nat.le_of_ble_eq_true rfl⟩ (fun H locs hP hD hS => ?_)
    refine lv_ldc2 (v := 232792560) hx hb hown (hts (.constantLong RM 95 (232792560)) (by decide +kernel)) dM_raise_45 ?_
    refine lv_lmul hx hb dM_raise_48 ?_
    refine lv_goto (tgt := 53) hx hb dM_raise_49 (by decide) ?_
    exact tM_raise_53 C0 hK hA s32 (v42 * (232792560 : Int64)) x1 x3 y0 _ _ ls hf (lv_sub hl [1, 2, 3, 0] rfl) hP hD hS
set_option maxHeartbeats 400000 in
set_option maxRecDepth 100000 in
theorem tM_raise_27 {p : Program} {l : Launch} {e : Env} {s : State} {m : MethodId} {args : Array Value} {below : List Frame} {meth : Method} {c : Code} {D : va_G} {A : Nat → Prop} {q : Nat → Nat} {k : kM} {cI cJ : ClassId} {r : Int32} {σ' : sM} {fu : Nat} (C0 : Cx p s m args meth c cM_raise 7 (some .boolean) RM TM) (hK : va_K D cl0 [(cI, .int), (cJ, .long)] s) (hA : ∀ z, s.heap.size ≤ z → A z) : ∀ (σ : sM) (x1 : Int64) (x3 : Int32)(H : Heap) (locs : List Loc) (ls : Array Slot), fM_raise_27 fu k σ x1 x3 = some (r, σ') → lv_has ls 7 [(0, .ref (q 0)), (1, .long x1), (3, .int x3)] → va_P D cl0 (wdM q k cI cJ σ) H → va_D A (wdM q k cI cJ σ) → va_S A s.heap H locs → W p l e ({ frames := 5, cells := 0, slots := 0, locals := 117 }) s m args below meth c H locs 0 0 (MQ below (kQi D cl0 [(cI, .int), (cJ, .long)] (wdM q k cI cJ) A r σ') args s 0 0 A) (F0 m 27 ls []) := by
  obtain ⟨hx, hb, hr, hml, hown, hts, hlocks⟩ := id C0
  intro σ x1 x3 H locs ls hf hl hP hD hS
  unfold fM_raise_27 at hf
  refine lv_iconst (v := 0) hx hb dM_raise_27 (by decide) ?_
  exact tM_raise_28 C0 hK hA σ 0 x1 x3 _ _ ls hf (lv_sub hl [0, 1, 2] rfl) hP hD hS
set_option maxHeartbeats 400000 in
set_option maxRecDepth 100000 in
theorem mM_raise (l : Launch) (D : va_G) (q : Nat → Nat) (k : kM) (cI cJ : ClassId) (sz : Nat) (fu : Nat) (σ : sM) (σ' : sM) (x1 : Int64) (x3 : Int32) (r : Int32) (hf : fM_raise fu k σ x1 x3 = some (r, σ')) : Met l yM_raise (.code yM_raise cM_raise 7 (some .boolean) :: TM) ({ frames := 5, cells := 0, slots := 0, locals := 117 }) (kPre D cl0 [(cI, .int), (cJ, .long)] (wdM q k cI cJ) sz σ [.ref (q 0), .long x1, .int x3]) (kQi D cl0 [(cI, .int), (cJ, .long)] (wdM q k cI cJ) (va_A (wdM q k cI cJ σ) sz) r σ') 0 0 (va_A (wdM q k cI cJ σ) sz) := by
  refine kr_start (own := RM) (by decide) rfl (Nat.le_of_ble_eq_true rfl) ?_
  intro p e s m args below meth c ls C0 hsz hK hP hD hl
  subst hsz
  obtain ⟨hx, hb, hr, hml, hown, hts, hlocks⟩ := id C0
  have hA : ∀ z : Nat, s.heap.size ≤ z → va_A (wdM q k cI cJ σ) s.heap.size z := fun z h => Or.inr h
  generalize va_A (wdM q k cI cJ σ) s.heap.size = A at hD hA ⊢
  have hS : va_S A s.heap s.heap [] := va_S.rf
  have hl : lv_has ls 7 [(0, .ref (q 0)), (1, .long x1), (3, .int x3)] := hl
  unfold fM_raise at hf
  refine lv_lload_n hx hb dM_raise_0 rfl (lv_at hl 1 rfl) ?_
  refine lv_lconst (v := 0) hx hb dM_raise_1 (by decide) ?_
  refine W.lcmp hx hb dM_raise_2 ?_
  refine lv_if_lt (tgt := 27) hx hb dM_raise_3 (by decide) (fun c2 => ?_) (fun c2 => ?_)
  · rw [lg_cmp_lt] at c2
    have hf := (if_pos c2).symm.trans hf
    exact tM_raise_27 C0 hK hA σ x1 x3 _ _ ls hf (lv_sub hl [0, 1, 2] rfl) hP hD hS
  · rw [lg_cmp_lt] at c2
    have hf := (if_neg c2).symm.trans hf
    refine lv_lload_n hx hb dM_raise_6 rfl (lv_at hl 1 rfl) ?_
    refine lv_ldc2 (v := 10000) hx hb hown (hts (.constantLong RM 85 (10000)) (by decide +kernel)) dM_raise_7 ?_
    refine W.lcmp hx hb dM_raise_10 ?_
    refine lv_if_gt (tgt := 27) hx hb dM_raise_11 (by decide) (fun c10 => ?_) (fun c10 => ?_)
    · rw [lg_cmp_gt] at c10
      have hf := (if_pos c10).symm.trans hf
      exact tM_raise_27 C0 hK hA σ x1 x3 _ _ ls hf (lv_sub hl [0, 1, 2] rfl) hP hD hS
    · rw [lg_cmp_gt] at c10
      have hf := (if_neg c10).symm.trans hf
      refine lv_aload_n hx hb dM_raise_14 rfl (lv_at hl 0 rfl) ?_
      obtain ⟨v15, ev15, hf⟩ := kb1 hf
      refine kr_callVl (av := []) ⟨hx, hb, hml, hown, hts⟩ (mM_allMeasured l D q k cI cJ _ fu σ v15 ev15) (cwV 0 hts (kgood_V TM_good (by decide +kernel)) rfl rfl rfl (by decide +kernel) ⟨Nat.le_of_ble_eq_true rfl, Nat.le_of_ble_eq_true rfl⟩) hK hP hD hS hA (ci := 1) (q0 := 0) rfl rfl rfl hl.1 rfl (Nat.le_of_ble_eq_true rfl) dM_raise_15 ⟨Nat.le_of_ble_eq_true rfl, Nat.le_of_ble_eq_true rfl⟩ (fun H locs hP hD hS => ?_)
      refine lv_lconst (v := 0) hx hb dM_raise_18 (by decide) ?_
      refine W.lcmp hx hb dM_raise_19 ?_
      refine lv_if_le (tgt := 27) hx hb dM_raise_20 (by decide) (fun c19 => ?_) (fun c19 => ?_)
      · rw [lg_cmp_le] at c19
        have hf := (if_pos c19).symm.trans hf
        exact tM_raise_27 C0 hK hA σ x1 x3 _ _ ls hf (lv_sub hl [0, 1, 2] rfl) hP hD hS
      · rw [lg_cmp_le] at c19
        have hf := (if_neg c19).symm.trans hf
        refine lv_iconst (v := 1) hx hb dM_raise_23 (by decide) ?_
        refine lv_goto (tgt := 28) hx hb dM_raise_24 (by decide) ?_
        exact tM_raise_28 C0 hK hA σ 1 x1 x3 _ _ ls hf (lv_sub hl [0, 1, 2] rfl) hP hD hS
