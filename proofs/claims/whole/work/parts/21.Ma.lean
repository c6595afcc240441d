theorem dM_isClass_0 : decode cM_isClass 0 = .ok (.iload_n 1, 1) := by decide +kernel
theorem dM_isClass_1 : decode cM_isClass 1 = .ok (.ifCond .lt (15), 3) := by decide +kernel
theorem dM_isClass_4 : decode cM_isClass 4 = .ok (.iload_n 1, 1) := by decide +kernel
theorem dM_isClass_5 : decode cM_isClass 5 = .ok (.aload_n 0, 1) := by decide +kernel
theorem dM_isClass_6 : decode cM_isClass 6 = .ok (.getfield 39, 3) := by decide +kernel
theorem dM_isClass_9 : decode cM_isClass 9 = .ok (.if_icmp .ge (7), 3) := by decide +kernel
theorem dM_isClass_12 : decode cM_isClass 12 = .ok (.iconst 1, 1) := by decide +kernel
theorem dM_isClass_13 : decode cM_isClass 13 = .ok (.goto (4), 3) := by decide +kernel
theorem dM_isClass_16 : decode cM_isClass 16 = .ok (.iconst 0, 1) := by decide +kernel
theorem dM_isClass_17 : decode cM_isClass 17 = .ok (.ireturn, 1) := by decide +kernel
set_option maxHeartbeats 400000 in
set_option maxRecDepth 100000 in
theorem mM_isClass (l : Launch) (D : va_G) (q : Nat → Nat) (k : kM) (cI cJ : ClassId) (sz : Nat) (σ : sM) (x1 : Int32) (r : Int32) (hf : fM_isClass k x1 = r) : Met l yM_isClass (.code yM_isClass cM_isClass 2 (some .boolean) :: TM) ({ frames := 0, cells := 0, slots := 0, locals := 0 }) (kPre D cl0 [(cI, .int), (cJ, .long)] (wdM q k cI cJ) sz σ [.ref (q 0), .int x1]) (kQi D cl0 [(cI, .int), (cJ, .long)] (wdM q k cI cJ) (va_A (wdM q k cI cJ σ) sz) r σ) 0 0 (va_A (wdM q k cI cJ σ) sz) := by
  refine kr_start (own := RM) (by decide) rfl (Nat.le_of_ble_eq_true rfl) ?_
  intro p e s m args below meth c ls C0 hsz hK hP hD hl
  subst hsz
  obtain ⟨hx, hb, hr, hml, hown, hts, hlocks⟩ := id C0
  have hA : ∀ z : Nat, s.heap.size ≤ z → va_A (wdM q k cI cJ σ) s.heap.size z := fun z h => Or.inr h
  generalize va_A (wdM q k cI cJ σ) s.heap.size = A at hD hA ⊢
  have hS : va_S A s.heap s.heap [] := va_S.rf
  have hl : lv_has ls 2 [(0, .ref (q 0)), (1, .int x1)] := hl
  unfold fM_isClass at hf
  refine lv_iload_n hx hb dM_isClass_0 rfl (lv_at hl 1 rfl) ?_
  refine lv_if_lt (tgt := 16) hx hb dM_isClass_1 (by decide) (fun c1 => ?_) (fun c1 => ?_)
  · have hf := (if_pos c1).symm.trans hf
    refine lv_iconst (v := 0) hx hb dM_isClass_16 (by decide) ?_
    exact kr_zret C0 hK hP hD hS rfl hf rfl dM_isClass_17
  · have hf := (if_neg c1).symm.trans hf
    refine lv_iload_n hx hb dM_isClass_4 rfl (lv_at hl 1 rfl) ?_
    refine lv_aload_n hx hb dM_isClass_5 rfl (lv_at hl 0 rfl) ?_
    refine gM_classes hx hb hown hts hK hP dM_isClass_6 ?_
    refine lv_icmp_ge (tgt := 16) hx hb dM_isClass_9 (by decide) (fun c9 => ?_) (fun c9 => ?_)
    · have hf := (if_pos c9).symm.trans hf
      refine lv_iconst (v := 0) hx hb dM_isClass_16 (by decide) ?_
      exact kr_zret C0 hK hP hD hS rfl hf rfl dM_isClass_17
    · have hf := (if_neg c9).symm.trans hf
      refine lv_iconst (v := 1) hx hb dM_isClass_12 (by decide) ?_
      refine lv_goto (tgt := 17) hx hb dM_isClass_13 (by decide) ?_
      exact kr_zret C0 hK hP hD hS rfl hf rfl dM_isClass_17
theorem dM_isAge_0 : decode cM_isAge 0 = .ok (.iload_n 1, 1) := by decide +kernel
theorem dM_isAge_1 : decode cM_isAge 1 = .ok (.ifCond .lt (15), 3) := by decide +kernel
theorem dM_isAge_4 : decode cM_isAge 4 = .ok (.iload_n 1, 1) := by decide +kernel
theorem dM_isAge_5 : decode cM_isAge 5 = .ok (.aload_n 0, 1) := by decide +kernel
theorem dM_isAge_6 : decode cM_isAge 6 = .ok (.getfield 42, 3) := by decide +kernel
theorem dM_isAge_9 : decode cM_isAge 9 = .ok (.if_icmp .ge (7), 3) := by decide +kernel
theorem dM_isAge_12 : decode cM_isAge 12 = .ok (.iconst 1, 1) := by decide +kernel
theorem dM_isAge_13 : decode cM_isAge 13 = .ok (.goto (4), 3) := by decide +kernel
theorem dM_isAge_16 : decode cM_isAge 16 = .ok (.iconst 0, 1) := by decide +kernel
theorem dM_isAge_17 : decode cM_isAge 17 = .ok (.ireturn, 1) := by decide +kernel
set_option maxHeartbeats 400000 in
set_option maxRecDepth 100000 in
theorem mM_isAge (l : Launch) (D : va_G) (q : Nat → Nat) (k : kM) (cI cJ : ClassId) (sz : Nat) (σ : sM) (x1 : Int32) (r : Int32) (hf : fM_isAge k x1 = r) : Met l yM_isAge (.code yM_isAge cM_isAge 2 (some .boolean) :: TM) ({ frames := 0, cells := 0, slots := 0, locals := 0 }) (kPre D cl0 [(cI, .int), (cJ, .long)] (wdM q k cI cJ) sz σ [.ref (q 0), .int x1]) (kQi D cl0 [(cI, .int), (cJ, .long)] (wdM q k cI cJ) (va_A (wdM q k cI cJ σ) sz) r σ) 0 0 (va_A (wdM q k cI cJ σ) sz) := by
  refine kr_start (own := RM) (by decide) rfl (Nat.le_of_ble_eq_true rfl) ?_
  intro p e s m args below meth c ls C0 hsz hK hP hD hl
  subst hsz
  obtain ⟨hx, hb, hr, hml, hown, hts, hlocks⟩ := id C0
  have hA : ∀ z : Nat, s.heap.size ≤ z → va_A (wdM q k cI cJ σ) s.heap.size z := fun z h => Or.inr h
  generalize va_A (wdM q k cI cJ σ) s.heap.size = A at hD hA ⊢
  have hS : va_S A s.heap s.heap [] := va_S.rf
  have hl : lv_has ls 2 [(0, .ref (q 0)), (1, .int x1)] := hl
  unfold fM_isAge at hf
  refine lv_iload_n hx hb dM_isAge_0 rfl (lv_at hl 1 rfl) ?_
  refine lv_if_lt (tgt := 16) hx hb dM_isAge_1 (by decide) (fun c1 => ?_) (fun c1 => ?_)
  · have hf := (if_pos c1).symm.trans hf
    refine lv_iconst (v := 0) hx hb dM_isAge_16 (by decide) ?_
    exact kr_zret C0 hK hP hD hS rfl hf rfl dM_isAge_17
  · have hf := (if_neg c1).symm.trans hf
    refine lv_iload_n hx hb dM_isAge_4 rfl (lv_at hl 1 rfl) ?_
    refine lv_aload_n hx hb dM_isAge_5 rfl (lv_at hl 0 rfl) ?_
    refine gM_ages hx hb hown hts hK hP dM_isAge_6 ?_
    refine lv_icmp_ge (tgt := 16) hx hb dM_isAge_9 (by decide) (fun c9 => ?_) (fun c9 => ?_)
    · have hf := (if_pos c9).symm.trans hf
      refine lv_iconst (v := 0) hx hb dM_isAge_16 (by decide) ?_
      exact kr_zret C0 hK hP hD hS rfl hf rfl dM_isAge_17
    · have hf := (if_neg c9).symm.trans hf
      refine lv_iconst (v := 1) hx hb dM_isAge_12 (by decide) ?_
      refine lv_goto (tgt := 17) hx hb dM_isAge_13 (by decide) ?_
      exact kr_zret C0 hK hP hD hS rfl hf rfl dM_isAge_17
theorem dM_isPart_0 : decode cM_isPart 0 = .ok (.iload_n 0, 1) := by decide +kernel
theorem dM_isPart_1 : decode cM_isPart 1 = .ok (.ifCond .eq (8), 3) := by decide +kernel
theorem dM_isPart_4 : decode cM_isPart 4 = .ok (.iload_n 0, 1) := by decide +kernel
theorem dM_isPart_5 : decode cM_isPart 5 = .ok (.iconst 1, 1) := by decide +kernel
theorem dM_isPart_6 : decode cM_isPart 6 = .ok (.if_icmp .ne (7), 3) := by decide +kernel
theorem dM_isPart_9 : decode cM_isPart 9 = .ok (.iconst 1, 1) := by decide +kernel
theorem dM_isPart_10 : decode cM_isPart 10 = .ok (.goto (4), 3) := by decide +kernel
theorem dM_isPart_13 : decode cM_isPart 13 = .ok (.iconst 0, 1) := by decide +kernel
theorem dM_isPart_14 : decode cM_isPart 14 = .ok (.ireturn, 1) := by decide +kernel
set_option maxHeartbeats 400000 in
set_option maxRecDepth 100000 in
theorem tM_isPart_9 {p : Program} {l : Launch} {e : Env} {s : State} {m : MethodId} {args : Array Value} {below : List Frame} {meth : Method} {c : Code} {D : va_G} {A : Nat → Prop} {S : Type} {wd : S → va_W} {tys : List (ClassId × FieldType)} {cl : List vw_C} {r : Int32} {σ : S} (C0 : Cx p s m args meth c cM_isPart 1 (some .boolean) RM TM) (hK : va_K D cl tys s) (hA : ∀ z, s.heap.size ≤ z → A z) : ∀ (H : Heap) (locs : List Loc) (ls : Array Slot), fM_isPart_9 = r → lv_has ls 1 [] → va_P D cl (wd σ) H → va_D A (wd σ) → va_S A s.heap H locs → W p l e ({ frames := 0, cells := 0, slots := 0, locals := 0 }) s m args below meth c H locs 0 0 (MQ below (kQi D cl tys wd A r σ) args s 0 0 A) (F0 m 9 ls []) := by
  obtain ⟨hx, hb, hr, hml, hown, hts, hlocks⟩ := id C0
  intro  H locs ls hf hl hP hD hS
  unfold fM_isPart_9 at hf
  refine lv_iconst (v := 1) hx hb dM_isPart_9 (by decide) ?_
  refine lv_goto (tgt := 14) hx hb dM_isPart_10 (by decide) ?_
  exact kr_zret C0 hK hP hD hS rfl hf rfl dM_isPart_14
set_option maxHeartbeats 400000 in
set_option maxRecDepth 100000 in
theorem mM_isPart (l : Launch) (D : va_G) (S : Type) (wd : S → va_W) (tys : List (ClassId × FieldType)) (cl : List vw_C) (sz : Nat) (σ : S) (x0 : Int32) (r : Int32) (hf : fM_isPart x0 = r) : Met l yM_isPart (.code yM_isPart cM_isPart 1 (some .boolean) :: TM) ({ frames := 0, cells := 0, slots := 0, locals := 0 }) (kPre D cl tys wd sz σ [.int x0]) (kQi D cl tys wd (va_A (wd σ) sz) r σ) 0 0 (va_A (wd σ) sz) := by
  refine kr_start (own := RM) (by decide) rfl (Nat.le_of_ble_eq_true rfl) ?_
  intro p e s m args below meth c ls C0 hsz hK hP hD hl
  subst hsz
  obtain ⟨hx, hb, hr, hml, hown, hts, hlocks⟩ := id C0
  have hA : ∀ z : Nat, s.heap.size ≤ z → va_A (wd σ) s.heap.size z := fun z h => Or.inr h
  generalize va_A (wd σ) s.heap.size = A at hD hA ⊢
  have hS : va_S A s.heap s.heap [] := va_S.rf
  have hl : lv_has ls 1 [(0, .int x0)] := hl
  unfold fM_isPart at hf
  refine lv_iload_n hx hb dM_isPart_0 rfl (lv_at hl 0 rfl) ?_
  refine lv_if_eq (tgt := 9) hx hb dM_isPart_1 (by decide) (fun c1 => ?_) (fun c1 => ?_)
  · have hf := (if_pos c1).symm.trans hf
    exact tM_isPart_9 C0 hK hA _ _ ls hf (lv_sub hl [] rfl) hP hD hS
  · have hf := (if_neg c1).symm.trans hf
    refine lv_iload_n hx hb dM_isPart_4 rfl (lv_at hl 0 rfl) ?_
    refine lv_iconst (v := 1) hx hb dM_isPart_5 (by decide) ?_
    refine lv_icmp_ne (tgt := 13) hx hb dM_isPart_6 (by decide) (fun c6 => ?_) (fun c6 => ?_)
    · have hf := (if_neg c6).symm.trans hf
      refine lv_iconst (v := 0) hx hb dM_isPart_13 (by decide) ?_
      exact kr_zret C0 hK hP hD hS rfl hf rfl dM_isPart_14
    · have hf := (if_pos c6).symm.trans hf
      exact tM_isPart_9 C0 hK hA _ _ ls hf (lv_sub hl [] rfl) hP hD hS
theorem dM_at_0 : decode cM_at 0 = .ok (.bipush (60), 2) := by decide +kernel
theorem dM_at_2 : decode cM_at 2 = .ok (.iload_n 0, 1) := by decide +kernel
theorem dM_at_3 : decode cM_at 3 = .ok (.imul, 1) := by decide +kernel
theorem dM_at_4 : decode cM_at 4 = .ok (.bipush (6), 2) := by decide +kernel
theorem dM_at_6 : decode cM_at 6 = .ok (.iload_n 1, 1) := by decide +kernel
theorem dM_at_7 : decode cM_at 7 = .ok (.imul, 1) := by decide +kernel
theorem dM_at_8 : decode cM_at 8 = .ok (.iadd, 1) := by decide +kernel
theorem dM_at_9 : decode cM_at 9 = .ok (.iload_n 2, 1) := by decide +kernel
theorem dM_at_10 : decode cM_at 10 = .ok (.iadd, 1) := by decide +kernel
theorem dM_at_11 : decode cM_at 11 = .ok (.ireturn, 1) := by decide +kernel
set_option maxHeartbeats 400000 in
set_option maxRecDepth 100000 in
theorem mM_at (l : Launch) (D : va_G) (S : Type) (wd : S → va_W) (tys : List (ClassId × FieldType)) (cl : List vw_C) (sz : Nat) (σ : S) (x0 : Int32) (x1 : Int32) (x2 : Int32) (r : Int32) (hf : fM_at x0 x1 x2 = r) : Met l yM_at (.code yM_at cM_at 3 (some .int) :: TM) ({ frames := 0, cells := 0, slots := 0, locals := 0 }) (kPre D cl tys wd sz σ [.int x0, .int x1, .int x2]) (kQi D cl tys wd (va_A (wd σ) sz) r σ) 0 0 (va_A (wd σ) sz) := by
  refine kr_start (own := RM) (by decide) rfl (Nat.le_of_ble_eq_true rfl) ?_
  intro p e s m args below meth c ls C0 hsz hK hP hD hl
  subst hsz
  obtain ⟨hx, hb, hr, hml, hown, hts, hlocks⟩ := id C0
  have hA : ∀ z : Nat, s.heap.size ≤ z → va_A (wd σ) s.heap.size z := fun z h => Or.inr h
  generalize va_A (wd σ) s.heap.size = A at hD hA ⊢
  have hS : va_S A s.heap s.heap [] := va_S.rf
  have hl : lv_has ls 3 [(0, .int x0), (1, .int x1), (2, .int x2)] := hl
  unfold fM_at at hf
  refine lv_bipush (v := 60) hx hb dM_at_0 (by decide) ?_
  refine lv_iload_n hx hb dM_at_2 rfl (lv_at hl 0 rfl) ?_
  refine lv_imul hx hb dM_at_3 ?_
  refine lv_bipush (v := 6) hx hb dM_at_4 (by decide) ?_
  refine lv_iload_n hx hb dM_at_6 rfl (lv_at hl 1 rfl) ?_
  refine lv_imul hx hb dM_at_7 ?_
  refine lv_iadd hx hb dM_at_8 ?_
  refine lv_iload_n hx hb dM_at_9 rfl (lv_at hl 2 rfl) ?_
  refine lv_iadd hx hb dM_at_10 ?_
  exact kr_iret C0 hK hP hD hS hf rfl dM_at_11
theorem dM_count_0 : decode cM_count 0 = .ok (.iconst 0, 1) := by decide +kernel
theorem dM_count_1 : decode cM_count 1 = .ok (.istore 4, 2) := by decide +kernel
theorem dM_count_3 : decode cM_count 3 = .ok (.iconst 0, 1) := by decide +kernel
theorem dM_count_4 : decode cM_count 4 = .ok (.istore 5, 2) := by decide +kernel
theorem dM_count_6 : decode cM_count 6 = .ok (.iload 5, 2) := by decide +kernel
theorem dM_count_8 : decode cM_count 8 = .ok (.iconst 4, 1) := by decide +kernel
theorem dM_count_9 : decode cM_count 9 = .ok (.if_icmp .ge (41), 3) := by decide +kernel
theorem dM_count_12 : decode cM_count 12 = .ok (.iload 4, 2) := by decide +kernel
theorem dM_count_14 : decode cM_count 14 = .ok (.iload_n 1, 1) := by decide +kernel
theorem dM_count_15 : decode cM_count 15 = .ok (.iconst (-1), 1) := by decide +kernel
theorem dM_count_16 : decode cM_count 16 = .ok (.if_icmp .eq (9), 3) := by decide +kernel
theorem dM_count_19 : decode cM_count 19 = .ok (.iload_n 1, 1) := by decide +kernel
theorem dM_count_20 : decode cM_count 20 = .ok (.iload 5, 2) := by decide +kernel
theorem dM_count_22 : decode cM_count 22 = .ok (.if_icmp .ne (18), 3) := by decide +kernel
theorem dM_count_25 : decode cM_count 25 = .ok (.aload_n 0, 1) := by decide +kernel
theorem dM_count_26 : decode cM_count 26 = .ok (.getfield 7, 3) := by decide +kernel
theorem dM_count_29 : decode cM_count 29 = .ok (.iload 5, 2) := by decide +kernel
theorem dM_count_31 : decode cM_count 31 = .ok (.iload_n 2, 1) := by decide +kernel
theorem dM_count_32 : decode cM_count 32 = .ok (.iload_n 3, 1) := by decide +kernel
theorem dM_count_33 : decode cM_count 33 = .ok (.invokestatic 45, 3) := by decide +kernel
theorem dM_count_36 : decode cM_count 36 = .ok (.iaload, 1) := by decide +kernel
theorem dM_count_37 : decode cM_count 37 = .ok (.goto (4), 3) := by decide +kernel
theorem dM_count_40 : decode cM_count 40 = .ok (.iconst 0, 1) := by decide +kernel
theorem dM_count_41 : decode cM_count 41 = .ok (.iadd, 1) := by decide +kernel
theorem dM_count_42 : decode cM_count 42 = .ok (.istore 4, 2) := by decide +kernel
theorem dM_count_44 : decode cM_count 44 = .ok (.iinc 5 (1), 3) := by decide +kernel
theorem dM_count_47 : decode cM_count 47 = .ok (.goto (-41), 3) := by decide +kernel
theorem dM_count_50 : decode cM_count 50 = .ok (.iload 4, 2) := by decide +kernel
theorem dM_count_52 : decode cM_count 52 = .ok (.ireturn, 1) := by decide +kernel
set_option maxHeartbeats 400000 in
set_option maxRecDepth 100000 in
theorem tM_count_41 {p : Program} {l : Launch} {e : Env} {s : State} {m : MethodId} {args : Array Value} {below : List Frame} {meth : Method} {c : Code} {D : va_G} {A : Nat → Prop} {q : Nat → Nat} {k : kM} {cI cJ : ClassId} {r : Int32} {σ : sM} {fu : Nat} {h6 : Int32 → Int32 → Int32 → Int32 → Int32 → Option Int32} (C0 : Cx p s m args meth c cM_count 6 (some .int) RM TM) (hK : va_K D cl0 [(cI, .int), (cJ, .long)] s) (hA : ∀ z, s.heap.size ≤ z → A z) (ih6 : ∀ (x1 : Int32) (x2 : Int32) (x3 : Int32) (x4 : Int32) (x5 : Int32)(H : Heap) (locs : List Loc) (ls : Array Slot), h6 x1 x2 x3 x4 x5 = some r → lv_has ls 6 [(0, .ref (q 0)), (1, .int x1), (2, .int x2), (3, .int x3), (4, .int x4), (5, .int x5)] → va_P D cl0 (wdM q k cI cJ σ) H → va_D A (wdM q k cI cJ σ) → va_S A s.heap H locs → W p l e ({ frames := 1, cells := 0, slots := 0, locals := 22 }) s m args below meth c H locs 0 0 (MQ below (kQi D cl0 [(cI, .int), (cJ, .long)] (wdM q k cI cJ) A r σ) args s 0 0 A) (F0 m 6 ls [])) : ∀ (y0 : Int32) (y1 : Int32) (x1 : Int32) (x2 : Int32) (x3 : Int32) (x5 : Int32)(H : Heap) (locs : List Loc) (ls : Array Slot), fM_count_41 fu k σ h6 y0 y1 x1 x2 x3 x5 = some r → lv_has ls 6 [(0, .ref (q 0)), (1, .int x1), (2, .int x2), (3, .int x3), (5, .int x5)] → va_P D cl0 (wdM q k cI cJ σ) H → va_D A (wdM q k cI cJ σ) → va_S A s.heap H locs → W p l e ({ frames := 1, cells := 0, slots := 0, locals := 22 }) s m args below meth c H locs 0 0 (MQ below (kQi D cl0 [(cI, .int), (cJ, .long)] (wdM q k cI cJ) A r σ) args s 0 0 A) (F0 m 41 ls [.int y1, .int y0]) := by
  obtain ⟨hx, hb, hr, hml, hown, hts, hlocks⟩ := id C0
  intro y0 y1 x1 x2 x3 x5 H locs ls hf hl hP hD hS
  unfold fM_count_41 at hf
  refine lv_iadd hx hb dM_count_41 ?_
  refine lv_istore (lv' := [(4, .int (y0 + y1)), (0, .ref (q 0)), (1, .int x1), (2, .int x2), (3, .int x3), (5, .int x5)]) hx hb dM_count_42 hl (by decide) rfl (fun ls hl => ?_)
  refine lv_iinc (v := (x5 + 1)) (lv' := [(5, .int (x5 + 1)), (4, .int (y0 + y1)), (0, .ref (q 0)), (1, .int x1), (2, .int x2), (3, .int x3)]) hx hb dM_count_44 hl (k := 5) rfl rfl (by decide) rfl (fun ls hl => ?_)
  refine lv_goto (tgt := 6) hx hb dM_count_47 (by decide) ?_
  exact ih6 x1 x2 x3 (y0 + y1) (x5 + 1) _ _ ls hf (lv_sub hl [2, 3, 4, 5, 1, 0] rfl) hP hD hS
set_option maxHeartbeats 400000 in
set_option maxRecDepth 100000 in
theorem tM_count_25 {p : Program} {l : Launch} {e : Env} {s : State} {m : MethodId} {args : Array Value} {below : List Frame} {meth : Method} {c : Code} {D : va_G} {A : Nat → Prop} {q : Nat → Nat} {k : kM} {cI cJ : ClassId} {r : Int32} {σ : sM} {fu : Nat} {h6 : Int32 → Int32 → Int32 → Int32 → Int32 → Option Int32} (C0 : Cx p s m args meth c cM_count 6 (some .int) RM TM) (hK : va_K D cl0 [(cI, .int), (cJ, .long)] s) (hA : ∀ z, s.heap.size ≤ z → A z) (ih6 : ∀ (x1 : Int32) (x2 : Int32) (x3 : Int32) (x4 : Int32) (x5 : Int32)(H : Heap) (locs : List Loc) (ls : Array Slot), h6 x1 x2 x3 x4 x5 = some r → lv_has ls 6 [(0, .ref (q 0)), (1, .int x1), (2, .int x2), (3, .int x3), (4, .int x4), (5, .int x5)] → va_P D cl0 (wdM q k cI cJ σ) H → va_D A (wdM q k cI cJ σ) → va_S A s.heap H locs → W p l e ({ frames := 1, cells := 0, slots := 0, locals := 22 }) s m args below meth c H locs 0 0 (MQ below (kQi D cl0 [(cI, .int), (cJ, .long)] (wdM q k cI cJ) A r σ) args s 0 0 A) (F0 m 6 ls [])) : ∀ (y0 : Int32) (x1 : Int32) (x2 : Int32) (x3 : Int32) (x5 : Int32)(H : Heap) (locs : List Loc) (ls : Array Slot), fM_count_25 fu k σ h6 y0 x1 x2 x3 x5 = some r → lv_has ls 6 [(0, .ref (q 0)), (1, .int x1), (2, .int x2), (3, .int x3), (5, .int x5)] → va_P D cl0 (wdM q k cI cJ σ) H → va_D A (wdM q k cI cJ σ) → va_S A s.heap H locs → W p l e ({ frames := 1, cells := 0, slots := 0, locals := 22 }) s m args below meth c H locs 0 0 (MQ below (kQi D cl0 [(cI, .int), (cJ, .long)] (wdM q k cI cJ) A r σ) args s 0 0 A) (F0 m 25 ls [.int y0]) := by
  obtain ⟨hx, hb, hr, hml, hown, hts, hlocks⟩ := id C0
  intro y0 x1 x2 x3 x5 H locs ls hf hl hP hD hS
  unfold fM_count_25 at hf
  refine lv_aload_n hx hb dM_count_25 rfl (lv_at hl 0 rfl) ?_
  refine gM_counts hx hb hown hts hK hP dM_count_26 ?_
  refine lv_iload hx hb dM_count_29 (lv_at hl 4 rfl) ?_
  refine lv_iload_n hx hb dM_count_31 rfl (lv_at hl 2 rfl) ?_
  refine lv_iload_n hx hb dM_count_32 rfl (lv_at hl 3 rfl) ?_
  refine kr_callSi (av := [.int x5, .int x2, .int x3]) ⟨hx, hb, hml, hown, hts⟩ (mM_at l D _ (wdM q k cI cJ) [(cI, .int), (cJ, .long)] cl0 _ σ x5 x2 x3 _ rfl) (cwS 3 hts (kgood_S TM_good (by decide +kernel)) rfl rfl rfl (by decide +kernel) ⟨Nat.le_of_ble_eq_true rfl, Nat.le_of_ble_eq_true rfl⟩) hK hP hD hS hA rfl hl.1 rfl (Nat.le_of_ble_eq_true rfl) dM_count_33 ⟨Nat.le_of_ble_eq_true rfl, Nat.le_of_ble_eq_true rfl⟩ (fun H locs hP hD hS => ?_)
  obtain ⟨v36, ev36, hf⟩ := kb1 hf
  refine kr_iaload hx hb hK hP 1 0 rfl rfl ev36 dM_count_36 ?_
  refine lv_goto (tgt := 41) hx hb dM_count_37 (by decide) ?_
  exact tM_count_41 C0 hK hA ih6 y0 v36 x1 x2 x3 x5 _ _ ls hf (lv_sub hl [0, 1, 2, 3, 4] rfl) hP hD hS
set_option maxHeartbeats 400000 in
set_option maxRecDepth 100000 in
theorem tM_count_6 {p : Program} {l : Launch} {e : Env} {s : State} {m : MethodId} {args : Array Value} {below : List Frame} {meth : Method} {c : Code} {D : va_G} {A : Nat → Prop} {q : Nat → Nat} {k : kM} {cI cJ : ClassId} {r : Int32} {σ : sM} {fu : Nat} (C0 : Cx p s m args meth c cM_count 6 (some .int) RM TM) (hK : va_K D cl0 [(cI, .int), (cJ, .long)] s) (hA : ∀ z, s.heap.size ≤ z → A z) : ∀ n : Nat, ∀ (x1 : Int32) (x2 : Int32) (x3 : Int32) (x4 : Int32) (x5 : Int32)(H : Heap) (locs : List Loc) (ls : Array Slot), fM_count_6 fu k σ n x1 x2 x3 x4 x5 = some r → lv_has ls 6 [(0, .ref (q 0)), (1, .int x1), (2, .int x2), (3, .int x3), (4, .int x4), (5, .int x5)] → va_P D cl0 (wdM q k cI cJ σ) H → va_D A (wdM q k cI cJ σ) → va_S A s.heap H locs → W p l e ({ frames := 1, cells := 0, slots := 0, locals := 22 }) s m args below meth c H locs 0 0 (MQ below (kQi D cl0 [(cI, .int), (cJ, .long)] (wdM q k cI cJ) A r σ) args s 0 0 A) (F0 m 6 ls []) := by
  obtain ⟨hx, hb, hr, hml, hown, hts, hlocks⟩ := id C0
  intro n
  induction n with
  | zero =>
    intro x1 x2 x3 x4 x5 H locs ls hf hl hP hD hS
    cases hf
  | succ n ih =>
    intro x1 x2 x3 x4 x5 H locs ls hf hl hP hD hS
    rw [fM_count_6] at hf
    refine lv_iload hx hb dM_count_6 (lv_at hl 5 rfl) ?_
    refine lv_iconst (v := 4) hx hb dM_count_8 (by decide) ?_
    refine lv_icmp_ge (tgt := 50) hx hb dM_count_9 (by decide) (fun c9 => ?_) (fun c9 => ?_)
    · have hf := (if_pos c9).symm.trans hf
      refine lv_iload hx hb dM_count_50 (lv_at hl 4 rfl) ?_
      exact kr_iret C0 hK hP hD hS (Option.some.inj hf) rfl dM_count_52
    · have hf := (if_neg c9).symm.trans hf
      refine lv_iload hx hb dM_count_12 (lv_at hl 4 rfl) ?_
      refine lv_iload_n hx hb dM_count_14 rfl (lv_at hl 1 rfl) ?_
      refine lv_iconst (v := (-1)) hx hb dM_count_15 (by decide) ?_
      refine lv_icmp_eq (tgt := 25) hx hb dM_count_16 (by decide) (fun c16 => ?_) (fun c16 => ?_)
      · have hf := (if_pos c16).symm.trans hf
        exact tM_count_25 C0 hK hA ih x4 x1 x2 x3 x5 _ _ ls hf (lv_sub hl [0, 1, 2, 3, 5] rfl) hP hD hS
      · have hf := (if_neg c16).symm.trans hf
        refine lv_iload_n hx hb dM_count_19 rfl (lv_at hl 1 rfl) ?_
        refine lv_iload hx hb dM_count_20 (lv_at hl 5 rfl) ?_
        refine lv_icmp_ne (tgt := 40) hx hb dM_count_22 (by decide) (fun c22 => ?_) (fun c22 => ?_)
        · have hf := (if_neg c22).symm.trans hf
          refine lv_iconst (v := 0) hx hb dM_count_40 (by decide) ?_
          exact tM_count_41 C0 hK hA ih x4 0 x1 x2 x3 x5 _ _ ls hf (lv_sub hl [0, 1, 2, 3, 5] rfl) hP hD hS
        · have hf := (if_pos c22).symm.trans hf
          exact tM_count_25 C0 hK hA ih x4 x1 x2 x3 x5 _ _ ls hf (lv_sub hl [0, 1, 2, 3, 5] rfl) hP hD hS
set_option maxHeartbeats 400000 in
set_option maxRecDepth 100000 in
theorem mM_count (l : Launch) (D : va_G) (q : Nat → Nat) (k : kM) (cI cJ : ClassId) (sz : Nat) (fu : Nat) (σ : sM) (x1 : Int32) (x2 : Int32) (x3 : Int32) (r : Int32) (hf : fM_count fu k σ x1 x2 x3 = some r) : Met l yM_count (.code yM_count cM_count 6 (some .int) :: TM) ({ frames := 1, cells := 0, slots := 0, locals := 22 }) (kPre D cl0 [(cI, .int), (cJ, .long)] (wdM q k cI cJ) sz σ [.ref (q 0), .int x1, .int x2, .int x3]) (kQi D cl0 [(cI, .int), (cJ, .long)] (wdM q k cI cJ) (va_A (wdM q k cI cJ σ) sz) r σ) 0 0 (va_A (wdM q k cI cJ σ) sz) := by
  refine kr_start (own := RM) (by decide) rfl (Nat.le_of_ble_eq_true rfl) ?_
  intro p e s m args below meth c ls C0 hsz hK hP hD hl
  subst hsz
  obtain ⟨hx, hb, hr, hml, hown, hts, hlocks⟩ := id C0
  have hA : ∀ z : Nat, s.heap.size ≤ z → va_A (wdM q k cI cJ σ) s.heap.size z := fun z h => Or.inr h
  generalize va_A (wdM q k cI cJ σ) s.heap.size = A at hD hA ⊢
  have hS : va_S A s.heap s.heap [] := va_S.rf
  have hl : lv_has ls 6 [(0, .ref (q 0)), (1, .int x1), (2, .int x2), (3, .int x3)] := hl
  unfold fM_count at hf
  refine lv_iconst (v := 0) hx hb dM_count_0 (by decide) ?_
  refine lv_istore (lv' := [(4, .int 0), (0, .ref (q 0)), (1, .int x1), (2, .int x2), (3, .int x3)]) hx hb dM_count_1 hl (by decide) rfl (fun ls hl => ?_)
  refine lv_iconst (v := 0) hx hb dM_count_3 (by decide) ?_
  refine lv_istore (lv' := [(5, .int 0), (4, .int 0), (0, .ref (q 0)), (1, .int x1), (2, .int x2), (3, .int x3)]) hx hb dM_count_4 hl (by decide) rfl (fun ls hl => ?_)
  exact tM_count_6 C0 hK hA fu x1 x2 x3 0 0 _ _ ls hf (lv_sub hl [2, 3, 4, 5, 1, 0] rfl) hP hD hS
theorem dM_inGroup_0 : decode cM_inGroup 0 = .ok (.iconst 0, 1) := by decide +kernel
theorem dM_inGroup_1 : decode cM_inGroup 1 = .ok (.istore 4, 2) := by decide +kernel
theorem dM_inGroup_3 : decode cM_inGroup 3 = .ok (.iconst 0, 1) := by decide +kernel
theorem dM_inGroup_4 : decode cM_inGroup 4 = .ok (.istore 5, 2) := by decide +kernel
theorem dM_inGroup_6 : decode cM_inGroup 6 = .ok (.iload 5, 2) := by decide +kernel
theorem dM_inGroup_8 : decode cM_inGroup 8 = .ok (.aload_n 0, 1) := by decide +kernel
theorem dM_inGroup_9 : decode cM_inGroup 9 = .ok (.getfield 39, 3) := by decide +kernel
theorem dM_inGroup_12 : decode cM_inGroup 12 = .ok (.if_icmp .ge (67), 3) := by decide +kernel
theorem dM_inGroup_15 : decode cM_inGroup 15 = .ok (.iconst 0, 1) := by decide +kernel
theorem dM_inGroup_16 : decode cM_inGroup 16 = .ok (.istore 6, 2) := by decide +kernel
theorem dM_inGroup_18 : decode cM_inGroup 18 = .ok (.iload 6, 2) := by decide +kernel
theorem dM_inGroup_20 : decode cM_inGroup 20 = .ok (.aload_n 0, 1) := by decide +kernel
theorem dM_inGroup_21 : decode cM_inGroup 21 = .ok (.getfield 42, 3) := by decide +kernel
theorem dM_inGroup_24 : decode cM_inGroup 24 = .ok (.if_icmp .ge (49), 3) := by decide +kernel
theorem dM_inGroup_27 : decode cM_inGroup 27 = .ok (.iload 4, 2) := by decide +kernel
theorem dM_inGroup_29 : decode cM_inGroup 29 = .ok (.aload_n 0, 1) := by decide +kernel
theorem dM_inGroup_30 : decode cM_inGroup 30 = .ok (.getfield 17, 3) := by decide +kernel
theorem dM_inGroup_33 : decode cM_inGroup 33 = .ok (.iload 5, 2) := by decide +kernel
theorem dM_inGroup_35 : decode cM_inGroup 35 = .ok (.iaload, 1) := by decide +kernel
theorem dM_inGroup_36 : decode cM_inGroup 36 = .ok (.iload_n 1, 1) := by decide +kernel
theorem dM_inGroup_37 : decode cM_inGroup 37 = .ok (.if_icmp .ne (26), 3) := by decide +kernel
theorem dM_inGroup_40 : decode cM_inGroup 40 = .ok (.iload_n 3, 1) := by decide +kernel
theorem dM_inGroup_41 : decode cM_inGroup 41 = .ok (.iconst (-1), 1) := by decide +kernel
theorem dM_inGroup_42 : decode cM_inGroup 42 = .ok (.if_icmp .eq (9), 3) := by decide +kernel
theorem dM_inGroup_45 : decode cM_inGroup 45 = .ok (.iload_n 3, 1) := by decide +kernel
theorem dM_inGroup_46 : decode cM_inGroup 46 = .ok (.iload 6, 2) := by decide +kernel
theorem dM_inGroup_48 : decode cM_inGroup 48 = .ok (.if_icmp .ne (15), 3) := by decide +kernel
theorem dM_inGroup_51 : decode cM_inGroup 51 = .ok (.aload_n 0, 1) := by decide +kernel
theorem dM_inGroup_52 : decode cM_inGroup 52 = .ok (.iload_n 2, 1) := by decide +kernel
theorem dM_inGroup_53 : decode cM_inGroup 53 = .ok (.iload 5, 2) := by decide +kernel
theorem dM_inGroup_55 : decode cM_inGroup 55 = .ok (.iload 6, 2) := by decide +kernel
theorem dM_inGroup_57 : decode cM_inGroup 57 = .ok (.invokevirtual 49, 3) := by decide +kernel
theorem dM_inGroup_60 : decode cM_inGroup 60 = .ok (.goto (4), 3) := by decide +kernel
theorem dM_inGroup_63 : decode cM_inGroup 63 = .ok (.iconst 0, 1) := by decide +kernel
theorem dM_inGroup_64 : decode cM_inGroup 64 = .ok (.iadd, 1) := by decide +kernel
theorem dM_inGroup_65 : decode cM_inGroup 65 = .ok (.istore 4, 2) := by decide +kernel
theorem dM_inGroup_67 : decode cM_inGroup 67 = .ok (.iinc 6 (1), 3) := by decide +kernel
theorem dM_inGroup_70 : decode cM_inGroup 70 = .ok (.goto (-52), 3) := by decide +kernel
theorem dM_inGroup_73 : decode cM_inGroup 73 = .ok (.iinc 5 (1), 3) := by decide +kernel
theorem dM_inGroup_76 : decode cM_inGroup 76 = .ok (.goto (-70), 3) := by decide +kernel
theorem dM_inGroup_79 : decode cM_inGroup 79 = .ok (.iload 4, 2) := by decide +kernel
theorem dM_inGroup_81 : decode cM_inGroup 81 = .ok (.ireturn, 1) := by decide +kernel
set_option maxHeartbeats 400000 in
set_option maxRecDepth 100000 in
theorem tM_inGroup_64 {p : Program} {l : Launch} {e : Env} {s : State} {m : MethodId} {args : Array Value} {below : List Frame} {meth : Method} {c : Code} {D : va_G} {A : Nat → Prop} {q : Nat → Nat} {k : kM} {cI cJ : ClassId} {r : Int32} {σ : sM} {fu : Nat} {h6 : Int32 → Int32 → Int32 → Int32 → Int32 → Option Int32} {h18 : Int32 → Int32 → Int32 → Int32 → Int32 → Int32 → Option Int32} (C0 : Cx p s m args meth c cM_inGroup 7 (some .int) RM TM) (hK : va_K D cl0 [(cI, .int), (cJ, .long)] s) (hA : ∀ z, s.heap.size ≤ z → A z) (ih6 : ∀ (x1 : Int32) (x2 : Int32) (x3 : Int32) (x4 : Int32) (x5 : Int32)(H : Heap) (locs : List Loc) (ls : Array Slot), h6 x1 x2 x3 x4 x5 = some r → lv_has ls 7 [(0, .ref (q 0)), (1, .int x1), (2, .int x2), (3, .int x3), (4, .int x4), (5, .int x5)] → va_P D cl0 (wdM q k cI cJ σ) H → va_D A (wdM q k cI cJ σ) → va_S A s.heap H locs → W p l e ({ frames := 2, cells := 0, slots := 0, locals := 47 }) s m args below meth c H locs 0 0 (MQ below (kQi D cl0 [(cI, .int), (cJ, .long)] (wdM q k cI cJ) A r σ) args s 0 0 A) (F0 m 6 ls [])) (ih18 : ∀ (x1 : Int32) (x2 : Int32) (x3 : Int32) (x4 : Int32) (x5 : Int32) (x6 : Int32)(H : Heap) (locs : List Loc) (ls : Array Slot), h18 x1 x2 x3 x4 x5 x6 = some r → lv_has ls 7 [(0, .ref (q 0)), (1, .int x1), (2, .int x2), (3, .int x3), (4, .int x4), (5, .int x5), (6, .int x6)] → va_P D cl0 (wdM q k cI cJ σ) H → va_D A (wdM q k cI cJ σ) → va_S A s.heap H locs → W p l e ({ frames := 2, cells := 0, slots := 0, locals := 47 }) s m args below meth c H locs 0 0 (MQ below (kQi D cl0 [(cI, .int), (cJ, .long)] (wdM q k cI cJ) A r σ) args s 0 0 A) (F0 m 18 ls [])) : ∀ (y0 : Int32) (y1 : Int32) (x1 : Int32) (x2 : Int32) (x3 : Int32) (x5 : Int32) (x6 : Int32)(H : Heap) (locs : List Loc) (ls : Array Slot), fM_inGroup_64 fu k σ h6 h18 y0 y1 x1 x2 x3 x5 x6 = some r → lv_has ls 7 [(0, .ref (q 0)), (1, .int x1), (2, .int x2), (3, .int x3), (5, .int x5), (6, .int x6)] → va_P D cl0 (wdM q k cI cJ σ) H → va_D A (wdM q k cI cJ σ) → va_S A s.heap H locs → W p l e ({ frames := 2, cells := 0, slots := 0, locals := 47 }) s m args below meth c H locs 0 0 (MQ below (kQi D cl0 [(cI, .int), (cJ, .long)] (wdM q k cI cJ) A r σ) args s 0 0 A) (F0 m 64 ls [.int y1, .int y0]) := by
  obtain ⟨hx, hb, hr, hml, hown, hts, hlocks⟩ := id C0
  intro y0 y1 x1 x2 x3 x5 x6 H locs ls hf hl hP hD hS
  unfold fM_inGroup_64 at hf
  refine lv_iadd hx hb dM_inGroup_64 ?_
  refine lv_istore (lv' := [(4, .int (y0 + y1)), (0, .ref (q 0)), (1, .int x1), (2, .int x2), (3, .int x3), (5, .int x5), (6, .int x6)]) hx hb dM_inGroup_65 hl (by decide) rfl (fun ls hl => ?_)
  refine lv_iinc (v := (x6 + 1)) (lv' := [(6, .int (x6 + 1)), (4, .int (y0 + y1)), (0, .ref (q 0)), (1, .int x1), (2, .int x2), (3, .int x3), (5, .int x5)]) hx hb dM_inGroup_67 hl (k := 6) rfl rfl (by decide) rfl (fun ls hl => ?_)
  refine lv_goto (tgt := 18) hx hb dM_inGroup_70 (by decide) ?_
  exact ih18 x1 x2 x3 (y0 + y1) x5 (x6 + 1) _ _ ls hf (lv_sub hl [2, 3, 4, 5, 1, 6, 0] rfl) hP hD hS
set_option maxHeartbeats 400000 in
set_option maxRecDepth 100000 in
theorem tM_inGroup_51 {p : Program} {l : Launch} {e : Env} {s : State} {m : MethodId} {args : Array Value} {below : List Frame} {meth : Method} {c : Code} {D : va_G} {A : Nat → Prop} {q : Nat → Nat} {k : kM} {cI cJ : ClassId} {r : Int32} {σ : sM} {fu : Nat} {h6 : Int32 → Int32 → Int32 → Int32 → Int32 → Option Int32} {h18 : Int32 → Int32 → Int32 → Int32 → Int32 → Int32 → Option Int32} (C0 : Cx p s m args meth c cM_inGroup 7 (some .int) RM TM) (hK : va_K D cl0 [(cI, .int), (cJ, .long)] s) (hA : ∀ z, s.heap.size ≤ z → A z) (ih6 : ∀ (x1 : Int32) (x2 : Int32) (x3 : Int32) (x4 : Int32) (x5 : Int32)(H : Heap) (locs : List Loc) (ls : Array Slot), h6 x1 x2 x3 x4 x5 = some r → lv_has ls 7 [(0, .ref (q 0)), (1, .int x1), (2, .int x2), (3, .int x3), (4, .int x4), (5, .int x5)] → va_P D cl0 (wdM q k cI cJ σ) H → va_D A (wdM q k cI cJ σ) → va_S A s.heap H locs → W p l e ({ frames := 2, cells := 0, slots := 0, locals := 47 }) s m args below meth c H locs 0 0 (MQ below (kQi D cl0 [(cI, .int), (cJ, .long)] (wdM q k cI cJ) A r σ) args s 0 0 A) (F0 m 6 ls [])) (ih18 : ∀ (x1 : Int32) (x2 : Int32) (x3 : Int32) (x4 : Int32) (x5 : Int32) (x6 : Int32)(H : Heap) (locs : List Loc) (ls : Array Slot), h18 x1 x2 x3 x4 x5 x6 = some r → lv_has ls 7 [(0, .ref (q 0)), (1, .int x1), (2, .int x2), (3, .int x3), (4, .int x4), (5, .int x5), (6, .int x6)] → va_P D cl0 (wdM q k cI cJ σ) H → va_D A (wdM q k cI cJ σ) → va_S A s.heap H locs → W p l e ({ frames := 2, cells := 0, slots := 0, locals := 47 }) s m args below meth c H locs 0 0 (MQ below (kQi D cl0 [(cI, .int), (cJ, .long)] (wdM q k cI cJ) A r σ) args s 0 0 A) (F0 m 18 ls [])) : ∀ (y0 : Int32) (x1 : Int32) (x2 : Int32) (x3 : Int32) (x5 : Int32) (x6 : Int32)(H : Heap) (locs : List Loc) (ls : Array Slot), fM_inGroup_51 fu k σ h6 h18 y0 x1 x2 x3 x5 x6 = some r → lv_has ls 7 [(0, .ref (q 0)), (1, .int x1), (2, .int x2), (3, .int x3), (5, .int x5), (6, .int x6)] → va_P D cl0 (wdM q k cI cJ σ) H → va_D A (wdM q k cI cJ σ) → va_S A s.heap H locs → W p l e ({ frames := 2, cells := 0, slots := 0, locals := 47 }) s m args below meth c H locs 0 0 (MQ below (kQi D cl0 [(cI, .int), (cJ, .long)] (wdM q k cI cJ) A r σ) args s 0 0 A) (F0 m 51 ls [.int y0]) := by
  obtain ⟨hx, hb, hr, hml, hown, hts, hlocks⟩ := id C0
  intro y0 x1 x2 x3 x5 x6 H locs ls hf hl hP hD hS
  unfold fM_inGroup_51 at hf
  refine lv_aload_n hx hb dM_inGroup_51 rfl (lv_at hl 0 rfl) ?_
  refine lv_iload_n hx hb dM_inGroup_52 rfl (lv_at hl 2 rfl) ?_
  refine lv_iload hx hb dM_inGroup_53 (lv_at hl 4 rfl) ?_
  refine lv_iload hx hb dM_inGroup_55 (lv_at hl 5 rfl) ?_
  obtain ⟨v57, ev57, hf⟩ := kb1 hf
  refine kr_callVi (av := [.int x2, .int x5, .int x6]) ⟨hx, hb, hml, hown, hts⟩ (mM_count l D q k cI cJ _ fu σ x2 x5 x6 v57 ev57) (cwV 3 hts (kgood_V TM_good (by decide +kernel)) rfl rfl rfl (by decide +kernel) ⟨Nat.le_of_ble_eq_true rfl, Nat.le_of_ble_eq_true rfl⟩) hK hP hD hS hA (ci := 1) (q0 := 0) rfl rfl rfl hl.1 rfl (Nat.le_of_ble_eq_true rfl) dM_inGroup_57 ⟨Nat.le_of_ble_eq_true rfl, Nat.le_of_ble_eq_true rfl⟩ (fun H locs hP hD hS => ?_)
  refine lv_goto (tgt := 64) hx hb dM_inGroup_60 (by decide) ?_
  exact tM_inGroup_64 C0 hK hA ih6 ih18 y0 v57 x1 x2 x3 x5 x6 _ _ ls hf (lv_sub hl [0, 1, 2, 3, 4, 5] rfl) hP hD hS
set_option maxHeartbeats 400000 in
set_option maxRecDepth 100000 in
theorem tM_inGroup_63 {p : Program} {l : Launch} {e : Env} {s : State} {m : MethodId} {args : Array Value} {below : List Frame} {meth : Method} {c : Code} {D : va_G} {A : Nat → Prop} {q : Nat → Nat} {k : kM} {cI cJ : ClassId} {r : Int32} {σ : sM} {fu : Nat} {h6 : Int32 → Int32 → Int32 → Int32 → Int32 → Option Int32} {h18 : Int32 → Int32 → Int32 → Int32 → Int32 → Int32 → Option Int32} (C0 : Cx p s m args meth c cM_inGroup 7 (some .int) RM TM) (hK : va_K D cl0 [(cI, .int), (cJ, .long)] s) (hA : ∀ z, s.heap.size ≤ z → A z) (ih6 : ∀ (x1 : Int32) (x2 : Int32) (x3 : Int32) (x4 : Int32) (x5 : Int32)(H : Heap) (locs : List Loc) (ls : Array Slot), h6 x1 x2 x3 x4 x5 = some r → lv_has ls 7 [(0, .ref (q 0)), (1, .int x1), (2, .int x2), (3, .int x3), (4, .int x4), (5, .int x5)] → va_P D cl0 (wdM q k cI cJ σ) H → va_D A (wdM q k cI cJ σ) → va_S A s.heap H locs → W p l e ({ frames := 2, cells := 0, slots := 0, locals := 47 }) s m args below meth c H locs 0 0 (MQ below (kQi D cl0 [(cI, .int), (cJ, .long)] (wdM q k cI cJ) A r σ) args s 0 0 A) (F0 m 6 ls [])) (ih18 : ∀ (x1 : Int32) (x2 : Int32) (x3 : Int32) (x4 : Int32) (x5 : Int32) (x6 : Int32)(H : Heap) (locs : List Loc) (ls : Array Slot), h18 x1 x2 x3 x4 x5 x6 = some r → lv_has ls 7 [(0, .ref (q 0)), (1, .int x1), (2, .int x2), (3, .int x3), (4, .int x4), (5, .int x5), (6, .int x6)] → va_P D cl0 (wdM q k cI cJ σ) H → va_D A (wdM q k cI cJ σ) → va_S A s.heap H locs → W p l e ({ frames := 2, cells := 0, slots := 0, locals := 47 }) s m args below meth c H locs 0 0 (MQ below (kQi D cl0 [(cI, .int), (cJ, .long)] (wdM q k cI cJ) A r σ) args s 0 0 A) (F0 m 18 ls [])) : ∀ (y0 : Int32) (x1 : Int32) (x2 : Int32) (x3 : Int32) (x5 : Int32) (x6 : Int32)(H : Heap) (locs : List Loc) (ls : Array Slot), fM_inGroup_63 fu k σ h6 h18 y0 x1 x2 x3 x5 x6 = some r → lv_has ls 7 [(0, .ref (q 0)), (1, .int x1), (2, .int x2), (3, .int x3), (5, .int x5), (6, .int x6)] → va_P D cl0 (wdM q k cI cJ σ) H → va_D A (wdM q k cI cJ σ) → va_S A s.heap H locs → W p l e ({ frames := 2, cells := 0, slots := 0, locals := 47 }) s m args below meth c H locs 0 0 (MQ below (kQi D cl0 [(cI, .int), (cJ, .long)] (wdM q k cI cJ) A r σ) args s 0 0 A) (F0 m 63 ls [.int y0]) := by
  obtain ⟨hx, hb, hr, hml, hown, hts, hlocks⟩ := id C0
  intro y0 x1 x2 x3 x5 x6 H locs ls hf hl hP hD hS
  unfold fM_inGroup_63 at hf
  refine lv_iconst (v := 0) hx hb dM_inGroup_63 (by decide) ?_
  exact tM_inGroup_64 C0 hK hA ih6 ih18 y0 0 x1 x2 x3 x5 x6 _ _ ls hf (lv_sub hl [0, 1, 2, 3, 4, 5] rfl) hP hD hS
set_option maxHeartbeats 400000 in
set_option maxRecDepth 100000 in
theorem tM_inGroup_18 {p : Program} {l : Launch} {e : Env} {s : State} {m : MethodId} {args : Array Value} {below : List Frame} {meth : Method} {c : Code} {D : va_G} {A : Nat → Prop} {q : Nat → Nat} {k : kM} {cI cJ : ClassId} {r : Int32} {σ : sM} {fu : Nat} {h6 : Int32 → Int32 → Int32 → Int32 → Int32 → Option Int32} (C0 : Cx p s m args meth c cM_inGroup 7 (some .int) RM TM) (hK : va_K D cl0 [(cI, .int), (cJ, .long)] s) (hA : ∀ z, s.heap.size ≤ z → A z) (ih6 : ∀ (x1 : Int32) (x2 : Int32) (x3 : Int32) (x4 : Int32) (x5 : Int32)(H : Heap) (locs : List Loc) (ls : Array Slot), h6 x1 x2 x3 x4 x5 = some r → lv_has ls 7 [(0, .ref (q 0)), (1, .int x1), (2, .int x2), (3, .int x3), (4, .int x4), (5, .int x5)] → va_P D cl0 (wdM q k cI cJ σ) H → va_D A (wdM q k cI cJ σ) → va_S A s.heap H locs → W p l e ({ frames := 2, cells := 0, slots := 0, locals := 47 }) s m args below meth c H locs 0 0 (MQ below (kQi D cl0 [(cI, .int), (cJ, .long)] (wdM q k cI cJ) A r σ) args s 0 0 A) (F0 m 6 ls [])) : ∀ n : Nat, ∀ (x1 : Int32) (x2 : Int32) (x3 : Int32) (x4 : Int32) (x5 : Int32) (x6 : Int32)(H : Heap) (locs : List Loc) (ls : Array Slot), fM_inGroup_18 fu k σ h6 n x1 x2 x3 x4 x5 x6 = some r → lv_has ls 7 [(0, .ref (q 0)), (1, .int x1), (2, .int x2), (3, .int x3), (4, .int x4), (5, .int x5), (6, .int x6)] → va_P D cl0 (wdM q k cI cJ σ) H → va_D A (wdM q k cI cJ σ) → va_S A s.heap H locs → W p l e ({ frames := 2, cells := 0, slots := 0, locals := 47 }) s m args below meth c H locs 0 0 (MQ below (kQi D cl0 [(cI, .int), (cJ, .long)] (wdM q k cI cJ) A r σ) args s 0 0 A) (F0 m 18 ls []) := by
  obtain ⟨hx, hb, hr, hml, hown, hts, hlocks⟩ := id C0
  intro n
  induction n with
  | zero =>
    intro x1 x2 x3 x4 x5 x6 H locs ls hf hl hP hD hS
    cases hf
  | succ n ih =>
    intro x1 x2 x3 x4 x5 x6 H locs ls hf hl hP hD hS
    rw [fM_inGroup_18] at hf
    refine lv_iload hx hb dM_inGroup_18 (lv_at hl 6 rfl) ?_
    refine lv_aload_n hx hb dM_inGroup_20 rfl (lv_at hl 0 rfl) ?_
    refine gM_ages hx hb hown hts hK hP dM_inGroup_21 ?_
    refine lv_icmp_ge (tgt := 73) hx hb dM_inGroup_24 (by decide) (fun c24 => ?_) (fun c24 => ?_)
    · have hf := (if_pos c24).symm.trans hf
      refine lv_iinc (v := (x5 + 1)) (lv' := [(5, .int (x5 + 1)), (0, .ref (q 0)), (1, .int x1), (2, .int x2), (3, .int x3), (4, .int x4), (6, .int x6)]) hx hb dM_inGroup_73 hl (k := 5) rfl rfl (by decide) rfl (fun ls hl => ?_)
      refine lv_goto (tgt := 6) hx hb dM_inGroup_76 (by decide) ?_
      exact ih6 x1 x2 x3 x4 (x5 + 1) _ _ ls hf (lv_sub hl [1, 2, 3, 4, 5, 0] rfl) hP hD hS
    · have hf := (if_neg c24).symm.trans hf
      refine lv_iload hx hb dM_inGroup_27 (lv_at hl 4 rfl) ?_
      refine lv_aload_n hx hb dM_inGroup_29 rfl (lv_at hl 0 rfl) ?_
      refine gM_group hx hb hown hts hK hP dM_inGroup_30 ?_
      refine lv_iload hx hb dM_inGroup_33 (lv_at hl 5 rfl) ?_
      obtain ⟨v35, ev35, hf⟩ := kb1 hf
      refine kr_iaload hx hb hK hP 2 0 rfl rfl ev35 dM_inGroup_35 ?_
      refine lv_iload_n hx hb dM_inGroup_36 rfl (lv_at hl 1 rfl) ?_
      refine lv_icmp_ne (tgt := 63) hx hb dM_inGroup_37 (by decide) (fun c37 => ?_) (fun c37 => ?_)
      · have hf := (if_neg c37).symm.trans hf
        exact tM_inGroup_63 C0 hK hA ih6 ih x4 x1 x2 x3 x5 x6 _ _ ls hf (lv_sub hl [0, 1, 2, 3, 5, 6] rfl) hP hD hS
      · have hf := (if_pos c37).symm.trans hf
        refine lv_iload_n hx hb dM_inGroup_40 rfl (lv_at hl 3 rfl) ?_
        refine lv_iconst (v := (-1)) hx hb dM_inGroup_41 (by decide) ?_
        refine lv_icmp_eq (tgt := 51) hx hb dM_inGroup_42 (by decide) (fun c42 => ?_) (fun c42 => ?_)
        · have hf := (if_pos c42).symm.trans hf
          exact tM_inGroup_51 C0 hK hA ih6 ih x4 x1 x2 x3 x5 x6 _ _ ls hf (lv_sub hl [0, 1, 2, 3, 5, 6] rfl) hP hD hS
        · have hf := (if_neg c42).symm.trans hf
          refine lv_iload_n hx hb dM_inGroup_45 rfl (lv_at hl 3 rfl) ?_
          refine lv_iload hx hb dM_inGroup_46 (lv_at hl 6 rfl) ?_
          refine lv_icmp_ne (tgt := 63) hx hb dM_inGroup_48 (by decide) (fun c48 => ?_) (fun c48 => ?_)
          · have hf := (if_neg c48).symm.trans hf
            exact tM_inGroup_63 C0 hK hA ih6 ih x4 x1 x2 x3 x5 x6 _ _ ls hf (lv_sub hl [0, 1, 2, 3, 5, 6] rfl) hP hD hS
          · have hf := (if_pos c48).symm.trans hf
            exact tM_inGroup_51 C0 hK hA ih6 ih x4 x1 x2 x3 x5 x6 _ _ ls hf (lv_sub hl [0, 1, 2, 3, 5, 6] rfl) hP hD hS
set_option maxHeartbeats 400000 in
set_option maxRecDepth 100000 in
theorem tM_inGroup_6 {p : Program} {l : Launch} {e : Env} {s : State} {m : MethodId} {args : Array Value} {below : List Frame} {meth : Method} {c : Code} {D : va_G} {A : Nat → Prop} {q : Nat → Nat} {k : kM} {cI cJ : ClassId} {r : Int32} {σ : sM} {fu : Nat} (C0 : Cx p s m args meth c cM_inGroup 7 (some .int) RM TM) (hK : va_K D cl0 [(cI, .int), (cJ, .long)] s) (hA : ∀ z, s.heap.size ≤ z → A z) : ∀ n : Nat, ∀ (x1 : Int32) (x2 : Int32) (x3 : Int32) (x4 : Int32) (x5 : Int32)(H : Heap) (locs : List Loc) (ls : Array Slot), fM_inGroup_6 fu k σ n x1 x2 x3 x4 x5 = some r → lv_has ls 7 [(0, .ref (q 0)), (1, .int x1), (2, .int x2), (3, .int x3), (4, .int x4), (5, .int x5)] → va_P D cl0 (wdM q k cI cJ σ) H → va_D A (wdM q k cI cJ σ) → va_S A s.heap H locs → W p l e ({ frames := 2, cells := 0, slots := 0, locals := 47 }) s m args below meth c H locs 0 0 (MQ below (kQi D cl0 [(cI, .int), (cJ, .long)] (wdM q k cI cJ) A r σ) args s 0 0 A) (F0 m 6 ls []) := by
  obtain ⟨hx, hb, hr, hml, hown, hts, hlocks⟩ := id C0
  intro n
  induction n with
  | zero =>
    intro x1 x2 x3 x4 x5 H locs ls hf hl hP hD hS
    cases hf
  | succ n ih =>
    intro x1 x2 x3 x4 x5 H locs ls hf hl hP hD hS
    rw [fM_inGroup_6] at hf
    refine lv_iload hx hb dM_inGroup_6 (lv_at hl 5 rfl) ?_
    refine lv_aload_n hx hb dM_inGroup_8 rfl (lv_at hl 0 rfl) ?_
    refine gM_classes hx hb hown hts hK hP dM_inGroup_9 ?_
    refine lv_icmp_ge (tgt := 79) hx hb dM_inGroup_12 (by decide) (fun c12 => ?_) (fun c12 => ?_)
    · have hf := (if_pos c12).symm.trans hf
      refine lv_iload hx hb dM_inGroup_79 (lv_at hl 4 rfl) ?_
      exact kr_iret C0 hK hP hD hS (Option.some.inj hf) rfl dM_inGroup_81
    · have hf := (if_neg c12).symm.trans hf
      refine lv_iconst (v := 0) hx hb dM_inGroup_15 (by decide) ?_
      refine lv_istore (lv' := [(6, .int 0), (0, .ref (q 0)), (1, .int x1), (2, .int x2), (3, .int x3), (4, .int x4), (5, .int x5)]) hx hb dM_inGroup_16 hl (by decide) rfl (fun ls hl => ?_)
      exact tM_inGroup_18 C0 hK hA ih fu x1 x2 x3 x4 x5 0 _ _ ls hf (lv_sub hl [1, 2, 3, 4, 5, 6, 0] rfl) hP hD hS
set_option maxHeartbeats 400000 in
set_option maxRecDepth 100000 in
theorem mM_inGroup (l : Launch) (D : va_G) (q : Nat → Nat) (k : kM) (cI cJ : ClassId) (sz : Nat) (fu : Nat) (σ : sM) (x1 : Int32) (x2 : Int32) (x3 : Int32) (r : Int32) (hf : fM_inGroup fu k σ x1 x2 x3 = some r) : Met l yM_inGroup (.code yM_inGroup cM_inGroup 7 (some .int) :: TM) ({ frames := 2, cells := 0, slots := 0, locals := 47 }) (kPre D cl0 [(cI, .int), (cJ, .long)] (wdM q k cI cJ) sz σ [.ref (q 0), .int x1, .int x2, .int x3]) (kQi D cl0 [(cI, .int), (cJ, .long)] (wdM q k cI cJ) (va_A (wdM q k cI cJ σ) sz) r σ) 0 0 (va_A (wdM q k cI cJ σ) sz) := by
  refine kr_start (own := RM) (by decide) rfl (Nat.le_of_ble_eq_true rfl) ?_
  intro p e s m args below meth c ls C0 hsz hK hP hD hl
  subst hsz
  obtain ⟨hx, hb, hr, hml, hown, hts, hlocks⟩ := id C0
  have hA : ∀ z : Nat, s.heap.size ≤ z → va_A (wdM q k cI cJ σ) s.heap.size z := fun z h => Or.inr h
  generalize va_A (wdM q k cI cJ σ) s.heap.size = A at hD hA ⊢
  have hS : va_S A s.heap s.heap [] := va_S.rf
  have hl : lv_has ls 7 [(0, .ref (q 0)), (1, .int x1), (2, .int x2), (3, .int x3)] := hl
  unfold fM_inGroup at hf
  refine lv_iconst (v := 0) hx hb dM_inGroup_0 (by decide) ?_
  refine lv_istore (lv' := [(4, .int 0), (0, .ref (q 0)), (1, .int x1), (2, .int x2), (3, .int x3)]) hx hb dM_inGroup_1 hl (by decide) rfl (fun ls hl => ?_)
  refine lv_iconst (v := 0) hx hb dM_inGroup_3 (by decide) ?_
  refine lv_istore (lv' := [(5, .int 0), (4, .int 0), (0, .ref (q 0)), (1, .int x1), (2, .int x2), (3, .int x3)]) hx hb dM_inGroup_4 hl (by decide) rfl (fun ls hl => ?_)
  exact tM_inGroup_6 C0 hK hA fu x1 x2 x3 0 0 _ _ ls hf (lv_sub hl [2, 3, 4, 5, 1, 0] rfl) hP hD hS
theorem dM_inAll_0 : decode cM_inAll 0 = .ok (.iconst 0, 1) := by decide +kernel
theorem dM_inAll_1 : decode cM_inAll 1 = .ok (.istore_n 2, 1) := by decide +kernel
theorem dM_inAll_2 : decode cM_inAll 2 = .ok (.iconst 0, 1) := by decide +kernel
theorem dM_inAll_3 : decode cM_inAll 3 = .ok (.istore_n 3, 1) := by decide +kernel
theorem dM_inAll_4 : decode cM_inAll 4 = .ok (.iload_n 3, 1) := by decide +kernel
theorem dM_inAll_5 : decode cM_inAll 5 = .ok (.aload_n 0, 1) := by decide +kernel
theorem dM_inAll_6 : decode cM_inAll 6 = .ok (.getfield 39, 3) := by decide +kernel
theorem dM_inAll_9 : decode cM_inAll 9 = .ok (.if_icmp .ge (38), 3) := by decide +kernel
theorem dM_inAll_12 : decode cM_inAll 12 = .ok (.iconst 0, 1) := by decide +kernel
theorem dM_inAll_13 : decode cM_inAll 13 = .ok (.istore 4, 2) := by decide +kernel
theorem dM_inAll_15 : decode cM_inAll 15 = .ok (.iload 4, 2) := by decide +kernel
theorem dM_inAll_17 : decode cM_inAll 17 = .ok (.aload_n 0, 1) := by decide +kernel
theorem dM_inAll_18 : decode cM_inAll 18 = .ok (.getfield 42, 3) := by decide +kernel
theorem dM_inAll_21 : decode cM_inAll 21 = .ok (.if_icmp .ge (20), 3) := by decide +kernel
theorem dM_inAll_24 : decode cM_inAll 24 = .ok (.iload_n 2, 1) := by decide +kernel
theorem dM_inAll_25 : decode cM_inAll 25 = .ok (.aload_n 0, 1) := by decide +kernel
theorem dM_inAll_26 : decode cM_inAll 26 = .ok (.iload_n 1, 1) := by decide +kernel
theorem dM_inAll_27 : decode cM_inAll 27 = .ok (.iload_n 3, 1) := by decide +kernel
theorem dM_inAll_28 : decode cM_inAll 28 = .ok (.iload 4, 2) := by decide +kernel
theorem dM_inAll_30 : decode cM_inAll 30 = .ok (.invokevirtual 49, 3) := by decide +kernel
theorem dM_inAll_33 : decode cM_inAll 33 = .ok (.iadd, 1) := by decide +kernel
theorem dM_inAll_34 : decode cM_inAll 34 = .ok (.istore_n 2, 1) := by decide +kernel
theorem dM_inAll_35 : decode cM_inAll 35 = .ok (.iinc 4 (1), 3) := by decide +kernel
theorem dM_inAll_38 : decode cM_inAll 38 = .ok (.goto (-23), 3) := by decide +kernel
theorem dM_inAll_41 : decode cM_inAll 41 = .ok (.iinc 3 (1), 3) := by decide +kernel
theorem dM_inAll_44 : decode cM_inAll 44 = .ok (.goto (-40), 3) := by decide +kernel
theorem dM_inAll_47 : decode cM_inAll 47 = .ok (.iload_n 2, 1) := by decide +kernel
theorem dM_inAll_48 : decode cM_inAll 48 = .ok (.ireturn, 1) := by decide +kernel
set_option maxHeartbeats 400000 in
set_option maxRecDepth 100000 in
theorem tM_inAll_15 {p : Program} {l : Launch} {e : Env} {s : State} {m : MethodId} {args : Array Value} {below : List Frame} {meth : Method} {c : Code} {D : va_G} {A : Nat → Prop} {q : Nat → Nat} {k : kM} {cI cJ : ClassId} {r : Int32} {σ : sM} {fu : Nat} {h4 : Int32 → Int32 → Int32 → Option Int32} (C0 : Cx p s m args meth c cM_inAll 5 (some .int) RM TM) (hK : va_K D cl0 [(cI, .int), (cJ, .long)] s) (hA : ∀ z, s.heap.size ≤ z → A z) (ih4 : ∀ (x1 : Int32) (x2 : Int32) (x3 : Int32)(H : Heap) (locs : List Loc) (ls : Array Slot), h4 x1 x2 x3 = some r → lv_has ls 5 [(0, .ref (q 0)), (1, .int x1), (2, .int x2), (3, .int x3)] → va_P D cl0 (wdM q k cI cJ σ) H → va_D A (wdM q k cI cJ σ) → va_S A s.heap H locs → W p l e ({ frames := 2, cells := 0, slots := 0, locals := 47 }) s m args below meth c H locs 0 0 (MQ below (kQi D cl0 [(cI, .int), (cJ, .long)] (wdM q k cI cJ) A r σ) args s 0 0 A) (F0 m 4 ls [])) : ∀ n : Nat, ∀ (x1 : Int32) (x2 : Int32) (x3 : Int32) (x4 : Int32)(H : Heap) (locs : List Loc) (ls : Array Slot), fM_inAll_15 fu k σ h4 n x1 x2 x3 x4 = some r → lv_has ls 5 [(0, .ref (q 0)), (1, .int x1), (2, .int x2), (3, .int x3), (4, .int x4)] → va_P D cl0 (wdM q k cI cJ σ) H → va_D A (wdM q k cI cJ σ) → va_S A s.heap H locs → W p l e ({ frames := 2, cells := 0, slots := 0, locals := 47 }) s m args below meth c H locs 0 0 (MQ below (kQi D cl0 [(cI, .int), (cJ, .long)] (wdM q k cI cJ) A r σ) args s 0 0 A) (F0 m 15 ls []) := by
  obtain ⟨hx, hb, hr, hml, hown, hts, hlocks⟩ := id C0
  intro n
  induction n with
  | zero =>
    intro x1 x2 x3 x4 H locs ls hf hl hP hD hS
    cases hf
  | succ n ih =>
    intro x1 x2 x3 x4 H locs ls hf hl hP hD hS
    rw [fM_inAll_15] at hf
    refine lv_iload hx hb dM_inAll_15 (lv_at hl 4 rfl) ?_
    refine lv_aload_n hx hb dM_inAll_17 rfl (lv_at hl 0 rfl) ?_
    refine gM_ages hx hb hown hts hK hP dM_inAll_18 ?_
    refine lv_icmp_ge (tgt := 41) hx hb dM_inAll_21 (by decide) (fun c21 => ?_) (fun c21 => ?_)
    · have hf := (if_pos c21).symm.trans hf
      refine lv_iinc (v := (x3 + 1)) (lv' := [(3, .int (x3 + 1)), (0, .ref (q 0)), (1, .int x1), (2, .int x2), (4, .int x4)]) hx hb dM_inAll_41 hl (k := 3) rfl rfl (by decide) rfl (fun ls hl => ?_)
      refine lv_goto (tgt := 4) hx hb dM_inAll_44 (by decide) ?_
      exact ih4 x1 x2 (x3 + 1) _ _ ls hf (lv_sub hl [1, 2, 3, 0] rfl) hP hD hS
    · have hf := (if_neg c21).symm.trans hf
      refine lv_iload_n hx hb dM_inAll_24 rfl (lv_at hl 2 rfl) ?_
      refine lv_aload_n hx hb dM_inAll_25 rfl (lv_at hl 0 rfl) ?_
      refine lv_iload_n hx hb dM_inAll_26 rfl (lv_at hl 1 rfl) ?_
      refine lv_iload_n hx hb dM_inAll_27 rfl (lv_at hl 3 rfl) ?_
      refine lv_iload hx hb dM_inAll_28 (lv_at hl 4 rfl) ?_
      obtain ⟨v30, ev30, hf⟩ := kb1 hf
      refine kr_callVi (av := [.int x1, .int x3, .int x4]) ⟨hx, hb, hml, hown, hts⟩ (mM_count l D q k cI cJ _ fu σ x1 x3 x4 v30 ev30) (cwV 3 hts (kgood_V TM_good (by decide +kernel)) rfl rfl rfl (by decide +kernel) ⟨Nat.le_of_ble_eq_true rfl, Nat.le_of_ble_eq_true rfl⟩) hK hP hD hS hA (ci := 1) (q0 := 0) rfl rfl rfl hl.1 rfl (Nat.le_of_ble_eq_true rfl) dM_inAll_30 ⟨Nat.le_of_ble_eq_true rfl, Nat.le_of_ble_eq_true rfl⟩ (fun H locs hP hD hS => ?_)
      refine lv_iadd hx hb dM_inAll_33 ?_
      refine lv_istore_n (lv' := [(2, .int (x2 + v30)), (0, .ref (q 0)), (1, .int x1), (3, .int x3), (4, .int x4)]) hx hb dM_inAll_34 rfl hl (by decide) rfl (fun ls hl => ?_)
      refine lv_iinc (v := (x4 + 1)) (lv' := [(4, .int (x4 + 1)), (2, .int (x2 + v30)), (0, .ref (q 0)), (1, .int x1), (3, .int x3)]) hx hb dM_inAll_35 hl (k := 4) rfl rfl (by decide) rfl (fun ls hl => ?_)
      refine lv_goto (tgt := 15) hx hb dM_inAll_38 (by decide) ?_
      exact ih x1 (x2 + v30) x3 (x4 + 1) _ _ ls hf (lv_sub hl [2, 3, 1, 4, 0] rfl) hP hD hS
set_option maxHeartbeats 400000 in
set_option maxRecDepth 100000 in
theorem tM_inAll_4 {p : Program} {l : Launch} {e : Env} {s : State} {m : MethodId} {args : Array Value} {below : List Frame} {meth : Method} {c : Code} {D : va_G} {A : Nat → Prop} {q : Nat → Nat} {k : kM} {cI cJ : ClassId} {r : Int32} {σ : sM} {fu : Nat} (C0 : Cx p s m args meth c cM_inAll 5 (some .int) RM TM) (hK : va_K D cl0 [(cI, .int), (cJ, .long)] s) (hA : ∀ z, s.heap.size ≤ z → A z) : ∀ n : Nat, ∀ (x1 : Int32) (x2 : Int32) (x3 : Int32)(H : Heap) (locs : List Loc) (ls : Array Slot), fM_inAll_4 fu k σ n x1 x2 x3 = some r → lv_has ls 5 [(0, .ref (q 0)), (1, .int x1), (2, .int x2), (3, .int x3)] → va_P D cl0 (wdM q k cI cJ σ) H → va_D A (wdM q k cI cJ σ) → va_S A s.heap H locs → W p l e ({ frames := 2, cells := 0, slots := 0, locals := 47 }) s m args below meth c H locs 0 0 (MQ below (kQi D cl0 [(cI, .int), (cJ, .long)] (wdM q k cI cJ) A r σ) args s 0 0 A) (F0 m 4 ls []) := by
  obtain ⟨hx, hb, hr, hml, hown, hts, hlocks⟩ := id C0
  intro n
  induction n with
  | zero =>
    intro x1 x2 x3 H locs ls hf hl hP hD hS
    cases hf
  | succ n ih =>
    intro x1 x2 x3 H locs ls hf hl hP hD hS
    rw [fM_inAll_4] at hf
    refine lv_iload_n hx hb dM_inAll_4 rfl (lv_at hl 3 rfl) ?_
    refine lv_aload_n hx hb dM_inAll_5 rfl (lv_at hl 0 rfl) ?_
    refine gM_classes hx hb hown hts hK hP dM_inAll_6 ?_
    refine lv_icmp_ge (tgt := 47) hx hb dM_inAll_9 (by decide) (fun c9 => ?_) (fun c9 => ?_)
    · have hf := (if_pos c9).symm.trans hf
      refine lv_iload_n hx hb dM_inAll_47 rfl (lv_at hl 2 rfl) ?_
      exact kr_iret C0 hK hP hD hS (Option.some.inj hf) rfl dM_inAll_48
    · have hf := (if_neg c9).symm.trans hf
      refine lv_iconst (v := 0) hx hb dM_inAll_12 (by decide) ?_
      refine lv_istore (lv' := [(4, .int 0), (0, .ref (q 0)), (1, .int x1), (2, .int x2), (3, .int x3)]) hx hb dM_inAll_13 hl (by decide) rfl (fun ls hl => ?_)
      exact tM_inAll_15 C0 hK hA ih fu x1 x2 x3 0 _ _ ls hf (lv_sub hl [1, 2, 3, 4, 0] rfl) hP hD hS
set_option maxHeartbeats 400000 in
set_option maxRecDepth 100000 in
theorem mM_inAll (l : Launch) (D : va_G) (q : Nat → Nat) (k : kM) (cI cJ : ClassId) (sz : Nat) (fu : Nat) (σ : sM) (x1 : Int32) (r : Int32) (hf : fM_inAll fu k σ x1 = some r) : Met l yM_inAll (.code yM_inAll cM_inAll 5 (some .int) :: TM) ({ frames := 2, cells := 0, slots := 0, locals := 47 }) (kPre D cl0 [(cI, .int), (cJ, .long)] (wdM q k cI cJ) sz σ [.ref (q 0), .int x1]) (kQi D cl0 [(cI, .int), (cJ, .long)] (wdM q k cI cJ) (va_A (wdM q k cI cJ σ) sz) r σ) 0 0 (va_A (wdM q k cI cJ σ) sz) := by
  refine kr_start (own := RM) (by decide) rfl (Nat.le_of_ble_eq_true rfl) ?_
  intro p e s m args below meth c ls C0 hsz hK hP hD hl
  subst hsz
  obtain ⟨hx, hb, hr, hml, hown, hts, hlocks⟩ := id C0
  have hA : ∀ z : Nat, s.heap.size ≤ z → va_A (wdM q k cI cJ σ) s.heap.size z := fun z h => Or.inr h
  generalize va_A (wdM q k cI cJ σ) s.heap.size = A at hD hA ⊢
  have hS : va_S A s.heap s.heap [] := va_S.rf
  have hl : lv_has ls 5 [(0, .ref (q 0)), (1, .int x1)] := hl
  unfold fM_inAll at hf
  refine lv_iconst (v := 0) hx hb dM_inAll_0 (by decide) ?_
  refine lv_istore_n (lv' := [(2, .int 0), (0, .ref (q 0)), (1, .int x1)]) hx hb dM_inAll_1 rfl hl (by decide) rfl (fun ls hl => ?_)
  refine lv_iconst (v := 0) hx hb dM_inAll_2 (by decide) ?_
  refine lv_istore_n (lv' := [(3, .int 0), (2, .int 0), (0, .ref (q 0)), (1, .int x1)]) hx hb dM_inAll_3 rfl hl (by decide) rfl (fun ls hl => ?_)
  exact tM_inAll_4 C0 hK hA fu x1 0 0 _ _ ls hf (lv_sub hl [2, 3, 1, 0] rfl) hP hD hS
theorem dM_partOf_0 : decode cM_partOf 0 = .ok (.lload_n 0, 1) := by decide +kernel
theorem dM_partOf_1 : decode cM_partOf 1 = .ok (.lconst 0, 1) := by decide +kernel
theorem dM_partOf_2 : decode cM_partOf 2 = .ok (.lcmp, 1) := by decide +kernel
theorem dM_partOf_3 : decode cM_partOf 3 = .ok (.ifCond .ge (8), 3) := by decide +kernel
theorem dM_partOf_6 : decode cM_partOf 6 = .ok (.lload_n 0, 1) := by decide +kernel
theorem dM_partOf_7 : decode cM_partOf 7 = .ok (.lneg, 1) := by decide +kernel
theorem dM_partOf_8 : decode cM_partOf 8 = .ok (.goto (4), 3) := by decide +kernel
theorem dM_partOf_11 : decode cM_partOf 11 = .ok (.lload_n 0, 1) := by decide +kernel
theorem dM_partOf_12 : decode cM_partOf 12 = .ok (.lstore 5, 2) := by decide +kernel
theorem dM_partOf_14 : decode cM_partOf 14 = .ok (.lload_n 2, 1) := by decide +kernel
theorem dM_partOf_15 : decode cM_partOf 15 = .ok (.lconst 0, 1) := by decide +kernel
theorem dM_partOf_16 : decode cM_partOf 16 = .ok (.lcmp, 1) := by decide +kernel
theorem dM_partOf_17 : decode cM_partOf 17 = .ok (.ifCond .ge (8), 3) := by decide +kernel
theorem dM_partOf_20 : decode cM_partOf 20 = .ok (.lload_n 2, 1) := by decide +kernel
theorem dM_partOf_21 : decode cM_partOf 21 = .ok (.lneg, 1) := by decide +kernel
theorem dM_partOf_22 : decode cM_partOf 22 = .ok (.goto (4), 3) := by decide +kernel
theorem dM_partOf_25 : decode cM_partOf 25 = .ok (.lload_n 2, 1) := by decide +kernel
theorem dM_partOf_26 : decode cM_partOf 26 = .ok (.lstore 7, 2) := by decide +kernel
theorem dM_partOf_28 : decode cM_partOf 28 = .ok (.lload 7, 2) := by decide +kernel
theorem dM_partOf_30 : decode cM_partOf 30 = .ok (.lstore 9, 2) := by decide +kernel
theorem dM_partOf_32 : decode cM_partOf 32 = .ok (.lload 7, 2) := by decide +kernel
theorem dM_partOf_34 : decode cM_partOf 34 = .ok (.lconst 0, 1) := by decide +kernel
theorem dM_partOf_35 : decode cM_partOf 35 = .ok (.lcmp, 1) := by decide +kernel
theorem dM_partOf_36 : decode cM_partOf 36 = .ok (.ifCond .eq (21), 3) := by decide +kernel
theorem dM_partOf_39 : decode cM_partOf 39 = .ok (.lload 5, 2) := by decide +kernel
theorem dM_partOf_41 : decode cM_partOf 41 = .ok (.lload 7, 2) := by decide +kernel
theorem dM_partOf_43 : decode cM_partOf 43 = .ok (.lrem, 1) := by decide +kernel
theorem dM_partOf_44 : decode cM_partOf 44 = .ok (.lstore 11, 2) := by decide +kernel
theorem dM_partOf_46 : decode cM_partOf 46 = .ok (.lload 7, 2) := by decide +kernel
theorem dM_partOf_48 : decode cM_partOf 48 = .ok (.lstore 5, 2) := by decide +kernel
theorem dM_partOf_50 : decode cM_partOf 50 = .ok (.lload 11, 2) := by decide +kernel
theorem dM_partOf_52 : decode cM_partOf 52 = .ok (.lstore 7, 2) := by decide +kernel
theorem dM_partOf_54 : decode cM_partOf 54 = .ok (.goto (-22), 3) := by decide +kernel
theorem dM_partOf_57 : decode cM_partOf 57 = .ok (.lload_n 0, 1) := by decide +kernel
theorem dM_partOf_58 : decode cM_partOf 58 = .ok (.lconst 0, 1) := by decide +kernel
theorem dM_partOf_59 : decode cM_partOf 59 = .ok (.lcmp, 1) := by decide +kernel
theorem dM_partOf_60 : decode cM_partOf 60 = .ok (.ifCond .ge (7), 3) := by decide +kernel
theorem dM_partOf_63 : decode cM_partOf 63 = .ok (.iconst 1, 1) := by decide +kernel
theorem dM_partOf_64 : decode cM_partOf 64 = .ok (.goto (4), 3) := by decide +kernel
theorem dM_partOf_67 : decode cM_partOf 67 = .ok (.iconst 0, 1) := by decide +kernel
theorem dM_partOf_68 : decode cM_partOf 68 = .ok (.lload_n 2, 1) := by decide +kernel
theorem dM_partOf_69 : decode cM_partOf 69 = .ok (.lconst 0, 1) := by decide +kernel
theorem dM_partOf_70 : decode cM_partOf 70 = .ok (.lcmp, 1) := by decide +kernel
theorem dM_partOf_71 : decode cM_partOf 71 = .ok (.ifCond .ge (7), 3) := by decide +kernel
theorem dM_partOf_74 : decode cM_partOf 74 = .ok (.iconst 1, 1) := by decide +kernel
theorem dM_partOf_75 : decode cM_partOf 75 = .ok (.goto (4), 3) := by decide +kernel
theorem dM_partOf_78 : decode cM_partOf 78 = .ok (.iconst 0, 1) := by decide +kernel
theorem dM_partOf_79 : decode cM_partOf 79 = .ok (.if_icmp .eq (9), 3) := by decide +kernel
theorem dM_partOf_82 : decode cM_partOf 82 = .ok (.ldc2_w 52, 3) := by decide +kernel
theorem dM_partOf_85 : decode cM_partOf 85 = .ok (.goto (4), 3) := by decide +kernel
theorem dM_partOf_88 : decode cM_partOf 88 = .ok (.lconst 1, 1) := by decide +kernel
theorem dM_partOf_89 : decode cM_partOf 89 = .ok (.lstore 11, 2) := by decide +kernel
theorem dM_partOf_91 : decode cM_partOf 91 = .ok (.iload 4, 2) := by decide +kernel
theorem dM_partOf_93 : decode cM_partOf 93 = .ok (.ifCond .ne (24), 3) := by decide +kernel
theorem dM_partOf_96 : decode cM_partOf 96 = .ok (.lload 11, 2) := by decide +kernel
theorem dM_partOf_98 : decode cM_partOf 98 = .ok (.lload_n 0, 1) := by decide +kernel
theorem dM_partOf_99 : decode cM_partOf 99 = .ok (.lconst 0, 1) := by decide +kernel
theorem dM_partOf_100 : decode cM_partOf 100 = .ok (.lcmp, 1) := by decide +kernel
theorem dM_partOf_101 : decode cM_partOf 101 = .ok (.ifCond .ge (8), 3) := by decide +kernel
theorem dM_partOf_104 : decode cM_partOf 104 = .ok (.lload_n 0, 1) := by decide +kernel
theorem dM_partOf_105 : decode cM_partOf 105 = .ok (.lneg, 1) := by decide +kernel
theorem dM_partOf_106 : decode cM_partOf 106 = .ok (.goto (4), 3) := by decide +kernel
theorem dM_partOf_109 : decode cM_partOf 109 = .ok (.lload_n 0, 1) := by decide +kernel
theorem dM_partOf_110 : decode cM_partOf 110 = .ok (.lload 5, 2) := by decide +kernel
theorem dM_partOf_112 : decode cM_partOf 112 = .ok (.ldiv, 1) := by decide +kernel
theorem dM_partOf_113 : decode cM_partOf 113 = .ok (.lmul, 1) := by decide +kernel
theorem dM_partOf_114 : decode cM_partOf 114 = .ok (.goto (8), 3) := by decide +kernel
theorem dM_partOf_117 : decode cM_partOf 117 = .ok (.lload 9, 2) := by decide +kernel
theorem dM_partOf_119 : decode cM_partOf 119 = .ok (.lload 5, 2) := by decide +kernel
theorem dM_partOf_121 : decode cM_partOf 121 = .ok (.ldiv, 1) := by decide +kernel
theorem dM_partOf_122 : decode cM_partOf 122 = .ok (.lreturn, 1) := by decide +kernel
set_option maxHeartbeats 400000 in
set_option maxRecDepth 100000 in
theorem tM_partOf_110 {p : Program} {l : Launch} {e : Env} {s : State} {m : MethodId} {args : Array Value} {below : List Frame} {meth : Method} {c : Code} {D : va_G} {A : Nat → Prop} {S : Type} {wd : S → va_W} {tys : List (ClassId × FieldType)} {cl : List vw_C} {r : Int64} {σ : S} {fu : Nat} (C0 : Cx p s m args meth c cM_partOf 13 (some .long) RM TM) (hK : va_K D cl tys s) (hA : ∀ z, s.heap.size ≤ z → A z) : ∀ (y0 : Int64) (y1 : Int64) (x5 : Int64)(H : Heap) (locs : List Loc) (ls : Array Slot), fM_partOf_110 fu y0 y1 x5 = some r → lv_has ls 13 [(5, .long x5)] → va_P D cl (wd σ) H → va_D A (wd σ) → va_S A s.heap H locs → W p l e ({ frames := 0, cells := 0, slots := 0, locals := 0 }) s m args below meth c H locs 0 0 (MQ below (kQl D cl tys wd A r σ) args s 0 0 A) (F0 m 110 ls [.long y1, .long y0]) := by
  obtain ⟨hx, hb, hr, hml, hown, hts, hlocks⟩ := id C0
  intro y0 y1 x5 H locs ls hf hl hP hD hS
  unfold fM_partOf_110 at hf
  refine lv_lload hx hb dM_partOf_110 (lv_at hl 0 rfl) ?_
  obtain ⟨v112, ev112, hf⟩ := kb1 hf
  refine kr_ldiv hx hb ev112 dM_partOf_112 ?_
  refine lv_lmul hx hb dM_partOf_113 ?_
  refine lv_goto (tgt := 122) hx hb dM_partOf_114 (by decide) ?_
  exact kr_lret C0 hK hP hD hS (Option.some.inj hf) rfl dM_partOf_122
set_option maxHeartbeats 400000 in
set_option maxRecDepth 100000 in
theorem tM_partOf_89 {p : Program} {l : Launch} {e : Env} {s : State} {m : MethodId} {args : Array Value} {below : List Frame} {meth : Method} {c : Code} {D : va_G} {A : Nat → Prop} {S : Type} {wd : S → va_W} {tys : List (ClassId × FieldType)} {cl : List vw_C} {r : Int64} {σ : S} {fu : Nat} (C0 : Cx p s m args meth c cM_partOf 13 (some .long) RM TM) (hK : va_K D cl tys s) (hA : ∀ z, s.heap.size ≤ z → A z) : ∀ (y0 : Int64) (x0 : Int64) (x4 : Int32) (x5 : Int64) (x9 : Int64)(H : Heap) (locs : List Loc) (ls : Array Slot), fM_partOf_89 fu y0 x0 x4 x5 x9 = some r → lv_has ls 13 [(0, .long x0), (4, .int x4), (5, .long x5), (9, .long x9)] → va_P D cl (wd σ) H → va_D A (wd σ) → va_S A s.heap H locs → W p l e ({ frames := 0, cells := 0, slots := 0, locals := 0 }) s m args below meth c H locs 0 0 (MQ below (kQl D cl tys wd A r σ) args s 0 0 A) (F0 m 89 ls [.long y0]) := by
  obtain ⟨hx, hb, hr, hml, hown, hts, hlocks⟩ := id C0
  intro y0 x0 x4 x5 x9 H locs ls hf hl hP hD hS
  unfold fM_partOf_89 at hf
  refine lv_lstore (lv' := [(11, .long y0), (0, .long x0), (4, .int x4), (5, .long x5), (9, .long x9)]) hx hb dM_partOf_89 hl (by decide) rfl (fun ls hl => ?_)
  refine lv_iload hx hb dM_partOf_91 (lv_at hl 2 rfl) ?_
  refine lv_if_ne (tgt := 117) hx hb dM_partOf_93 (by decide) (fun c93 => ?_) (fun c93 => ?_)
  · have hf := (if_neg c93).symm.trans hf
    refine lv_lload hx hb dM_partOf_117 (lv_at hl 4 rfl) ?_
    refine lv_lload hx hb dM_partOf_119 (lv_at hl 3 rfl) ?_
    obtain ⟨v121, ev121, hf⟩ := kb1 hf
    refine kr_ldiv hx hb ev121 dM_partOf_121 ?_
    exact kr_lret C0 hK hP hD hS (Option.some.inj hf) rfl dM_partOf_122
  · have hf := (if_pos c93).symm.trans hf
    refine lv_lload hx hb dM_partOf_96 (lv_at hl 0 rfl) ?_
    refine lv_lload_n hx hb dM_partOf_98 rfl (lv_at hl 1 rfl) ?_
    refine lv_lconst (v := 0) hx hb dM_partOf_99 (by decide) ?_
    refine W.lcmp hx hb dM_partOf_100 ?_
    refine lv_if_ge (tgt := 109) hx hb dM_partOf_101 (by decide) (fun c100 => ?_) (fun c100 => ?_)
    · rw [lg_cmp_ge] at c100
      have hf := (if_pos c100).symm.trans hf
      refine lv_lload_n hx hb dM_partOf_109 rfl (lv_at hl 1 rfl) ?_
      exact tM_partOf_110 C0 hK hA y0 x0 x5 _ _ ls hf (lv_sub hl [3] rfl) hP hD hS
    · rw [lg_cmp_ge] at c100
      have hf := (if_neg c100).symm.trans hf
      refine lv_lload_n hx hb dM_partOf_104 rfl (lv_at hl 1 rfl) ?_
      refine lv_lneg hx hb dM_partOf_105 ?_
      refine lv_goto (tgt := 110) hx hb dM_partOf_106 (by decide) ?_
      exact tM_partOf_110 C0 hK hA y0 (-x0) x5 _ _ ls hf (lv_sub hl [3] rfl) hP hD hS
set_option maxHeartbeats 400000 in
set_option maxRecDepth 100000 in
theorem tM_partOf_79 {p : Program} {l : Launch} {e : Env} {s : State} {m : MethodId} {args : Array Value} {below : List Frame} {meth : Method} {c : Code} {D : va_G} {A : Nat → Prop} {S : Type} {wd : S → va_W} {tys : List (ClassId × FieldType)} {cl : List vw_C} {r : Int64} {σ : S} {fu : Nat} (C0 : Cx p s m args meth c cM_partOf 13 (some .long) RM TM) (hK : va_K D cl tys s) (hA : ∀ z, s.heap.size ≤ z → A z) : ∀ (y0 : Int32) (y1 : Int32) (x0 : Int64) (x4 : Int32) (x5 : Int64) (x9 : Int64)(H : Heap) (locs : List Loc) (ls : Array Slot), fM_partOf_79 fu y0 y1 x0 x4 x5 x9 = some r → lv_has ls 13 [(0, .long x0), (4, .int x4), (5, .long x5), (9, .long x9)] → va_P D cl (wd σ) H → va_D A (wd σ) → va_S A s.heap H locs → W p l e ({ frames := 0, cells := 0, slots := 0, locals := 0 }) s m args below meth c H locs 0 0 (MQ below (kQl D cl tys wd A r σ) args s 0 0 A) (F0 m 79 ls [.int y1, .int y0]) := by
  obtain ⟨hx, hb, hr, hml, hown, hts, hlocks⟩ := id C0
  intro y0 y1 x0 x4 x5 x9 H locs ls hf hl hP hD hS
  unfold fM_partOf_79 at hf
  refine lv_icmp_eq (tgt := 88) hx hb dM_partOf_79 (by decide) (fun c79 => ?_) (fun c79 => ?_)
  · have hf := (if_pos c79).symm.trans hf
    refine lv_lconst (v := 1) hx hb dM_partOf_88 (by decide) ?_
    exact tM_partOf_89 C0 hK hA (1 : Int64) x0 x4 x5 x9 _ _ ls hf (lv_sub hl [0, 1, 2, 3] rfl) hP hD hS
  · have hf := (if_neg c79).symm.trans hf
    refine lv_ldc2 (v := -1) hx hb hown (hts (.constantLong RM 52 (-1)) (by decide +kernel)) dM_partOf_82 ?_
    refine lv_goto (tgt := 89) hx hb dM_partOf_85 (by decide) ?_
    exact tM_partOf_89 C0 hK hA (-1 : Int64) x0 x4 x5 x9 _ _ ls hf (lv_sub hl [0, 1, 2, 3] rfl) hP hD hS
set_option maxHeartbeats 400000 in
set_option maxRecDepth 100000 in
theorem tM_partOf_68 {p : Program} {l : Launch} {e : Env} {s : State} {m : MethodId} {args : Array Value} {below : List Frame} {meth : Method} {c : Code} {D : va_G} {A : Nat → Prop} {S : Type} {wd : S → va_W} {tys : List (ClassId × FieldType)} {cl : List vw_C} {r : Int64} {σ : S} {fu : Nat} (C0 : Cx p s m args meth c cM_partOf 13 (some .long) RM TM) (hK : va_K D cl tys s) (hA : ∀ z, s.heap.size ≤ z → A z) : ∀ (y0 : Int32) (x0 : Int64) (x2 : Int64) (x4 : Int32) (x5 : Int64) (x9 : Int64)(H : Heap) (locs : List Loc) (ls : Array Slot), fM_partOf_68 fu y0 x0 x2 x4 x5 x9 = some r → lv_has ls 13 [(0, .long x0), (2, .long x2), (4, .int x4), (5, .long x5), (9, .long x9)] → va_P D cl (wd σ) H → va_D A (wd σ) → va_S A s.heap H locs → W p l e ({ frames := 0, cells := 0, slots := 0, locals := 0 }) s m args below meth c H locs 0 0 (MQ below (kQl D cl tys wd A r σ) args s 0 0 A) (F0 m 68 ls [.int y0]) := by
  obtain ⟨hx, hb, hr, hml, hown, hts, hlocks⟩ := id C0
  intro y0 x0 x2 x4 x5 x9 H locs ls hf hl hP hD hS
  unfold fM_partOf_68 at hf
  refine lv_lload_n hx hb dM_partOf_68 rfl (lv_at hl 1 rfl) ?_
  refine lv_lconst (v := 0) hx hb dM_partOf_69 (by decide) ?_
  refine W.lcmp hx hb dM_partOf_70 ?_
  refine lv_if_ge (tgt := 78) hx hb dM_partOf_71 (by decide) (fun c70 => ?_) (fun c70 => ?_)
  · rw [lg_cmp_ge] at c70
    have hf := (if_pos c70).symm.trans hf
    refine lv_iconst (v := 0) hx hb dM_partOf_78 (by decide) ?_
    exact tM_partOf_79 C0 hK hA y0 0 x0 x4 x5 x9 _ _ ls hf (lv_sub hl [0, 2, 3, 4] rfl) hP hD hS
  · rw [lg_cmp_ge] at c70
    have hf := (if_neg c70).symm.trans hf
    refine lv_iconst (v := 1) hx hb dM_partOf_74 (by decide) ?_
    refine lv_goto (tgt := 79) hx hb dM_partOf_75 (by decide) ?_
    exact tM_partOf_79 C0 hK hA y0 1 x0 x4 x5 x9 _ _ ls hf (lv_sub hl [0, 2, 3, 4] rfl) hP hD hS
set_option maxHeartbeats 400000 in
set_option maxRecDepth 100000 in
theorem tM_partOf_32 {p : Program} {l : Launch} {e : Env} {s : State} {m : MethodId} {args : Array Value} {below : List Frame} {meth : Method} {c : Code} {D : va_G} {A : Nat → Prop} {S : Type} {wd : S → va_W} {tys : List (ClassId × FieldType)} {cl : List vw_C} {r : Int64} {σ : S} {fu : Nat} (C0 : Cx p s m args meth c cM_partOf 13 (some .long) RM TM) (hK : va_K D cl tys s) (hA : ∀ z, s.heap.size ≤ z → A z) : ∀ n : Nat, ∀ (x0 : Int64) (x2 : Int64) (x4 : Int32) (x5 : Int64) (x7 : Int64) (x9 : Int64)(H : Heap) (locs : List Loc) (ls : Array Slot), fM_partOf_32 fu n x0 x2 x4 x5 x7 x9 = some r → lv_has ls 13 [(0, .long x0), (2, .long x2), (4, .int x4), (5, .long x5), (7, .long x7), (9, .long x9)] → va_P D cl (wd σ) H → va_D A (wd σ) → va_S A s.heap H locs → W p l e ({ frames := 0, cells := 0, slots := 0, locals := 0 }) s m args below meth c H locs 0 0 (MQ below (kQl D cl tys wd A r σ) args s 0 0 A) (F0 m 32 ls []) := by
  obtain ⟨hx, hb, hr, hml, hown, hts, hlocks⟩ := id C0
  intro n
  induction n with
  | zero =>
    intro x0 x2 x4 x5 x7 x9 H locs ls hf hl hP hD hS
    cases hf
  | succ n ih =>
    intro x0 x2 x4 x5 x7 x9 H locs ls hf hl hP hD hS
    rw [fM_partOf_32] at hf
    refine lv_lload hx hb dM_partOf_32 (lv_at hl 4 rfl) ?_
    refine lv_lconst (v := 0) hx hb dM_partOf_34 (by decide) ?_
    refine W.lcmp hx hb dM_partOf_35 ?_
    refine lv_if_eq (tgt := 57) hx hb dM_partOf_36 (by decide) (fun c35 => ?_) (fun c35 => ?_)
    · rw [lg_cmp_eq] at c35
      have hf := (if_pos c35).symm.trans hf
      refine lv_lload_n hx hb dM_partOf_57 rfl (lv_at hl 0 rfl) ?_
      refine lv_lconst (v := 0) hx hb dM_partOf_58 (by decide) ?_
      refine W.lcmp hx hb dM_partOf_59 ?_
      refine lv_if_ge (tgt := 67) hx hb dM_partOf_60 (by decide) (fun c59 => ?_) (fun c59 => ?_)
      · rw [lg_cmp_ge] at c59
        have hf := (if_pos c59).symm.trans hf
        refine lv_iconst (v := 0) hx hb dM_partOf_67 (by decide) ?_
        exact tM_partOf_68 C0 hK hA 0 x0 x2 x4 x5 x9 _ _ ls hf (lv_sub hl [0, 1, 2, 3, 5] rfl) hP hD hS
      · rw [lg_cmp_ge] at c59
        have hf := (if_neg c59).symm.trans hf
        refine lv_iconst (v := 1) hx hb dM_partOf_63 (by decide) ?_
        refine lv_goto (tgt := 68) hx hb dM_partOf_64 (by decide) ?_
        exact tM_partOf_68 C0 hK hA 1 x0 x2 x4 x5 x9 _ _ ls hf (lv_sub hl [0, 1, 2, 3, 5] rfl) hP hD hS
    · rw [lg_cmp_eq] at c35
      have hf := (if_neg c35).symm.trans hf
      refine lv_lload hx hb dM_partOf_39 (lv_at hl 3 rfl) ?_
      refine lv_lload hx hb dM_partOf_41 (lv_at hl 4 rfl) ?_
      obtain ⟨v43, ev43, hf⟩ := kb1 hf
      refine kr_lrem hx hb ev43 dM_partOf_43 ?_
      refine lv_lstore (lv' := [(11, .long v43), (0, .long x0), (2, .long x2), (4, .int x4), (5, .long x5), (7, .long x7), (9, .long x9)]) hx hb dM_partOf_44 hl (by decide) rfl (fun ls hl => ?_)
      refine lv_lload hx hb dM_partOf_46 (lv_at hl 5 rfl) ?_
      refine lv_lstore (lv' := [(5, .long x7), (11, .long v43), (0, .long x0), (2, .long x2), (4, .int x4), (7, .long x7), (9, .long x9)]) hx hb dM_partOf_48 hl (by decide) rfl (fun ls hl => ?_)
      refine lv_lload hx hb dM_partOf_50 (lv_at hl 1 rfl) ?_
      refine lv_lstore (lv' := [(7, .long v43), (5, .long x7), (11, .long v43), (0, .long x0), (2, .long x2), (4, .int x4), (9, .long x9)]) hx hb dM_partOf_52 hl (by decide) rfl (fun ls hl => ?_)
      refine lv_goto (tgt := 32) hx hb dM_partOf_54 (by decide) ?_
      exact ih x0 x2 x4 x7 v43 x9 _ _ ls hf (lv_sub hl [3, 4, 5, 1, 0, 6] rfl) hP hD hS
set_option maxHeartbeats 400000 in
set_option maxRecDepth 100000 in
theorem tM_partOf_26 {p : Program} {l : Launch} {e : Env} {s : State} {m : MethodId} {args : Array Value} {below : List Frame} {meth : Method} {c : Code} {D : va_G} {A : Nat → Prop} {S : Type} {wd : S → va_W} {tys : List (ClassId × FieldType)} {cl : List vw_C} {r : Int64} {σ : S} {fu : Nat} (C0 : Cx p s m args meth c cM_partOf 13 (some .long) RM TM) (hK : va_K D cl tys s) (hA : ∀ z, s.heap.size ≤ z → A z) : ∀ (y0 : Int64) (x0 : Int64) (x2 : Int64) (x4 : Int32) (x5 : Int64)(H : Heap) (locs : List Loc) (ls : Array Slot), fM_partOf_26 fu y0 x0 x2 x4 x5 = some r → lv_has ls 13 [(0, .long x0), (2, .long x2), (4, .int x4), (5, .long x5)] → va_P D cl (wd σ) H → va_D A (wd σ) → va_S A s.heap H locs → W p l e ({ frames := 0, cells := 0, slots := 0, locals := 0 }) s m args below meth c H locs 0 0 (MQ below (kQl D cl tys wd A r σ) args s 0 0 A) (F0 m 26 ls [.long y0]) := by
  obtain ⟨hx, hb, hr, hml, hown, hts, hlocks⟩ := id C0
  intro y0 x0 x2 x4 x5 H locs ls hf hl hP hD hS
  unfold fM_partOf_26 at hf
  refine lv_lstore (lv' := [(7, .long y0), (0, .long x0), (2, .long x2), (4, .int x4), (5, .long x5)]) hx hb dM_partOf_26 hl (by decide) rfl (fun ls hl => ?_)
  refine lv_lload hx hb dM_partOf_28 (lv_at hl 0 rfl) ?_
  refine lv_lstore (lv' := [(9, .long y0), (7, .long y0), (0, .long x0), (2, .long x2), (4, .int x4), (5, .long x5)]) hx hb dM_partOf_30 hl (by decide) rfl (fun ls hl => ?_)
  exact tM_partOf_32 C0 hK hA fu x0 x2 x4 x5 y0 y0 _ _ ls hf (lv_sub hl [2, 3, 4, 5, 1, 0] rfl) hP hD hS
set_option maxHeartbeats 400000 in
set_option maxRecDepth 100000 in
theorem tM_partOf_12 {p : Program} {l : Launch} {e : Env} {s : State} {m : MethodId} {args : Array Value} {below : List Frame} {meth : Method} {c : Code} {D : va_G} {A : Nat → Prop} {S : Type} {wd : S → va_W} {tys : List (ClassId × FieldType)} {cl : List vw_C} {r : Int64} {σ : S} {fu : Nat} (C0 : Cx p s m args meth c cM_partOf 13 (some .long) RM TM) (hK : va_K D cl tys s) (hA : ∀ z, s.heap.size ≤ z → A z) : ∀ (y0 : Int64) (x0 : Int64) (x2 : Int64) (x4 : Int32)(H : Heap) (locs : List Loc) (ls : Array Slot), fM_partOf_12 fu y0 x0 x2 x4 = some r → lv_has ls 13 [(0, .long x0), (2, .long x2), (4, .int x4)] → va_P D cl (wd σ) H → va_D A (wd σ) → va_S A s.heap H locs → W p l e ({ frames := 0, cells := 0, slots := 0, locals := 0 }) s m args below meth c H locs 0 0 (MQ below (kQl D cl tys wd A r σ) args s 0 0 A) (F0 m 12 ls [.long y0]) := by
  obtain ⟨hx, hb, hr, hml, hown, hts, hlocks⟩ := id C0
  intro y0 x0 x2 x4 H locs ls hf hl hP hD hS
  unfold fM_partOf_12 at hf
  refine lv_lstore (lv' := [(5, .long y0), (0, .long x0), (2, .long x2), (4, .int x4)]) hx hb dM_partOf_12 hl (by decide) rfl (fun ls hl => ?_)
  refine lv_lload_n hx hb dM_partOf_14 rfl (lv_at hl 2 rfl) ?_
  refine lv_lconst (v := 0) hx hb dM_partOf_15 (by decide) ?_
  refine W.lcmp hx hb dM_partOf_16 ?_
  refine lv_if_ge (tgt := 25) hx hb dM_partOf_17 (by decide) (fun c16 => ?_) (fun c16 => ?_)
  · rw [lg_cmp_ge] at c16
    have hf := (if_pos c16).symm.trans hf
    refine lv_lload_n hx hb dM_partOf_25 rfl (lv_at hl 2 rfl) ?_
    exact tM_partOf_26 C0 hK hA x2 x0 x2 x4 y0 _ _ ls hf (lv_sub hl [1, 2, 3, 0] rfl) hP hD hS
  · rw [lg_cmp_ge] at c16
    have hf := (if_neg c16).symm.trans hf
    refine lv_lload_n hx hb dM_partOf_20 rfl (lv_at hl 2 rfl) ?_
    refine lv_lneg hx hb dM_partOf_21 ?_
    refine lv_goto (tgt := 26) hx hb dM_partOf_22 (by decide) ?_
    exact tM_partOf_26 C0 hK hA (-x2) x0 x2 x4 y0 _ _ ls hf (lv_sub hl [1, 2, 3, 0] rfl) hP hD hS
set_option maxHeartbeats 400000 in
set_option maxRecDepth 100000 in
theorem mM_partOf (l : Launch) (D : va_G) (S : Type) (wd : S → va_W) (tys : List (ClassId × FieldType)) (cl : List vw_C) (sz : Nat) (fu : Nat) (σ : S) (x0 : Int64) (x2 : Int64) (x4 : Int32) (r : Int64) (hf : fM_partOf fu x0 x2 x4 = some r) : Met l yM_partOf (.code yM_partOf cM_partOf 13 (some .long) :: TM) ({ frames := 0, cells := 0, slots := 0, locals := 0 }) (kPre D cl tys wd sz σ [.long x0, .long x2, .int x4]) (kQl D cl tys wd (va_A (wd σ) sz) r σ) 0 0 (va_A (wd σ) sz) := by
  refine kr_start (own := RM) (by decide) rfl (Nat.le_of_ble_eq_true rfl) ?_
  intro p e s m args below meth c ls C0 hsz hK hP hD hl
  subst hsz
  obtain ⟨hx, hb, hr, hml, hown, hts, hlocks⟩ := id C0
  have hA : ∀ z : Nat, s.heap.size ≤ z → va_A (wd σ) s.heap.size z := fun z h => Or.inr h
  generalize va_A (wd σ) s.heap.size = A at hD hA ⊢
  have hS : va_S A s.heap s.heap [] := va_S.rf
  have hl : lv_has ls 13 [(0, .long x0), (2, .long x2), (4, .int x4)] := hl
  unfold fM_partOf at hf
  refine lv_lload_n hx hb dM_partOf_0 rfl (lv_at hl 0 rfl) ?_
  refine lv_lconst (v := 0) hx hb dM_partOf_1 (by decide) ?_
  refine W.lcmp hx hb dM_partOf_2 ?_
  refine lv_if_ge (tgt := 11) hx hb dM_partOf_3 (by decide) (fun c2 => ?_) (fun c2 => ?_)
  · rw [lg_cmp_ge] at c2
    have hf := (if_pos c2).symm.trans hf
    refine lv_lload_n hx hb dM_partOf_11 rfl (lv_at hl 0 rfl) ?_
    exact tM_partOf_12 C0 hK hA x0 x0 x2 x4 _ _ ls hf (lv_sub hl [0, 1, 2] rfl) hP hD hS
  · rw [lg_cmp_ge] at c2
    have hf := (if_neg c2).symm.trans hf
    refine lv_lload_n hx hb dM_partOf_6 rfl (lv_at hl 0 rfl) ?_
    refine lv_lneg hx hb dM_partOf_7 ?_
    refine lv_goto (tgt := 12) hx hb dM_partOf_8 (by decide) ?_
    exact tM_partOf_12 C0 hK hA (-x0) x0 x2 x4 _ _ ls hf (lv_sub hl [0, 1, 2] rfl) hP hD hS
