theorem dK_errorSum_0 : decode cK_errorSum 0 = .ok (.iconst 0, 1) := by decide +kernel
theorem dK_errorSum_1 : decode cK_errorSum 1 = .ok (.istore_n 2, 1) := by decide +kernel
theorem dK_errorSum_2 : decode cK_errorSum 2 = .ok (.iconst 0, 1) := by decide +kernel
theorem dK_errorSum_3 : decode cK_errorSum 3 = .ok (.istore_n 3, 1) := by decide +kernel
theorem dK_errorSum_4 : decode cK_errorSum 4 = .ok (.iload_n 3, 1) := by decide +kernel
theorem dK_errorSum_5 : decode cK_errorSum 5 = .ok (.aload_n 0, 1) := by decide +kernel
theorem dK_errorSum_6 : decode cK_errorSum 6 = .ok (.getfield 29, 3) := by decide +kernel
theorem dK_errorSum_9 : decode cK_errorSum 9 = .ok (.if_icmp .ge (25), 3) := by decide +kernel
theorem dK_errorSum_12 : decode cK_errorSum 12 = .ok (.iload_n 2, 1) := by decide +kernel
theorem dK_errorSum_13 : decode cK_errorSum 13 = .ok (.aload_n 0, 1) := by decide +kernel
theorem dK_errorSum_14 : decode cK_errorSum 14 = .ok (.getfield 55, 3) := by decide +kernel
theorem dK_errorSum_17 : decode cK_errorSum 17 = .ok (.iload_n 1, 1) := by decide +kernel
theorem dK_errorSum_18 : decode cK_errorSum 18 = .ok (.aload_n 0, 1) := by decide +kernel
theorem dK_errorSum_19 : decode cK_errorSum 19 = .ok (.getfield 29, 3) := by decide +kernel
theorem dK_errorSum_22 : decode cK_errorSum 22 = .ok (.imul, 1) := by decide +kernel
theorem dK_errorSum_23 : decode cK_errorSum 23 = .ok (.iload_n 3, 1) := by decide +kernel
theorem dK_errorSum_24 : decode cK_errorSum 24 = .ok (.iadd, 1) := by decide +kernel
theorem dK_errorSum_25 : decode cK_errorSum 25 = .ok (.iaload, 1) := by decide +kernel
theorem dK_errorSum_26 : decode cK_errorSum 26 = .ok (.iadd, 1) := by decide +kernel
theorem dK_errorSum_27 : decode cK_errorSum 27 = .ok (.istore_n 2, 1) := by decide +kernel
theorem dK_errorSum_28 : decode cK_errorSum 28 = .ok (.iinc 3 (1), 3) := by decide +kernel
theorem dK_errorSum_31 : decode cK_errorSum 31 = .ok (.goto (-27), 3) := by decide +kernel
theorem dK_errorSum_34 : decode cK_errorSum 34 = .ok (.iload_n 2, 1) := by decide +kernel
theorem dK_errorSum_35 : decode cK_errorSum 35 = .ok (.ireturn, 1) := by decide +kernel
set_option maxHeartbeats 400000 in
set_option maxRecDepth 100000 in
theorem tK_errorSum_4 {p : Program} {l : Launch} {e : Env} {s : State} {m : MethodId} {args : Array Value} {below : List Frame} {meth : Method} {c : Code} {D : va_G} {A : Nat → Prop} {q : Nat → Nat} {k : kK} {cI cJ : ClassId} {r : Int32} {σ : sK} {fu : Nat} (C0 : Cx p s m args meth c cK_errorSum 4 (some .int) RK TK) (hK : va_K D cl0 [(cI, .int), (cJ, .long)] s) (hA : ∀ z, s.heap.size ≤ z → A z) : ∀ n : Nat, ∀ (x1 : Int32) (x2 : Int32) (x3 : Int32)(H : Heap) (locs : List Loc) (ls : Array Slot), fK_errorSum_4 fu k σ n x1 x2 x3 = some r → lv_has ls 4 [(0, .ref (q 0)), (1, .int x1), (2, .int x2), (3, .int x3)] → va_P D cl0 (wdK q k cI cJ σ) H → va_D A (wdK q k cI cJ σ) → va_S A s.heap H locs → W p l e ({ frames := 0, cells := 0, slots := 0, locals := 0 }) s m args below meth c H locs 0 0 (MQ below (kQi D cl0 [(cI, .int), (cJ, .long)] (wdK q k cI cJ) A r σ) args s 0 0 A) (F0 m 4 ls []) := by
  obtain ⟨hx, hb, hr, hml, hown, hts, hlocks⟩ := id C0
  intro n
  induction n with
  | zero =>
    intro x1 x2 x3 H locs ls hf hl hP hD hS
    cases hf
  | succ n ih =>
    intro x1 x2 x3 H locs ls hf hl hP hD hS
    rw [fK_errorSum_4] at hf
    refine lv_iload_n hx hb dK_errorSum_4 rfl (lv_at hl 3 rfl) ?_
    refine lv_aload_n hx hb dK_errorSum_5 rfl (lv_at hl 0 rfl) ?_
    refine gK_ages hx hb hown hts hK hP dK_errorSum_6 ?_
    refine lv_icmp_ge (tgt := 34) hx hb dK_errorSum_9 (by decide) (fun c9 => ?_) (fun c9 => ?_)
    · have hf := (if_pos c9).symm.trans hf
      refine lv_iload_n hx hb dK_errorSum_34 rfl (lv_at hl 2 rfl) ?_
      exact kr_iret C0 hK hP hD hS (Option.some.inj hf) rfl dK_errorSum_35
    · have hf := (if_neg c9).symm.trans hf
      refine lv_iload_n hx hb dK_errorSum_12 rfl (lv_at hl 2 rfl) ?_
      refine lv_aload_n hx hb dK_errorSum_13 rfl (lv_at hl 0 rfl) ?_
      refine gK_errors hx hb hown hts hK hP dK_errorSum_14 ?_
      refine lv_iload_n hx hb dK_errorSum_17 rfl (lv_at hl 1 rfl) ?_
      refine lv_aload_n hx hb dK_errorSum_18 rfl (lv_at hl 0 rfl) ?_
      refine gK_ages hx hb hown hts hK hP dK_errorSum_19 ?_
      refine lv_imul hx hb dK_errorSum_22 ?_
      refine lv_iload_n hx hb dK_errorSum_23 rfl (lv_at hl 3 rfl) ?_
      refine lv_iadd hx hb dK_errorSum_24 ?_
      obtain ⟨v25, ev25, hf⟩ := kb1 hf
      refine kr_iaload hx hb hK hP 8 0 rfl rfl ev25 dK_errorSum_25 ?_
      refine lv_iadd hx hb dK_errorSum_26 ?_
      refine lv_istore_n (lv' := [(2, .int (x2 + v25)), (0, .ref (q 0)), (1, .int x1), (3, .int x3)]) hx hb dK_errorSum_27 rfl hl (by decide) rfl (fun ls hl => ?_)
      refine lv_iinc (v := (x3 + 1)) (lv' := [(3, .int (x3 + 1)), (2, .int (x2 + v25)), (0, .ref (q 0)), (1, .int x1)]) hx hb dK_errorSum_28 hl (k := 3) rfl rfl (by decide) rfl (fun ls hl => ?_)
      refine lv_goto (tgt := 4) hx hb dK_errorSum_31 (by decide) ?_
      exact ih x1 (x2 + v25) (x3 + 1) _ _ ls hf (lv_sub hl [2, 3, 1, 0] rfl) hP hD hS
set_option maxHeartbeats 400000 in
set_option maxRecDepth 100000 in
theorem mK_errorSum (l : Launch) (D : va_G) (q : Nat → Nat) (k : kK) (cI cJ : ClassId) (sz : Nat) (fu : Nat) (σ : sK) (x1 : Int32) (r : Int32) (hf : fK_errorSum fu k σ x1 = some r) : Met l yK_errorSum (.code yK_errorSum cK_errorSum 4 (some .int) :: TK) ({ frames := 0, cells := 0, slots := 0, locals := 0 }) (kPre D cl0 [(cI, .int), (cJ, .long)] (wdK q k cI cJ) sz σ [.ref (q 0), .int x1]) (kQi D cl0 [(cI, .int), (cJ, .long)] (wdK q k cI cJ) (va_A (wdK q k cI cJ σ) sz) r σ) 0 0 (va_A (wdK q k cI cJ σ) sz) := by
  refine kr_start (own := RK) (by decide) rfl (Nat.le_of_ble_eq_true rfl) ?_
  intro p e s m args below meth c ls C0 hsz hK hP hD hl
  subst hsz
  obtain ⟨hx, hb, hr, hml, hown, hts, hlocks⟩ := id C0
  have hA : ∀ z : Nat, s.heap.size ≤ z → va_A (wdK q k cI cJ σ) s.heap.size z := fun z h => Or.inr h
  generalize va_A (wdK q k cI cJ σ) s.heap.size = A at hD hA ⊢
  have hS : va_S A s.heap s.heap [] := va_S.rf
  have hl : lv_has ls 4 [(0, .ref (q 0)), (1, .int x1)] := hl
  unfold fK_errorSum at hf
  refine lv_iconst (v := 0) hx hb dK_errorSum_0 (by decide) ?_
  refine lv_istore_n (lv' := [(2, .int 0), (0, .ref (q 0)), (1, .int x1)]) hx hb dK_errorSum_1 rfl hl (by decide) rfl (fun ls hl => ?_)
  refine lv_iconst (v := 0) hx hb dK_errorSum_2 (by decide) ?_
  refine lv_istore_n (lv' := [(3, .int 0), (2, .int 0), (0, .ref (q 0)), (1, .int x1)]) hx hb dK_errorSum_3 rfl hl (by decide) rfl (fun ls hl => ?_)
  exact tK_errorSum_4 C0 hK hA fu x1 0 0 _ _ ls hf (lv_sub hl [2, 3, 1, 0] rfl) hP hD hS
theorem dK_loadErrors_0 : decode cK_loadErrors 0 = .ok (.iconst 0, 1) := by decide +kernel
theorem dK_loadErrors_1 : decode cK_loadErrors 1 = .ok (.istore_n 1, 1) := by decide +kernel
theorem dK_loadErrors_2 : decode cK_loadErrors 2 = .ok (.iload_n 1, 1) := by decide +kernel
theorem dK_loadErrors_3 : decode cK_loadErrors 3 = .ok (.aload_n 0, 1) := by decide +kernel
theorem dK_loadErrors_4 : decode cK_loadErrors 4 = .ok (.getfield 58, 3) := by decide +kernel
theorem dK_loadErrors_7 : decode cK_loadErrors 7 = .ok (.arraylength, 1) := by decide +kernel
theorem dK_loadErrors_8 : decode cK_loadErrors 8 = .ok (.if_icmp .ge (31), 3) := by decide +kernel
theorem dK_loadErrors_11 : decode cK_loadErrors 11 = .ok (.iload_n 1, 1) := by decide +kernel
theorem dK_loadErrors_12 : decode cK_loadErrors 12 = .ok (.aload_n 0, 1) := by decide +kernel
theorem dK_loadErrors_13 : decode cK_loadErrors 13 = .ok (.getfield 55, 3) := by decide +kernel
theorem dK_loadErrors_16 : decode cK_loadErrors 16 = .ok (.arraylength, 1) := by decide +kernel
theorem dK_loadErrors_17 : decode cK_loadErrors 17 = .ok (.if_icmp .ge (22), 3) := by decide +kernel
theorem dK_loadErrors_20 : decode cK_loadErrors 20 = .ok (.aload_n 0, 1) := by decide +kernel
theorem dK_loadErrors_21 : decode cK_loadErrors 21 = .ok (.getfield 58, 3) := by decide +kernel
theorem dK_loadErrors_24 : decode cK_loadErrors 24 = .ok (.iload_n 1, 1) := by decide +kernel
theorem dK_loadErrors_25 : decode cK_loadErrors 25 = .ok (.aload_n 0, 1) := by decide +kernel
theorem dK_loadErrors_26 : decode cK_loadErrors 26 = .ok (.getfield 55, 3) := by decide +kernel
theorem dK_loadErrors_29 : decode cK_loadErrors 29 = .ok (.iload_n 1, 1) := by decide +kernel
theorem dK_loadErrors_30 : decode cK_loadErrors 30 = .ok (.iaload, 1) := by decide +kernel
theorem dK_loadErrors_31 : decode cK_loadErrors 31 = .ok (.i2l, 1) := by decide +kernel
theorem dK_loadErrors_32 : decode cK_loadErrors 32 = .ok (.lastore, 1) := by decide +kernel
theorem dK_loadErrors_33 : decode cK_loadErrors 33 = .ok (.iinc 1 (1), 3) := by decide +kernel
theorem dK_loadErrors_36 : decode cK_loadErrors 36 = .ok (.goto (-34), 3) := by decide +kernel
theorem dK_loadErrors_39 : decode cK_loadErrors 39 = .ok (.return_, 1) := by decide +kernel
set_option maxHeartbeats 400000 in
set_option maxRecDepth 100000 in
theorem tK_loadErrors_2 {p : Program} {l : Launch} {e : Env} {s : State} {m : MethodId} {args : Array Value} {below : List Frame} {meth : Method} {c : Code} {D : va_G} {A : Nat → Prop} {q : Nat → Nat} {k : kK} {cI cJ : ClassId} {σ' : sK} {fu : Nat} (C0 : Cx p s m args meth c cK_loadErrors 2 none RK TK) (hK : va_K D cl0 [(cI, .int), (cJ, .long)] s) (hA : ∀ z, s.heap.size ≤ z → A z) : ∀ n : Nat, ∀ (σ : sK) (x1 : Int32)(H : Heap) (locs : List Loc) (ls : Array Slot), fK_loadErrors_2 fu k n σ x1 = some σ' → lv_has ls 2 [(0, .ref (q 0)), (1, .int x1)] → va_P D cl0 (wdK q k cI cJ σ) H → va_D A (wdK q k cI cJ σ) → va_S A s.heap H locs → W p l e ({ frames := 0, cells := 0, slots := 0, locals := 0 }) s m args below meth c H locs 0 0 (MQ below (kQv D cl0 [(cI, .int), (cJ, .long)] (wdK q k cI cJ) A σ') args s 0 0 A) (F0 m 2 ls []) := by
  obtain ⟨hx, hb, hr, hml, hown, hts, hlocks⟩ := id C0
  intro n
  induction n with
  | zero =>
    intro σ x1 H locs ls hf hl hP hD hS
    cases hf
  | succ n ih =>
    intro σ x1 H locs ls hf hl hP hD hS
    rw [fK_loadErrors_2] at hf
    refine lv_iload_n hx hb dK_loadErrors_2 rfl (lv_at hl 1 rfl) ?_
    refine lv_aload_n hx hb dK_loadErrors_3 rfl (lv_at hl 0 rfl) ?_
    refine gK_square hx hb hown hts hK hP dK_loadErrors_4 ?_
    refine va_alen hx hb hK hP 9 1 rfl rfl rfl dK_loadErrors_7 ?_
    refine lv_icmp_ge (tgt := 39) hx hb dK_loadErrors_8 (by decide) (fun c8 => ?_) (fun c8 => ?_)
    · have hf := (if_pos c8).symm.trans hf
      exact kr_vret C0 hK hP hD hS (Option.some.inj hf) dK_loadErrors_39
    · have hf := (if_neg c8).symm.trans hf
      refine lv_iload_n hx hb dK_loadErrors_11 rfl (lv_at hl 1 rfl) ?_
      refine lv_aload_n hx hb dK_loadErrors_12 rfl (lv_at hl 0 rfl) ?_
      refine gK_errors hx hb hown hts hK hP dK_loadErrors_13 ?_
      refine va_alen hx hb hK hP 8 0 rfl rfl rfl dK_loadErrors_16 ?_
      refine lv_icmp_ge (tgt := 39) hx hb dK_loadErrors_17 (by decide) (fun c17 => ?_) (fun c17 => ?_)
      · have hf := (if_pos c17).symm.trans hf
        exact kr_vret C0 hK hP hD hS (Option.some.inj hf) dK_loadErrors_39
      · have hf := (if_neg c17).symm.trans hf
        refine lv_aload_n hx hb dK_loadErrors_20 rfl (lv_at hl 0 rfl) ?_
        refine gK_square hx hb hown hts hK hP dK_loadErrors_21 ?_
        refine lv_iload_n hx hb dK_loadErrors_24 rfl (lv_at hl 1 rfl) ?_
        refine lv_aload_n hx hb dK_loadErrors_25 rfl (lv_at hl 0 rfl) ?_
        refine gK_errors hx hb hown hts hK hP dK_loadErrors_26 ?_
        refine lv_iload_n hx hb dK_loadErrors_29 rfl (lv_at hl 1 rfl) ?_
        obtain ⟨v30, ev30, hf⟩ := kb1 hf
        refine kr_iaload hx hb hK hP 8 0 rfl rfl ev30 dK_loadErrors_30 ?_
        refine lv_i2l (v := v30.toInt64) hx hb dK_loadErrors_31 rfl ?_
        obtain ⟨a32, ea32, hf⟩ := kb1 hf
        refine kr_lastore (σ' := (uK_square σ a32)) hx hb hK hP hD hS 9 1 rfl rfl ea32 (wK_square q k cI cJ _ _) dK_loadErrors_32 (fun H locs hP hD hS => ?_)
        generalize (uK_square σ a32) = s32 at hf hP hD
        refine lv_iinc (v := (x1 + 1)) (lv' := [(1, .int (x1 + 1)), (0, .ref (q 0))]) hx hb dK_loadErrors_33 hl (k := 1) rfl rfl (by decide) rfl (fun ls hl => ?_)
        refine lv_goto (tgt := 2) hx hb dK_loadErrors_36 (by decide) ?_
        exact ih s32 (x1 + 1) _ _ ls hf (lv_sub hl [1, 0] rfl) hP hD hS
set_option maxHeartbeats 400000 in
set_option maxRecDepth 100000 in
theorem mK_loadErrors (l : Launch) (D : va_G) (q : Nat → Nat) (k : kK) (cI cJ : ClassId) (sz : Nat) (fu : Nat) (σ : sK) (σ' : sK) (hf : fK_loadErrors fu k σ = some σ') : Met l yK_loadErrors (.code yK_loadErrors cK_loadErrors 2 none :: TK) ({ frames := 0, cells := 0, slots := 0, locals := 0 }) (kPre D cl0 [(cI, .int), (cJ, .long)] (wdK q k cI cJ) sz σ [.ref (q 0)]) (kQv D cl0 [(cI, .int), (cJ, .long)] (wdK q k cI cJ) (va_A (wdK q k cI cJ σ) sz) σ') 0 0 (va_A (wdK q k cI cJ σ) sz) := by
  refine kr_start (own := RK) (by decide) rfl (Nat.le_of_ble_eq_true rfl) ?_
  intro p e s m args below meth c ls C0 hsz hK hP hD hl
  subst hsz
  obtain ⟨hx, hb, hr, hml, hown, hts, hlocks⟩ := id C0
  have hA : ∀ z : Nat, s.heap.size ≤ z → va_A (wdK q k cI cJ σ) s.heap.size z := fun z h => Or.inr h
  generalize va_A (wdK q k cI cJ σ) s.heap.size = A at hD hA ⊢
  have hS : va_S A s.heap s.heap [] := va_S.rf
  have hl : lv_has ls 2 [(0, .ref (q 0))] := hl
  unfold fK_loadErrors at hf
  refine lv_iconst (v := 0) hx hb dK_loadErrors_0 (by decide) ?_
  refine lv_istore_n (lv' := [(1, .int 0), (0, .ref (q 0))]) hx hb dK_loadErrors_1 rfl hl (by decide) rfl (fun ls hl => ?_)
  exact tK_loadErrors_2 C0 hK hA fu σ 0 _ _ ls hf (lv_sub hl [1, 0] rfl) hP hD hS
theorem dK_pivotRow_0 : decode cK_pivotRow 0 = .ok (.iload_n 1, 1) := by decide +kernel
theorem dK_pivotRow_1 : decode cK_pivotRow 1 = .ok (.istore_n 2, 1) := by decide +kernel
theorem dK_pivotRow_2 : decode cK_pivotRow 2 = .ok (.iload_n 2, 1) := by decide +kernel
theorem dK_pivotRow_3 : decode cK_pivotRow 3 = .ok (.aload_n 0, 1) := by decide +kernel
theorem dK_pivotRow_4 : decode cK_pivotRow 4 = .ok (.getfield 29, 3) := by decide +kernel
theorem dK_pivotRow_7 : decode cK_pivotRow 7 = .ok (.if_icmp .ge (29), 3) := by decide +kernel
theorem dK_pivotRow_10 : decode cK_pivotRow 10 = .ok (.aload_n 0, 1) := by decide +kernel
theorem dK_pivotRow_11 : decode cK_pivotRow 11 = .ok (.getfield 58, 3) := by decide +kernel
theorem dK_pivotRow_14 : decode cK_pivotRow 14 = .ok (.iload_n 2, 1) := by decide +kernel
theorem dK_pivotRow_15 : decode cK_pivotRow 15 = .ok (.aload_n 0, 1) := by decide +kernel
theorem dK_pivotRow_16 : decode cK_pivotRow 16 = .ok (.getfield 29, 3) := by decide +kernel
theorem dK_pivotRow_19 : decode cK_pivotRow 19 = .ok (.imul, 1) := by decide +kernel
theorem dK_pivotRow_20 : decode cK_pivotRow 20 = .ok (.iload_n 1, 1) := by decide +kernel
theorem dK_pivotRow_21 : decode cK_pivotRow 21 = .ok (.iadd, 1) := by decide +kernel
theorem dK_pivotRow_22 : decode cK_pivotRow 22 = .ok (.laload, 1) := by decide +kernel
theorem dK_pivotRow_23 : decode cK_pivotRow 23 = .ok (.lconst 0, 1) := by decide +kernel
theorem dK_pivotRow_24 : decode cK_pivotRow 24 = .ok (.lcmp, 1) := by decide +kernel
theorem dK_pivotRow_25 : decode cK_pivotRow 25 = .ok (.ifCond .eq (5), 3) := by decide +kernel
theorem dK_pivotRow_28 : decode cK_pivotRow 28 = .ok (.iload_n 2, 1) := by decide +kernel
theorem dK_pivotRow_29 : decode cK_pivotRow 29 = .ok (.ireturn, 1) := by decide +kernel
theorem dK_pivotRow_30 : decode cK_pivotRow 30 = .ok (.iinc 2 (1), 3) := by decide +kernel
theorem dK_pivotRow_33 : decode cK_pivotRow 33 = .ok (.goto (-31), 3) := by decide +kernel
theorem dK_pivotRow_36 : decode cK_pivotRow 36 = .ok (.iconst (-1), 1) := by decide +kernel
theorem dK_pivotRow_37 : decode cK_pivotRow 37 = .ok (.ireturn, 1) := by decide +kernel
set_option maxHeartbeats 400000 in
set_option maxRecDepth 100000 in
theorem tK_pivotRow_2 {p : Program} {l : Launch} {e : Env} {s : State} {m : MethodId} {args : Array Value} {below : List Frame} {meth : Method} {c : Code} {D : va_G} {A : Nat → Prop} {q : Nat → Nat} {k : kK} {cI cJ : ClassId} {r : Int32} {σ : sK} {fu : Nat} (C0 : Cx p s m args meth c cK_pivotRow 3 (some .int) RK TK) (hK : va_K D cl0 [(cI, .int), (cJ, .long)] s) (hA : ∀ z, s.heap.size ≤ z → A z) : ∀ n : Nat, ∀ (x1 : Int32) (x2 : Int32)(H : Heap) (locs : List Loc) (ls : Array Slot), fK_pivotRow_2 fu k σ n x1 x2 = some r → lv_has ls 3 [(0, .ref (q 0)), (1, .int x1), (2, .int x2)] → va_P D cl0 (wdK q k cI cJ σ) H → va_D A (wdK q k cI cJ σ) → va_S A s.heap H locs → W p l e ({ frames := 0, cells := 0, slots := 0, locals := 0 }) s m args below meth c H locs 0 0 (MQ below (kQi D cl0 [(cI, .int), (cJ, .long)] (wdK q k cI cJ) A r σ) args s 0 0 A) (F0 m 2 ls []) := by
  obtain ⟨hx, hb, hr, hml, hown, hts, hlocks⟩ := id C0
  intro n
  induction n with
  | zero =>
    intro x1 x2 H locs ls hf hl hP hD hS
    cases hf
  | succ n ih =>
    intro x1 x2 H locs ls hf hl hP hD hS
    rw [fK_pivotRow_2] at hf
    refine lv_iload_n hx hb dK_pivotRow_2 rfl (lv_at hl 2 rfl) ?_
    refine lv_aload_n hx hb dK_pivotRow_3 rfl (lv_at hl 0 rfl) ?_
    refine gK_ages hx hb hown hts hK hP dK_pivotRow_4 ?_
    refine lv_icmp_ge (tgt := 36) hx hb dK_pivotRow_7 (by decide) (fun c7 => ?_) (fun c7 => ?_)
    · have hf := (if_pos c7).symm.trans hf
      refine lv_iconst (v := (-1)) hx hb dK_pivotRow_36 (by decide) ?_
      exact kr_iret C0 hK hP hD hS (Option.some.inj hf) rfl dK_pivotRow_37
    · have hf := (if_neg c7).symm.trans hf
      refine lv_aload_n hx hb dK_pivotRow_10 rfl (lv_at hl 0 rfl) ?_
      refine gK_square hx hb hown hts hK hP dK_pivotRow_11 ?_
      refine lv_iload_n hx hb dK_pivotRow_14 rfl (lv_at hl 2 rfl) ?_
      refine lv_aload_n hx hb dK_pivotRow_15 rfl (lv_at hl 0 rfl) ?_
      refine gK_ages hx hb hown hts hK hP dK_pivotRow_16 ?_
      refine lv_imul hx hb dK_pivotRow_19 ?_
      refine lv_iload_n hx hb dK_pivotRow_20 rfl (lv_at hl 1 rfl) ?_
      refine lv_iadd hx hb dK_pivotRow_21 ?_
      obtain ⟨v22, ev22, hf⟩ := kb1 hf
      refine kr_laload hx hb hK hP 9 1 rfl rfl ev22 dK_pivotRow_22 ?_
      refine lv_lconst (v := 0) hx hb dK_pivotRow_23 (by decide) ?_
      refine W.lcmp hx hb dK_pivotRow_24 ?_
      refine lv_if_eq (tgt := 30) hx hb dK_pivotRow_25 (by decide) (fun c24 => ?_) (fun c24 => ?_)
      · rw [lg_cmp_eq] at c24
        have hf := (if_pos c24).symm.trans hf
        refine lv_iinc (v := (x2 + 1)) (lv' := [(2, .int (x2 + 1)), (0, .ref (q 0)), (1, .int x1)]) hx hb dK_pivotRow_30 hl (k := 2) rfl rfl (by decide) rfl (fun ls hl => ?_)
        refine lv_goto (tgt := 2) hx hb dK_pivotRow_33 (by decide) ?_
        exact ih x1 (x2 + 1) _ _ ls hf (lv_sub hl [1, 2, 0] rfl) hP hD hS
      · rw [lg_cmp_eq] at c24
        have hf := (if_neg c24).symm.trans hf
        refine lv_iload_n hx hb dK_pivotRow_28 rfl (lv_at hl 2 rfl) ?_
        exact kr_iret C0 hK hP hD hS (Option.some.inj hf) rfl dK_pivotRow_29
set_option maxHeartbeats 400000 in
set_option maxRecDepth 100000 in
theorem mK_pivotRow (l : Launch) (D : va_G) (q : Nat → Nat) (k : kK) (cI cJ : ClassId) (sz : Nat) (fu : Nat) (σ : sK) (x1 : Int32) (r : Int32) (hf : fK_pivotRow fu k σ x1 = some r) : Met l yK_pivotRow (.code yK_pivotRow cK_pivotRow 3 (some .int) :: TK) ({ frames := 0, cells := 0, slots := 0, locals := 0 }) (kPre D cl0 [(cI, .int), (cJ, .long)] (wdK q k cI cJ) sz σ [.ref (q 0), .int x1]) (kQi D cl0 [(cI, .int), (cJ, .long)] (wdK q k cI cJ) (va_A (wdK q k cI cJ σ) sz) r σ) 0 0 (va_A (wdK q k cI cJ σ) sz) := by
  refine kr_start (own := RK) (by decide) rfl (Nat.le_of_ble_eq_true rfl) ?_
  intro p e s m args below meth c ls C0 hsz hK hP hD hl
  subst hsz
  obtain ⟨hx, hb, hr, hml, hown, hts, hlocks⟩ := id C0
  have hA : ∀ z : Nat, s.heap.size ≤ z → va_A (wdK q k cI cJ σ) s.heap.size z := fun z h => Or.inr h
  generalize va_A (wdK q k cI cJ σ) s.heap.size = A at hD hA ⊢
  have hS : va_S A s.heap s.heap [] := va_S.rf
  have hl : lv_has ls 3 [(0, .ref (q 0)), (1, .int x1)] := hl
  unfold fK_pivotRow at hf
  refine lv_iload_n hx hb dK_pivotRow_0 rfl (lv_at hl 1 rfl) ?_
  refine lv_istore_n (lv' := [(2, .int x1), (0, .ref (q 0)), (1, .int x1)]) hx hb dK_pivotRow_1 rfl hl (by decide) rfl (fun ls hl => ?_)
  exact tK_pivotRow_2 C0 hK hA fu x1 x1 _ _ ls hf (lv_sub hl [1, 2, 0] rfl) hP hD hS
theorem dK_swapRows_0 : decode cK_swapRows 0 = .ok (.iconst 0, 1) := by decide +kernel
theorem dK_swapRows_1 : decode cK_swapRows 1 = .ok (.istore_n 3, 1) := by decide +kernel
theorem dK_swapRows_2 : decode cK_swapRows 2 = .ok (.iload_n 3, 1) := by decide +kernel
theorem dK_swapRows_3 : decode cK_swapRows 3 = .ok (.aload_n 0, 1) := by decide +kernel
theorem dK_swapRows_4 : decode cK_swapRows 4 = .ok (.getfield 29, 3) := by decide +kernel
theorem dK_swapRows_7 : decode cK_swapRows 7 = .ok (.if_icmp .ge (65), 3) := by decide +kernel
theorem dK_swapRows_10 : decode cK_swapRows 10 = .ok (.aload_n 0, 1) := by decide +kernel
theorem dK_swapRows_11 : decode cK_swapRows 11 = .ok (.getfield 58, 3) := by decide +kernel
theorem dK_swapRows_14 : decode cK_swapRows 14 = .ok (.iload_n 1, 1) := by decide +kernel
theorem dK_swapRows_15 : decode cK_swapRows 15 = .ok (.aload_n 0, 1) := by decide +kernel
theorem dK_swapRows_16 : decode cK_swapRows 16 = .ok (.getfield 29, 3) := by decide +kernel
theorem dK_swapRows_19 : decode cK_swapRows 19 = .ok (.imul, 1) := by decide +kernel
theorem dK_swapRows_20 : decode cK_swapRows 20 = .ok (.iload_n 3, 1) := by decide +kernel
theorem dK_swapRows_21 : decode cK_swapRows 21 = .ok (.iadd, 1) := by decide +kernel
theorem dK_swapRows_22 : decode cK_swapRows 22 = .ok (.laload, 1) := by decide +kernel
theorem dK_swapRows_23 : decode cK_swapRows 23 = .ok (.lstore 4, 2) := by decide +kernel
theorem dK_swapRows_25 : decode cK_swapRows 25 = .ok (.aload_n 0, 1) := by decide +kernel
theorem dK_swapRows_26 : decode cK_swapRows 26 = .ok (.getfield 58, 3) := by decide +kernel
theorem dK_swapRows_29 : decode cK_swapRows 29 = .ok (.iload_n 1, 1) := by decide +kernel
theorem dK_swapRows_30 : decode cK_swapRows 30 = .ok (.aload_n 0, 1) := by decide +kernel
theorem dK_swapRows_31 : decode cK_swapRows 31 = .ok (.getfield 29, 3) := by decide +kernel
theorem dK_swapRows_34 : decode cK_swapRows 34 = .ok (.imul, 1) := by decide +kernel
theorem dK_swapRows_35 : decode cK_swapRows 35 = .ok (.iload_n 3, 1) := by decide +kernel
theorem dK_swapRows_36 : decode cK_swapRows 36 = .ok (.iadd, 1) := by decide +kernel
theorem dK_swapRows_37 : decode cK_swapRows 37 = .ok (.aload_n 0, 1) := by decide +kernel
theorem dK_swapRows_38 : decode cK_swapRows 38 = .ok (.getfield 58, 3) := by decide +kernel
theorem dK_swapRows_41 : decode cK_swapRows 41 = .ok (.iload_n 2, 1) := by decide +kernel
theorem dK_swapRows_42 : decode cK_swapRows 42 = .ok (.aload_n 0, 1) := by decide +kernel
theorem dK_swapRows_43 : decode cK_swapRows 43 = .ok (.getfield 29, 3) := by decide +kernel
theorem dK_swapRows_46 : decode cK_swapRows 46 = .ok (.imul, 1) := by decide +kernel
theorem dK_swapRows_47 : decode cK_swapRows 47 = .ok (.iload_n 3, 1) := by decide +kernel
theorem dK_swapRows_48 : decode cK_swapRows 48 = .ok (.iadd, 1) := by decide +kernel
theorem dK_swapRows_49 : decode cK_swapRows 49 = .ok (.laload, 1) := by decide +kernel
theorem dK_swapRows_50 : decode cK_swapRows 50 = .ok (.lastore, 1) := by decide +kernel
theorem dK_swapRows_51 : decode cK_swapRows 51 = .ok (.aload_n 0, 1) := by decide +kernel
theorem dK_swapRows_52 : decode cK_swapRows 52 = .ok (.getfield 58, 3) := by decide +kernel
theorem dK_swapRows_55 : decode cK_swapRows 55 = .ok (.iload_n 2, 1) := by decide +kernel
theorem dK_swapRows_56 : decode cK_swapRows 56 = .ok (.aload_n 0, 1) := by decide +kernel
theorem dK_swapRows_57 : decode cK_swapRows 57 = .ok (.getfield 29, 3) := by decide +kernel
theorem dK_swapRows_60 : decode cK_swapRows 60 = .ok (.imul, 1) := by decide +kernel
theorem dK_swapRows_61 : decode cK_swapRows 61 = .ok (.iload_n 3, 1) := by decide +kernel
theorem dK_swapRows_62 : decode cK_swapRows 62 = .ok (.iadd, 1) := by decide +kernel
theorem dK_swapRows_63 : decode cK_swapRows 63 = .ok (.lload 4, 2) := by decide +kernel
theorem dK_swapRows_65 : decode cK_swapRows 65 = .ok (.lastore, 1) := by decide +kernel
theorem dK_swapRows_66 : decode cK_swapRows 66 = .ok (.iinc 3 (1), 3) := by decide +kernel
theorem dK_swapRows_69 : decode cK_swapRows 69 = .ok (.goto (-67), 3) := by decide +kernel
theorem dK_swapRows_72 : decode cK_swapRows 72 = .ok (.return_, 1) := by decide +kernel
set_option maxHeartbeats 400000 in
set_option maxRecDepth 100000 in
theorem tK_swapRows_2 {p : Program} {l : Launch} {e : Env} {s : State} {m : MethodId} {args : Array Value} {below : List Frame} {meth : Method} {c : Code} {D : va_G} {A : Nat → Prop} {q : Nat → Nat} {k : kK} {cI cJ : ClassId} {σ' : sK} {fu : Nat} (C0 : Cx p s m args meth c cK_swapRows 6 none RK TK) (hK : va_K D cl0 [(cI, .int), (cJ, .long)] s) (hA : ∀ z, s.heap.size ≤ z → A z) : ∀ n : Nat, ∀ (σ : sK) (x1 : Int32) (x2 : Int32) (x3 : Int32)(H : Heap) (locs : List Loc) (ls : Array Slot), fK_swapRows_2 fu k n σ x1 x2 x3 = some σ' → lv_has ls 6 [(0, .ref (q 0)), (1, .int x1), (2, .int x2), (3, .int x3)] → va_P D cl0 (wdK q k cI cJ σ) H → va_D A (wdK q k cI cJ σ) → va_S A s.heap H locs → W p l e ({ frames := 0, cells := 0, slots := 0, locals := 0 }) s m args below meth c H locs 0 0 (MQ below (kQv D cl0 [(cI, .int), (cJ, .long)] (wdK q k cI cJ) A σ') args s 0 0 A) (F0 m 2 ls []) := by
  obtain ⟨hx, hb, hr, hml, hown, hts, hlocks⟩ := id C0
  intro n
  induction n with
  | zero =>
    intro σ x1 x2 x3 H locs ls hf hl hP hD hS
    cases hf
  | succ n ih =>
    intro σ x1 x2 x3 H locs ls hf hl hP hD hS
    rw [fK_swapRows_2] at hf
    refine lv_iload_n hx hb dK_swapRows_2 rfl (lv_at hl 3 rfl) ?_
    refine lv_aload_n hx hb dK_swapRows_3 rfl (lv_at hl 0 rfl) ?_
    refine gK_ages hx hb hown hts hK hP dK_swapRows_4 ?_
    refine lv_icmp_ge (tgt := 72) hx hb dK_swapRows_7 (by decide) (fun c7 => ?_) (fun c7 => ?_)
    · have hf := (if_pos c7).symm.trans hf
      exact kr_vret C0 hK hP hD hS (Option.some.inj hf) dK_swapRows_72
    · have hf := (if_neg c7).symm.trans hf
      refine lv_aload_n hx hb dK_swapRows_10 rfl (lv_at hl 0 rfl) ?_
      refine gK_square hx hb hown hts hK hP dK_swapRows_11 ?_
      refine lv_iload_n hx hb dK_swapRows_14 rfl (lv_at hl 1 rfl) ?_
      refine lv_aload_n hx hb dK_swapRows_15 rfl (lv_at hl 0 rfl) ?_
      refine gK_ages hx hb hown hts hK hP dK_swapRows_16 ?_
      refine lv_imul hx hb dK_swapRows_19 ?_
      refine lv_iload_n hx hb dK_swapRows_20 rfl (lv_at hl 3 rfl) ?_
      refine lv_iadd hx hb dK_swapRows_21 ?_
      obtain ⟨v22, ev22, hf⟩ := kb1 hf
      refine kr_laload hx hb hK hP 9 1 rfl rfl ev22 dK_swapRows_22 ?_
      refine lv_lstore (lv' := [(4, .long v22), (0, .ref (q 0)), (1, .int x1), (2, .int x2), (3, .int x3)]) hx hb dK_swapRows_23 hl (by decide) rfl (fun ls hl => ?_)
      refine lv_aload_n hx hb dK_swapRows_25 rfl (lv_at hl 1 rfl) ?_
      refine gK_square hx hb hown hts hK hP dK_swapRows_26 ?_
      refine lv_iload_n hx hb dK_swapRows_29 rfl (lv_at hl 2 rfl) ?_
      refine lv_aload_n hx hb dK_swapRows_30 rfl (lv_at hl 1 rfl) ?_
      refine gK_ages hx hb hown hts hK hP dK_swapRows_31 ?_
      refine lv_imul hx hb dK_swapRows_34 ?_
      refine lv_iload_n hx hb dK_swapRows_35 rfl (lv_at hl 4 rfl) ?_
      refine lv_iadd hx hb dK_swapRows_36 ?_
      refine lv_aload_n hx hb dK_swapRows_37 rfl (lv_at hl 1 rfl) ?_
      refine gK_square hx hb hown hts hK hP dK_swapRows_38 ?_
      refine lv_iload_n hx hb dK_swapRows_41 rfl (lv_at hl 3 rfl) ?_
      refine lv_aload_n hx hb dK_swapRows_42 rfl (lv_at hl 1 rfl) ?_
      refine gK_ages hx hb hown hts hK hP dK_swapRows_43 ?_
      refine lv_imul hx hb dK_swapRows_46 ?_
      refine lv_iload_n hx hb dK_swapRows_47 rfl (lv_at hl 4 rfl) ?_
      refine lv_iadd hx hb dK_swapRows_48 ?_
      obtain ⟨v49, ev49, hf⟩ := kb1 hf
      refine kr_laload hx hb hK hP 9 1 rfl rfl ev49 dK_swapRows_49 ?_
      obtain ⟨a50, ea50, hf⟩ := kb1 hf
      refine kr_lastore (σ' := (uK_square σ a50)) hx hb hK hP hD hS 9 1 rfl rfl ea50 (wK_square q k cI cJ _ _) dK_swapRows_50 (fun H locs hP hD hS => ?_)
      generalize (uK_square σ a50) = s50 at hf hP hD
      refine lv_aload_n hx hb dK_swapRows_51 rfl (lv_at hl 1 rfl) ?_
      refine gK_square hx hb hown hts hK hP dK_swapRows_52 ?_
      refine lv_iload_n hx hb dK_swapRows_55 rfl (lv_at hl 3 rfl) ?_
      refine lv_aload_n hx hb dK_swapRows_56 rfl (lv_at hl 1 rfl) ?_
      refine gK_ages hx hb hown hts hK hP dK_swapRows_57 ?_
      refine lv_imul hx hb dK_swapRows_60 ?_
      refine lv_iload_n hx hb dK_swapRows_61 rfl (lv_at hl 4 rfl) ?_
      refine lv_iadd hx hb dK_swapRows_62 ?_
      refine lv_lload hx hb dK_swapRows_63 (lv_at hl 0 rfl) ?_
      obtain ⟨a65, ea65, hf⟩ := kb1 hf
      refine kr_lastore (σ' := (uK_square s50 a65)) hx hb hK hP hD hS 9 1 rfl rfl ea65 (wK_square q k cI cJ _ _) dK_swapRows_65 (fun H locs hP hD hS => ?_)
      generalize (uK_square s50 a65) = s65 at hf hP hD
      refine lv_iinc (v := (x3 + 1)) (lv' := [(3, .int (x3 + 1)), (4, .long v22), (0, .ref (q 0)), (1, .int x1), (2, .int x2)]) hx hb dK_swapRows_66 hl (k := 4) rfl rfl (by decide) rfl (fun ls hl => ?_)
      refine lv_goto (tgt := 2) hx hb dK_swapRows_69 (by decide) ?_
      exact ih s65 x1 x2 (x3 + 1) _ _ ls hf (lv_sub hl [2, 3, 4, 0] rfl) hP hD hS
set_option maxHeartbeats 400000 in
set_option maxRecDepth 100000 in
theorem mK_swapRows (l : Launch) (D : va_G) (q : Nat → Nat) (k : kK) (cI cJ : ClassId) (sz : Nat) (fu : Nat) (σ : sK) (σ' : sK) (x1 : Int32) (x2 : Int32) (hf : fK_swapRows fu k σ x1 x2 = some σ') : Met l yK_swapRows (.code yK_swapRows cK_swapRows 6 none :: TK) ({ frames := 0, cells := 0, slots := 0, locals := 0 }) (kPre D cl0 [(cI, .int), (cJ, .long)] (wdK q k cI cJ) sz σ [.ref (q 0), .int x1, .int x2]) (kQv D cl0 [(cI, .int), (cJ, .long)] (wdK q k cI cJ) (va_A (wdK q k cI cJ σ) sz) σ') 0 0 (va_A (wdK q k cI cJ σ) sz) := by
  refine kr_start (own := RK) (by decide) rfl (Nat.le_of_ble_eq_true rfl) ?_
  intro p e s m args below meth c ls C0 hsz hK hP hD hl
  subst hsz
  obtain ⟨hx, hb, hr, hml, hown, hts, hlocks⟩ := id C0
  have hA : ∀ z : Nat, s.heap.size ≤ z → va_A (wdK q k cI cJ σ) s.heap.size z := fun z h => Or.inr h
  generalize va_A (wdK q k cI cJ σ) s.heap.size = A at hD hA ⊢
  have hS : va_S A s.heap s.heap [] := va_S.rf
  have hl : lv_has ls 6 [(0, .ref (q 0)), (1, .int x1), (2, .int x2)] := hl
  unfold fK_swapRows at hf
  refine lv_iconst (v := 0) hx hb dK_swapRows_0 (by decide) ?_
  refine lv_istore_n (lv' := [(3, .int 0), (0, .ref (q 0)), (1, .int x1), (2, .int x2)]) hx hb dK_swapRows_1 rfl hl (by decide) rfl (fun ls hl => ?_)
  exact tK_swapRows_2 C0 hK hA fu σ x1 x2 0 _ _ ls hf (lv_sub hl [1, 2, 3, 0] rfl) hP hD hS
theorem dK_clearBelow_0 : decode cK_clearBelow 0 = .ok (.lload_n 2, 1) := by decide +kernel
theorem dK_clearBelow_1 : decode cK_clearBelow 1 = .ok (.lconst 0, 1) := by decide +kernel
theorem dK_clearBelow_2 : decode cK_clearBelow 2 = .ok (.lcmp, 1) := by decide +kernel
theorem dK_clearBelow_3 : decode cK_clearBelow 3 = .ok (.ifCond .ne (4), 3) := by decide +kernel
theorem dK_clearBelow_6 : decode cK_clearBelow 6 = .ok (.return_, 1) := by decide +kernel
theorem dK_clearBelow_7 : decode cK_clearBelow 7 = .ok (.aload_n 0, 1) := by decide +kernel
theorem dK_clearBelow_8 : decode cK_clearBelow 8 = .ok (.getfield 58, 3) := by decide +kernel
theorem dK_clearBelow_11 : decode cK_clearBelow 11 = .ok (.iload_n 1, 1) := by decide +kernel
theorem dK_clearBelow_12 : decode cK_clearBelow 12 = .ok (.aload_n 0, 1) := by decide +kernel
theorem dK_clearBelow_13 : decode cK_clearBelow 13 = .ok (.getfield 29, 3) := by decide +kernel
theorem dK_clearBelow_16 : decode cK_clearBelow 16 = .ok (.imul, 1) := by decide +kernel
theorem dK_clearBelow_17 : decode cK_clearBelow 17 = .ok (.iload_n 1, 1) := by decide +kernel
theorem dK_clearBelow_18 : decode cK_clearBelow 18 = .ok (.iadd, 1) := by decide +kernel
theorem dK_clearBelow_19 : decode cK_clearBelow 19 = .ok (.laload, 1) := by decide +kernel
theorem dK_clearBelow_20 : decode cK_clearBelow 20 = .ok (.lstore 4, 2) := by decide +kernel
theorem dK_clearBelow_22 : decode cK_clearBelow 22 = .ok (.iload_n 1, 1) := by decide +kernel
theorem dK_clearBelow_23 : decode cK_clearBelow 23 = .ok (.iconst 1, 1) := by decide +kernel
theorem dK_clearBelow_24 : decode cK_clearBelow 24 = .ok (.iadd, 1) := by decide +kernel
theorem dK_clearBelow_25 : decode cK_clearBelow 25 = .ok (.istore 6, 2) := by decide +kernel
theorem dK_clearBelow_27 : decode cK_clearBelow 27 = .ok (.iload 6, 2) := by decide +kernel
theorem dK_clearBelow_29 : decode cK_clearBelow 29 = .ok (.aload_n 0, 1) := by decide +kernel
theorem dK_clearBelow_30 : decode cK_clearBelow 30 = .ok (.getfield 29, 3) := by decide +kernel
theorem dK_clearBelow_33 : decode cK_clearBelow 33 = .ok (.if_icmp .ge (100), 3) := by decide +kernel
theorem dK_clearBelow_36 : decode cK_clearBelow 36 = .ok (.aload_n 0, 1) := by decide +kernel
theorem dK_clearBelow_37 : decode cK_clearBelow 37 = .ok (.getfield 58, 3) := by decide +kernel
theorem dK_clearBelow_40 : decode cK_clearBelow 40 = .ok (.iload 6, 2) := by decide +kernel
theorem dK_clearBelow_42 : decode cK_clearBelow 42 = .ok (.aload_n 0, 1) := by decide +kernel
theorem dK_clearBelow_43 : decode cK_clearBelow 43 = .ok (.getfield 29, 3) := by decide +kernel
theorem dK_clearBelow_46 : decode cK_clearBelow 46 = .ok (.imul, 1) := by decide +kernel
theorem dK_clearBelow_47 : decode cK_clearBelow 47 = .ok (.iload_n 1, 1) := by decide +kernel
theorem dK_clearBelow_48 : decode cK_clearBelow 48 = .ok (.iadd, 1) := by decide +kernel
theorem dK_clearBelow_49 : decode cK_clearBelow 49 = .ok (.laload, 1) := by decide +kernel
theorem dK_clearBelow_50 : decode cK_clearBelow 50 = .ok (.lstore 7, 2) := by decide +kernel
theorem dK_clearBelow_52 : decode cK_clearBelow 52 = .ok (.iload_n 1, 1) := by decide +kernel
theorem dK_clearBelow_53 : decode cK_clearBelow 53 = .ok (.istore 9, 2) := by decide +kernel
theorem dK_clearBelow_55 : decode cK_clearBelow 55 = .ok (.iload 9, 2) := by decide +kernel
theorem dK_clearBelow_57 : decode cK_clearBelow 57 = .ok (.aload_n 0, 1) := by decide +kernel
theorem dK_clearBelow_58 : decode cK_clearBelow 58 = .ok (.getfield 29, 3) := by decide +kernel
theorem dK_clearBelow_61 : decode cK_clearBelow 61 = .ok (.if_icmp .ge (66), 3) := by decide +kernel
theorem dK_clearBelow_64 : decode cK_clearBelow 64 = .ok (.lload 4, 2) := by decide +kernel
theorem dK_clearBelow_66 : decode cK_clearBelow 66 = .ok (.aload_n 0, 1) := by decide +kernel
theorem dK_clearBelow_67 : decode cK_clearBelow 67 = .ok (.getfield 58, 3) := by decide +kernel
theorem dK_clearBelow_70 : decode cK_clearBelow 70 = .ok (.iload 6, 2) := by decide +kernel
theorem dK_clearBelow_72 : decode cK_clearBelow 72 = .ok (.aload_n 0, 1) := by decide +kernel
theorem dK_clearBelow_73 : decode cK_clearBelow 73 = .ok (.getfield 29, 3) := by decide +kernel
theorem dK_clearBelow_76 : decode cK_clearBelow 76 = .ok (.imul, 1) := by decide +kernel
theorem dK_clearBelow_77 : decode cK_clearBelow 77 = .ok (.iload 9, 2) := by decide +kernel
theorem dK_clearBelow_79 : decode cK_clearBelow 79 = .ok (.iadd, 1) := by decide +kernel
theorem dK_clearBelow_80 : decode cK_clearBelow 80 = .ok (.laload, 1) := by decide +kernel
theorem dK_clearBelow_81 : decode cK_clearBelow 81 = .ok (.lmul, 1) := by decide +kernel
theorem dK_clearBelow_82 : decode cK_clearBelow 82 = .ok (.lload 7, 2) := by decide +kernel
theorem dK_clearBelow_84 : decode cK_clearBelow 84 = .ok (.aload_n 0, 1) := by decide +kernel
theorem dK_clearBelow_85 : decode cK_clearBelow 85 = .ok (.getfield 58, 3) := by decide +kernel
theorem dK_clearBelow_88 : decode cK_clearBelow 88 = .ok (.iload_n 1, 1) := by decide +kernel
theorem dK_clearBelow_89 : decode cK_clearBelow 89 = .ok (.aload_n 0, 1) := by decide +kernel
theorem dK_clearBelow_90 : decode cK_clearBelow 90 = .ok (.getfield 29, 3) := by decide +kernel
theorem dK_clearBelow_93 : decode cK_clearBelow 93 = .ok (.imul, 1) := by decide +kernel
theorem dK_clearBelow_94 : decode cK_clearBelow 94 = .ok (.iload 9, 2) := by decide +kernel
theorem dK_clearBelow_96 : decode cK_clearBelow 96 = .ok (.iadd, 1) := by decide +kernel
theorem dK_clearBelow_97 : decode cK_clearBelow 97 = .ok (.laload, 1) := by decide +kernel
theorem dK_clearBelow_98 : decode cK_clearBelow 98 = .ok (.lmul, 1) := by decide +kernel
theorem dK_clearBelow_99 : decode cK_clearBelow 99 = .ok (.lsub, 1) := by decide +kernel
theorem dK_clearBelow_100 : decode cK_clearBelow 100 = .ok (.lstore 10, 2) := by decide +kernel
theorem dK_clearBelow_102 : decode cK_clearBelow 102 = .ok (.aload_n 0, 1) := by decide +kernel
theorem dK_clearBelow_103 : decode cK_clearBelow 103 = .ok (.getfield 58, 3) := by decide +kernel
theorem dK_clearBelow_106 : decode cK_clearBelow 106 = .ok (.iload 6, 2) := by decide +kernel
theorem dK_clearBelow_108 : decode cK_clearBelow 108 = .ok (.aload_n 0, 1) := by decide +kernel
theorem dK_clearBelow_109 : decode cK_clearBelow 109 = .ok (.getfield 29, 3) := by decide +kernel
theorem dK_clearBelow_112 : decode cK_clearBelow 112 = .ok (.imul, 1) := by decide +kernel
theorem dK_clearBelow_113 : decode cK_clearBelow 113 = .ok (.iload 9, 2) := by decide +kernel
theorem dK_clearBelow_115 : decode cK_clearBelow 115 = .ok (.iadd, 1) := by decide +kernel
theorem dK_clearBelow_116 : decode cK_clearBelow 116 = .ok (.lload 10, 2) := by decide +kernel
theorem dK_clearBelow_118 : decode cK_clearBelow 118 = .ok (.lload_n 2, 1) := by decide +kernel
theorem dK_clearBelow_119 : decode cK_clearBelow 119 = .ok (.ldiv, 1) := by decide +kernel
theorem dK_clearBelow_120 : decode cK_clearBelow 120 = .ok (.lastore, 1) := by decide +kernel
theorem dK_clearBelow_121 : decode cK_clearBelow 121 = .ok (.iinc 9 (1), 3) := by decide +kernel
theorem dK_clearBelow_124 : decode cK_clearBelow 124 = .ok (.goto (-69), 3) := by decide +kernel
theorem dK_clearBelow_127 : decode cK_clearBelow 127 = .ok (.iinc 6 (1), 3) := by decide +kernel
theorem dK_clearBelow_130 : decode cK_clearBelow 130 = .ok (.goto (-103), 3) := by decide +kernel
theorem dK_clearBelow_133 : decode cK_clearBelow 133 = .ok (.return_, 1) := by decide +kernel
set_option maxHeartbeats 400000 in
set_option maxRecDepth 100000 in
theorem tK_clearBelow_55 {p : Program} {l : Launch} {e : Env} {s : State} {m : MethodId} {args : Array Value} {below : List Frame} {meth : Method} {c : Code} {D : va_G} {A : Nat → Prop} {q : Nat → Nat} {k : kK} {cI cJ : ClassId} {σ' : sK} {fu : Nat} {h27 : sK → Int32 → Int64 → Int64 → Int32 → Option sK} (C0 : Cx p s m args meth c cK_clearBelow 12 none RK TK) (hK : va_K D cl0 [(cI, .int), (cJ, .long)] s) (hA : ∀ z, s.heap.size ≤ z → A z) (ih27 : ∀ (σ : sK) (x1 : Int32) (x2 : Int64) (x4 : Int64) (x6 : Int32)(H : Heap) (locs : List Loc) (ls : Array Slot), h27 σ x1 x2 x4 x6 = some σ' → lv_has ls 12 [(0, .ref (q 0)), (1, .int x1), (2, .long x2), (4, .long x4), (6, .int x6)] → va_P D cl0 (wdK q k cI cJ σ) H → va_D A (wdK q k cI cJ σ) → va_S A s.heap H locs → W p l e ({ frames := 0, cells := 0, slots := 0, locals := 0 }) s m args below meth c H locs 0 0 (MQ below (kQv D cl0 [(cI, .int), (cJ, .long)] (wdK q k cI cJ) A σ') args s 0 0 A) (F0 m 27 ls [])) : ∀ n : Nat, ∀ (σ : sK) (x1 : Int32) (x2 : Int64) (x4 : Int64) (x6 : Int32) (x7 : Int64) (x9 : Int32)(H : Heap) (locs : List Loc) (ls : Array Slot), fK_clearBelow_55 fu k h27 n σ x1 x2 x4 x6 x7 x9 = some σ' → lv_has ls 12 [(0, .ref (q 0)), (1, .int x1), (2, .long x2), (4, .long x4), (6, .int x6), (7, .long x7), (9, .int x9)] → va_P D cl0 (wdK q k cI cJ σ) H → va_D A (wdK q k cI cJ σ) → va_S A s.heap H locs → W p l e ({ frames := 0, cells := 0, slots := 0, locals := 0 }) s m args below meth c H locs 0 0 (MQ below (kQv D cl0 [(cI, .int), (cJ, .long)] (wdK q k cI cJ) A σ') args s 0 0 A) (F0 m 55 ls []) := by
  obtain ⟨hx, hb, hr, hml, hown, hts, hlocks⟩ := id C0
  intro n
  induction n with
  | zero =>
    intro σ x1 x2 x4 x6 x7 x9 H locs ls hf hl hP hD hS
    cases hf
  | succ n ih =>
    intro σ x1 x2 x4 x6 x7 x9 H locs ls hf hl hP hD hS
    rw [fK_clearBelow_55] at hf
    refine lv_iload hx hb dK_clearBelow_55 (lv_at hl 6 rfl) ?_
    refine lv_aload_n hx hb dK_clearBelow_57 rfl (lv_at hl 0 rfl) ?_
    refine gK_ages hx hb hown hts hK hP dK_clearBelow_58 ?_
    refine lv_icmp_ge (tgt := 127) hx hb dK_clearBelow_61 (by decide) (fun c61 => ?_) (fun c61 => ?_)
    · have hf := (if_pos c61).symm.trans hf
      refine lv_iinc (v := (x6 + 1)) (lv' := [(6, .int (x6 + 1)), (0, .ref (q 0)), (1, .int x1), (2, .long x2), (4, .long x4), (7, .long x7), (9, .int x9)]) hx hb dK_clearBelow_127 hl (k := 4) rfl rfl (by decide) rfl (fun ls hl => ?_)
      refine lv_goto (tgt := 27) hx hb dK_clearBelow_130 (by decide) ?_
      exact ih27 σ x1 x2 x4 (x6 + 1) _ _ ls hf (lv_sub hl [1, 2, 3, 4, 0] rfl) hP hD hS
    · have hf := (if_neg c61).symm.trans hf
      refine lv_lload hx hb dK_clearBelow_64 (lv_at hl 3 rfl) ?_
      refine lv_aload_n hx hb dK_clearBelow_66 rfl (lv_at hl 0 rfl) ?_
      refine gK_square hx hb hown hts hK hP dK_clearBelow_67 ?_
      refine lv_iload hx hb dK_clearBelow_70 (lv_at hl 4 rfl) ?_
      refine lv_aload_n hx hb dK_clearBelow_72 rfl (lv_at hl 0 rfl) ?_
      refine gK_ages hx hb hown hts hK hP dK_clearBelow_73 ?_
      refine lv_imul hx hb dK_clearBelow_76 ?_
      refine lv_iload hx hb dK_clearBelow_77 (lv_at hl 6 rfl) ?_
      refine lv_iadd hx hb dK_clearBelow_79 ?_
      obtain ⟨v80, ev80, hf⟩ := kb1 hf
      refine kr_laload hx hb hK hP 9 1 rfl rfl ev80 dK_clearBelow_80 ?_
      refine lv_lmul hx hb dK_clearBelow_81 ?_
      refine lv_lload hx hb dK_clearBelow_82 (lv_at hl 5 rfl) ?_
      refine lv_aload_n hx hb dK_clearBelow_84 rfl (lv_at hl 0 rfl) ?_
      refine gK_square hx hb hown hts hK hP dK_clearBelow_85 ?_
      refine lv_iload_n hx hb dK_clearBelow_88 rfl (lv_at hl 1 rfl) ?_
      refine lv_aload_n hx hb dK_clearBelow_89 rfl (lv_at hl 0 rfl) ?_
      refine gK_ages hx hb hown hts hK hP dK_clearBelow_90 ?_
      refine lv_imul hx hb dK_clearBelow_93 ?_
      refine lv_iload hx hb dK_clearBelow_94 (lv_at hl 6 rfl) ?_
      refine lv_iadd hx hb dK_clearBelow_96 ?_
      obtain ⟨v97, ev97, hf⟩ := kb1 hf
      refine kr_laload hx hb hK hP 9 1 rfl rfl ev97 dK_clearBelow_97 ?_
      refine lv_lmul hx hb dK_clearBelow_98 ?_
      refine lv_lsub hx hb dK_clearBelow_99 ?_
      refine lv_lstore (lv' := [(10, .long ((x4 * v80) - (x7 * v97))), (0, .ref (q 0)), (1, .int x1), (2, .long x2), (4, .long x4), (6, .int x6), (7, .long x7), (9, .int x9)]) hx hb dK_clearBelow_100 hl (by decide) rfl (fun ls hl => ?_)
      refine lv_aload_n hx hb dK_clearBelow_102 rfl (lv_at hl 1 rfl) ?_
      refine gK_square hx hb hown hts hK hP dK_clearBelow_103 ?_
      refine lv_iload hx hb dK_clearBelow_106 (lv_at hl 5 rfl) ?_
      refine lv_aload_n hx hb dK_clearBelow_108 rfl (lv_at hl 1 rfl) ?_
      refine gK_ages hx hb hown hts hK hP dK_clearBelow_109 ?_
      refine lv_imul hx hb dK_clearBelow_112 ?_
      refine lv_iload hx hb dK_clearBelow_113 (lv_at hl 7 rfl) ?_
      refine lv_iadd hx hb dK_clearBelow_115 ?_
      refine lv_lload hx hb dK_clearBelow_116 (lv_at hl 0 rfl) ?_
      refine lv_lload_n hx hb dK_clearBelow_118 rfl (lv_at hl 3 rfl) ?_
      obtain ⟨v119, ev119, hf⟩ := kb1 hf
      refine kr_ldiv hx hb ev119 dK_clearBelow_119 ?_
      obtain ⟨a120, ea120, hf⟩ := kb1 hf
      refine kr_lastore (σ' := (uK_square σ a120)) hx hb hK hP hD hS 9 1 rfl rfl ea120 (wK_square q k cI cJ _ _) dK_clearBelow_120 (fun H locs hP hD hS => ?_)
      generalize (uK_square σ a120) = s120 at hf hP hD
      refine lv_iinc (v := (x9 + 1)) (lv' := [(9, .int (x9 + 1)), (10, .long ((x4 * v80) - (x7 * v97))), (0, .ref (q 0)), (1, .int x1), (2, .long x2), (4, .long x4), (6, .int x6), (7, .long x7)]) hx hb dK_clearBelow_121 hl (k := 7) rfl rfl (by decide) rfl (fun ls hl => ?_)
      refine lv_goto (tgt := 55) hx hb dK_clearBelow_124 (by decide) ?_
      exact ih s120 x1 x2 x4 x6 x7 (x9 + 1) _ _ ls hf (lv_sub hl [2, 3, 4, 5, 6, 7, 0] rfl) hP hD hS
set_option maxHeartbeats 400000 in
set_option maxRecDepth 100000 in
theorem tK_clearBelow_27 {p : Program} {l : Launch} {e : Env} {s : State} {m : MethodId} {args : Array Value} {below : List Frame} {meth : Method} {c : Code} {D : va_G} {A : Nat → Prop} {q : Nat → Nat} {k : kK} {cI cJ : ClassId} {σ' : sK} {fu : Nat} (C0 : Cx p s m args meth c cK_clearBelow 12 none RK TK) (hK : va_K D cl0 [(cI, .int), (cJ, .long)] s) (hA : ∀ z, s.heap.size ≤ z → A z) : ∀ n : Nat, ∀ (σ : sK) (x1 : Int32) (x2 : Int64) (x4 : Int64) (x6 : Int32)(H : Heap) (locs : List Loc) (ls : Array Slot), fK_clearBelow_27 fu k n σ x1 x2 x4 x6 = some σ' → lv_has ls 12 [(0, .ref (q 0)), (1, .int x1), (2, .long x2), (4, .long x4), (6, .int x6)] → va_P D cl0 (wdK q k cI cJ σ) H → va_D A (wdK q k cI cJ σ) → va_S A s.heap H locs → W p l e ({ frames := 0, cells := 0, slots := 0, locals := 0 }) s m args below meth c H locs 0 0 (MQ below (kQv D cl0 [(cI, .int), (cJ, .long)] (wdK q k cI cJ) A σ') args s 0 0 A) (F0 m 27 ls []) := by
  obtain ⟨hx, hb, hr, hml, hown, hts, hlocks⟩ := id C0
  intro n
  induction n with
  | zero =>
    intro σ x1 x2 x4 x6 H locs ls hf hl hP hD hS
    cases hf
  | succ n ih =>
    intro σ x1 x2 x4 x6 H locs ls hf hl hP hD hS
    rw [fK_clearBelow_27] at hf
    refine lv_iload hx hb dK_clearBelow_27 (lv_at hl 4 rfl) ?_
    refine lv_aload_n hx hb dK_clearBelow_29 rfl (lv_at hl 0 rfl) ?_
    refine gK_ages hx hb hown hts hK hP dK_clearBelow_30 ?_
    refine lv_icmp_ge (tgt := 133) hx hb dK_clearBelow_33 (by decide) (fun c33 => ?_) (fun c33 => ?_)
    · have hf := (if_pos c33).symm.trans hf
      exact kr_vret C0 hK hP hD hS (Option.some.inj hf) dK_clearBelow_133
    · have hf := (if_neg c33).symm.trans hf
      refine lv_aload_n hx hb dK_clearBelow_36 rfl (lv_at hl 0 rfl) ?_
      refine gK_square hx hb hown hts hK hP dK_clearBelow_37 ?_
      refine lv_iload hx hb dK_clearBelow_40 (lv_at hl 4 rfl) ?_
      refine lv_aload_n hx hb dK_clearBelow_42 rfl (lv_at hl 0 rfl) ?_
      refine gK_ages hx hb hown hts hK hP dK_clearBelow_43 ?_
      refine lv_imul hx hb dK_clearBelow_46 ?_
      refine lv_iload_n hx hb dK_clearBelow_47 rfl (lv_at hl 1 rfl) ?_
      refine lv_iadd hx hb dK_clearBelow_48 ?_
      obtain ⟨v49, ev49, hf⟩ := kb1 hf
      refine kr_laload hx hb hK hP 9 1 rfl rfl ev49 dK_clearBelow_49 ?_
      refine lv_lstore (lv' := [(7, .long v49), (0, .ref (q 0)), (1, .int x1), (2, .long x2), (4, .long x4), (6, .int x6)]) hx hb dK_clearBelow_50 hl (by decide) rfl (fun ls hl => ?_)
      refine lv_iload_n hx hb dK_clearBelow_52 rfl (lv_at hl 2 rfl) ?_
      refine lv_istore (lv' := [(9, .int x1), (7, .long v49), (0, .ref (q 0)), (1, .int x1), (2, .long x2), (4, .long x4), (6, .int x6)]) hx hb dK_clearBelow_53 hl (by decide) rfl (fun ls hl => ?_)
      exact tK_clearBelow_55 C0 hK hA ih fu σ x1 x2 x4 x6 v49 x1 _ _ ls hf (lv_sub hl [2, 3, 4, 5, 6, 1, 0] rfl) hP hD hS
set_option maxHeartbeats 400000 in
set_option maxRecDepth 100000 in
theorem mK_clearBelow (l : Launch) (D : va_G) (q : Nat → Nat) (k : kK) (cI cJ : ClassId) (sz : Nat) (fu : Nat) (σ : sK) (σ' : sK) (x1 : Int32) (x2 : Int64) (hf : fK_clearBelow fu k σ x1 x2 = some σ') : Met l yK_clearBelow (.code yK_clearBelow cK_clearBelow 12 none :: TK) ({ frames := 0, cells := 0, slots := 0, locals := 0 }) (kPre D cl0 [(cI, .int), (cJ, .long)] (wdK q k cI cJ) sz σ [.ref (q 0), .int x1, .long x2]) (kQv D cl0 [(cI, .int), (cJ, .long)] (wdK q k cI cJ) (va_A (wdK q k cI cJ σ) sz) σ') 0 0 (va_A (wdK q k cI cJ σ) sz) := by
  refine kr_start (own := RK) (by decide) rfl (Nat.le_of_ble_eq_true rfl) ?_
  intro p e s m args below meth c ls C0 hsz hK hP hD hl
  subst hsz
  obtain ⟨hx, hb, hr, hml, hown, hts, hlocks⟩ := id C0
  have hA : ∀ z : Nat, s.heap.size ≤ z → va_A (wdK q k cI cJ σ) s.heap.size z := fun z h => Or.inr h
  generalize va_A (wdK q k cI cJ σ) s.heap.size = A at hD hA ⊢
  have hS : va_S A s.heap s.heap [] := va_S.rf
  have hl : lv_has ls 12 [(0, .ref (q 0)), (1, .int x1), (2, .long x2)] := hl
  unfold fK_clearBelow at hf
  refine lv_lload_n hx hb dK_clearBelow_0 rfl (lv_at hl 2 rfl) ?_
  refine lv_lconst (v := 0) hx hb dK_clearBelow_1 (by decide) ?_
  refine W.lcmp hx hb dK_clearBelow_2 ?_
  refine lv_if_ne (tgt := 7) hx hb dK_clearBelow_3 (by decide) (fun c2 => ?_) (fun c2 => ?_)
  · rw [lg_cmp_eq] at c2
    have hf := (if_neg c2).symm.trans hf
    refine lv_aload_n hx hb dK_clearBelow_7 rfl (lv_at hl 0 rfl) ?_
    refine gK_square hx hb hown hts hK hP dK_clearBelow_8 ?_
    refine lv_iload_n hx hb dK_clearBelow_11 rfl (lv_at hl 1 rfl) ?_
    refine lv_aload_n hx hb dK_clearBelow_12 rfl (lv_at hl 0 rfl) ?_
    refine gK_ages hx hb hown hts hK hP dK_clearBelow_13 ?_
    refine lv_imul hx hb dK_clearBelow_16 ?_
    refine lv_iload_n hx hb dK_clearBelow_17 rfl (lv_at hl 1 rfl) ?_
    refine lv_iadd hx hb dK_clearBelow_18 ?_
    obtain ⟨v19, ev19, hf⟩ := kb1 hf
    refine kr_laload hx hb hK hP 9 1 rfl rfl ev19 dK_clearBelow_19 ?_
    refine lv_lstore (lv' := [(4, .long v19), (0, .ref (q 0)), (1, .int x1), (2, .long x2)]) hx hb dK_clearBelow_20 hl (by decide) rfl (fun ls hl => ?_)
    refine lv_iload_n hx hb dK_clearBelow_22 rfl (lv_at hl 2 rfl) ?_
    refine lv_iconst (v := 1) hx hb dK_clearBelow_23 (by decide) ?_
    refine lv_iadd hx hb dK_clearBelow_24 ?_
    refine lv_istore (lv' := [(6, .int (x1 + 1)), (4, .long v19), (0, .ref (q 0)), (1, .int x1), (2, .long x2)]) hx hb dK_clearBelow_25 hl (by decide) rfl (fun ls hl => ?_)
    exact tK_clearBelow_27 C0 hK hA fu σ x1 x2 v19 (x1 + 1) _ _ ls hf (lv_sub hl [2, 3, 4, 1, 0] rfl) hP hD hS
  · rw [lg_cmp_eq] at c2
    have hf := (if_pos c2).symm.trans hf
    exact kr_vret C0 hK hP hD hS (Option.some.inj hf) dK_clearBelow_6
