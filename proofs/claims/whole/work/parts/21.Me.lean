theorem dM_raised_0 : decode cM_raised 0 = .ok (.aload_n 0, 1) := by decide +kernel
theorem dM_raised_1 : decode cM_raised 1 = .ok (.iload_n 3, 1) := by decide +kernel
theorem dM_raised_2 : decode cM_raised 2 = .ok (.invokevirtual 58, 3) := by decide +kernel
theorem dM_raised_5 : decode cM_raised 5 = .ok (.ifCond .eq (36), 3) := by decide +kernel
theorem dM_raised_8 : decode cM_raised 8 = .ok (.iload 4, 2) := by decide +kernel
theorem dM_raised_10 : decode cM_raised 10 = .ok (.invokestatic 71, 3) := by decide +kernel
theorem dM_raised_13 : decode cM_raised 13 = .ok (.ifCond .eq (28), 3) := by decide +kernel
theorem dM_raised_16 : decode cM_raised 16 = .ok (.aload_n 0, 1) := by decide +kernel
theorem dM_raised_17 : decode cM_raised 17 = .ok (.lload_n 1, 1) := by decide +kernel
theorem dM_raised_18 : decode cM_raised 18 = .ok (.iload_n 3, 1) := by decide +kernel
theorem dM_raised_19 : decode cM_raised 19 = .ok (.invokevirtual 100, 3) := by decide +kernel
theorem dM_raised_22 : decode cM_raised 22 = .ok (.ifCond .eq (19), 3) := by decide +kernel
theorem dM_raised_25 : decode cM_raised 25 = .ok (.aload_n 0, 1) := by decide +kernel
theorem dM_raised_26 : decode cM_raised 26 = .ok (.getfield 91, 3) := by decide +kernel
theorem dM_raised_29 : decode cM_raised 29 = .ok (.aload_n 0, 1) := by decide +kernel
theorem dM_raised_30 : decode cM_raised 30 = .ok (.getfield 97, 3) := by decide +kernel
theorem dM_raised_33 : decode cM_raised 33 = .ok (.iload 4, 2) := by decide +kernel
theorem dM_raised_35 : decode cM_raised 35 = .ok (.invokestatic 77, 3) := by decide +kernel
theorem dM_raised_38 : decode cM_raised 38 = .ok (.goto (6), 3) := by decide +kernel
theorem dM_raised_41 : decode cM_raised 41 = .ok (.ldc2_w 52, 3) := by decide +kernel
theorem dM_raised_44 : decode cM_raised 44 = .ok (.lreturn, 1) := by decide +kernel
set_option maxHeartbeats 400000 in
set_option maxRecDepth 100000 in
theorem mM_raised (l : Launch) (D : va_G) (q : Nat → Nat) (k : kM) (cI cJ : ClassId) (sz : Nat) (fu : Nat) (σ : sM) (σ' : sM) (x1 : Int64) (x3 : Int32) (x4 : Int32) (r : Int64) (hf : fM_raised fu k σ x1 x3 x4 = some (r, σ')) : Met l yM_raised (.code yM_raised cM_raised 5 (some .long) :: TM) ({ frames := 6, cells := 0, slots := 0, locals := 143 }) (kPre D cl0 [(cI, .int), (cJ, .long)] (wdM q k cI cJ) sz σ [.ref (q 0), .long x1, .int x3, .int x4]) (kQl D cl0 [(cI, .int), (cJ, .long)] (wdM q k cI cJ) (va_A (wdM q k cI cJ σ) sz) r σ') 0 0 (va_A (wdM q k cI cJ σ) sz) := by
  refine kr_start (own := RM) (by decide) rfl (Nat.le_of_ble_eq_true rfl) ?_
  intro p e s m args below meth c ls C0 hsz hK hP hD hl
  subst hsz
  obtain ⟨hx, hb, hr, hml, hown, hts, hlocks⟩ := id C0
  have hA : ∀ z : Nat, s.heap.size ≤ z → va_A (wdM q k cI cJ σ) s.heap.size z := fun z h => Or.inr h
  generalize va_A (wdM q k cI cJ σ) s.heap.size = A at hD hA ⊢
  have hS : va_S A s.heap s.heap [] := va_S.rf
  have hl : lv_has ls 5 [(0, .ref (q 0)), (1, .long x1), (3, .int x3), (4, .int x4)] := hl
  unfold fM_raised at hf
  refine lv_aload_n hx hb dM_raised_0 rfl (lv_at hl 0 rfl) ?_
  refine lv_iload_n hx hb dM_raised_1 rfl (lv_at hl 2 rfl) ?_
  refine kr_callVi (av := [.int x3]) ⟨hx, hb, hml, hown, hts⟩ (mM_isAge l D q k cI cJ _ σ x3 _ rfl) (cwV 1 hts (kgood_V TM_good (by decide +kernel)) rfl rfl rfl (by decide +kernel) ⟨Nat.le_of_ble_eq_true rfl, Nat.le_of_ble_eq_true rfl⟩) hK hP hD hS hA (ci := 1) (q0 := 0) rfl rfl rfl hl.1 rfl (Nat.le_of_ble_eq_true rfl) dM_raised_2 ⟨Nat.le_of_ble_eq_true rfl, Nat.le_of_ble_eq_true rfl⟩ (fun H locs hP hD hS => ?_)
  refine lv_if_eq (tgt := 41) hx hb dM_raised_5 (by decide) (fun c5 => ?_) (fun c5 => ?_)
  · have hf := (if_pos c5).symm.trans hf
    refine lv_ldc2 (v := -1) hx hb hown (hts (.constantLong RM 52 (-1)) (by decide +kernel)) dM_raised_41 ?_
    exact kr_lret C0 hK hP hD hS (congrArg Prod.fst (Option.some.inj hf)) (congrArg Prod.snd (Option.some.inj hf)) dM_raised_44
  · have hf := (if_neg c5).symm.trans hf
    refine lv_iload hx hb dM_raised_8 (lv_at hl 3 rfl) ?_
    refine kr_callSi (av := [.int x4]) ⟨hx, hb, hml, hown, hts⟩ (mM_isPart l D _ (wdM q k cI cJ) [(cI, .int), (cJ, .long)] cl0 _ σ x4 _ rfl) (cwS 1 hts (kgood_S TM_good (by decide +kernel)) rfl rfl rfl (by decide +kernel) ⟨Nat.le_of_ble_eq_true rfl, Nat.le_of_ble_eq_true rfl⟩) hK hP hD hS hA rfl hl.1 rfl (Nat.le_of_ble_eq_true rfl) dM_raised_10 ⟨Nat.le_of_ble_eq_true rfl, Nat.le_of_ble_eq_true rfl⟩ (fun H locs hP hD hS => ?_)
    refine lv_if_eq (tgt := 41) hx hb dM_raised_13 (by decide) (fun c13 => ?_) (fun c13 => ?_)
    · have hf := (if_pos c13).symm.trans hf
      refine lv_ldc2 (v := -1) hx hb hown (hts (.constantLong RM 52 (-1)) (by decide +kernel)) dM_raised_41 ?_
      exact kr_lret C0 hK hP hD hS (congrArg Prod.fst (Option.some.inj hf)) (congrArg Prod.snd (Option.some.inj hf)) dM_raised_44
    · have hf := (if_neg c13).symm.trans hf
      refine lv_aload_n hx hb dM_raised_16 rfl (lv_at hl 0 rfl) ?_
      refine lv_lload_n hx hb dM_raised_17 rfl (lv_at hl 1 rfl) ?_
      refine lv_iload_n hx hb dM_raised_18 rfl (lv_at hl 2 rfl) ?_
      obtain ⟨v19, s19, es19, hf⟩ := kb2 hf
      refine kr_callVi (av := [.long x1, .int x3]) ⟨hx, hb, hml, hown, hts⟩ (mM_raise l D q k cI cJ _ fu σ s19 x1 x3 v19 es19) (cwV 2 hts (kgood_V TM_good (by decide +kernel)) rfl rfl rfl (by decide +kernel) ⟨Nat.le_of_ble_eq_true rfl, Nat.le_of_ble_eq_true rfl⟩) hK hP hD hS hA (ci := 1) (q0 := 0) rfl rfl rfl hl.1 rfl (Nat.le_of_ble_eq_true rfl) dM_raised_19 ⟨Nat.le_of_ble_eq_true rfl, Nat.le_of_ble_eq_true rfl⟩ (fun H locs hP hD hS => ?_)
      refine lv_if_eq (tgt := 41) hx hb dM_raised_22 (by decide) (fun c22 => ?_) (fun c22 => ?_)
      · have hf := (if_pos c22).symm.trans hf
        refine lv_ldc2 (v := -1) hx hb hown (hts (.constantLong RM 52 (-1)) (by decide +kernel)) dM_raised_41 ?_
        exact kr_lret C0 hK hP hD hS (congrArg Prod.fst (Option.some.inj hf)) (congrArg Prod.snd (Option.some.inj hf)) dM_raised_44
      · have hf := (if_neg c22).symm.trans hf
        refine lv_aload_n hx hb dM_raised_25 rfl (lv_at hl 0 rfl) ?_
        refine gM_above hx hb hown hts hK hP dM_raised_26 ?_
        refine lv_aload_n hx hb dM_raised_29 rfl (lv_at hl 0 rfl) ?_
        refine gM_below hx hb hown hts hK hP dM_raised_30 ?_
        refine lv_iload hx hb dM_raised_33 (lv_at hl 3 rfl) ?_
        obtain ⟨v35, ev35, hf⟩ := kb1 hf
        refine kr_callSl (av := [.long (sM_above s19), .long (sM_below s19), .int x4]) ⟨hx, hb, hml, hown, hts⟩ (mM_partOf l D _ (wdM q k cI cJ) [(cI, .int), (cJ, .long)] cl0 _ fu s19 (sM_above s19) (sM_below s19) x4 v35 ev35) (cwS 3 hts (kgood_S TM_good (by decide +kernel)) rfl rfl rfl (by decide +kernel) ⟨Nat.le_of_ble_eq_true rfl, Nat.le_of_ble_eq_true rfl⟩) hK hP hD hS hA rfl hl.1 rfl (Nat.le_of_ble_eq_true rfl) dM_raised_35 ⟨Nat.le_of_ble_eq_true rfl, Nat.le_of_ble_eq_true rfl⟩ (fun H locs hP hD hS => ?_)
        refine lv_goto (tgt := 44) hx hb dM_raised_38 (by decide) ?_
        exact kr_lret C0 hK hP hD hS (congrArg Prod.fst (Option.some.inj hf)) (congrArg Prod.snd (Option.some.inj hf)) dM_raised_44
theorem dM_sums_0 : decode cM_sums 0 = .ok (.iconst 1, 1) := by decide +kernel
theorem dM_sums_1 : decode cM_sums 1 = .ok (.istore_n 3, 1) := by decide +kernel
theorem dM_sums_2 : decode cM_sums 2 = .ok (.lconst 0, 1) := by decide +kernel
theorem dM_sums_3 : decode cM_sums 3 = .ok (.lstore 4, 2) := by decide +kernel
theorem dM_sums_5 : decode cM_sums 5 = .ok (.iconst 0, 1) := by decide +kernel
theorem dM_sums_6 : decode cM_sums 6 = .ok (.istore 6, 2) := by decide +kernel
theorem dM_sums_8 : decode cM_sums 8 = .ok (.iload 6, 2) := by decide +kernel
theorem dM_sums_10 : decode cM_sums 10 = .ok (.aload_n 0, 1) := by decide +kernel
theorem dM_sums_11 : decode cM_sums 11 = .ok (.getfield 42, 3) := by decide +kernel
theorem dM_sums_14 : decode cM_sums 14 = .ok (.if_icmp .ge (46), 3) := by decide +kernel
theorem dM_sums_17 : decode cM_sums 17 = .ok (.iload_n 3, 1) := by decide +kernel
theorem dM_sums_18 : decode cM_sums 18 = .ok (.ifCond .eq (17), 3) := by decide +kernel
theorem dM_sums_21 : decode cM_sums 21 = .ok (.aload_n 0, 1) := by decide +kernel
theorem dM_sums_22 : decode cM_sums 22 = .ok (.lload_n 1, 1) := by decide +kernel
theorem dM_sums_23 : decode cM_sums 23 = .ok (.iload 6, 2) := by decide +kernel
theorem dM_sums_25 : decode cM_sums 25 = .ok (.invokevirtual 100, 3) := by decide +kernel
theorem dM_sums_28 : decode cM_sums 28 = .ok (.ifCond .eq (7), 3) := by decide +kernel
theorem dM_sums_31 : decode cM_sums 31 = .ok (.iconst 1, 1) := by decide +kernel
theorem dM_sums_32 : decode cM_sums 32 = .ok (.goto (4), 3) := by decide +kernel
theorem dM_sums_35 : decode cM_sums 35 = .ok (.iconst 0, 1) := by decide +kernel
theorem dM_sums_36 : decode cM_sums 36 = .ok (.istore_n 3, 1) := by decide +kernel
theorem dM_sums_37 : decode cM_sums 37 = .ok (.lload 4, 2) := by decide +kernel
theorem dM_sums_39 : decode cM_sums 39 = .ok (.iload_n 3, 1) := by decide +kernel
theorem dM_sums_40 : decode cM_sums 40 = .ok (.ifCond .eq (10), 3) := by decide +kernel
theorem dM_sums_43 : decode cM_sums 43 = .ok (.aload_n 0, 1) := by decide +kernel
theorem dM_sums_44 : decode cM_sums 44 = .ok (.getfield 91, 3) := by decide +kernel
theorem dM_sums_47 : decode cM_sums 47 = .ok (.goto (4), 3) := by decide +kernel
theorem dM_sums_50 : decode cM_sums 50 = .ok (.lconst 0, 1) := by decide +kernel
theorem dM_sums_51 : decode cM_sums 51 = .ok (.ladd, 1) := by decide +kernel
theorem dM_sums_52 : decode cM_sums 52 = .ok (.lstore 4, 2) := by decide +kernel
theorem dM_sums_54 : decode cM_sums 54 = .ok (.iinc 6 (1), 3) := by decide +kernel
theorem dM_sums_57 : decode cM_sums 57 = .ok (.goto (-49), 3) := by decide +kernel
theorem dM_sums_60 : decode cM_sums 60 = .ok (.iload_n 3, 1) := by decide +kernel
theorem dM_sums_61 : decode cM_sums 61 = .ok (.ifCond .eq (19), 3) := by decide +kernel
theorem dM_sums_64 : decode cM_sums 64 = .ok (.lload 4, 2) := by decide +kernel
theorem dM_sums_66 : decode cM_sums 66 = .ok (.lload_n 1, 1) := by decide +kernel
theorem dM_sums_67 : decode cM_sums 67 = .ok (.aload_n 0, 1) := by decide +kernel
theorem dM_sums_68 : decode cM_sums 68 = .ok (.getfield 97, 3) := by decide +kernel
theorem dM_sums_71 : decode cM_sums 71 = .ok (.lmul, 1) := by decide +kernel
theorem dM_sums_72 : decode cM_sums 72 = .ok (.lcmp, 1) := by decide +kernel
theorem dM_sums_73 : decode cM_sums 73 = .ok (.ifCond .ne (7), 3) := by decide +kernel
theorem dM_sums_76 : decode cM_sums 76 = .ok (.iconst 1, 1) := by decide +kernel
theorem dM_sums_77 : decode cM_sums 77 = .ok (.goto (4), 3) := by decide +kernel
theorem dM_sums_80 : decode cM_sums 80 = .ok (.iconst 0, 1) := by decide +kernel
theorem dM_sums_81 : decode cM_sums 81 = .ok (.ireturn, 1) := by decide +kernel
set_option maxHeartbeats 400000 in
set_option maxRecDepth 100000 in
theorem tM_sums_51 {p : Program} {l : Launch} {e : Env} {s : State} {m : MethodId} {args : Array Value} {below : List Frame} {meth : Method} {c : Code} {D : va_G} {A : Nat → Prop} {q : Nat → Nat} {k : kM} {cI cJ : ClassId} {r : Int32} {σ' : sM} {fu : Nat} {h8 : sM → Int64 → Int32 → Int64 → Int32 → Option (Int32 × sM)} (C0 : Cx p s m args meth c cM_sums 7 (some .boolean) RM TM) (hK : va_K D cl0 [(cI, .int), (cJ, .long)] s) (hA : ∀ z, s.heap.size ≤ z → A z) (ih8 : ∀ (σ : sM) (x1 : Int64) (x3 : Int32) (x4 : Int64) (x6 : Int32)(H : Heap) (locs : List Loc) (ls : Array Slot), h8 σ x1 x3 x4 x6 = some (r, σ') → lv_has ls 7 [(0, .ref (q 0)), (1, .long x1), (3, .int x3), (4, .long x4), (6, .int x6)] → va_P D cl0 (wdM q k cI cJ σ) H → va_D A (wdM q k cI cJ σ) → va_S A s.heap H locs → W p l e ({ frames := 6, cells := 0, slots := 0, locals := 143 }) s m args below meth c H locs 0 0 (MQ below (kQi D cl0 [(cI, .int), (cJ, .long)] (wdM q k cI cJ) A r σ') args s 0 0 A) (F0 m 8 ls [])) : ∀ (σ : sM) (y0 : Int64) (y1 : Int64) (x1 : Int64) (x3 : Int32) (x6 : Int32)(H : Heap) (locs : List Loc) (ls : Array Slot), fM_sums_51 fu k h8 σ y0 y1 x1 x3 x6 = some (r, σ') → lv_has ls 7 [(0, .ref (q 0)), (1, .long x1), (3, .int x3), (6, .int x6)] → va_P D cl0 (wdM q k cI cJ σ) H → va_D A (wdM q k cI cJ σ) → va_S A s.heap H locs → W p l e ({ frames := 6, cells := 0, slots := 0, locals := 143 }) s m args below meth c H locs 0 0 (MQ below (kQi D cl0 [(cI, .int), (cJ, .long)] (wdM q k cI cJ) A r σ') args s 0 0 A) (F0 m 51 ls [.long y1, .long y0]) := by
  obtain ⟨hx, hb, hr, hml, hown, hts, hlocks⟩ := id C0
  intro σ y0 y1 x1 x3 x6 H locs ls hf hl hP hD hS
  unfold fM_sums_51 at hf
  refine lv_ladd hx hb dM_sums_51 ?_
  refine lv_lstore (lv' := [(4, .long (y0 + y1)), (0, .ref (q 0)), (1, .long x1), (3, .int x3), (6, .int x6)]) hx hb dM_sums_52 hl (by decide) rfl (fun ls hl => ?_)
  refine lv_iinc (v := (x6 + 1)) (lv' := [(6, .int (x6 + 1)), (4, .long (y0 + y1)), (0, .ref (q 0)), (1, .long x1), (3, .int x3)]) hx hb dM_sums_54 hl (k := 4) rfl rfl (by decide) rfl (fun ls hl => ?_)
  refine lv_goto (tgt := 8) hx hb dM_sums_57 (by decide) ?_
  exact ih8 σ x1 x3 (y0 + y1) (x6 + 1) _ _ ls hf (lv_sub hl [2, 3, 4, 1, 0] rfl) hP hD hS
set_option maxHeartbeats 400000 in
set_option maxRecDepth 100000 in
theorem tM_sums_36 {p : Program} {l : Launch} {e : Env} {s : State} {m : MethodId} {args : Array Value} {below : List Frame} {meth : Method} {c : Code} {D : va_G} {A : Nat → Prop} {q : Nat → Nat} {k : kM} {cI cJ : ClassId} {r : Int32} {σ' : sM} {fu : Nat} {h8 : sM → Int64 → Int32 → Int64 → Int32 → Option (Int32 × sM)} (C0 : Cx p s m args meth c cM_sums 7 (some .boolean) RM TM) (hK : va_K D cl0 [(cI, .int), (cJ, .long)] s) (hA : ∀ z, s.heap.size ≤ z → A z) (ih8 : ∀ (σ : sM) (x1 : Int64) (x3 : Int32) (x4 : Int64) (x6 : Int32)(H : Heap) (locs : List Loc) (ls : Array Slot), h8 σ x1 x3 x4 x6 = some (r, σ') → lv_has ls 7 [(0, .ref (q 0)), (1, .long x1), (3, .int x3), (4, .long x4), (6, .int x6)] → va_P D cl0 (wdM q k cI cJ σ) H → va_D A (wdM q k cI cJ σ) → va_S A s.heap H locs → W p l e ({ frames := 6, cells := 0, slots := 0, locals := 143 }) s m args below meth c H locs 0 0 (MQ below (kQi D cl0 [(cI, .int), (cJ, .long)] (wdM q k cI cJ) A r σ') args s 0 0 A) (F0 m 8 ls [])) : ∀ (σ : sM) (y0 : Int32) (x1 : Int64) (x4 : Int64) (x6 : Int32)(H : Heap) (locs : List Loc) (ls : Array Slot), fM_sums_36 fu k h8 σ y0 x1 x4 x6 = some (r, σ') → lv_has ls 7 [(0, .ref (q 0)), (1, .long x1), (4, .long x4), (6, .int x6)] → va_P D cl0 (wdM q k cI cJ σ) H → va_D A (wdM q k cI cJ σ) → va_S A s.heap H locs → W p l e ({ frames := 6, cells := 0, slots := 0, locals := 143 }) s m args below meth c H locs 0 0 (MQ below (kQi D cl0 [(cI, .int), (cJ, .long)] (wdM q k cI cJ) A r σ') args s 0 0 A) (F0 m 36 ls [.int y0]) := by
  obtain ⟨hx, hb, hr, hml, hown, hts, hlocks⟩ := id C0
  intro σ y0 x1 x4 x6 H locs ls hf hl hP hD hS
  unfold fM_sums_36 at hf
  refine lv_istore_n (lv' := [(3, .int y0), (0, .ref (q 0)), (1, .long x1), (4, .long x4), (6, .int x6)]) hx hb dM_sums_36 rfl hl (by decide) rfl (fun ls hl => ?_)
  refine lv_lload hx hb dM_sums_37 (lv_at hl 3 rfl) ?_
  refine lv_iload_n hx hb dM_sums_39 rfl (lv_at hl 0 rfl) ?_
  refine lv_if_eq (tgt := 50) hx hb dM_sums_40 (by decide) (fun c40 => ?_) (fun c40 => ?_)
  · have hf := (if_pos c40).symm.trans hf
    refine lv_lconst (v := 0) hx hb dM_sums_50 (by decide) ?_
    exact tM_sums_51 C0 hK hA ih8 σ x4 (0 : Int64) x1 y0 x6 _ _ ls hf (lv_sub hl [1, 2, 0, 4] rfl) hP hD hS
  · have hf := (if_neg c40).symm.trans hf
    refine lv_aload_n hx hb dM_sums_43 rfl (lv_at hl 1 rfl) ?_
    refine gM_above hx hb hown hts hK hP dM_sums_44 ?_
    refine lv_goto (tgt := 51) hx hb dM_sums_47 (by decide) ?_
    exact tM_sums_51 C0 hK hA ih8 σ x4 (sM_above σ) x1 y0 x6 _ _ ls hf (lv_sub hl [1, 2, 0, 4] rfl) hP hD hS
set_option maxHeartbeats 400000 in
set_option maxRecDepth 100000 in
theorem tM_sums_35 {p : Program} {l : Launch} {e : Env} {s : State} {m : MethodId} {args : Array Value} {below : List Frame} {meth : Method} {c : Code} {D : va_G} {A : Nat → Prop} {q : Nat → Nat} {k : kM} {cI cJ : ClassId} {r : Int32} {σ' : sM} {fu : Nat} {h8 : sM → Int64 → Int32 → Int64 → Int32 → Option (Int32 × sM)} (C0 : Cx p s m args meth c cM_sums 7 (some .boolean) RM TM) (hK : va_K D cl0 [(cI, .int), (cJ, .long)] s) (hA : ∀ z, s.heap.size ≤ z → A z) (ih8 : ∀ (σ : sM) (x1 : Int64) (x3 : Int32) (x4 : Int64) (x6 : Int32)(H : Heap) (locs : List Loc) (ls : Array Slot), h8 σ x1 x3 x4 x6 = some (r, σ') → lv_has ls 7 [(0, .ref (q 0)), (1, .long x1), (3, .int x3), (4, .long x4), (6, .int x6)] → va_P D cl0 (wdM q k cI cJ σ) H → va_D A (wdM q k cI cJ σ) → va_S A s.heap H locs → W p l e ({ frames := 6, cells := 0, slots := 0, locals := 143 }) s m args below meth c H locs 0 0 (MQ below (kQi D cl0 [(cI, .int), (cJ, .long)] (wdM q k cI cJ) A r σ') args s 0 0 A) (F0 m 8 ls [])) : ∀ (σ : sM) (x1 : Int64) (x4 : Int64) (x6 : Int32)(H : Heap) (locs : List Loc) (ls : Array Slot), fM_sums_35 fu k h8 σ x1 x4 x6 = some (r, σ') → lv_has ls 7 [(0, .ref (q 0)), (1, .long x1), (4, .long x4), (6, .int x6)] → va_P D cl0 (wdM q k cI cJ σ) H → va_D A (wdM q k cI cJ σ) → va_S A s.heap H locs → W p l e ({ frames := 6, cells := 0, slots := 0, locals := 143 }) s m args below meth c H locs 0 0 (MQ below (kQi D cl0 [(cI, .int), (cJ, .long)] (wdM q k cI cJ) A r σ') args s 0 0 A) (F0 m 35 ls []) := by
  obtain ⟨hx, hb, hr, hml, hown, hts, hlocks⟩ := id C0
  intro σ x1 x4 x6 H locs ls hf hl hP hD hS
  unfold fM_sums_35 at hf
  refine lv_iconst (v := 0) hx hb dM_sums_35 (by decide) ?_
  exact tM_sums_36 C0 hK hA ih8 σ 0 x1 x4 x6 _ _ ls hf (lv_sub hl [0, 1, 2, 3] rfl) hP hD hS
set_option maxHeartbeats 400000 in
set_option maxRecDepth 100000 in
theorem tM_sums_8 {p : Program} {l : Launch} {e : Env} {s : State} {m : MethodId} {args : Array Value} {below : List Frame} {meth : Method} {c : Code} {D : va_G} {A : Nat → Prop} {q : Nat → Nat} {k : kM} {cI cJ : ClassId} {r : Int32} {σ' : sM} {fu : Nat} (C0 : Cx p s m args meth c cM_sums 7 (some .boolean) RM TM) (hK : va_K D cl0 [(cI, .int), (cJ, .long)] s) (hA : ∀ z, s.heap.size ≤ z → A z) : ∀ n : Nat, ∀ (σ : sM) (x1 : Int64) (x3 : Int32) (x4 : Int64) (x6 : Int32)(H : Heap) (locs : List Loc) (ls : Array Slot), fM_sums_8 fu k n σ x1 x3 x4 x6 = some (r, σ') → lv_has ls 7 [(0, .ref (q 0)), (1, .long x1), (3, .int x3), (4, .long x4), (6, .int x6)] → va_P D cl0 (wdM q k cI cJ σ) H → va_D A (wdM q k cI cJ σ) → va_S A s.heap H locs → W p l e ({ frames := 6, cells := 0, slots := 0, locals := 143 }) s m args below meth c H locs 0 0 (MQ below (kQi D cl0 [(cI, .int), (cJ, .long)] (wdM q k cI cJ) A r σ') args s 0 0 A) (F0 m 8 ls []) := by
  obtain ⟨hx, hb, hr, hml, hown, hts, hlocks⟩ := id C0
  intro n
  induction n with
  | zero =>
    intro σ x1 x3 x4 x6 H locs ls hf hl hP hD hS
    cases hf
  | succ n ih =>
    intro σ x1 x3 x4 x6 H locs ls hf hl hP hD hS
    rw [fM_sums_8] at hf
    refine lv_iload hx hb dM_sums_8 (lv_at hl 4 rfl) ?_
    refine lv_aload_n hx hb dM_sums_10 rfl (lv_at hl 0 rfl) ?_
    refine gM_ages hx hb hown hts hK hP dM_sums_11 ?_
    refine lv_icmp_ge (tgt := 60) hx hb dM_sums_14 (by decide) (fun c14 => ?_) (fun c14 => ?_)
    · have hf := (if_pos c14).symm.trans hf
      refine lv_iload_n hx hb dM_sums_60 rfl (lv_at hl 2 rfl) ?_
      refine lv_if_eq (tgt := 80) hx hb dM_sums_61 (by decide) (fun c61 => ?_) (fun c61 => ?_)
      · have hf := (if_pos c61).symm.trans hf
        refine lv_iconst (v := 0) hx hb dM_sums_80 (by decide) ?_
        exact kr_zret C0 hK hP hD hS rfl (congrArg Prod.fst (Option.some.inj hf)) (congrArg Prod.snd (Option.some.inj hf)) dM_sums_81
      · have hf := (if_neg c61).symm.trans hf
        refine lv_lload hx hb dM_sums_64 (lv_at hl 3 rfl) ?_
        refine lv_lload_n hx hb dM_sums_66 rfl (lv_at hl 1 rfl) ?_
        refine lv_aload_n hx hb dM_sums_67 rfl (lv_at hl 0 rfl) ?_
        refine gM_below hx hb hown hts hK hP dM_sums_68 ?_
        refine lv_lmul hx hb dM_sums_71 ?_
        refine W.lcmp hx hb dM_sums_72 ?_
        refine lv_if_ne (tgt := 80) hx hb dM_sums_73 (by decide) (fun c72 => ?_) (fun c72 => ?_)
        · rw [lg_cmp_eq] at c72
          have hf := (if_neg c72).symm.trans hf
          refine lv_iconst (v := 0) hx hb dM_sums_80 (by decide) ?_
          exact kr_zret C0 hK hP hD hS rfl (congrArg Prod.fst (Option.some.inj hf)) (congrArg Prod.snd (Option.some.inj hf)) dM_sums_81
        · rw [lg_cmp_eq] at c72
          have hf := (if_pos c72).symm.trans hf
          refine lv_iconst (v := 1) hx hb dM_sums_76 (by decide) ?_
          refine lv_goto (tgt := 81) hx hb dM_sums_77 (by decide) ?_
          exact kr_zret C0 hK hP hD hS rfl (congrArg Prod.fst (Option.some.inj hf)) (congrArg Prod.snd (Option.some.inj hf)) dM_sums_81
    · have hf := (if_neg c14).symm.trans hf
      refine lv_iload_n hx hb dM_sums_17 rfl (lv_at hl 2 rfl) ?_
      refine lv_if_eq (tgt := 35) hx hb dM_sums_18 (by decide) (fun c18 => ?_) (fun c18 => ?_)
      · have hf := (if_pos c18).symm.trans hf
        exact tM_sums_35 C0 hK hA ih σ x1 x4 x6 _ _ ls hf (lv_sub hl [0, 1, 3, 4] rfl) hP hD hS
      · have hf := (if_neg c18).symm.trans hf
        refine lv_aload_n hx hb dM_sums_21 rfl (lv_at hl 0 rfl) ?_
        refine lv_lload_n hx hb dM_sums_22 rfl (lv_at hl 1 rfl) ?_
        refine lv_iload hx hb dM_sums_23 (lv_at hl 4 rfl) ?_
        obtain ⟨v25, s25, es25, hf⟩ := kb2 hf
        refine kr_callVi (av := [.long x1, .int x6]) ⟨hx, hb, hml, hown, hts⟩ (mM_raise l D q k cI cJ _ fu σ s25 x1 x6 v25 es25) (cwV 2 hts (kgood_V TM_good (by decide +kernel)) rfl rfl rfl (by decide +kernel) ⟨Nat.le_of_ble_eq_true rfl, Nat.le_of_ble_eq_true rfl⟩) hK hP hD hS hA (ci := 1) (q0 := 0) rfl rfl rfl hl.1 rfl (Nat.le_of_ble_eq_true rfl) dM_sums_25 ⟨Nat.le_of_ble_eq_true rfl, Nat.le_of_ble_eq_true rfl⟩ (fun H locs hP hD hS => ?_)
        refine lv_if_eq (tgt := 35) hx hb dM_sums_28 (by decide) (fun c28 => ?_) (fun c28 => ?_)
        · have hf := (if_pos c28).symm.trans hf
          exact tM_sums_35 C0 hK hA ih s25 x1 x4 x6 _ _ ls hf (lv_sub hl [0, 1, 3, 4] rfl) hP hD hS
        · have hf := (if_neg c28).symm.trans hf
          refine lv_iconst (v := 1) hx hb dM_sums_31 (by decide) ?_
          refine lv_goto (tgt := 36) hx hb dM_sums_32 (by decide) ?_
          exact tM_sums_36 C0 hK hA ih s25 1 x1 x4 x6 _ _ ls hf (lv_sub hl [0, 1, 3, 4] rfl) hP hD hS
set_option maxHeartbeats 400000 in
set_option maxRecDepth 100000 in
theorem mM_sums (l : Launch) (D : va_G) (q : Nat → Nat) (k : kM) (cI cJ : ClassId) (sz : Nat) (fu : Nat) (σ : sM) (σ' : sM) (x1 : Int64) (r : Int32) (hf : fM_sums fu k σ x1 = some (r, σ')) : Met l yM_sums (.code yM_sums cM_sums 7 (some .boolean) :: TM) ({ frames := 6, cells := 0, slots := 0, locals := 143 }) (kPre D cl0 [(cI, .int), (cJ, .long)] (wdM q k cI cJ) sz σ [.ref (q 0), .long x1]) (kQi D cl0 [(cI, .int), (cJ, .long)] (wdM q k cI cJ) (va_A (wdM q k cI cJ σ) sz) r σ') 0 0 (va_A (wdM q k cI cJ σ) sz) := by
  refine kr_start (own := RM) (by decide) rfl (Nat.le_of_ble_eq_true rfl) ?_
  intro p e s m args below meth c ls C0 hsz hK hP hD hl
  subst hsz
  obtain ⟨hx, hb, hr, hml, hown, hts, hlocks⟩ := id C0
  have hA : ∀ z : Nat, s.heap.size ≤ z → va_A (wdM q k cI cJ σ) s.heap.size z := fun z h => Or.inr h
  generalize va_A (wdM q k cI cJ σ) s.heap.size = A at hD hA ⊢
  have hS : va_S A s.heap s.heap [] := va_S.rf
  have hl : lv_has ls 7 [(0, .ref (q 0)), (1, .long x1)] := hl
  unfold fM_sums at hf
  refine lv_iconst (v := 1) hx hb dM_sums_0 (by decide) ?_
  refine lv_istore_n (lv' := [(3, .int 1), (0, .ref (q 0)), (1, .long x1)]) hx hb dM_sums_1 rfl hl (by decide) rfl (fun ls hl => ?_)
  refine lv_lconst (v := 0) hx hb dM_sums_2 (by decide) ?_
  refine lv_lstore (lv' := [(4, .long (0 : Int64)), (3, .int 1), (0, .ref (q 0)), (1, .long x1)]) hx hb dM_sums_3 hl (by decide) rfl (fun ls hl => ?_)
  refine lv_iconst (v := 0) hx hb dM_sums_5 (by decide) ?_
  refine lv_istore (lv' := [(6, .int 0), (4, .long (0 : Int64)), (3, .int 1), (0, .ref (q 0)), (1, .long x1)]) hx hb dM_sums_6 hl (by decide) rfl (fun ls hl => ?_)
  exact tM_sums_8 C0 hK hA fu σ x1 1 (0 : Int64) 0 _ _ ls hf (lv_sub hl [3, 4, 2, 1, 0] rfl) hP hD hS
theorem dM_without_0 : decode cM_without 0 = .ok (.aload_n 0, 1) := by decide +kernel
theorem dM_without_1 : decode cM_without 1 = .ok (.iload_n 1, 1) := by decide +kernel
theorem dM_without_2 : decode cM_without 2 = .ok (.invokevirtual 54, 3) := by decide +kernel
theorem dM_without_5 : decode cM_without 5 = .ok (.ifCond .eq (42), 3) := by decide +kernel
theorem dM_without_8 : decode cM_without 8 = .ok (.aload_n 0, 1) := by decide +kernel
theorem dM_without_9 : decode cM_without 9 = .ok (.iload_n 2, 1) := by decide +kernel
theorem dM_without_10 : decode cM_without 10 = .ok (.invokevirtual 58, 3) := by decide +kernel
theorem dM_without_13 : decode cM_without 13 = .ok (.ifCond .eq (34), 3) := by decide +kernel
theorem dM_without_16 : decode cM_without 16 = .ok (.iload_n 3, 1) := by decide +kernel
theorem dM_without_17 : decode cM_without 17 = .ok (.ifCond .lt (30), 3) := by decide +kernel
theorem dM_without_20 : decode cM_without 20 = .ok (.iload_n 3, 1) := by decide +kernel
theorem dM_without_21 : decode cM_without 21 = .ok (.iconst 1, 1) := by decide +kernel
theorem dM_without_22 : decode cM_without 22 = .ok (.if_icmp .gt (25), 3) := by decide +kernel
theorem dM_without_25 : decode cM_without 25 = .ok (.iload 4, 2) := by decide +kernel
theorem dM_without_27 : decode cM_without 27 = .ok (.invokestatic 71, 3) := by decide +kernel
theorem dM_without_30 : decode cM_without 30 = .ok (.ifCond .eq (17), 3) := by decide +kernel
theorem dM_without_33 : decode cM_without 33 = .ok (.aload_n 0, 1) := by decide +kernel
theorem dM_without_34 : decode cM_without 34 = .ok (.aload_n 0, 1) := by decide +kernel
theorem dM_without_35 : decode cM_without 35 = .ok (.getfield 17, 3) := by decide +kernel
theorem dM_without_38 : decode cM_without 38 = .ok (.iload_n 1, 1) := by decide +kernel
theorem dM_without_39 : decode cM_without 39 = .ok (.iaload, 1) := by decide +kernel
theorem dM_without_40 : decode cM_without 40 = .ok (.invokevirtual 68, 3) := by decide +kernel
theorem dM_without_43 : decode cM_without 43 = .ok (.iconst 2, 1) := by decide +kernel
theorem dM_without_44 : decode cM_without 44 = .ok (.if_icmp .ge (7), 3) := by decide +kernel
theorem dM_without_47 : decode cM_without 47 = .ok (.ldc2_w 52, 3) := by decide +kernel
theorem dM_without_50 : decode cM_without 50 = .ok (.lreturn, 1) := by decide +kernel
theorem dM_without_51 : decode cM_without 51 = .ok (.aload_n 0, 1) := by decide +kernel
theorem dM_without_52 : decode cM_without 52 = .ok (.aload_n 0, 1) := by decide +kernel
theorem dM_without_53 : decode cM_without 53 = .ok (.getfield 17, 3) := by decide +kernel
theorem dM_without_56 : decode cM_without 56 = .ok (.iload_n 1, 1) := by decide +kernel
theorem dM_without_57 : decode cM_without 57 = .ok (.iaload, 1) := by decide +kernel
theorem dM_without_58 : decode cM_without 58 = .ok (.invokevirtual 68, 3) := by decide +kernel
theorem dM_without_61 : decode cM_without 61 = .ok (.istore 5, 2) := by decide +kernel
theorem dM_without_63 : decode cM_without 63 = .ok (.aload_n 0, 1) := by decide +kernel
theorem dM_without_64 : decode cM_without 64 = .ok (.aload_n 0, 1) := by decide +kernel
theorem dM_without_65 : decode cM_without 65 = .ok (.getfield 17, 3) := by decide +kernel
theorem dM_without_68 : decode cM_without 68 = .ok (.iload_n 1, 1) := by decide +kernel
theorem dM_without_69 : decode cM_without 69 = .ok (.iaload, 1) := by decide +kernel
theorem dM_without_70 : decode cM_without 70 = .ok (.aload_n 0, 1) := by decide +kernel
theorem dM_without_71 : decode cM_without 71 = .ok (.getfield 13, 3) := by decide +kernel
theorem dM_without_74 : decode cM_without 74 = .ok (.iload_n 2, 1) := by decide +kernel
theorem dM_without_75 : decode cM_without 75 = .ok (.invokevirtual 61, 3) := by decide +kernel
theorem dM_without_78 : decode cM_without 78 = .ok (.istore 6, 2) := by decide +kernel
theorem dM_without_80 : decode cM_without 80 = .ok (.iload 6, 2) := by decide +kernel
theorem dM_without_82 : decode cM_without 82 = .ok (.ifCond .le (10), 3) := by decide +kernel
theorem dM_without_85 : decode cM_without 85 = .ok (.iload 6, 2) := by decide +kernel
theorem dM_without_87 : decode cM_without 87 = .ok (.iconst 1, 1) := by decide +kernel
theorem dM_without_88 : decode cM_without 88 = .ok (.isub, 1) := by decide +kernel
theorem dM_without_89 : decode cM_without 89 = .ok (.goto (5), 3) := by decide +kernel
theorem dM_without_92 : decode cM_without 92 = .ok (.iload 6, 2) := by decide +kernel
theorem dM_without_94 : decode cM_without 94 = .ok (.istore 7, 2) := by decide +kernel
theorem dM_without_96 : decode cM_without 96 = .ok (.iload 6, 2) := by decide +kernel
theorem dM_without_98 : decode cM_without 98 = .ok (.iload 5, 2) := by decide +kernel
theorem dM_without_100 : decode cM_without 100 = .ok (.if_icmp .ge (8), 3) := by decide +kernel
theorem dM_without_103 : decode cM_without 103 = .ok (.iload 6, 2) := by decide +kernel
theorem dM_without_105 : decode cM_without 105 = .ok (.goto (7), 3) := by decide +kernel
theorem dM_without_108 : decode cM_without 108 = .ok (.iload 6, 2) := by decide +kernel
theorem dM_without_110 : decode cM_without 110 = .ok (.iconst 1, 1) := by decide +kernel
theorem dM_without_111 : decode cM_without 111 = .ok (.isub, 1) := by decide +kernel
theorem dM_without_112 : decode cM_without 112 = .ok (.istore 8, 2) := by decide +kernel
theorem dM_without_114 : decode cM_without 114 = .ok (.iload_n 3, 1) := by decide +kernel
theorem dM_without_115 : decode cM_without 115 = .ok (.ifCond .ne (9), 3) := by decide +kernel
theorem dM_without_118 : decode cM_without 118 = .ok (.iload 7, 2) := by decide +kernel
theorem dM_without_120 : decode cM_without 120 = .ok (.i2l, 1) := by decide +kernel
theorem dM_without_121 : decode cM_without 121 = .ok (.goto (6), 3) := by decide +kernel
theorem dM_without_124 : decode cM_without 124 = .ok (.iload 8, 2) := by decide +kernel
theorem dM_without_126 : decode cM_without 126 = .ok (.i2l, 1) := by decide +kernel
theorem dM_without_127 : decode cM_without 127 = .ok (.iload 5, 2) := by decide +kernel
theorem dM_without_129 : decode cM_without 129 = .ok (.iconst 1, 1) := by decide +kernel
theorem dM_without_130 : decode cM_without 130 = .ok (.isub, 1) := by decide +kernel
theorem dM_without_131 : decode cM_without 131 = .ok (.i2l, 1) := by decide +kernel
theorem dM_without_132 : decode cM_without 132 = .ok (.iload 4, 2) := by decide +kernel
theorem dM_without_134 : decode cM_without 134 = .ok (.invokestatic 77, 3) := by decide +kernel
theorem dM_without_137 : decode cM_without 137 = .ok (.lreturn, 1) := by decide +kernel
set_option maxHeartbeats 400000 in
set_option maxRecDepth 100000 in
theorem tM_without_127 {p : Program} {l : Launch} {e : Env} {s : State} {m : MethodId} {args : Array Value} {below : List Frame} {meth : Method} {c : Code} {D : va_G} {A : Nat → Prop} {q : Nat → Nat} {k : kM} {cI cJ : ClassId} {r : Int64} {σ : sM} {fu : Nat} (C0 : Cx p s m args meth c cM_without 9 (some .long) RM TM) (hK : va_K D cl0 [(cI, .int), (cJ, .long)] s) (hA : ∀ z, s.heap.size ≤ z → A z) : ∀ (y0 : Int64) (x4 : Int32) (x5 : Int32)(H : Heap) (locs : List Loc) (ls : Array Slot), fM_without_127 fu k σ y0 x4 x5 = some r → lv_has ls 9 [(4, .int x4), (5, .int x5)] → va_P D cl0 (wdM q k cI cJ σ) H → va_D A (wdM q k cI cJ σ) → va_S A s.heap H locs → W p l e ({ frames := 4, cells := 0, slots := 0, locals := 94 }) s m args below meth c H locs 0 0 (MQ below (kQl D cl0 [(cI, .int), (cJ, .long)] (wdM q k cI cJ) A r σ) args s 0 0 A) (F0 m 127 ls [.long y0]) := by
  obtain ⟨hx, hb, hr, hml, hown, hts, hlocks⟩ := id C0
  intro y0 x4 x5 H locs ls hf hl hP hD hS
  unfold fM_without_127 at hf
  refine lv_iload hx hb dM_without_127 (lv_at hl 1 rfl) ?_
  refine lv_iconst (v := 1) hx hb dM_without_129 (by decide) ?_
  refine lv_isub hx hb dM_without_130 ?_
  refine lv_i2l (v := (x5 - 1).toInt64) hx hb dM_without_131 rfl ?_
  refine lv_iload hx hb dM_without_132 (lv_at hl 0 rfl) ?_
  obtain ⟨v134, ev134, hf⟩ := kb1 hf
  refine kr_callSl (av := [.long y0, .long (x5 - 1).toInt64, .int x4]) ⟨hx, hb, hml, hown, hts⟩ (mM_partOf l D _ (wdM q k cI cJ) [(cI, .int), (cJ, .long)] cl0 _ fu σ y0 ((x5 - 1).toInt64) x4 v134 ev134) (cwS 3 hts (kgood_S TM_good (by decide +kernel)) rfl rfl rfl (by decide +kernel) ⟨Nat.le_of_ble_eq_true rfl, Nat.le_of_ble_eq_true rfl⟩) hK hP hD hS hA rfl hl.1 rfl (Nat.le_of_ble_eq_true rfl) dM_without_134 ⟨Nat.le_of_ble_eq_true rfl, Nat.le_of_ble_eq_true rfl⟩ (fun H locs hP hD hS => ?_)
  exact kr_lret C0 hK hP hD hS (Option.some.inj hf) rfl dM_without_137
set_option maxHeartbeats 400000 in
set_option maxRecDepth 100000 in
theorem tM_without_112 {p : Program} {l : Launch} {e : Env} {s : State} {m : MethodId} {args : Array Value} {below : List Frame} {meth : Method} {c : Code} {D : va_G} {A : Nat → Prop} {q : Nat → Nat} {k : kM} {cI cJ : ClassId} {r : Int64} {σ : sM} {fu : Nat} (C0 : Cx p s m args meth c cM_without 9 (some .long) RM TM) (hK : va_K D cl0 [(cI, .int), (cJ, .long)] s) (hA : ∀ z, s.heap.size ≤ z → A z) : ∀ (y0 : Int32) (x3 : Int32) (x4 : Int32) (x5 : Int32) (x7 : Int32)(H : Heap) (locs : List Loc) (ls : Array Slot), fM_without_112 fu k σ y0 x3 x4 x5 x7 = some r → lv_has ls 9 [(3, .int x3), (4, .int x4), (5, .int x5), (7, .int x7)] → va_P D cl0 (wdM q k cI cJ σ) H → va_D A (wdM q k cI cJ σ) → va_S A s.heap H locs → W p l e ({ frames := 4, cells := 0, slots := 0, locals := 94 }) s m args below meth c H locs 0 0 (MQ below (kQl D cl0 [(cI, .int), (cJ, .long)] (wdM q k cI cJ) A r σ) args s 0 0 A) (F0 m 112 ls [.int y0]) := by
  obtain ⟨hx, hb, hr, hml, hown, hts, hlocks⟩ := id C0
  intro y0 x3 x4 x5 x7 H locs ls hf hl hP hD hS
  unfold fM_without_112 at hf
  refine lv_istore (lv' := [(8, .int y0), (3, .int x3), (4, .int x4), (5, .int x5), (7, .int x7)]) hx hb dM_without_112 hl (by decide) rfl (fun ls hl => ?_)
  refine lv_iload_n hx hb dM_without_114 rfl (lv_at hl 1 rfl) ?_
  refine lv_if_ne (tgt := 124) hx hb dM_without_115 (by decide) (fun c115 => ?_) (fun c115 => ?_)
  · have hf := (if_neg c115).symm.trans hf
    refine lv_iload hx hb dM_without_124 (lv_at hl 0 rfl) ?_
    refine lv_i2l (v := y0.toInt64) hx hb dM_without_126 rfl ?_
    exact tM_without_127 C0 hK hA y0.toInt64 x4 x5 _ _ ls hf (lv_sub hl [2, 3] rfl) hP hD hS
  · have hf := (if_pos c115).symm.trans hf
    refine lv_iload hx hb dM_without_118 (lv_at hl 4 rfl) ?_
    refine lv_i2l (v := x7.toInt64) hx hb dM_without_120 rfl ?_
    refine lv_goto (tgt := 127) hx hb dM_without_121 (by decide) ?_
    exact tM_without_127 C0 hK hA x7.toInt64 x4 x5 _ _ ls hf (lv_sub hl [2, 3] rfl) hP hD hS
set_option maxHeartbeats 400000 in
set_option maxRecDepth 100000 in
theorem tM_without_94 {p : Program} {l : Launch} {e : Env} {s : State} {m : MethodId} {args : Array Value} {below : List Frame} {meth : Method} {c : Code} {D : va_G} {A : Nat → Prop} {q : Nat → Nat} {k : kM} {cI cJ : ClassId} {r : Int64} {σ : sM} {fu : Nat} (C0 : Cx p s m args meth c cM_without 9 (some .long) RM TM) (hK : va_K D cl0 [(cI, .int), (cJ, .long)] s) (hA : ∀ z, s.heap.size ≤ z → A z) : ∀ (y0 : Int32) (x3 : Int32) (x4 : Int32) (x5 : Int32) (x6 : Int32)(H : Heap) (locs : List Loc) (ls : Array Slot), fM_without_94 fu k σ y0 x3 x4 x5 x6 = some r → lv_has ls 9 [(3, .int x3), (4, .int x4), (5, .int x5), (6, .int x6)] → va_P D cl0 (wdM q k cI cJ σ) H → va_D A (wdM q k cI cJ σ) → va_S A s.heap H locs → W p l e ({ frames := 4, cells := 0, slots := 0, locals := 94 }) s m args below meth c H locs 0 0 (MQ below (kQl D cl0 [(cI, .int), (cJ, .long)] (wdM q k cI cJ) A r σ) args s 0 0 A) (F0 m 94 ls [.int y0]) := by
  obtain ⟨hx, hb, hr, hml, hown, hts, hlocks⟩ := id C0
  intro y0 x3 x4 x5 x6 H locs ls hf hl hP hD hS
  unfold fM_without_94 at hf
  refine lv_istore (lv' := [(7, .int y0), (3, .int x3), (4, .int x4), (5, .int x5), (6, .int x6)]) hx hb dM_without_94 hl (by decide) rfl (fun ls hl => ?_)
  refine lv_iload hx hb dM_without_96 (lv_at hl 4 rfl) ?_
  refine lv_iload hx hb dM_without_98 (lv_at hl 3 rfl) ?_
  refine lv_icmp_ge (tgt := 108) hx hb dM_without_100 (by decide) (fun c100 => ?_) (fun c100 => ?_)
  · have hf := (if_pos c100).symm.trans hf
    refine lv_iload hx hb dM_without_108 (lv_at hl 4 rfl) ?_
    refine lv_iconst (v := 1) hx hb dM_without_110 (by decide) ?_
    refine lv_isub hx hb dM_without_111 ?_
    exact tM_without_112 C0 hK hA (x6 - 1) x3 x4 x5 y0 _ _ ls hf (lv_sub hl [1, 2, 3, 0] rfl) hP hD hS
  · have hf := (if_neg c100).symm.trans hf
    refine lv_iload hx hb dM_without_103 (lv_at hl 4 rfl) ?_
    refine lv_goto (tgt := 112) hx hb dM_without_105 (by decide) ?_
    exact tM_without_112 C0 hK hA x6 x3 x4 x5 y0 _ _ ls hf (lv_sub hl [1, 2, 3, 0] rfl) hP hD hS
set_option maxHeartbeats 400000 in
set_option maxRecDepth 100000 in
theorem mM_without (l : Launch) (D : va_G) (q : Nat → Nat) (k : kM) (cI cJ : ClassId) (sz : Nat) (fu : Nat) (σ : sM) (x1 : Int32) (x2 : Int32) (x3 : Int32) (x4 : Int32) (r : Int64) (hf : fM_without fu k σ x1 x2 x3 x4 = some r) : Met l yM_without (.code yM_without cM_without 9 (some .long) :: TM) ({ frames := 4, cells := 0, slots := 0, locals := 94 }) (kPre D cl0 [(cI, .int), (cJ, .long)] (wdM q k cI cJ) sz σ [.ref (q 0), .int x1, .int x2, .int x3, .int x4]) (kQl D cl0 [(cI, .int), (cJ, .long)] (wdM q k cI cJ) (va_A (wdM q k cI cJ σ) sz) r σ) 0 0 (va_A (wdM q k cI cJ σ) sz) := by
  refine kr_start (own := RM) (by decide) rfl (Nat.le_of_ble_eq_true rfl) ?_
  intro p e s m args below meth c ls C0 hsz hK hP hD hl
  subst hsz
  obtain ⟨hx, hb, hr, hml, hown, hts, hlocks⟩ := id C0
  have hA : ∀ z : Nat, s.heap.size ≤ z → va_A (wdM q k cI cJ σ) s.heap.size z := fun z h => Or.inr h
  generalize va_A (wdM q k cI cJ σ) s.heap.size = A at hD hA ⊢
  have hS : va_S A s.heap s.heap [] := va_S.rf
  have hl : lv_has ls 9 [(0, .ref (q 0)), (1, .int x1), (2, .int x2), (3, .int x3), (4, .int x4)] := hl
  unfold fM_without at hf
  refine lv_aload_n hx hb dM_without_0 rfl (lv_at hl 0 rfl) ?_
  refine lv_iload_n hx hb dM_without_1 rfl (lv_at hl 1 rfl) ?_
  refine kr_callVi (av := [.int x1]) ⟨hx, hb, hml, hown, hts⟩ (mM_isClass l D q k cI cJ _ σ x1 _ rfl) (cwV 1 hts (kgood_V TM_good (by decide +kernel)) rfl rfl rfl (by decide +kernel) ⟨Nat.le_of_ble_eq_true rfl, Nat.le_of_ble_eq_true rfl⟩) hK hP hD hS hA (ci := 1) (q0 := 0) rfl rfl rfl hl.1 rfl (Nat.le_of_ble_eq_true rfl) dM_without_2 ⟨Nat.le_of_ble_eq_true rfl, Nat.le_of_ble_eq_true rfl⟩ (fun H locs hP hD hS => ?_)
  refine lv_if_eq (tgt := 47) hx hb dM_without_5 (by decide) (fun c5 => ?_) (fun c5 => ?_)
  · have hf := (if_pos c5).symm.trans hf
    refine lv_ldc2 (v := -1) hx hb hown (hts (.constantLong RM 52 (-1)) (by decide +kernel)) dM_without_47 ?_
    exact kr_lret C0 hK hP hD hS (Option.some.inj hf) rfl dM_without_50
  · have hf := (if_neg c5).symm.trans hf
    refine lv_aload_n hx hb dM_without_8 rfl (lv_at hl 0 rfl) ?_
    refine lv_iload_n hx hb dM_without_9 rfl (lv_at hl 2 rfl) ?_
    refine kr_callVi (av := [.int x2]) ⟨hx, hb, hml, hown, hts⟩ (mM_isAge l D q k cI cJ _ σ x2 _ rfl) (cwV 1 hts (kgood_V TM_good (by decide +kernel)) rfl rfl rfl (by decide +kernel) ⟨Nat.le_of_ble_eq_true rfl, Nat.le_of_ble_eq_true rfl⟩) hK hP hD hS hA (ci := 1) (q0 := 0) rfl rfl rfl hl.1 rfl (Nat.le_of_ble_eq_true rfl) dM_without_10 ⟨Nat.le_of_ble_eq_true rfl, Nat.le_of_ble_eq_true rfl⟩ (fun H locs hP hD hS => ?_)
    refine lv_if_eq (tgt := 47) hx hb dM_without_13 (by decide) (fun c13 => ?_) (fun c13 => ?_)
    · have hf := (if_pos c13).symm.trans hf
      refine lv_ldc2 (v := -1) hx hb hown (hts (.constantLong RM 52 (-1)) (by decide +kernel)) dM_without_47 ?_
      exact kr_lret C0 hK hP hD hS (Option.some.inj hf) rfl dM_without_50
    · have hf := (if_neg c13).symm.trans hf
      refine lv_iload_n hx hb dM_without_16 rfl (lv_at hl 3 rfl) ?_
      refine lv_if_lt (tgt := 47) hx hb dM_without_17 (by decide) (fun c17 => ?_) (fun c17 => ?_)
      · have hf := (if_pos c17).symm.trans hf
        refine lv_ldc2 (v := -1) hx hb hown (hts (.constantLong RM 52 (-1)) (by decide +kernel)) dM_without_47 ?_
        exact kr_lret C0 hK hP hD hS (Option.some.inj hf) rfl dM_without_50
      · have hf := (if_neg c17).symm.trans hf
        refine lv_iload_n hx hb dM_without_20 rfl (lv_at hl 3 rfl) ?_
        refine lv_iconst (v := 1) hx hb dM_without_21 (by decide) ?_
        refine lv_icmp_gt (tgt := 47) hx hb dM_without_22 (by decide) (fun c22 => ?_) (fun c22 => ?_)
        · have hf := (if_pos c22).symm.trans hf
          refine lv_ldc2 (v := -1) hx hb hown (hts (.constantLong RM 52 (-1)) (by decide +kernel)) dM_without_47 ?_
          exact kr_lret C0 hK hP hD hS (Option.some.inj hf) rfl dM_without_50
        · have hf := (if_neg c22).symm.trans hf
          refine lv_iload hx hb dM_without_25 (lv_at hl 4 rfl) ?_
          refine kr_callSi (av := [.int x4]) ⟨hx, hb, hml, hown, hts⟩ (mM_isPart l D _ (wdM q k cI cJ) [(cI, .int), (cJ, .long)] cl0 _ σ x4 _ rfl) (cwS 1 hts (kgood_S TM_good (by decide +kernel)) rfl rfl rfl (by decide +kernel) ⟨Nat.le_of_ble_eq_true rfl, Nat.le_of_ble_eq_true rfl⟩) hK hP hD hS hA rfl hl.1 rfl (Nat.le_of_ble_eq_true rfl) dM_without_27 ⟨Nat.le_of_ble_eq_true rfl, Nat.le_of_ble_eq_true rfl⟩ (fun H locs hP hD hS => ?_)
          refine lv_if_eq (tgt := 47) hx hb dM_without_30 (by decide) (fun c30 => ?_) (fun c30 => ?_)
          · have hf := (if_pos c30).symm.trans hf
            refine lv_ldc2 (v := -1) hx hb hown (hts (.constantLong RM 52 (-1)) (by decide +kernel)) dM_without_47 ?_
            exact kr_lret C0 hK hP hD hS (Option.some.inj hf) rfl dM_without_50
          · have hf := (if_neg c30).symm.trans hf
            refine lv_aload_n hx hb dM_without_33 rfl (lv_at hl 0 rfl) ?_
            refine lv_aload_n hx hb dM_without_34 rfl (lv_at hl 0 rfl) ?_
            refine gM_group hx hb hown hts hK hP dM_without_35 ?_
            refine lv_iload_n hx hb dM_without_38 rfl (lv_at hl 1 rfl) ?_
            obtain ⟨v39, ev39, hf⟩ := kb1 hf
            refine kr_iaload hx hb hK hP 2 0 rfl rfl ev39 dM_without_39 ?_
            obtain ⟨v40, ev40, hf⟩ := kb1 hf
            refine kr_callVi (av := [.int v39]) ⟨hx, hb, hml, hown, hts⟩ (mM_own l D q k cI cJ _ fu σ v39 v40 ev40) (cwV 1 hts (kgood_V TM_good (by decide +kernel)) rfl rfl rfl (by decide +kernel) ⟨Nat.le_of_ble_eq_true rfl, Nat.le_of_ble_eq_true rfl⟩) hK hP hD hS hA (ci := 1) (q0 := 0) rfl rfl rfl hl.1 rfl (Nat.le_of_ble_eq_true rfl) dM_without_40 ⟨Nat.le_of_ble_eq_true rfl, Nat.le_of_ble_eq_true rfl⟩ (fun H locs hP hD hS => ?_)
            refine lv_iconst (v := 2) hx hb dM_without_43 (by decide) ?_
            refine lv_icmp_ge (tgt := 51) hx hb dM_without_44 (by decide) (fun c44 => ?_) (fun c44 => ?_)
            · have hf := (if_pos c44).symm.trans hf
              refine lv_aload_n hx hb dM_without_51 rfl (lv_at hl 0 rfl) ?_
              refine lv_aload_n hx hb dM_without_52 rfl (lv_at hl 0 rfl) ?_
              refine gM_group hx hb hown hts hK hP dM_without_53 ?_
              refine lv_iload_n hx hb dM_without_56 rfl (lv_at hl 1 rfl) ?_
              obtain ⟨v57, ev57, hf⟩ := kb1 hf
              refine kr_iaload hx hb hK hP 2 0 rfl rfl ev57 dM_without_57 ?_
              obtain ⟨v58, ev58, hf⟩ := kb1 hf
              refine kr_callVi (av := [.int v57]) ⟨hx, hb, hml, hown, hts⟩ (mM_own l D q k cI cJ _ fu σ v57 v58 ev58) (cwV 1 hts (kgood_V TM_good (by decide +kernel)) rfl rfl rfl (by decide +kernel) ⟨Nat.le_of_ble_eq_true rfl, Nat.le_of_ble_eq_true rfl⟩) hK hP hD hS hA (ci := 1) (q0 := 0) rfl rfl rfl hl.1 rfl (Nat.le_of_ble_eq_true rfl) dM_without_58 ⟨Nat.le_of_ble_eq_true rfl, Nat.le_of_ble_eq_true rfl⟩ (fun H locs hP hD hS => ?_)
              refine lv_istore (lv' := [(5, .int v58), (0, .ref (q 0)), (1, .int x1), (2, .int x2), (3, .int x3), (4, .int x4)]) hx hb dM_without_61 hl (by decide) rfl (fun ls hl => ?_)
              refine lv_aload_n hx hb dM_without_63 rfl (lv_at hl 1 rfl) ?_
              refine lv_aload_n hx hb dM_without_64 rfl (lv_at hl 1 rfl) ?_
              refine gM_group hx hb hown hts hK hP dM_without_65 ?_
              refine lv_iload_n hx hb dM_without_68 rfl (lv_at hl 2 rfl) ?_
              obtain ⟨v69, ev69, hf⟩ := kb1 hf
              refine kr_iaload hx hb hK hP 2 0 rfl rfl ev69 dM_without_69 ?_
              refine lv_aload_n hx hb dM_without_70 rfl (lv_at hl 1 rfl) ?_
              refine gM_chosen hx hb hown hts hK hP dM_without_71 ?_
              refine lv_iload_n hx hb dM_without_74 rfl (lv_at hl 3 rfl) ?_
              obtain ⟨v75, ev75, hf⟩ := kb1 hf
              refine kr_callVi (av := [.int v69, .int (sM_chosen σ), .int x2]) ⟨hx, hb, hml, hown, hts⟩ (mM_inGroup l D q k cI cJ _ fu σ v69 (sM_chosen σ) x2 v75 ev75) (cwV 3 hts (kgood_V TM_good (by decide +kernel)) rfl rfl rfl (by decide +kernel) ⟨Nat.le_of_ble_eq_true rfl, Nat.le_of_ble_eq_true rfl⟩) hK hP hD hS hA (ci := 1) (q0 := 0) rfl rfl rfl hl.1 rfl (Nat.le_of_ble_eq_true rfl) dM_without_75 ⟨Nat.le_of_ble_eq_true rfl, Nat.le_of_ble_eq_true rfl⟩ (fun H locs hP hD hS => ?_)
              refine lv_istore (lv' := [(6, .int v75), (5, .int v58), (0, .ref (q 0)), (1, .int x1), (2, .int x2), (3, .int x3), (4, .int x4)]) hx hb dM_without_78 hl (by decide) rfl (fun ls hl => ?_)
              refine lv_iload hx hb dM_without_80 (lv_at hl 0 rfl) ?_
              refine lv_if_le (tgt := 92) hx hb dM_without_82 (by decide) (fun c82 => ?_) (fun c82 => ?_)
              · have hf := (if_pos c82).symm.trans hf
                refine lv_iload hx hb dM_without_92 (lv_at hl 0 rfl) ?_
                exact tM_without_94 C0 hK hA v75 x3 x4 v58 v75 _ _ ls hf (lv_sub hl [5, 6, 1, 0] rfl) hP hD hS
              · have hf := (if_neg c82).symm.trans hf
                refine lv_iload hx hb dM_without_85 (lv_at hl 0 rfl) ?_
                refine lv_iconst (v := 1) hx hb dM_without_87 (by decide) ?_
                refine lv_isub hx hb dM_without_88 ?_
                refine lv_goto (tgt := 94) hx hb dM_without_89 (by decide) ?_
                exact tM_without_94 C0 hK hA (v75 - 1) x3 x4 v58 v75 _ _ ls hf (lv_sub hl [5, 6, 1, 0] rfl) hP hD hS
            · have hf := (if_neg c44).symm.trans hf
              refine lv_ldc2 (v := -1) hx hb hown (hts (.constantLong RM 52 (-1)) (by decide +kernel)) dM_without_47 ?_
              exact kr_lret C0 hK hP hD hS (Option.some.inj hf) rfl dM_without_50
theorem dM_error_0 : decode cM_error 0 = .ok (.aload_n 0, 1) := by decide +kernel
theorem dM_error_1 : decode cM_error 1 = .ok (.iload_n 1, 1) := by decide +kernel
theorem dM_error_2 : decode cM_error 2 = .ok (.invokevirtual 58, 3) := by decide +kernel
theorem dM_error_5 : decode cM_error 5 = .ok (.ifCond .eq (21), 3) := by decide +kernel
theorem dM_error_8 : decode cM_error 8 = .ok (.aload_n 0, 1) := by decide +kernel
theorem dM_error_9 : decode cM_error 9 = .ok (.iload_n 2, 1) := by decide +kernel
theorem dM_error_10 : decode cM_error 10 = .ok (.invokevirtual 58, 3) := by decide +kernel
theorem dM_error_13 : decode cM_error 13 = .ok (.ifCond .eq (13), 3) := by decide +kernel
theorem dM_error_16 : decode cM_error 16 = .ok (.iload_n 3, 1) := by decide +kernel
theorem dM_error_17 : decode cM_error 17 = .ok (.ifCond .lt (9), 3) := by decide +kernel
theorem dM_error_20 : decode cM_error 20 = .ok (.iload_n 3, 1) := by decide +kernel
theorem dM_error_21 : decode cM_error 21 = .ok (.bipush (20), 2) := by decide +kernel
theorem dM_error_23 : decode cM_error 23 = .ok (.if_icmp .le (5), 3) := by decide +kernel
theorem dM_error_26 : decode cM_error 26 = .ok (.iconst 0, 1) := by decide +kernel
theorem dM_error_27 : decode cM_error 27 = .ok (.ireturn, 1) := by decide +kernel
theorem dM_error_28 : decode cM_error 28 = .ok (.aload_n 0, 1) := by decide +kernel
theorem dM_error_29 : decode cM_error 29 = .ok (.getfield 27, 3) := by decide +kernel
theorem dM_error_32 : decode cM_error 32 = .ok (.bipush (6), 2) := by decide +kernel
theorem dM_error_34 : decode cM_error 34 = .ok (.iload_n 1, 1) := by decide +kernel
theorem dM_error_35 : decode cM_error 35 = .ok (.imul, 1) := by decide +kernel
theorem dM_error_36 : decode cM_error 36 = .ok (.iload_n 2, 1) := by decide +kernel
theorem dM_error_37 : decode cM_error 37 = .ok (.iadd, 1) := by decide +kernel
theorem dM_error_38 : decode cM_error 38 = .ok (.iload_n 3, 1) := by decide +kernel
theorem dM_error_39 : decode cM_error 39 = .ok (.iastore, 1) := by decide +kernel
theorem dM_error_40 : decode cM_error 40 = .ok (.iconst 1, 1) := by decide +kernel
theorem dM_error_41 : decode cM_error 41 = .ok (.ireturn, 1) := by decide +kernel
set_option maxHeartbeats 400000 in
set_option maxRecDepth 100000 in
theorem mM_error (l : Launch) (D : va_G) (q : Nat → Nat) (k : kM) (cI cJ : ClassId) (sz : Nat) (σ : sM) (σ' : sM) (x1 : Int32) (x2 : Int32) (x3 : Int32) (r : Int32) (hf : fM_error k σ x1 x2 x3 = some (r, σ')) : Met l yM_error (.code yM_error cM_error 4 (some .boolean) :: TM) ({ frames := 1, cells := 0, slots := 0, locals := 21 }) (kPre D cl0 [(cI, .int), (cJ, .long)] (wdM q k cI cJ) sz σ [.ref (q 0), .int x1, .int x2, .int x3]) (kQi D cl0 [(cI, .int), (cJ, .long)] (wdM q k cI cJ) (va_A (wdM q k cI cJ σ) sz) r σ') 0 0 (va_A (wdM q k cI cJ σ) sz) := by
  refine kr_start (own := RM) (by decide) rfl (Nat.le_of_ble_eq_true rfl) ?_
  intro p e s m args below meth c ls C0 hsz hK hP hD hl
  subst hsz
  obtain ⟨hx, hb, hr, hml, hown, hts, hlocks⟩ := id C0
  have hA : ∀ z : Nat, s.heap.size ≤ z → va_A (wdM q k cI cJ σ) s.heap.size z := fun z h => Or.inr h
  generalize va_A (wdM q k cI cJ σ) s.heap.size = A at hD hA ⊢
  have hS : va_S A s.heap s.heap [] := va_S.rf
  have hl : lv_has ls 4 [(0, .ref (q 0)), (1, .int x1), (2, .int x2), (3, .int x3)] := hl
  unfold fM_error at hf
  refine lv_aload_n hx hb dM_error_0 rfl (lv_at hl 0 rfl) ?_
  refine lv_iload_n hx hb dM_error_1 rfl (lv_at hl 1 rfl) ?_
  refine kr_callVi (av := [.int x1]) ⟨hx, hb, hml, hown, hts⟩ (mM_isAge l D q k cI cJ _ σ x1 _ rfl) (cwV 1 hts (kgood_V TM_good (by decide +kernel)) rfl rfl rfl (by decide +kernel) ⟨Nat.le_of_ble_eq_true rfl, Nat.le_of_ble_eq_true rfl⟩) hK hP hD hS hA (ci := 1) (q0 := 0) rfl rfl rfl hl.1 rfl (Nat.le_of_ble_eq_true rfl) dM_error_2 ⟨Nat.le_of_ble_eq_true rfl, Nat.le_of_ble_eq_true rfl⟩ (fun H locs hP hD hS => ?_)
  refine lv_if_eq (tgt := 26) hx hb dM_error_5 (by decide) (fun c5 => ?_) (fun c5 => ?_)
  · have hf := (if_pos c5).symm.trans hf
    refine lv_iconst (v := 0) hx hb dM_error_26 (by decide) ?_
    exact kr_zret C0 hK hP hD hS rfl (congrArg Prod.fst (Option.some.inj hf)) (congrArg Prod.snd (Option.some.inj hf)) dM_error_27
  · have hf := (if_neg c5).symm.trans hf
    refine lv_aload_n hx hb dM_error_8 rfl (lv_at hl 0 rfl) ?_
    refine lv_iload_n hx hb dM_error_9 rfl (lv_at hl 2 rfl) ?_
    refine kr_callVi (av := [.int x2]) ⟨hx, hb, hml, hown, hts⟩ (mM_isAge l D q k cI cJ _ σ x2 _ rfl) (cwV 1 hts (kgood_V TM_good (by decide +kernel)) rfl rfl rfl (by decide +kernel) ⟨Nat.le_of_ble_eq_true rfl, Nat.le_of_ble_eq_true rfl⟩) hK hP hD hS hA (ci := 1) (q0 := 0) rfl rfl rfl hl.1 rfl (Nat.le_of_ble_eq_true rfl) dM_error_10 ⟨Nat.le_of_ble_eq_true rfl, Nat.le_of_ble_eq_true rfl⟩ (fun H locs hP hD hS => ?_)
    refine lv_if_eq (tgt := 26) hx hb dM_error_13 (by decide) (fun c13 => ?_) (fun c13 => ?_)
    · have hf := (if_pos c13).symm.trans hf
      refine lv_iconst (v := 0) hx hb dM_error_26 (by decide) ?_
      exact kr_zret C0 hK hP hD hS rfl (congrArg Prod.fst (Option.some.inj hf)) (congrArg Prod.snd (Option.some.inj hf)) dM_error_27
    · have hf := (if_neg c13).symm.trans hf
      refine lv_iload_n hx hb dM_error_16 rfl (lv_at hl 3 rfl) ?_
      refine lv_if_lt (tgt := 26) hx hb dM_error_17 (by decide) (fun c17 => ?_) (fun c17 => ?_)
      · have hf := (if_pos c17).symm.trans hf
        refine lv_iconst (v := 0) hx hb dM_error_26 (by decide) ?_
        exact kr_zret C0 hK hP hD hS rfl (congrArg Prod.fst (Option.some.inj hf)) (congrArg Prod.snd (Option.some.inj hf)) dM_error_27
      · have hf := (if_neg c17).symm.trans hf
        refine lv_iload_n hx hb dM_error_20 rfl (lv_at hl 3 rfl) ?_
        refine lv_bipush (v := 20) hx hb dM_error_21 (by decide) ?_
        refine lv_icmp_le (tgt := 28) hx hb dM_error_23 (by decide) (fun c23 => ?_) (fun c23 => ?_)
        · have hf := (if_pos c23).symm.trans hf
          refine lv_aload_n hx hb dM_error_28 rfl (lv_at hl 0 rfl) ?_
          refine gM_errors hx hb hown hts hK hP dM_error_29 ?_
          refine lv_bipush (v := 6) hx hb dM_error_32 (by decide) ?_
          refine lv_iload_n hx hb dM_error_34 rfl (lv_at hl 1 rfl) ?_
          refine lv_imul hx hb dM_error_35 ?_
          refine lv_iload_n hx hb dM_error_36 rfl (lv_at hl 2 rfl) ?_
          refine lv_iadd hx hb dM_error_37 ?_
          refine lv_iload_n hx hb dM_error_38 rfl (lv_at hl 3 rfl) ?_
          obtain ⟨a39, ea39, hf⟩ := kb1 hf
          refine kr_iastore (σ' := (uM_errors σ a39)) hx hb hK hP hD hS 5 0 rfl rfl ea39 (wM_errors q k cI cJ _ _) dM_error_39 (fun H locs hP hD hS => ?_)
          generalize (uM_errors σ a39) = s39 at hf hP hD
          refine lv_iconst (v := 1) hx hb dM_error_40 (by decide) ?_
          exact kr_zret C0 hK hP hD hS rfl (congrArg Prod.fst (Option.some.inj hf)) (congrArg Prod.snd (Option.some.inj hf)) dM_error_41
        · have hf := (if_neg c23).symm.trans hf
          refine lv_iconst (v := 0) hx hb dM_error_26 (by decide) ?_
          exact kr_zret C0 hK hP hD hS rfl (congrArg Prod.fst (Option.some.inj hf)) (congrArg Prod.snd (Option.some.inj hf)) dM_error_27
theorem dM_determinant_0 : decode cM_determinant 0 = .ok (.lconst 1, 1) := by decide +kernel
theorem dM_determinant_1 : decode cM_determinant 1 = .ok (.lstore_n 1, 1) := by decide +kernel
theorem dM_determinant_2 : decode cM_determinant 2 = .ok (.lconst 1, 1) := by decide +kernel
theorem dM_determinant_3 : decode cM_determinant 3 = .ok (.lstore_n 3, 1) := by decide +kernel
theorem dM_determinant_4 : decode cM_determinant 4 = .ok (.iconst 0, 1) := by decide +kernel
theorem dM_determinant_5 : decode cM_determinant 5 = .ok (.istore 5, 2) := by decide +kernel
theorem dM_determinant_7 : decode cM_determinant 7 = .ok (.iload 5, 2) := by decide +kernel
theorem dM_determinant_9 : decode cM_determinant 9 = .ok (.aload_n 0, 1) := by decide +kernel
theorem dM_determinant_10 : decode cM_determinant 10 = .ok (.getfield 42, 3) := by decide +kernel
theorem dM_determinant_13 : decode cM_determinant 13 = .ok (.if_icmp .ge (278), 3) := by decide +kernel
theorem dM_determinant_16 : decode cM_determinant 16 = .ok (.iload 5, 2) := by decide +kernel
theorem dM_determinant_18 : decode cM_determinant 18 = .ok (.istore 6, 2) := by decide +kernel
theorem dM_determinant_20 : decode cM_determinant 20 = .ok (.iload 6, 2) := by decide +kernel
theorem dM_determinant_22 : decode cM_determinant 22 = .ok (.aload_n 0, 1) := by decide +kernel
theorem dM_determinant_23 : decode cM_determinant 23 = .ok (.getfield 42, 3) := by decide +kernel
theorem dM_determinant_26 : decode cM_determinant 26 = .ok (.if_icmp .ge (27), 3) := by decide +kernel
theorem dM_determinant_29 : decode cM_determinant 29 = .ok (.aload_n 0, 1) := by decide +kernel
theorem dM_determinant_30 : decode cM_determinant 30 = .ok (.getfield 36, 3) := by decide +kernel
theorem dM_determinant_33 : decode cM_determinant 33 = .ok (.bipush (6), 2) := by decide +kernel
theorem dM_determinant_35 : decode cM_determinant 35 = .ok (.iload 6, 2) := by decide +kernel
theorem dM_determinant_37 : decode cM_determinant 37 = .ok (.imul, 1) := by decide +kernel
theorem dM_determinant_38 : decode cM_determinant 38 = .ok (.iload 5, 2) := by decide +kernel
theorem dM_determinant_40 : decode cM_determinant 40 = .ok (.iadd, 1) := by decide +kernel
theorem dM_determinant_41 : decode cM_determinant 41 = .ok (.laload, 1) := by decide +kernel
theorem dM_determinant_42 : decode cM_determinant 42 = .ok (.lconst 0, 1) := by decide +kernel
theorem dM_determinant_43 : decode cM_determinant 43 = .ok (.lcmp, 1) := by decide +kernel
theorem dM_determinant_44 : decode cM_determinant 44 = .ok (.ifCond .ne (9), 3) := by decide +kernel
theorem dM_determinant_47 : decode cM_determinant 47 = .ok (.iinc 6 (1), 3) := by decide +kernel
theorem dM_determinant_50 : decode cM_determinant 50 = .ok (.goto (-30), 3) := by decide +kernel
theorem dM_determinant_53 : decode cM_determinant 53 = .ok (.iload 6, 2) := by decide +kernel
theorem dM_determinant_55 : decode cM_determinant 55 = .ok (.aload_n 0, 1) := by decide +kernel
theorem dM_determinant_56 : decode cM_determinant 56 = .ok (.getfield 42, 3) := by decide +kernel
theorem dM_determinant_59 : decode cM_determinant 59 = .ok (.if_icmp .ne (5), 3) := by decide +kernel
theorem dM_determinant_62 : decode cM_determinant 62 = .ok (.lconst 0, 1) := by decide +kernel
theorem dM_determinant_63 : decode cM_determinant 63 = .ok (.lreturn, 1) := by decide +kernel
theorem dM_determinant_64 : decode cM_determinant 64 = .ok (.iconst 0, 1) := by decide +kernel
theorem dM_determinant_65 : decode cM_determinant 65 = .ok (.istore 7, 2) := by decide +kernel
theorem dM_determinant_67 : decode cM_determinant 67 = .ok (.iload 7, 2) := by decide +kernel
theorem dM_determinant_69 : decode cM_determinant 69 = .ok (.aload_n 0, 1) := by decide +kernel
theorem dM_determinant_70 : decode cM_determinant 70 = .ok (.getfield 42, 3) := by decide +kernel
theorem dM_determinant_73 : decode cM_determinant 73 = .ok (.if_icmp .ge (72), 3) := by decide +kernel
theorem dM_determinant_76 : decode cM_determinant 76 = .ok (.iload 6, 2) := by decide +kernel
theorem dM_determinant_78 : decode cM_determinant 78 = .ok (.iload 5, 2) := by decide +kernel
theorem dM_determinant_80 : decode cM_determinant 80 = .ok (.if_icmp .eq (65), 3) := by decide +kernel
theorem dM_determinant_83 : decode cM_determinant 83 = .ok (.aload_n 0, 1) := by decide +kernel
theorem dM_determinant_84 : decode cM_determinant 84 = .ok (.getfield 36, 3) := by decide +kernel
theorem dM_determinant_87 : decode cM_determinant 87 = .ok (.bipush (6), 2) := by decide +kernel
theorem dM_determinant_89 : decode cM_determinant 89 = .ok (.iload 5, 2) := by decide +kernel
theorem dM_determinant_91 : decode cM_determinant 91 = .ok (.imul, 1) := by decide +kernel
theorem dM_determinant_92 : decode cM_determinant 92 = .ok (.iload 7, 2) := by decide +kernel
theorem dM_determinant_94 : decode cM_determinant 94 = .ok (.iadd, 1) := by decide +kernel
theorem dM_determinant_95 : decode cM_determinant 95 = .ok (.laload, 1) := by decide +kernel
theorem dM_determinant_96 : decode cM_determinant 96 = .ok (.lstore 8, 2) := by decide +kernel
theorem dM_determinant_98 : decode cM_determinant 98 = .ok (.aload_n 0, 1) := by decide +kernel
theorem dM_determinant_99 : decode cM_determinant 99 = .ok (.getfield 36, 3) := by decide +kernel
theorem dM_determinant_102 : decode cM_determinant 102 = .ok (.bipush (6), 2) := by decide +kernel
theorem dM_determinant_104 : decode cM_determinant 104 = .ok (.iload 5, 2) := by decide +kernel
theorem dM_determinant_106 : decode cM_determinant 106 = .ok (.imul, 1) := by decide +kernel
theorem dM_determinant_107 : decode cM_determinant 107 = .ok (.iload 7, 2) := by decide +kernel
theorem dM_determinant_109 : decode cM_determinant 109 = .ok (.iadd, 1) := by decide +kernel
theorem dM_determinant_110 : decode cM_determinant 110 = .ok (.aload_n 0, 1) := by decide +kernel
theorem dM_determinant_111 : decode cM_determinant 111 = .ok (.getfield 36, 3) := by decide +kernel
theorem dM_determinant_114 : decode cM_determinant 114 = .ok (.bipush (6), 2) := by decide +kernel
theorem dM_determinant_116 : decode cM_determinant 116 = .ok (.iload 6, 2) := by decide +kernel
theorem dM_determinant_118 : decode cM_determinant 118 = .ok (.imul, 1) := by decide +kernel
theorem dM_determinant_119 : decode cM_determinant 119 = .ok (.iload 7, 2) := by decide +kernel
theorem dM_determinant_121 : decode cM_determinant 121 = .ok (.iadd, 1) := by decide +kernel
theorem dM_determinant_122 : decode cM_determinant 122 = .ok (.laload, 1) := by decide +kernel
theorem dM_determinant_123 : decode cM_determinant 123 = .ok (.lastore, 1) := by decide +kernel
theorem dM_determinant_124 : decode cM_determinant 124 = .ok (.aload_n 0, 1) := by decide +kernel
theorem dM_determinant_125 : decode cM_determinant 125 = .ok (.getfield 36, 3) := by decide +kernel
theorem dM_determinant_128 : decode cM_determinant 128 = .ok (.bipush (6), 2) := by decide +kernel
theorem dM_determinant_130 : decode cM_determinant 130 = .ok (.iload 6, 2) := by decide +kernel
theorem dM_determinant_132 : decode cM_determinant 132 = .ok (.imul, 1) := by decide +kernel
theorem dM_determinant_133 : decode cM_determinant 133 = .ok (.iload 7, 2) := by decide +kernel
theorem dM_determinant_135 : decode cM_determinant 135 = .ok (.iadd, 1) := by decide +kernel
theorem dM_determinant_136 : decode cM_determinant 136 = .ok (.lload 8, 2) := by decide +kernel
theorem dM_determinant_138 : decode cM_determinant 138 = .ok (.lastore, 1) := by decide +kernel
theorem dM_determinant_139 : decode cM_determinant 139 = .ok (.iinc 7 (1), 3) := by decide +kernel
theorem dM_determinant_142 : decode cM_determinant 142 = .ok (.goto (-75), 3) := by decide +kernel
theorem dM_determinant_145 : decode cM_determinant 145 = .ok (.iload 6, 2) := by decide +kernel
theorem dM_determinant_147 : decode cM_determinant 147 = .ok (.iload 5, 2) := by decide +kernel
theorem dM_determinant_149 : decode cM_determinant 149 = .ok (.if_icmp .eq (8), 3) := by decide +kernel
theorem dM_determinant_152 : decode cM_determinant 152 = .ok (.lload_n 3, 1) := by decide +kernel
theorem dM_determinant_153 : decode cM_determinant 153 = .ok (.lneg, 1) := by decide +kernel
theorem dM_determinant_154 : decode cM_determinant 154 = .ok (.goto (4), 3) := by decide +kernel
theorem dM_determinant_157 : decode cM_determinant 157 = .ok (.lload_n 3, 1) := by decide +kernel
theorem dM_determinant_158 : decode cM_determinant 158 = .ok (.lstore_n 3, 1) := by decide +kernel
theorem dM_determinant_159 : decode cM_determinant 159 = .ok (.iload 5, 2) := by decide +kernel
theorem dM_determinant_161 : decode cM_determinant 161 = .ok (.iconst 1, 1) := by decide +kernel
theorem dM_determinant_162 : decode cM_determinant 162 = .ok (.iadd, 1) := by decide +kernel
theorem dM_determinant_163 : decode cM_determinant 163 = .ok (.istore 7, 2) := by decide +kernel
theorem dM_determinant_165 : decode cM_determinant 165 = .ok (.iload 7, 2) := by decide +kernel
theorem dM_determinant_167 : decode cM_determinant 167 = .ok (.aload_n 0, 1) := by decide +kernel
theorem dM_determinant_168 : decode cM_determinant 168 = .ok (.getfield 42, 3) := by decide +kernel
theorem dM_determinant_171 : decode cM_determinant 171 = .ok (.if_icmp .ge (100), 3) := by decide +kernel
theorem dM_determinant_174 : decode cM_determinant 174 = .ok (.iload 5, 2) := by decide +kernel
theorem dM_determinant_176 : decode cM_determinant 176 = .ok (.iconst 1, 1) := by decide +kernel
theorem dM_determinant_177 : decode cM_determinant 177 = .ok (.iadd, 1) := by decide +kernel
theorem dM_determinant_178 : decode cM_determinant 178 = .ok (.istore 8, 2) := by decide +kernel
theorem dM_determinant_180 : decode cM_determinant 180 = .ok (.iload 8, 2) := by decide +kernel
theorem dM_determinant_182 : decode cM_determinant 182 = .ok (.aload_n 0, 1) := by decide +kernel
theorem dM_determinant_183 : decode cM_determinant 183 = .ok (.getfield 42, 3) := by decide +kernel
theorem dM_determinant_186 : decode cM_determinant 186 = .ok (.if_icmp .ge (79), 3) := by decide +kernel
theorem dM_determinant_189 : decode cM_determinant 189 = .ok (.aload_n 0, 1) := by decide +kernel
theorem dM_determinant_190 : decode cM_determinant 190 = .ok (.getfield 36, 3) := by decide +kernel
theorem dM_determinant_193 : decode cM_determinant 193 = .ok (.bipush (6), 2) := by decide +kernel
theorem dM_determinant_195 : decode cM_determinant 195 = .ok (.iload 7, 2) := by decide +kernel
theorem dM_determinant_197 : decode cM_determinant 197 = .ok (.imul, 1) := by decide +kernel
theorem dM_determinant_198 : decode cM_determinant 198 = .ok (.iload 8, 2) := by decide +kernel
theorem dM_determinant_200 : decode cM_determinant 200 = .ok (.iadd, 1) := by decide +kernel
theorem dM_determinant_201 : decode cM_determinant 201 = .ok (.aload_n 0, 1) := by decide +kernel
theorem dM_determinant_202 : decode cM_determinant 202 = .ok (.getfield 36, 3) := by decide +kernel
theorem dM_determinant_205 : decode cM_determinant 205 = .ok (.bipush (6), 2) := by decide +kernel
theorem dM_determinant_207 : decode cM_determinant 207 = .ok (.iload 7, 2) := by decide +kernel
theorem dM_determinant_209 : decode cM_determinant 209 = .ok (.imul, 1) := by decide +kernel
theorem dM_determinant_210 : decode cM_determinant 210 = .ok (.iload 8, 2) := by decide +kernel
theorem dM_determinant_212 : decode cM_determinant 212 = .ok (.iadd, 1) := by decide +kernel
theorem dM_determinant_213 : decode cM_determinant 213 = .ok (.laload, 1) := by decide +kernel
theorem dM_determinant_214 : decode cM_determinant 214 = .ok (.aload_n 0, 1) := by decide +kernel
theorem dM_determinant_215 : decode cM_determinant 215 = .ok (.getfield 36, 3) := by decide +kernel
theorem dM_determinant_218 : decode cM_determinant 218 = .ok (.bipush (6), 2) := by decide +kernel
theorem dM_determinant_220 : decode cM_determinant 220 = .ok (.iload 5, 2) := by decide +kernel
theorem dM_determinant_222 : decode cM_determinant 222 = .ok (.imul, 1) := by decide +kernel
theorem dM_determinant_223 : decode cM_determinant 223 = .ok (.iload 5, 2) := by decide +kernel
theorem dM_determinant_225 : decode cM_determinant 225 = .ok (.iadd, 1) := by decide +kernel
theorem dM_determinant_226 : decode cM_determinant 226 = .ok (.laload, 1) := by decide +kernel
theorem dM_determinant_227 : decode cM_determinant 227 = .ok (.lmul, 1) := by decide +kernel
theorem dM_determinant_228 : decode cM_determinant 228 = .ok (.aload_n 0, 1) := by decide +kernel
theorem dM_determinant_229 : decode cM_determinant 229 = .ok (.getfield 36, 3) := by decide +kernel
theorem dM_determinant_232 : decode cM_determinant 232 = .ok (.bipush (6), 2) := by decide +kernel
theorem dM_determinant_234 : decode cM_determinant 234 = .ok (.iload 7, 2) := by decide +kernel
theorem dM_determinant_236 : decode cM_determinant 236 = .ok (.imul, 1) := by decide +kernel
theorem dM_determinant_237 : decode cM_determinant 237 = .ok (.iload 5, 2) := by decide +kernel
theorem dM_determinant_239 : decode cM_determinant 239 = .ok (.iadd, 1) := by decide +kernel
theorem dM_determinant_240 : decode cM_determinant 240 = .ok (.laload, 1) := by decide +kernel
theorem dM_determinant_241 : decode cM_determinant 241 = .ok (.aload_n 0, 1) := by decide +kernel
theorem dM_determinant_242 : decode cM_determinant 242 = .ok (.getfield 36, 3) := by decide +kernel
theorem dM_determinant_245 : decode cM_determinant 245 = .ok (.bipush (6), 2) := by decide +kernel
theorem dM_determinant_247 : decode cM_determinant 247 = .ok (.iload 5, 2) := by decide +kernel
theorem dM_determinant_249 : decode cM_determinant 249 = .ok (.imul, 1) := by decide +kernel
theorem dM_determinant_250 : decode cM_determinant 250 = .ok (.iload 8, 2) := by decide +kernel
theorem dM_determinant_252 : decode cM_determinant 252 = .ok (.iadd, 1) := by decide +kernel
theorem dM_determinant_253 : decode cM_determinant 253 = .ok (.laload, 1) := by decide +kernel
theorem dM_determinant_254 : decode cM_determinant 254 = .ok (.lmul, 1) := by decide +kernel
theorem dM_determinant_255 : decode cM_determinant 255 = .ok (.lsub, 1) := by decide +kernel
theorem dM_determinant_256 : decode cM_determinant 256 = .ok (.lload_n 1, 1) := by decide +kernel
theorem dM_determinant_257 : decode cM_determinant 257 = .ok (.ldiv, 1) := by decide +kernel
theorem dM_determinant_258 : decode cM_determinant 258 = .ok (.lastore, 1) := by decide +kernel
theorem dM_determinant_259 : decode cM_determinant 259 = .ok (.iinc 8 (1), 3) := by decide +kernel
theorem dM_determinant_262 : decode cM_determinant 262 = .ok (.goto (-82), 3) := by decide +kernel
theorem dM_determinant_265 : decode cM_determinant 265 = .ok (.iinc 7 (1), 3) := by decide +kernel
theorem dM_determinant_268 : decode cM_determinant 268 = .ok (.goto (-103), 3) := by decide +kernel
theorem dM_determinant_271 : decode cM_determinant 271 = .ok (.aload_n 0, 1) := by decide +kernel
theorem dM_determinant_272 : decode cM_determinant 272 = .ok (.getfield 36, 3) := by decide +kernel
theorem dM_determinant_275 : decode cM_determinant 275 = .ok (.bipush (6), 2) := by decide +kernel
theorem dM_determinant_277 : decode cM_determinant 277 = .ok (.iload 5, 2) := by decide +kernel
theorem dM_determinant_279 : decode cM_determinant 279 = .ok (.imul, 1) := by decide +kernel
theorem dM_determinant_280 : decode cM_determinant 280 = .ok (.iload 5, 2) := by decide +kernel
theorem dM_determinant_282 : decode cM_determinant 282 = .ok (.iadd, 1) := by decide +kernel
theorem dM_determinant_283 : decode cM_determinant 283 = .ok (.laload, 1) := by decide +kernel
theorem dM_determinant_284 : decode cM_determinant 284 = .ok (.lstore_n 1, 1) := by decide +kernel
theorem dM_determinant_285 : decode cM_determinant 285 = .ok (.iinc 5 (1), 3) := by decide +kernel
theorem dM_determinant_288 : decode cM_determinant 288 = .ok (.goto (-281), 3) := by decide +kernel
theorem dM_determinant_291 : decode cM_determinant 291 = .ok (.lload_n 3, 1) := by decide +kernel
theorem dM_determinant_292 : decode cM_determinant 292 = .ok (.lload_n 1, 1) := by decide +kernel
theorem dM_determinant_293 : decode cM_determinant 293 = .ok (.lmul, 1) := by decide +kernel
theorem dM_determinant_294 : decode cM_determinant 294 = .ok (.lreturn, 1) := by decide +kernel
set_option maxHeartbeats 400000 in
set_option maxRecDepth 100000 in
theorem tM_determinant_180 {p : Program} {l : Launch} {e : Env} {s : State} {m : MethodId} {args : Array Value} {below : List Frame} {meth : Method} {c : Code} {D : va_G} {A : Nat → Prop} {q : Nat → Nat} {k : kM} {cI cJ : ClassId} {r : Int64} {σ' : sM} {fu : Nat} {h7 : sM → Int64 → Int64 → Int32 → Option (Int64 × sM)} {h165 : sM → Int64 → Int64 → Int32 → Int32 → Option (Int64 × sM)} (C0 : Cx p s m args meth c cM_determinant 10 (some .long) RM TM) (hK : va_K D cl0 [(cI, .int), (cJ, .long)] s) (hA : ∀ z, s.heap.size ≤ z → A z) (ih7 : ∀ (σ : sM) (x1 : Int64) (x3 : Int64) (x5 : Int32)(H : Heap) (locs : List Loc) (ls : Array Slot), h7 σ x1 x3 x5 = some (r, σ') → lv_has ls 10 [(0, .ref (q 0)), (1, .long x1), (3, .long x3), (5, .int x5)] → va_P D cl0 (wdM q k cI cJ σ) H → va_D A (wdM q k cI cJ σ) → va_S A s.heap H locs → W p l e ({ frames := 0, cells := 0, slots := 0, locals := 0 }) s m args below meth c H locs 0 0 (MQ below (kQl D cl0 [(cI, .int), (cJ, .long)] (wdM q k cI cJ) A r σ') args s 0 0 A) (F0 m 7 ls [])) (ih165 : ∀ (σ : sM) (x1 : Int64) (x3 : Int64) (x5 : Int32) (x7 : Int32)(H : Heap) (locs : List Loc) (ls : Array Slot), h165 σ x1 x3 x5 x7 = some (r, σ') → lv_has ls 10 [(0, .ref (q 0)), (1, .long x1), (3, .long x3), (5, .int x5), (7, .int x7)] → va_P D cl0 (wdM q k cI cJ σ) H → va_D A (wdM q k cI cJ σ) → va_S A s.heap H locs → W p l e ({ frames := 0, cells := 0, slots := 0, locals := 0 }) s m args below meth c H locs 0 0 (MQ below (kQl D cl0 [(cI, .int), (cJ, .long)] (wdM q k cI cJ) A r σ') args s 0 0 A) (F0 m 165 ls [])) : ∀ n : Nat, ∀ (σ : sM) (x1 : Int64) (x3 : Int64) (x5 : Int32) (x7 : Int32) (x8 : Int32)(H : Heap) (locs : List Loc) (ls : Array Slot), fM_determinant_180 fu k h7 h165 n σ x1 x3 x5 x7 x8 = some (r, σ') → lv_has ls 10 [(0, .ref (q 0)), (1, .long x1), (3, .long x3), (5, .int x5), (7, .int x7), (8, .int x8)] → va_P D cl0 (wdM q k cI cJ σ) H → va_D A (wdM q k cI cJ σ) → va_S A s.heap H locs → W p l e ({ frames := 0, cells := 0, slots := 0, locals := 0 }) s m args below meth c H locs 0 0 (MQ below (kQl D cl0 [(cI, .int), (cJ, .long)] (wdM q k cI cJ) A r σ') args s 0 0 A) (F0 m 180 ls []) := by
  obtain ⟨hx, hb, hr, hml, hown, hts, hlocks⟩ := id C0
  intro n
  induction n with
  | zero =>
    intro σ x1 x3 x5 x7 x8 H locs ls hf hl hP hD hS
    cases hf
  | succ n ih =>
    intro σ x1 x3 x5 x7 x8 H locs ls hf hl hP hD hS
    rw [fM_determinant_180] at hf
    refine lv_iload hx hb dM_determinant_180 (lv_at hl 5 rfl) ?_
    refine lv_aload_n hx hb dM_determinant_182 rfl (lv_at hl 0 rfl) ?_
    refine gM_ages hx hb hown hts hK hP dM_determinant_183 ?_
    refine lv_icmp_ge (tgt := 265) hx hb dM_determinant_186 (by decide) (fun c186 => ?_) (fun c186 => ?_)
    · have hf := (if_pos c186).symm.trans hf
      refine lv_iinc (v := (x7 + 1)) (lv' := [(7, .int (x7 + 1)), (0, .ref (q 0)), (1, .long x1), (3, .long x3), (5, .int x5), (8, .int x8)]) hx hb dM_determinant_265 hl (k := 4) rfl rfl (by decide) rfl (fun ls hl => ?_)
      refine lv_goto (tgt := 165) hx hb dM_determinant_268 (by decide) ?_
      exact ih165 σ x1 x3 x5 (x7 + 1) _ _ ls hf (lv_sub hl [1, 2, 3, 4, 0] rfl) hP hD hS
    · have hf := (if_neg c186).symm.trans hf
      refine lv_aload_n hx hb dM_determinant_189 rfl (lv_at hl 0 rfl) ?_
      refine gM_cells hx hb hown hts hK hP dM_determinant_190 ?_
      refine lv_bipush (v := 6) hx hb dM_determinant_193 (by decide) ?_
      refine lv_iload hx hb dM_determinant_195 (lv_at hl 4 rfl) ?_
      refine lv_imul hx hb dM_determinant_197 ?_
      refine lv_iload hx hb dM_determinant_198 (lv_at hl 5 rfl) ?_
      refine lv_iadd hx hb dM_determinant_200 ?_
      refine lv_aload_n hx hb dM_determinant_201 rfl (lv_at hl 0 rfl) ?_
      refine gM_cells hx hb hown hts hK hP dM_determinant_202 ?_
      refine lv_bipush (v := 6) hx hb dM_determinant_205 (by decide) ?_
      refine lv_iload hx hb dM_determinant_207 (lv_at hl 4 rfl) ?_
      refine lv_imul hx hb dM_determinant_209 ?_
      refine lv_iload hx hb dM_determinant_210 (lv_at hl 5 rfl) ?_
      refine lv_iadd hx hb dM_determinant_212 ?_
      obtain ⟨v213, ev213, hf⟩ := kb1 hf
      refine kr_laload hx hb hK hP 8 1 rfl rfl ev213 dM_determinant_213 ?_
      refine lv_aload_n hx hb dM_determinant_214 rfl (lv_at hl 0 rfl) ?_
      refine gM_cells hx hb hown hts hK hP dM_determinant_215 ?_
      refine lv_bipush (v := 6) hx hb dM_determinant_218 (by decide) ?_
      refine lv_iload hx hb dM_determinant_220 (lv_at hl 3 rfl) ?_
      refine lv_imul hx hb dM_determinant_222 ?_
      refine lv_iload hx hb dM_determinant_223 (lv_at hl 3 rfl) ?_
      refine lv_iadd hx hb dM_determinant_225 ?_
      obtain ⟨v226, ev226, hf⟩ := kb1 hf
      refine kr_laload hx hb hK hP 8 1 rfl rfl ev226 dM_determinant_226 ?_
      refine lv_lmul hx hb dM_determinant_227 ?_
      refine lv_aload_n hx hb dM_determinant_228 rfl (lv_at hl 0 rfl) ?_
      refine gM_cells hx hb hown hts hK hP dM_determinant_229 ?_
      refine lv_bipush (v := 6) hx hb dM_determinant_232 (by decide) ?_
      refine lv_iload hx hb dM_determinant_234 (lv_at hl 4 rfl) ?_
      refine lv_imul hx hb dM_determinant_236 ?_
      refine lv_iload hx hb dM_determinant_237 (lv_at hl 3 rfl) ?_
      refine lv_iadd hx hb dM_determinant_239 ?_
      obtain ⟨v240, ev240, hf⟩ := kb1 hf
      refine kr_laload hx hb hK hP 8 1 rfl rfl ev240 dM_determinant_240 ?_
      refine lv_aload_n hx hb dM_determinant_241 rfl (lv_at hl 0 rfl) ?_
      refine gM_cells hx hb hown hts hK hP dM_determinant_242 ?_
      refine lv_bipush (v := 6) hx hb dM_determinant_245 (by decide) ?_
      refine lv_iload hx hb dM_determinant_247 (lv_at hl 3 rfl) ?_
      refine lv_imul hx hb dM_determinant_249 ?_
      refine lv_iload hx hb dM_determinant_250 (lv_at hl 5 rfl) ?_
      refine lv_iadd hx hb dM_determinant_252 ?_
      obtain ⟨v253, ev253, hf⟩ := kb1 hf
      refine kr_laload hx hb hK hP 8 1 rfl rfl ev253 dM_determinant_253 ?_
      refine lv_lmul hx hb dM_determinant_254 ?_
      refine lv_lsub hx hb dM_determinant_255 ?_
      refine lv_lload_n hx hb dM_determinant_256 rfl (lv_at hl 1 rfl) ?_
      obtain ⟨v257, ev257, hf⟩ := kb1 hf
      refine kr_ldiv hx hb ev257 dM_determinant_257 ?_
      obtain ⟨a258, ea258, hf⟩ := kb1 hf
      refine kr_lastore (σ' := (uM_cells σ a258)) hx hb hK hP hD hS 8 1 rfl rfl ea258 (wM_cells q k cI cJ _ _) dM_determinant_258 (fun H locs hP hD hS => ?_)
      generalize (uM_cells σ a258) = s258 at hf hP hD
      refine lv_iinc (v := (x8 + 1)) (lv' := [(8, .int (x8 + 1)), (0, .ref (q 0)), (1, .long x1), (3, .long x3), (5, .int x5), (7, .int x7)]) hx hb dM_determinant_259 hl (k := 5) rfl rfl (by decide) rfl (fun ls hl => ?_)
      refine lv_goto (tgt := 180) hx hb dM_determinant_262 (by decide) ?_
      exact ih s258 x1 x3 x5 x7 (x8 + 1) _ _ ls hf (lv_sub hl [1, 2, 3, 4, 5, 0] rfl) hP hD hS
set_option maxHeartbeats 400000 in
set_option maxRecDepth 100000 in
theorem tM_determinant_165 {p : Program} {l : Launch} {e : Env} {s : State} {m : MethodId} {args : Array Value} {below : List Frame} {meth : Method} {c : Code} {D : va_G} {A : Nat → Prop} {q : Nat → Nat} {k : kM} {cI cJ : ClassId} {r : Int64} {σ' : sM} {fu : Nat} {h7 : sM → Int64 → Int64 → Int32 → Option (Int64 × sM)} (C0 : Cx p s m args meth c cM_determinant 10 (some .long) RM TM) (hK : va_K D cl0 [(cI, .int), (cJ, .long)] s) (hA : ∀ z, s.heap.size ≤ z → A z) (ih7 : ∀ (σ : sM) (x1 : Int64) (x3 : Int64) (x5 : Int32)(H : Heap) (locs : List Loc) (ls : Array Slot), h7 σ x1 x3 x5 = some (r, σ') → lv_has ls 10 [(0, .ref (q 0)), (1, .long x1), (3, .long x3), (5, .int x5)] → va_P D cl0 (wdM q k cI cJ σ) H → va_D A (wdM q k cI cJ σ) → va_S A s.heap H locs → W p l e ({ frames := 0, cells := 0, slots := 0, locals := 0 }) s m args below meth c H locs 0 0 (MQ below (kQl D cl0 [(cI, .int), (cJ, .long)] (wdM q k cI cJ) A r σ') args s 0 0 A) (F0 m 7 ls [])) : ∀ n : Nat, ∀ (σ : sM) (x1 : Int64) (x3 : Int64) (x5 : Int32) (x7 : Int32)(H : Heap) (locs : List Loc) (ls : Array Slot), fM_determinant_165 fu k h7 n σ x1 x3 x5 x7 = some (r, σ') → lv_has ls 10 [(0, .ref (q 0)), (1, .long x1), (3, .long x3), (5, .int x5), (7, .int x7)] → va_P D cl0 (wdM q k cI cJ σ) H → va_D A (wdM q k cI cJ σ) → va_S A s.heap H locs → W p l e ({ frames := 0, cells := 0, slots := 0, locals := 0 }) s m args below meth c H locs 0 0 (MQ below (kQl D cl0 [(cI, .int), (cJ, .long)] (wdM q k cI cJ) A r σ') args s 0 0 A) (F0 m 165 ls []) := by
  obtain ⟨hx, hb, hr, hml, hown, hts, hlocks⟩ := id C0
  intro n
  induction n with
  | zero =>
    intro σ x1 x3 x5 x7 H locs ls hf hl hP hD hS
    cases hf
  | succ n ih =>
    intro σ x1 x3 x5 x7 H locs ls hf hl hP hD hS
    rw [fM_determinant_165] at hf
    refine lv_iload hx hb dM_determinant_165 (lv_at hl 4 rfl) ?_
    refine lv_aload_n hx hb dM_determinant_167 rfl (lv_at hl 0 rfl) ?_
    refine gM_ages hx hb hown hts hK hP dM_determinant_168 ?_
    refine lv_icmp_ge (tgt := 271) hx hb dM_determinant_171 (by decide) (fun c171 => ?_) (fun c171 => ?_)
    · have hf := (if_pos c171).symm.trans hf
      refine lv_aload_n hx hb dM_determinant_271 rfl (lv_at hl 0 rfl) ?_
      refine gM_cells hx hb hown hts hK hP dM_determinant_272 ?_
      refine lv_bipush (v := 6) hx hb dM_determinant_275 (by decide) ?_
      refine lv_iload hx hb dM_determinant_277 (lv_at hl 3 rfl) ?_
      refine lv_imul hx hb dM_determinant_279 ?_
      refine lv_iload hx hb dM_determinant_280 (lv_at hl 3 rfl) ?_
      refine lv_iadd hx hb dM_determinant_282 ?_
      obtain ⟨v283, ev283, hf⟩ := kb1 hf
      refine kr_laload hx hb hK hP 8 1 rfl rfl ev283 dM_determinant_283 ?_
      refine lv_lstore_n (lv' := [(1, .long v283), (0, .ref (q 0)), (3, .long x3), (5, .int x5), (7, .int x7)]) hx hb dM_determinant_284 rfl hl (by decide) rfl (fun ls hl => ?_)
      refine lv_iinc (v := (x5 + 1)) (lv' := [(5, .int (x5 + 1)), (1, .long v283), (0, .ref (q 0)), (3, .long x3), (7, .int x7)]) hx hb dM_determinant_285 hl (k := 3) rfl rfl (by decide) rfl (fun ls hl => ?_)
      refine lv_goto (tgt := 7) hx hb dM_determinant_288 (by decide) ?_
      exact ih7 σ v283 x3 (x5 + 1) _ _ ls hf (lv_sub hl [2, 1, 3, 0] rfl) hP hD hS
    · have hf := (if_neg c171).symm.trans hf
      refine lv_iload hx hb dM_determinant_174 (lv_at hl 3 rfl) ?_
      refine lv_iconst (v := 1) hx hb dM_determinant_176 (by decide) ?_
      refine lv_iadd hx hb dM_determinant_177 ?_
      refine lv_istore (lv' := [(8, .int (x5 + 1)), (0, .ref (q 0)), (1, .long x1), (3, .long x3), (5, .int x5), (7, .int x7)]) hx hb dM_determinant_178 hl (by decide) rfl (fun ls hl => ?_)
      exact tM_determinant_180 C0 hK hA ih7 ih fu σ x1 x3 x5 x7 (x5 + 1) _ _ ls hf (lv_sub hl [1, 2, 3, 4, 5, 0] rfl) hP hD hS
set_option maxHeartbeats 400000 in
set_option maxRecDepth 100000 in
theorem tM_determinant_158 {p : Program} {l : Launch} {e : Env} {s : State} {m : MethodId} {args : Array Value} {below : List Frame} {meth : Method} {c : Code} {D : va_G} {A : Nat → Prop} {q : Nat → Nat} {k : kM} {cI cJ : ClassId} {r : Int64} {σ' : sM} {fu : Nat} {h7 : sM → Int64 → Int64 → Int32 → Option (Int64 × sM)} (C0 : Cx p s m args meth c cM_determinant 10 (some .long) RM TM) (hK : va_K D cl0 [(cI, .int), (cJ, .long)] s) (hA : ∀ z, s.heap.size ≤ z → A z) (ih7 : ∀ (σ : sM) (x1 : Int64) (x3 : Int64) (x5 : Int32)(H : Heap) (locs : List Loc) (ls : Array Slot), h7 σ x1 x3 x5 = some (r, σ') → lv_has ls 10 [(0, .ref (q 0)), (1, .long x1), (3, .long x3), (5, .int x5)] → va_P D cl0 (wdM q k cI cJ σ) H → va_D A (wdM q k cI cJ σ) → va_S A s.heap H locs → W p l e ({ frames := 0, cells := 0, slots := 0, locals := 0 }) s m args below meth c H locs 0 0 (MQ below (kQl D cl0 [(cI, .int), (cJ, .long)] (wdM q k cI cJ) A r σ') args s 0 0 A) (F0 m 7 ls [])) : ∀ (σ : sM) (y0 : Int64) (x1 : Int64) (x5 : Int32)(H : Heap) (locs : List Loc) (ls : Array Slot), fM_determinant_158 fu k h7 σ y0 x1 x5 = some (r, σ') → lv_has ls 10 [(0, .ref (q 0)), (1, .long x1), (5, .int x5)] → va_P D cl0 (wdM q k cI cJ σ) H → va_D A (wdM q k cI cJ σ) → va_S A s.heap H locs → W p l e ({ frames := 0, cells := 0, slots := 0, locals := 0 }) s m args below meth c H locs 0 0 (MQ below (kQl D cl0 [(cI, .int), (cJ, .long)] (wdM q k cI cJ) A r σ') args s 0 0 A) (F0 m 158 ls [.long y0]) := by
  obtain ⟨hx, hb, hr, hml, hown, hts, hlocks⟩ := id C0
  intro σ y0 x1 x5 H locs ls hf hl hP hD hS
  unfold fM_determinant_158 at hf
  refine lv_lstore_n (lv' := [(3, .long y0), (0, .ref (q 0)), (1, .long x1), (5, .int x5)]) hx hb dM_determinant_158 rfl hl (by decide) rfl (fun ls hl => ?_)
  refine lv_iload hx hb dM_determinant_159 (lv_at hl 3 rfl) ?_
  refine lv_iconst (v := 1) hx hb dM_determinant_161 (by decide) ?_
  refine lv_iadd hx hb dM_determinant_162 ?_
  refine lv_istore (lv' := [(7, .int (x5 + 1)), (3, .long y0), (0, .ref (q 0)), (1, .long x1), (5, .int x5)]) hx hb dM_determinant_163 hl (by decide) rfl (fun ls hl => ?_)
  exact tM_determinant_165 C0 hK hA ih7 fu σ x1 y0 x5 (x5 + 1) _ _ ls hf (lv_sub hl [2, 3, 1, 4, 0] rfl) hP hD hS
set_option maxHeartbeats 400000 in
set_option maxRecDepth 100000 in
theorem tM_determinant_145 {p : Program} {l : Launch} {e : Env} {s : State} {m : MethodId} {args : Array Value} {below : List Frame} {meth : Method} {c : Code} {D : va_G} {A : Nat → Prop} {q : Nat → Nat} {k : kM} {cI cJ : ClassId} {r : Int64} {σ' : sM} {fu : Nat} {h7 : sM → Int64 → Int64 → Int32 → Option (Int64 × sM)} (C0 : Cx p s m args meth c cM_determinant 10 (some .long) RM TM) (hK : va_K D cl0 [(cI, .int), (cJ, .long)] s) (hA : ∀ z, s.heap.size ≤ z → A z) (ih7 : ∀ (σ : sM) (x1 : Int64) (x3 : Int64) (x5 : Int32)(H : Heap) (locs : List Loc) (ls : Array Slot), h7 σ x1 x3 x5 = some (r, σ') → lv_has ls 10 [(0, .ref (q 0)), (1, .long x1), (3, .long x3), (5, .int x5)] → va_P D cl0 (wdM q k cI cJ σ) H → va_D A (wdM q k cI cJ σ) → va_S A s.heap H locs → W p l e ({ frames := 0, cells := 0, slots := 0, locals := 0 }) s m args below meth c H locs 0 0 (MQ below (kQl D cl0 [(cI, .int), (cJ, .long)] (wdM q k cI cJ) A r σ') args s 0 0 A) (F0 m 7 ls [])) : ∀ (σ : sM) (x1 : Int64) (x3 : Int64) (x5 : Int32) (x6 : Int32)(H : Heap) (locs : List Loc) (ls : Array Slot), fM_determinant_145 fu k h7 σ x1 x3 x5 x6 = some (r, σ') → lv_has ls 10 [(0, .ref (q 0)), (1, .long x1), (3, .long x3), (5, .int x5), (6, .int x6)] → va_P D cl0 (wdM q k cI cJ σ) H → va_D A (wdM q k cI cJ σ) → va_S A s.heap H locs → W p l e ({ frames := 0, cells := 0, slots := 0, locals := 0 }) s m args below meth c H locs 0 0 (MQ below (kQl D cl0 [(cI, .int), (cJ, .long)] (wdM q k cI cJ) A r σ') args s 0 0 A) (F0 m 145 ls []) := by
  obtain ⟨hx, hb, hr, hml, hown, hts, hlocks⟩ := id C0
  intro σ x1 x3 x5 x6 H locs ls hf hl hP hD hS
  unfold fM_determinant_145 at hf
  refine lv_iload hx hb dM_determinant_145 (lv_at hl 4 rfl) ?_
  refine lv_iload hx hb dM_determinant_147 (lv_at hl 3 rfl) ?_
  refine lv_icmp_eq (tgt := 157) hx hb dM_determinant_149 (by decide) (fun c149 => ?_) (fun c149 => ?_)
  · have hf := (if_pos c149).symm.trans hf
    refine lv_lload_n hx hb dM_determinant_157 rfl (lv_at hl 2 rfl) ?_
    exact tM_determinant_158 C0 hK hA ih7 σ x3 x1 x5 _ _ ls hf (lv_sub hl [0, 1, 3] rfl) hP hD hS
  · have hf := (if_neg c149).symm.trans hf
    refine lv_lload_n hx hb dM_determinant_152 rfl (lv_at hl 2 rfl) ?_
    refine lv_lneg hx hb dM_determinant_153 ?_
    refine lv_goto (tgt := 158) hx hb dM_determinant_154 (by decide) ?_
    exact tM_determinant_158 C0 hK hA ih7 σ (-x3) x1 x5 _ _ ls hf (lv_sub hl [0, 1, 3] rfl) hP hD hS
set_option maxHeartbeats 400000 in
set_option maxRecDepth 100000 in
theorem tM_determinant_67 {p : Program} {l : Launch} {e : Env} {s : State} {m : MethodId} {args : Array Value} {below : List Frame} {meth : Method} {c : Code} {D : va_G} {A : Nat → Prop} {q : Nat → Nat} {k : kM} {cI cJ : ClassId} {r : Int64} {σ' : sM} {fu : Nat} {h7 : sM → Int64 → Int64 → Int32 → Option (Int64 × sM)} (C0 : Cx p s m args meth c cM_determinant 10 (some .long) RM TM) (hK : va_K D cl0 [(cI, .int), (cJ, .long)] s) (hA : ∀ z, s.heap.size ≤ z → A z) (ih7 : ∀ (σ : sM) (x1 : Int64) (x3 : Int64) (x5 : Int32)(H : Heap) (locs : List Loc) (ls : Array Slot), h7 σ x1 x3 x5 = some (r, σ') → lv_has ls 10 [(0, .ref (q 0)), (1, .long x1), (3, .long x3), (5, .int x5)] → va_P D cl0 (wdM q k cI cJ σ) H → va_D A (wdM q k cI cJ σ) → va_S A s.heap H locs → W p l e ({ frames := 0, cells := 0, slots := 0, locals := 0 }) s m args below meth c H locs 0 0 (MQ below (kQl D cl0 [(cI, .int), (cJ, .long)] (wdM q k cI cJ) A r σ') args s 0 0 A) (F0 m 7 ls [])) : ∀ n : Nat, ∀ (σ : sM) (x1 : Int64) (x3 : Int64) (x5 : Int32) (x6 : Int32) (x7 : Int32)(H : Heap) (locs : List Loc) (ls : Array Slot), fM_determinant_67 fu k h7 n σ x1 x3 x5 x6 x7 = some (r, σ') → lv_has ls 10 [(0, .ref (q 0)), (1, .long x1), (3, .long x3), (5, .int x5), (6, .int x6), (7, .int x7)] → va_P D cl0 (wdM q k cI cJ σ) H → va_D A (wdM q k cI cJ σ) → va_S A s.heap H locs → W p l e ({ frames := 0, cells := 0, slots := 0, locals := 0 }) s m args below meth c H locs 0 0 (MQ below (kQl D cl0 [(cI, .int), (cJ, .long)] (wdM q k cI cJ) A r σ') args s 0 0 A) (F0 m 67 ls []) := by
  obtain ⟨hx, hb, hr, hml, hown, hts, hlocks⟩ := id C0
  intro n
  induction n with
  | zero =>
    intro σ x1 x3 x5 x6 x7 H locs ls hf hl hP hD hS
    cases hf
  | succ n ih =>
    intro σ x1 x3 x5 x6 x7 H locs ls hf hl hP hD hS
    rw [fM_determinant_67] at hf
    refine lv_iload hx hb dM_determinant_67 (lv_at hl 5 rfl) ?_
    refine lv_aload_n hx hb dM_determinant_69 rfl (lv_at hl 0 rfl) ?_
    refine gM_ages hx hb hown hts hK hP dM_determinant_70 ?_
    refine lv_icmp_ge (tgt := 145) hx hb dM_determinant_73 (by decide) (fun c73 => ?_) (fun c73 => ?_)
    · have hf := (if_pos c73).symm.trans hf
      exact tM_determinant_145 C0 hK hA ih7 σ x1 x3 x5 x6 _ _ ls hf (lv_sub hl [0, 1, 2, 3, 4] rfl) hP hD hS
    · have hf := (if_neg c73).symm.trans hf
      refine lv_iload hx hb dM_determinant_76 (lv_at hl 4 rfl) ?_
      refine lv_iload hx hb dM_determinant_78 (lv_at hl 3 rfl) ?_
      refine lv_icmp_eq (tgt := 145) hx hb dM_determinant_80 (by decide) (fun c80 => ?_) (fun c80 => ?_)
      · have hf := (if_pos c80).symm.trans hf
        exact tM_determinant_145 C0 hK hA ih7 σ x1 x3 x5 x6 _ _ ls hf (lv_sub hl [0, 1, 2, 3, 4] rfl) hP hD hS
      · have hf := (if_neg c80).symm.trans hf
        refine lv_aload_n hx hb dM_determinant_83 rfl (lv_at hl 0 rfl) ?_
        refine gM_cells hx hb hown hts hK hP dM_determinant_84 ?_
        refine lv_bipush (v := 6) hx hb dM_determinant_87 (by decide) ?_
        refine lv_iload hx hb dM_determinant_89 (lv_at hl 3 rfl) ?_
        refine lv_imul hx hb dM_determinant_91 ?_
        refine lv_iload hx hb dM_determinant_92 (lv_at hl 5 rfl) ?_
        refine lv_iadd hx hb dM_determinant_94 ?_
        obtain ⟨v95, ev95, hf⟩ := kb1 hf
        refine kr_laload hx hb hK hP 8 1 rfl rfl ev95 dM_determinant_95 ?_
        refine lv_lstore (lv' := [(8, .long v95), (0, .ref (q 0)), (1, .long x1), (3, .long x3), (5, .int x5), (6, .int x6), (7, .int x7)]) hx hb dM_determinant_96 hl (by decide) rfl (fun ls hl => ?_)
        refine lv_aload_n hx hb dM_determinant_98 rfl (lv_at hl 1 rfl) ?_
        refine gM_cells hx hb hown hts hK hP dM_determinant_99 ?_
        refine lv_bipush (v := 6) hx hb dM_determinant_102 (by decide) ?_
        refine lv_iload hx hb dM_determinant_104 (lv_at hl 4 rfl) ?_
        refine lv_imul hx hb dM_determinant_106 ?_
        refine lv_iload hx hb dM_determinant_107 (lv_at hl 6 rfl) ?_
        refine lv_iadd hx hb dM_determinant_109 ?_
        refine lv_aload_n hx hb dM_determinant_110 rfl (lv_at hl 1 rfl) ?_
        refine gM_cells hx hb hown hts hK hP dM_determinant_111 ?_
        refine lv_bipush (v := 6) hx hb dM_determinant_114 (by decide) ?_
        refine lv_iload hx hb dM_determinant_116 (lv_at hl 5 rfl) ?_
        refine lv_imul hx hb dM_determinant_118 ?_
        refine lv_iload hx hb dM_determinant_119 (lv_at hl 6 rfl) ?_
        refine lv_iadd hx hb dM_determinant_121 ?_
        obtain ⟨v122, ev122, hf⟩ := kb1 hf
        refine kr_laload hx hb hK hP 8 1 rfl rfl ev122 dM_determinant_122 ?_
        obtain ⟨a123, ea123, hf⟩ := kb1 hf
        refine kr_lastore (σ' := (uM_cells σ a123)) hx hb hK hP hD hS 8 1 rfl rfl ea123 (wM_cells q k cI cJ _ _) dM_determinant_123 (fun H locs hP hD hS => ?_)
        generalize (uM_cells σ a123) = s123 at hf hP hD
        refine lv_aload_n hx hb dM_determinant_124 rfl (lv_at hl 1 rfl) ?_
        refine gM_cells hx hb hown hts hK hP dM_determinant_125 ?_
        refine lv_bipush (v := 6) hx hb dM_determinant_128 (by decide) ?_
        refine lv_iload hx hb dM_determinant_130 (lv_at hl 5 rfl) ?_
        refine lv_imul hx hb dM_determinant_132 ?_
        refine lv_iload hx hb dM_determinant_133 (lv_at hl 6 rfl) ?_
        refine lv_iadd hx hb dM_determinant_135 ?_
        refine lv_lload hx hb dM_determinant_136 (lv_at hl 0 rfl) ?_
        obtain ⟨a138, ea138, hf⟩ := kb1 hf
        refine kr_lastore (σ' := (uM_cells s123 a138)) hx hb hK hP hD hS 8 1 rfl rfl ea138 (wM_cells q k cI cJ _ _) dM_determinant_138 (fun H locs hP hD hS => ?_)
        generalize (uM_cells s123 a138) = s138 at hf hP hD
        refine lv_iinc (v := (x7 + 1)) (lv' := [(7, .int (x7 + 1)), (8, .long v95), (0, .ref (q 0)), (1, .long x1), (3, .long x3), (5, .int x5), (6, .int x6)]) hx hb dM_determinant_139 hl (k := 6) rfl rfl (by decide) rfl (fun ls hl => ?_)
        refine lv_goto (tgt := 67) hx hb dM_determinant_142 (by decide) ?_
        exact ih s138 x1 x3 x5 x6 (x7 + 1) _ _ ls hf (lv_sub hl [2, 3, 4, 5, 6, 0] rfl) hP hD hS
set_option maxHeartbeats 400000 in
set_option maxRecDepth 100000 in
theorem tM_determinant_53 {p : Program} {l : Launch} {e : Env} {s : State} {m : MethodId} {args : Array Value} {below : List Frame} {meth : Method} {c : Code} {D : va_G} {A : Nat → Prop} {q : Nat → Nat} {k : kM} {cI cJ : ClassId} {r : Int64} {σ' : sM} {fu : Nat} {h7 : sM → Int64 → Int64 → Int32 → Option (Int64 × sM)} (C0 : Cx p s m args meth c cM_determinant 10 (some .long) RM TM) (hK : va_K D cl0 [(cI, .int), (cJ, .long)] s) (hA : ∀ z, s.heap.size ≤ z → A z) (ih7 : ∀ (σ : sM) (x1 : Int64) (x3 : Int64) (x5 : Int32)(H : Heap) (locs : List Loc) (ls : Array Slot), h7 σ x1 x3 x5 = some (r, σ') → lv_has ls 10 [(0, .ref (q 0)), (1, .long x1), (3, .long x3), (5, .int x5)] → va_P D cl0 (wdM q k cI cJ σ) H → va_D A (wdM q k cI cJ σ) → va_S A s.heap H locs → W p l e ({ frames := 0, cells := 0, slots := 0, locals := 0 }) s m args below meth c H locs 0 0 (MQ below (kQl D cl0 [(cI, .int), (cJ, .long)] (wdM q k cI cJ) A r σ') args s 0 0 A) (F0 m 7 ls [])) : ∀ (σ : sM) (x1 : Int64) (x3 : Int64) (x5 : Int32) (x6 : Int32)(H : Heap) (locs : List Loc) (ls : Array Slot), fM_determinant_53 fu k h7 σ x1 x3 x5 x6 = some (r, σ') → lv_has ls 10 [(0, .ref (q 0)), (1, .long x1), (3, .long x3), (5, .int x5), (6, .int x6)] → va_P D cl0 (wdM q k cI cJ σ) H → va_D A (wdM q k cI cJ σ) → va_S A s.heap H locs → W p l e ({ frames := 0, cells := 0, slots := 0, locals := 0 }) s m args below meth c H locs 0 0 (MQ below (kQl D cl0 [(cI, .int), (cJ, .long)] (wdM q k cI cJ) A r σ') args s 0 0 A) (F0 m 53 ls []) := by
  obtain ⟨hx, hb, hr, hml, hown, hts, hlocks⟩ := id C0
  intro σ x1 x3 x5 x6 H locs ls hf hl hP hD hS
  unfold fM_determinant_53 at hf
  refine lv_iload hx hb dM_determinant_53 (lv_at hl 4 rfl) ?_
  refine lv_aload_n hx hb dM_determinant_55 rfl (lv_at hl 0 rfl) ?_
  refine gM_ages hx hb hown hts hK hP dM_determinant_56 ?_
  refine lv_icmp_ne (tgt := 64) hx hb dM_determinant_59 (by decide) (fun c59 => ?_) (fun c59 => ?_)
  · have hf := (if_neg c59).symm.trans hf
    refine lv_iconst (v := 0) hx hb dM_determinant_64 (by decide) ?_
    refine lv_istore (lv' := [(7, .int 0), (0, .ref (q 0)), (1, .long x1), (3, .long x3), (5, .int x5), (6, .int x6)]) hx hb dM_determinant_65 hl (by decide) rfl (fun ls hl => ?_)
    exact tM_determinant_67 C0 hK hA ih7 fu σ x1 x3 x5 x6 0 _ _ ls hf (lv_sub hl [1, 2, 3, 4, 5, 0] rfl) hP hD hS
  · have hf := (if_pos c59).symm.trans hf
    refine lv_lconst (v := 0) hx hb dM_determinant_62 (by decide) ?_
    exact kr_lret C0 hK hP hD hS (congrArg Prod.fst (Option.some.inj hf)) (congrArg Prod.snd (Option.some.inj hf)) dM_determinant_63
set_option maxHeartbeats 400000 in
set_option maxRecDepth 100000 in
theorem tM_determinant_20 {p : Program} {l : Launch} {e : Env} {s : State} {m : MethodId} {args : Array Value} {below : List Frame} {meth : Method} {c : Code} {D : va_G} {A : Nat → Prop} {q : Nat → Nat} {k : kM} {cI cJ : ClassId} {r : Int64} {σ' : sM} {fu : Nat} {h7 : sM → Int64 → Int64 → Int32 → Option (Int64 × sM)} (C0 : Cx p s m args meth c cM_determinant 10 (some .long) RM TM) (hK : va_K D cl0 [(cI, .int), (cJ, .long)] s) (hA : ∀ z, s.heap.size ≤ z → A z) (ih7 : ∀ (σ : sM) (x1 : Int64) (x3 : Int64) (x5 : Int32)(H : Heap) (locs : List Loc) (ls : Array Slot), h7 σ x1 x3 x5 = some (r, σ') → lv_has ls 10 [(0, .ref (q 0)), (1, .long x1), (3, .long x3), (5, .int x5)] → va_P D cl0 (wdM q k cI cJ σ) H → va_D A (wdM q k cI cJ σ) → va_S A s.heap H locs → W p l e ({ frames := 0, cells := 0, slots := 0, locals := 0 }) s m args below meth c H locs 0 0 (MQ below (kQl D cl0 [(cI, .int), (cJ, .long)] (wdM q k cI cJ) A r σ') args s 0 0 A) (F0 m 7 ls [])) : ∀ n : Nat, ∀ (σ : sM) (x1 : Int64) (x3 : Int64) (x5 : Int32) (x6 : Int32)(H : Heap) (locs : List Loc) (ls : Array Slot), fM_determinant_20 fu k h7 n σ x1 x3 x5 x6 = some (r, σ') → lv_has ls 10 [(0, .ref (q 0)), (1, .long x1), (3, .long x3), (5, .int x5), (6, .int x6)] → va_P D cl0 (wdM q k cI cJ σ) H → va_D A (wdM q k cI cJ σ) → va_S A s.heap H locs → W p l e ({ frames := 0, cells := 0, slots := 0, locals := 0 }) s m args below meth c H locs 0 0 (MQ below (kQl D cl0 [(cI, .int), (cJ, .long)] (wdM q k cI cJ) A r σ') args s 0 0 A) (F0 m 20 ls []) := by
  obtain ⟨hx, hb, hr, hml, hown, hts, hlocks⟩ := id C0
  intro n
  induction n with
  | zero =>
    intro σ x1 x3 x5 x6 H locs ls hf hl hP hD hS
    cases hf
  | succ n ih =>
    intro σ x1 x3 x5 x6 H locs ls hf hl hP hD hS
    rw [fM_determinant_20] at hf
    refine lv_iload hx hb dM_determinant_20 (lv_at hl 4 rfl) ?_
    refine lv_aload_n hx hb dM_determinant_22 rfl (lv_at hl 0 rfl) ?_
    refine gM_ages hx hb hown hts hK hP dM_determinant_23 ?_
    refine lv_icmp_ge (tgt := 53) hx hb dM_determinant_26 (by decide) (fun c26 => ?_) (fun c26 => ?_)
    · have hf := (if_pos c26).symm.trans hf
      exact tM_determinant_53 C0 hK hA ih7 σ x1 x3 x5 x6 _ _ ls hf (lv_sub hl [0, 1, 2, 3, 4] rfl) hP hD hS
    · have hf := (if_neg c26).symm.trans hf
      refine lv_aload_n hx hb dM_determinant_29 rfl (lv_at hl 0 rfl) ?_
      refine gM_cells hx hb hown hts hK hP dM_determinant_30 ?_
      refine lv_bipush (v := 6) hx hb dM_determinant_33 (by decide) ?_
      refine lv_iload hx hb dM_determinant_35 (lv_at hl 4 rfl) ?_
      refine lv_imul hx hb dM_determinant_37 ?_
      refine lv_iload hx hb dM_determinant_38 (lv_at hl 3 rfl) ?_
      refine lv_iadd hx hb dM_determinant_40 ?_
      obtain ⟨v41, ev41, hf⟩ := kb1 hf
      refine kr_laload hx hb hK hP 8 1 rfl rfl ev41 dM_determinant_41 ?_
      refine lv_lconst (v := 0) hx hb dM_determinant_42 (by decide) ?_
      refine W.lcmp hx hb dM_determinant_43 ?_
      refine lv_if_ne (tgt := 53) hx hb dM_determinant_44 (by decide) (fun c43 => ?_) (fun c43 => ?_)
      · rw [lg_cmp_eq] at c43
        have hf := (if_neg c43).symm.trans hf
        exact tM_determinant_53 C0 hK hA ih7 σ x1 x3 x5 x6 _ _ ls hf (lv_sub hl [0, 1, 2, 3, 4] rfl) hP hD hS
      · rw [lg_cmp_eq] at c43
        have hf := (if_pos c43).symm.trans hf
        refine lv_iinc (v := (x6 + 1)) (lv' := [(6, .int (x6 + 1)), (0, .ref (q 0)), (1, .long x1), (3, .long x3), (5, .int x5)]) hx hb dM_determinant_47 hl (k := 4) rfl rfl (by decide) rfl (fun ls hl => ?_)
        refine lv_goto (tgt := 20) hx hb dM_determinant_50 (by decide) ?_
        exact ih σ x1 x3 x5 (x6 + 1) _ _ ls hf (lv_sub hl [1, 2, 3, 4, 0] rfl) hP hD hS
set_option maxHeartbeats 400000 in
set_option maxRecDepth 100000 in
theorem tM_determinant_7 {p : Program} {l : Launch} {e : Env} {s : State} {m : MethodId} {args : Array Value} {below : List Frame} {meth : Method} {c : Code} {D : va_G} {A : Nat → Prop} {q : Nat → Nat} {k : kM} {cI cJ : ClassId} {r : Int64} {σ' : sM} {fu : Nat} (C0 : Cx p s m args meth c cM_determinant 10 (some .long) RM TM) (hK : va_K D cl0 [(cI, .int), (cJ, .long)] s) (hA : ∀ z, s.heap.size ≤ z → A z) : ∀ n : Nat, ∀ (σ : sM) (x1 : Int64) (x3 : Int64) (x5 : Int32)(H : Heap) (locs : List Loc) (ls : Array Slot), fM_determinant_7 fu k n σ x1 x3 x5 = some (r, σ') → lv_has ls 10 [(0, .ref (q 0)), (1, .long x1), (3, .long x3), (5, .int x5)] → va_P D cl0 (wdM q k cI cJ σ) H → va_D A (wdM q k cI cJ σ) → va_S A s.heap H locs → W p l e ({ frames := 0, cells := 0, slots := 0, locals := 0 }) s m args below meth c H locs 0 0 (MQ below (kQl D cl0 [(cI, .int), (cJ, .long)] (wdM q k cI cJ) A r σ') args s 0 0 A) (F0 m 7 ls []) := by
  obtain ⟨hx, hb, hr, hml, hown, hts, hlocks⟩ := id C0
  intro n
  induction n with
  | zero =>
    intro σ x1 x3 x5 H locs ls hf hl hP hD hS
    cases hf
  | succ n ih =>
    intro σ x1 x3 x5 H locs ls hf hl hP hD hS
    rw [fM_determinant_7] at hf
    refine lv_iload hx hb dM_determinant_7 (lv_at hl 3 rfl) ?_
    refine lv_aload_n hx hb dM_determinant_9 rfl (lv_at hl 0 rfl) ?_
    refine gM_ages hx hb hown hts hK hP dM_determinant_10 ?_
    refine lv_icmp_ge (tgt := 291) hx hb dM_determinant_13 (by decide) (fun c13 => ?_) (fun c13 => ?_)
    · have hf := (if_pos c13).symm.trans hf
      refine lv_lload_n hx hb dM_determinant_291 rfl (lv_at hl 2 rfl) ?_
      refine lv_lload_n hx hb dM_determinant_292 rfl (lv_at hl 1 rfl) ?_
      refine lv_lmul hx hb dM_determinant_293 ?_
      exact kr_lret C0 hK hP hD hS (congrArg Prod.fst (Option.some.inj hf)) (congrArg Prod.snd (Option.some.inj hf)) dM_determinant_294
    · have hf := (if_neg c13).symm.trans hf
      refine lv_iload hx hb dM_determinant_16 (lv_at hl 3 rfl) ?_
      refine lv_istore (lv' := [(6, .int x5), (0, .ref (q 0)), (1, .long x1), (3, .long x3), (5, .int x5)]) hx hb dM_determinant_18 hl (by decide) rfl (fun ls hl => ?_)
      exact tM_determinant_20 C0 hK hA ih fu σ x1 x3 x5 x5 _ _ ls hf (lv_sub hl [1, 2, 3, 4, 0] rfl) hP hD hS
set_option maxHeartbeats 400000 in
set_option maxRecDepth 100000 in
theorem mM_determinant (l : Launch) (D : va_G) (q : Nat → Nat) (k : kM) (cI cJ : ClassId) (sz : Nat) (fu : Nat) (σ : sM) (σ' : sM) (r : Int64) (hf : fM_determinant fu k σ = some (r, σ')) : Met l yM_determinant (.code yM_determinant cM_determinant 10 (some .long) :: TM) ({ frames := 0, cells := 0, slots := 0, locals := 0 }) (kPre D cl0 [(cI, .int), (cJ, .long)] (wdM q k cI cJ) sz σ [.ref (q 0)]) (kQl D cl0 [(cI, .int), (cJ, .long)] (wdM q k cI cJ) (va_A (wdM q k cI cJ σ) sz) r σ') 0 0 (va_A (wdM q k cI cJ σ) sz) := by
  refine kr_start (own := RM) (by decide) rfl (Nat.le_of_ble_eq_true rfl) ?_
  intro p e s m args below meth c ls C0 hsz hK hP hD hl
  subst hsz
  obtain ⟨hx, hb, hr, hml, hown, hts, hlocks⟩ := id C0
  have hA : ∀ z : Nat, s.heap.size ≤ z → va_A (wdM q k cI cJ σ) s.heap.size z := fun z h => Or.inr h
  generalize va_A (wdM q k cI cJ σ) s.heap.size = A at hD hA ⊢
  have hS : va_S A s.heap s.heap [] := va_S.rf
  have hl : lv_has ls 10 [(0, .ref (q 0))] := hl
  unfold fM_determinant at hf
  refine lv_lconst (v := 1) hx hb dM_determinant_0 (by decide) ?_
  refine lv_lstore_n (lv' := [(1, .long (1 : Int64)), (0, .ref (q 0))]) hx hb dM_determinant_1 rfl hl (by decide) rfl (fun ls hl => ?_)
  refine lv_lconst (v := 1) hx hb dM_determinant_2 (by decide) ?_
  refine lv_lstore_n (lv' := [(3, .long (1 : Int64)), (1, .long (1 : Int64)), (0, .ref (q 0))]) hx hb dM_determinant_3 rfl hl (by decide) rfl (fun ls hl => ?_)
  refine lv_iconst (v := 0) hx hb dM_determinant_4 (by decide) ?_
  refine lv_istore (lv' := [(5, .int 0), (3, .long (1 : Int64)), (1, .long (1 : Int64)), (0, .ref (q 0))]) hx hb dM_determinant_5 hl (by decide) rfl (fun ls hl => ?_)
  exact tM_determinant_7 C0 hK hA fu σ (1 : Int64) (1 : Int64) 0 _ _ ls hf (lv_sub hl [3, 2, 1, 0] rfl) hP hD hS
