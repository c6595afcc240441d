theorem dK_canRaise_0 : decode cK_canRaise 0 = .ok (.lload_n 1, 1) := by decide +kernel
theorem dK_canRaise_1 : decode cK_canRaise 1 = .ok (.lconst 0, 1) := by decide +kernel
theorem dK_canRaise_2 : decode cK_canRaise 2 = .ok (.lcmp, 1) := by decide +kernel
theorem dK_canRaise_3 : decode cK_canRaise 3 = .ok (.ifCond .lt (20), 3) := by decide +kernel
theorem dK_canRaise_6 : decode cK_canRaise 6 = .ok (.lload_n 1, 1) := by decide +kernel
theorem dK_canRaise_7 : decode cK_canRaise 7 = .ok (.ldc2_w 138, 3) := by decide +kernel
theorem dK_canRaise_10 : decode cK_canRaise 10 = .ok (.lcmp, 1) := by decide +kernel
theorem dK_canRaise_11 : decode cK_canRaise 11 = .ok (.ifCond .gt (12), 3) := by decide +kernel
theorem dK_canRaise_14 : decode cK_canRaise 14 = .ok (.aload_n 0, 1) := by decide +kernel
theorem dK_canRaise_15 : decode cK_canRaise 15 = .ok (.getfield 13, 3) := by decide +kernel
theorem dK_canRaise_18 : decode cK_canRaise 18 = .ok (.lconst 0, 1) := by decide +kernel
theorem dK_canRaise_19 : decode cK_canRaise 19 = .ok (.lcmp, 1) := by decide +kernel
theorem dK_canRaise_20 : decode cK_canRaise 20 = .ok (.ifCond .ne (5), 3) := by decide +kernel
theorem dK_canRaise_23 : decode cK_canRaise 23 = .ok (.iconst 0, 1) := by decide +kernel
theorem dK_canRaise_24 : decode cK_canRaise 24 = .ok (.ireturn, 1) := by decide +kernel
theorem dK_canRaise_25 : decode cK_canRaise 25 = .ok (.iconst 0, 1) := by decide +kernel
theorem dK_canRaise_26 : decode cK_canRaise 26 = .ok (.istore_n 3, 1) := by decide +kernel
theorem dK_canRaise_27 : decode cK_canRaise 27 = .ok (.iload_n 3, 1) := by decide +kernel
theorem dK_canRaise_28 : decode cK_canRaise 28 = .ok (.aload_n 0, 1) := by decide +kernel
theorem dK_canRaise_29 : decode cK_canRaise 29 = .ok (.getfield 26, 3) := by decide +kernel
theorem dK_canRaise_32 : decode cK_canRaise 32 = .ok (.if_icmp .ge (36), 3) := by decide +kernel
theorem dK_canRaise_35 : decode cK_canRaise 35 = .ok (.aload_n 0, 1) := by decide +kernel
theorem dK_canRaise_36 : decode cK_canRaise 36 = .ok (.getfield 51, 3) := by decide +kernel
theorem dK_canRaise_39 : decode cK_canRaise 39 = .ok (.iload_n 3, 1) := by decide +kernel
theorem dK_canRaise_40 : decode cK_canRaise 40 = .ok (.laload, 1) := by decide +kernel
theorem dK_canRaise_41 : decode cK_canRaise 41 = .ok (.lconst 0, 1) := by decide +kernel
theorem dK_canRaise_42 : decode cK_canRaise 42 = .ok (.lcmp, 1) := by decide +kernel
theorem dK_canRaise_43 : decode cK_canRaise 43 = .ok (.ifCond .le (19), 3) := by decide +kernel
theorem dK_canRaise_46 : decode cK_canRaise 46 = .ok (.aload_n 0, 1) := by decide +kernel
theorem dK_canRaise_47 : decode cK_canRaise 47 = .ok (.aload_n 0, 1) := by decide +kernel
theorem dK_canRaise_48 : decode cK_canRaise 48 = .ok (.getfield 45, 3) := by decide +kernel
theorem dK_canRaise_51 : decode cK_canRaise 51 = .ok (.iload_n 3, 1) := by decide +kernel
theorem dK_canRaise_52 : decode cK_canRaise 52 = .ok (.iaload, 1) := by decide +kernel
theorem dK_canRaise_53 : decode cK_canRaise 53 = .ok (.invokevirtual 105, 3) := by decide +kernel
theorem dK_canRaise_56 : decode cK_canRaise 56 = .ok (.iconst (-1), 1) := by decide +kernel
theorem dK_canRaise_57 : decode cK_canRaise 57 = .ok (.if_icmp .ne (5), 3) := by decide +kernel
theorem dK_canRaise_60 : decode cK_canRaise 60 = .ok (.iconst 0, 1) := by decide +kernel
theorem dK_canRaise_61 : decode cK_canRaise 61 = .ok (.ireturn, 1) := by decide +kernel
theorem dK_canRaise_62 : decode cK_canRaise 62 = .ok (.iinc 3 (1), 3) := by decide +kernel
theorem dK_canRaise_65 : decode cK_canRaise 65 = .ok (.goto (-38), 3) := by decide +kernel
theorem dK_canRaise_68 : decode cK_canRaise 68 = .ok (.iconst 1, 1) := by decide +kernel
theorem dK_canRaise_69 : decode cK_canRaise 69 = .ok (.ireturn, 1) := by decide +kernel
set_option maxHeartbeats 400000 in
set_option maxRecDepth 100000 in
theorem tK_canRaise_27 {p : Program} {l : Launch} {e : Env} {s : State} {m : MethodId} {args : Array Value} {below : List Frame} {meth : Method} {c : Code} {D : va_G} {A : Nat → Prop} {q : Nat → Nat} {k : kK} {cI cJ : ClassId} {r : Int32} {σ : sK} {fu : Nat} (C0 : Cx p s m args meth c cK_canRaise 4 (some .boolean) RK TK) (hK : va_K D cl0 [(cI, .int), (cJ, .long)] s) (hA : ∀ z, s.heap.size ≤ z → A z) : ∀ n : Nat, ∀ (x3 : Int32)(H : Heap) (locs : List Loc) (ls : Array Slot), fK_canRaise_27 fu k σ n x3 = some r → lv_has ls 4 [(0, .ref (q 0)), (3, .int x3)] → va_P D cl0 (wdK q k cI cJ σ) H → va_D A (wdK q k cI cJ σ) → va_S A s.heap H locs → W p l e ({ frames := 3, cells := 0, slots := 0, locals := 65 }) s m args below meth c H locs 0 0 (MQ below (kQi D cl0 [(cI, .int), (cJ, .long)] (wdK q k cI cJ) A r σ) args s 0 0 A) (F0 m 27 ls []) := by
  obtain ⟨hx, hb, hr, hml, hown, hts, hlocks⟩ := id C0
  intro n
  induction n with
  | zero =>
    intro x3 H locs ls hf hl hP hD hS
    cases hf
  | succ n ih =>
    intro x3 H locs ls hf hl hP hD hS
    rw [fK_canRaise_27] at hf
    refine lv_iload_n hx hb dK_canRaise_27 rfl (lv_at hl 1 rfl) ?_
    refine lv_aload_n hx hb dK_canRaise_28 rfl (lv_at hl 0 rfl) ?_
    refine gK_classes hx hb hown hts hK hP dK_canRaise_29 ?_
    refine lv_icmp_ge (tgt := 68) hx hb dK_canRaise_32 (by decide) (fun c32 => ?_) (fun c32 => ?_)
    · have hf := (if_pos c32).symm.trans hf
      refine lv_iconst (v := 1) hx hb dK_canRaise_68 (by decide) ?_
      exact kr_zret C0 hK hP hD hS rfl (Option.some.inj hf) rfl dK_canRaise_69
    · have hf := (if_neg c32).symm.trans hf
      refine lv_aload_n hx hb dK_canRaise_35 rfl (lv_at hl 0 rfl) ?_
      refine gK_measured hx hb hown hts hK hP dK_canRaise_36 ?_
      refine lv_iload_n hx hb dK_canRaise_39 rfl (lv_at hl 1 rfl) ?_
      obtain ⟨v40, ev40, hf⟩ := kb1 hf
      refine kr_laload hx hb hK hP 7 1 rfl rfl ev40 dK_canRaise_40 ?_
      refine lv_lconst (v := 0) hx hb dK_canRaise_41 (by decide) ?_
      refine W.lcmp hx hb dK_canRaise_42 ?_
      refine lv_if_le (tgt := 62) hx hb dK_canRaise_43 (by decide) (fun c42 => ?_) (fun c42 => ?_)
      · rw [lg_cmp_le] at c42
        have hf := (if_pos c42).symm.trans hf
        refine lv_iinc (v := (x3 + 1)) (lv' := [(3, .int (x3 + 1)), (0, .ref (q 0))]) hx hb dK_canRaise_62 hl (k := 1) rfl rfl (by decide) rfl (fun ls hl => ?_)
        refine lv_goto (tgt := 27) hx hb dK_canRaise_65 (by decide) ?_
        exact ih (x3 + 1) _ _ ls hf (lv_sub hl [1, 0] rfl) hP hD hS
      · rw [lg_cmp_le] at c42
        have hf := (if_neg c42).symm.trans hf
        refine lv_aload_n hx hb dK_canRaise_46 rfl (lv_at hl 0 rfl) ?_
        refine lv_aload_n hx hb dK_canRaise_47 rfl (lv_at hl 0 rfl) ?_
        refine gK_groupOf hx hb hown hts hK hP dK_canRaise_48 ?_
        refine lv_iload_n hx hb dK_canRaise_51 rfl (lv_at hl 1 rfl) ?_
        obtain ⟨v52, ev52, hf⟩ := kb1 hf
        refine kr_iaload hx hb hK hP 5 0 rfl rfl ev52 dK_canRaise_52 ?_
        obtain ⟨v53, ev53, hf⟩ := kb1 hf
        refine kr_callVi (av := [.int v52]) ⟨hx, hb, hml, hown, hts⟩ (mK_sourceOf l D q k cI cJ _ σ v52 v53 ev53) (cwV 1 hts (kgood_V TK_good (by decide +kernel)) rfl rfl rfl (by decide +kernel) ⟨Nat.le_of_ble_eq_true rfl, Nat.le_of_ble_eq_true rfl⟩) hK hP hD hS hA (ci := 0) (q0 := 0) rfl rfl rfl hl.1 rfl (Nat.le_of_ble_eq_true rfl) dK_canRaise_53 ⟨Nat.le_of_ble_eq_true rfl, Nat.le_of_ble_eq_true rfl⟩ (fun H locs hP hD hS => ?_)
        refine lv_iconst (v := (-1)) hx hb dK_canRaise_56 (by decide) ?_
        refine lv_icmp_ne (tgt := 62) hx hb dK_canRaise_57 (by decide) (fun c57 => ?_) (fun c57 => ?_)
        · have hf := (if_neg c57).symm.trans hf
          refine lv_iinc (v := (x3 + 1)) (lv' := [(3, .int (x3 + 1)), (0, .ref (q 0))]) hx hb dK_canRaise_62 hl (k := 1) rfl rfl (by decide) rfl (fun ls hl => ?_)
          refine lv_goto (tgt := 27) hx hb dK_canRaise_65 (by decide) ?_
          exact ih (x3 + 1) _ _ ls hf (lv_sub hl [1, 0] rfl) hP hD hS
        · have hf := (if_pos c57).symm.trans hf
          refine lv_iconst (v := 0) hx hb dK_canRaise_60 (by decide) ?_
          exact kr_zret C0 hK hP hD hS rfl (Option.some.inj hf) rfl dK_canRaise_61
set_option maxHeartbeats 400000 in
set_option maxRecDepth 100000 in
theorem mK_canRaise (l : Launch) (D : va_G) (q : Nat → Nat) (k : kK) (cI cJ : ClassId) (sz : Nat) (fu : Nat) (σ : sK) (x1 : Int64) (r : Int32) (hf : fK_canRaise fu k σ x1 = some r) : Met l yK_canRaise (.code yK_canRaise cK_canRaise 4 (some .boolean) :: TK) ({ frames := 3, cells := 0, slots := 0, locals := 65 }) (kPre D cl0 [(cI, .int), (cJ, .long)] (wdK q k cI cJ) sz σ [.ref (q 0), .long x1]) (kQi D cl0 [(cI, .int), (cJ, .long)] (wdK q k cI cJ) (va_A (wdK q k cI cJ σ) sz) r σ) 0 0 (va_A (wdK q k cI cJ σ) sz) := by
  refine kr_start (own := RK) (by decide) rfl (Nat.le_of_ble_eq_true rfl) ?_
  intro p e s m args below meth c ls C0 hsz hK hP hD hl
  subst hsz
  obtain ⟨hx, hb, hr, hml, hown, hts, hlocks⟩ := id C0
  have hA : ∀ z : Nat, s.heap.size ≤ z → va_A (wdK q k cI cJ σ) s.heap.size z := fun z h => Or.inr h
  generalize va_A (wdK q k cI cJ σ) s.heap.size = A at hD hA ⊢
  have hS : va_S A s.heap s.heap [] := va_S.rf
  have hl : lv_has ls 4 [(0, .ref (q 0)), (1, .long x1)] := hl
  unfold fK_canRaise at hf
  refine lv_lload_n hx hb dK_canRaise_0 rfl (lv_at hl 1 rfl) ?_
  refine lv_lconst (v := 0) hx hb dK_canRaise_1 (by decide) ?_
  refine W.lcmp hx hb dK_canRaise_2 ?_
  refine lv_if_lt (tgt := 23) hx hb dK_canRaise_3 (by decide) (fun c2 => ?_) (fun c2 => ?_)
  · rw [lg_cmp_lt] at c2
    have hf := (if_pos c2).symm.trans hf
    refine lv_iconst (v := 0) hx hb dK_canRaise_23 (by decide) ?_
    exact kr_zret C0 hK hP hD hS rfl (Option.some.inj hf) rfl dK_canRaise_24
  · rw [lg_cmp_lt] at c2
    have hf := (if_neg c2).symm.trans hf
    refine lv_lload_n hx hb dK_canRaise_6 rfl (lv_at hl 1 rfl) ?_
    refine lv_ldc2 (v := 10000) hx hb hown (hts (.constantLong RK 138 (10000)) (by decide +kernel)) dK_canRaise_7 ?_
    refine W.lcmp hx hb dK_canRaise_10 ?_
    refine lv_if_gt (tgt := 23) hx hb dK_canRaise_11 (by decide) (fun c10 => ?_) (fun c10 => ?_)
    · rw [lg_cmp_gt] at c10
      have hf := (if_pos c10).symm.trans hf
      refine lv_iconst (v := 0) hx hb dK_canRaise_23 (by decide) ?_
      exact kr_zret C0 hK hP hD hS rfl (Option.some.inj hf) rfl dK_canRaise_24
    · rw [lg_cmp_gt] at c10
      have hf := (if_neg c10).symm.trans hf
      refine lv_aload_n hx hb dK_canRaise_14 rfl (lv_at hl 0 rfl) ?_
      refine gK_measuredInAll hx hb hown hts hK hP dK_canRaise_15 ?_
      refine lv_lconst (v := 0) hx hb dK_canRaise_18 (by decide) ?_
      refine W.lcmp hx hb dK_canRaise_19 ?_
      refine lv_if_ne (tgt := 25) hx hb dK_canRaise_20 (by decide) (fun c19 => ?_) (fun c19 => ?_)
      · rw [lg_cmp_eq] at c19
        have hf := (if_neg c19).symm.trans hf
        refine lv_iconst (v := 0) hx hb dK_canRaise_25 (by decide) ?_
        refine lv_istore_n (lv' := [(3, .int 0), (0, .ref (q 0)), (1, .long x1)]) hx hb dK_canRaise_26 rfl hl (by decide) rfl (fun ls hl => ?_)
        exact tK_canRaise_27 C0 hK hA fu 0 _ _ ls hf (lv_sub hl [1, 0] rfl) hP hD hS
      · rw [lg_cmp_eq] at c19
        have hf := (if_pos c19).symm.trans hf
        refine lv_iconst (v := 0) hx hb dK_canRaise_23 (by decide) ?_
        exact kr_zret C0 hK hP hD hS rfl (Option.some.inj hf) rfl dK_canRaise_24
theorem dK_commonShare_0 : decode cK_commonShare 0 = .ok (.aload_n 0, 1) := by decide +kernel
theorem dK_commonShare_1 : decode cK_commonShare 1 = .ok (.iload_n 1, 1) := by decide +kernel
theorem dK_commonShare_2 : decode cK_commonShare 2 = .ok (.invokevirtual 105, 3) := by decide +kernel
theorem dK_commonShare_5 : decode cK_commonShare 5 = .ok (.istore_n 3, 1) := by decide +kernel
theorem dK_commonShare_6 : decode cK_commonShare 6 = .ok (.iload_n 3, 1) := by decide +kernel
theorem dK_commonShare_7 : decode cK_commonShare 7 = .ok (.iconst (-1), 1) := by decide +kernel
theorem dK_commonShare_8 : decode cK_commonShare 8 = .ok (.if_icmp .ne (5), 3) := by decide +kernel
theorem dK_commonShare_11 : decode cK_commonShare 11 = .ok (.lconst 0, 1) := by decide +kernel
theorem dK_commonShare_12 : decode cK_commonShare 12 = .ok (.lreturn, 1) := by decide +kernel
theorem dK_commonShare_13 : decode cK_commonShare 13 = .ok (.aload_n 0, 1) := by decide +kernel
theorem dK_commonShare_14 : decode cK_commonShare 14 = .ok (.iload_n 3, 1) := by decide +kernel
theorem dK_commonShare_15 : decode cK_commonShare 15 = .ok (.invokevirtual 112, 3) := by decide +kernel
theorem dK_commonShare_18 : decode cK_commonShare 18 = .ok (.istore 4, 2) := by decide +kernel
theorem dK_commonShare_20 : decode cK_commonShare 20 = .ok (.iload 4, 2) := by decide +kernel
theorem dK_commonShare_22 : decode cK_commonShare 22 = .ok (.ifCond .le (21), 3) := by decide +kernel
theorem dK_commonShare_25 : decode cK_commonShare 25 = .ok (.aload_n 0, 1) := by decide +kernel
theorem dK_commonShare_26 : decode cK_commonShare 26 = .ok (.iload_n 3, 1) := by decide +kernel
theorem dK_commonShare_27 : decode cK_commonShare 27 = .ok (.iload_n 2, 1) := by decide +kernel
theorem dK_commonShare_28 : decode cK_commonShare 28 = .ok (.invokevirtual 109, 3) := by decide +kernel
theorem dK_commonShare_31 : decode cK_commonShare 31 = .ok (.i2l, 1) := by decide +kernel
theorem dK_commonShare_32 : decode cK_commonShare 32 = .ok (.ldc2_w 148, 3) := by decide +kernel
theorem dK_commonShare_35 : decode cK_commonShare 35 = .ok (.iload 4, 2) := by decide +kernel
theorem dK_commonShare_37 : decode cK_commonShare 37 = .ok (.i2l, 1) := by decide +kernel
theorem dK_commonShare_38 : decode cK_commonShare 38 = .ok (.ldiv, 1) := by decide +kernel
theorem dK_commonShare_39 : decode cK_commonShare 39 = .ok (.lmul, 1) := by decide +kernel
theorem dK_commonShare_40 : decode cK_commonShare 40 = .ok (.goto (4), 3) := by decide +kernel
theorem dK_commonShare_43 : decode cK_commonShare 43 = .ok (.lconst 0, 1) := by decide +kernel
theorem dK_commonShare_44 : decode cK_commonShare 44 = .ok (.lreturn, 1) := by decide +kernel
set_option maxHeartbeats 400000 in
set_option maxRecDepth 100000 in
theorem mK_commonShare (l : Launch) (D : va_G) (q : Nat → Nat) (k : kK) (cI cJ : ClassId) (sz : Nat) (σ : sK) (x1 : Int32) (x2 : Int32) (r : Int64) (hf : fK_commonShare k σ x1 x2 = some r) : Met l yK_commonShare (.code yK_commonShare cK_commonShare 5 (some .long) :: TK) ({ frames := 3, cells := 0, slots := 0, locals := 65 }) (kPre D cl0 [(cI, .int), (cJ, .long)] (wdK q k cI cJ) sz σ [.ref (q 0), .int x1, .int x2]) (kQl D cl0 [(cI, .int), (cJ, .long)] (wdK q k cI cJ) (va_A (wdK q k cI cJ σ) sz) r σ) 0 0 (va_A (wdK q k cI cJ σ) sz) := by
  refine kr_start (own := RK) (by decide) rfl (Nat.le_of_ble_eq_true rfl) ?_
  intro p e s m args below meth c ls C0 hsz hK hP hD hl
  subst hsz
  obtain ⟨hx, hb, hr, hml, hown, hts, hlocks⟩ := id C0
  have hA : ∀ z : Nat, s.heap.size ≤ z → va_A (wdK q k cI cJ σ) s.heap.size z := fun z h => Or.inr h
  generalize va_A (wdK q k cI cJ σ) s.heap.size = A at hD hA ⊢
  have hS : va_S A s.heap s.heap [] := va_S.rf
  have hl : lv_has ls 5 [(0, .ref (q 0)), (1, .int x1), (2, .int x2)] := hl
  unfold fK_commonShare at hf
  refine lv_aload_n hx hb dK_commonShare_0 rfl (lv_at hl 0 rfl) ?_
  refine lv_iload_n hx hb dK_commonShare_1 rfl (lv_at hl 1 rfl) ?_
  obtain ⟨v2, ev2, hf⟩ := kb1 hf
  refine kr_callVi (av := [.int x1]) ⟨hx, hb, hml, hown, hts⟩ (mK_sourceOf l D q k cI cJ _ σ x1 v2 ev2) (cwV 1 hts (kgood_V TK_good (by decide +kernel)) rfl rfl rfl (by decide +kernel) ⟨Nat.le_of_ble_eq_true rfl, Nat.le_of_ble_eq_true rfl⟩) hK hP hD hS hA (ci := 0) (q0 := 0) rfl rfl rfl hl.1 rfl (Nat.le_of_ble_eq_true rfl) dK_commonShare_2 ⟨Nat.le_of_ble_eq_true rfl, Nat.le_of_ble_eq_true rfl⟩ (fun H locs hP hD hS => ?_)
  refine lv_istore_n (lv' := [(3, .int v2), (0, .ref (q 0)), (1, .int x1), (2, .int x2)]) hx hb dK_commonShare_5 rfl hl (by decide) rfl (fun ls hl => ?_)
  refine lv_iload_n hx hb dK_commonShare_6 rfl (lv_at hl 0 rfl) ?_
  refine lv_iconst (v := (-1)) hx hb dK_commonShare_7 (by decide) ?_
  refine lv_icmp_ne (tgt := 13) hx hb dK_commonShare_8 (by decide) (fun c8 => ?_) (fun c8 => ?_)
  · have hf := (if_neg c8).symm.trans hf
    refine lv_aload_n hx hb dK_commonShare_13 rfl (lv_at hl 1 rfl) ?_
    refine lv_iload_n hx hb dK_commonShare_14 rfl (lv_at hl 0 rfl) ?_
    obtain ⟨v15, ev15, hf⟩ := kb1 hf
    refine kr_callVi (av := [.int v2]) ⟨hx, hb, hml, hown, hts⟩ (mK_own l D q k cI cJ _ σ v2 v15 ev15) (cwV 1 hts (kgood_V TK_good (by decide +kernel)) rfl rfl rfl (by decide +kernel) ⟨Nat.le_of_ble_eq_true rfl, Nat.le_of_ble_eq_true rfl⟩) hK hP hD hS hA (ci := 0) (q0 := 0) rfl rfl rfl hl.1 rfl (Nat.le_of_ble_eq_true rfl) dK_commonShare_15 ⟨Nat.le_of_ble_eq_true rfl, Nat.le_of_ble_eq_true rfl⟩ (fun H locs hP hD hS => ?_)
    refine lv_istore (lv' := [(4, .int v15), (3, .int v2), (0, .ref (q 0)), (1, .int x1), (2, .int x2)]) hx hb dK_commonShare_18 hl (by decide) rfl (fun ls hl => ?_)
    refine lv_iload hx hb dK_commonShare_20 (lv_at hl 0 rfl) ?_
    refine lv_if_le (tgt := 43) hx hb dK_commonShare_22 (by decide) (fun c22 => ?_) (fun c22 => ?_)
    · have hf := (if_pos c22).symm.trans hf
      refine lv_lconst (v := 0) hx hb dK_commonShare_43 (by decide) ?_
      exact kr_lret C0 hK hP hD hS (Option.some.inj hf) rfl dK_commonShare_44
    · have hf := (if_neg c22).symm.trans hf
      refine lv_aload_n hx hb dK_commonShare_25 rfl (lv_at hl 2 rfl) ?_
      refine lv_iload_n hx hb dK_commonShare_26 rfl (lv_at hl 1 rfl) ?_
      refine lv_iload_n hx hb dK_commonShare_27 rfl (lv_at hl 4 rfl) ?_
      obtain ⟨v28, ev28, hf⟩ := kb1 hf
      refine kr_callVi (av := [.int v2, .int x2]) ⟨hx, hb, hml, hown, hts⟩ (mK_ownOfAge l D q k cI cJ _ σ v2 x2 v28 ev28) (cwV 2 hts (kgood_V TK_good (by decide +kernel)) rfl rfl rfl (by decide +kernel) ⟨Nat.le_of_ble_eq_true rfl, Nat.le_of_ble_eq_true rfl⟩) hK hP hD hS hA (ci := 0) (q0 := 0) rfl rfl rfl hl.1 rfl (Nat.le_of_ble_eq_true rfl) dK_commonShare_28 ⟨Nat.le_of_ble_eq_true rfl, Nat.le_of_ble_eq_true rfl⟩ (fun H locs hP hD hS => ?_)
      refine lv_i2l (v := v28.toInt64) hx hb dK_commonShare_31 rfl ?_
      refine lv_ldc2 (v := 232792560) hx hb hown (hts (.constantLong RK 148 (232792560)) (by decide +kernel)) dK_commonShare_32 ?_
      refine lv_iload hx hb dK_commonShare_35 (lv_at hl 0 rfl) ?_
      refine lv_i2l (v := v15.toInt64) hx hb dK_commonShare_37 rfl ?_
      obtain ⟨v38, ev38, hf⟩ := kb1 hf
      refine kr_ldiv hx hb ev38 dK_commonShare_38 ?_
      refine lv_lmul hx hb dK_commonShare_39 ?_
      refine lv_goto (tgt := 44) hx hb dK_commonShare_40 (by decide) ?_
      exact kr_lret C0 hK hP hD hS (Option.some.inj hf) rfl dK_commonShare_44
  · have hf := (if_pos c8).symm.trans hf
    refine lv_lconst (v := 0) hx hb dK_commonShare_11 (by decide) ?_
    exact kr_lret C0 hK hP hD hS (Option.some.inj hf) rfl dK_commonShare_12
theorem dK_measuredOfAge_0 : decode cK_measuredOfAge 0 = .ok (.lconst 0, 1) := by decide +kernel
theorem dK_measuredOfAge_1 : decode cK_measuredOfAge 1 = .ok (.lstore_n 2, 1) := by decide +kernel
theorem dK_measuredOfAge_2 : decode cK_measuredOfAge 2 = .ok (.iconst 0, 1) := by decide +kernel
theorem dK_measuredOfAge_3 : decode cK_measuredOfAge 3 = .ok (.istore 4, 2) := by decide +kernel
theorem dK_measuredOfAge_5 : decode cK_measuredOfAge 5 = .ok (.iload 4, 2) := by decide +kernel
theorem dK_measuredOfAge_7 : decode cK_measuredOfAge 7 = .ok (.aload_n 0, 1) := by decide +kernel
theorem dK_measuredOfAge_8 : decode cK_measuredOfAge 8 = .ok (.getfield 26, 3) := by decide +kernel
theorem dK_measuredOfAge_11 : decode cK_measuredOfAge 11 = .ok (.if_icmp .ge (44), 3) := by decide +kernel
theorem dK_measuredOfAge_14 : decode cK_measuredOfAge 14 = .ok (.aload_n 0, 1) := by decide +kernel
theorem dK_measuredOfAge_15 : decode cK_measuredOfAge 15 = .ok (.getfield 51, 3) := by decide +kernel
theorem dK_measuredOfAge_18 : decode cK_measuredOfAge 18 = .ok (.iload 4, 2) := by decide +kernel
theorem dK_measuredOfAge_20 : decode cK_measuredOfAge 20 = .ok (.laload, 1) := by decide +kernel
theorem dK_measuredOfAge_21 : decode cK_measuredOfAge 21 = .ok (.lconst 0, 1) := by decide +kernel
theorem dK_measuredOfAge_22 : decode cK_measuredOfAge 22 = .ok (.lcmp, 1) := by decide +kernel
theorem dK_measuredOfAge_23 : decode cK_measuredOfAge 23 = .ok (.ifCond .le (26), 3) := by decide +kernel
theorem dK_measuredOfAge_26 : decode cK_measuredOfAge 26 = .ok (.lload_n 2, 1) := by decide +kernel
theorem dK_measuredOfAge_27 : decode cK_measuredOfAge 27 = .ok (.aload_n 0, 1) := by decide +kernel
theorem dK_measuredOfAge_28 : decode cK_measuredOfAge 28 = .ok (.getfield 51, 3) := by decide +kernel
theorem dK_measuredOfAge_31 : decode cK_measuredOfAge 31 = .ok (.iload 4, 2) := by decide +kernel
theorem dK_measuredOfAge_33 : decode cK_measuredOfAge 33 = .ok (.laload, 1) := by decide +kernel
theorem dK_measuredOfAge_34 : decode cK_measuredOfAge 34 = .ok (.aload_n 0, 1) := by decide +kernel
theorem dK_measuredOfAge_35 : decode cK_measuredOfAge 35 = .ok (.aload_n 0, 1) := by decide +kernel
theorem dK_measuredOfAge_36 : decode cK_measuredOfAge 36 = .ok (.getfield 45, 3) := by decide +kernel
theorem dK_measuredOfAge_39 : decode cK_measuredOfAge 39 = .ok (.iload 4, 2) := by decide +kernel
theorem dK_measuredOfAge_41 : decode cK_measuredOfAge 41 = .ok (.iaload, 1) := by decide +kernel
theorem dK_measuredOfAge_42 : decode cK_measuredOfAge 42 = .ok (.iload_n 1, 1) := by decide +kernel
theorem dK_measuredOfAge_43 : decode cK_measuredOfAge 43 = .ok (.invokevirtual 150, 3) := by decide +kernel
theorem dK_measuredOfAge_46 : decode cK_measuredOfAge 46 = .ok (.lmul, 1) := by decide +kernel
theorem dK_measuredOfAge_47 : decode cK_measuredOfAge 47 = .ok (.ladd, 1) := by decide +kernel
theorem dK_measuredOfAge_48 : decode cK_measuredOfAge 48 = .ok (.lstore_n 2, 1) := by decide +kernel
theorem dK_measuredOfAge_49 : decode cK_measuredOfAge 49 = .ok (.iinc 4 (1), 3) := by decide +kernel
theorem dK_measuredOfAge_52 : decode cK_measuredOfAge 52 = .ok (.goto (-47), 3) := by decide +kernel
theorem dK_measuredOfAge_55 : decode cK_measuredOfAge 55 = .ok (.lload_n 2, 1) := by decide +kernel
theorem dK_measuredOfAge_56 : decode cK_measuredOfAge 56 = .ok (.lreturn, 1) := by decide +kernel
set_option maxHeartbeats 400000 in
set_option maxRecDepth 100000 in
theorem tK_measuredOfAge_5 {p : Program} {l : Launch} {e : Env} {s : State} {m : MethodId} {args : Array Value} {below : List Frame} {meth : Method} {c : Code} {D : va_G} {A : Nat → Prop} {q : Nat → Nat} {k : kK} {cI cJ : ClassId} {r : Int64} {σ : sK} {fu : Nat} (C0 : Cx p s m args meth c cK_measuredOfAge 5 (some .long) RK TK) (hK : va_K D cl0 [(cI, .int), (cJ, .long)] s) (hA : ∀ z, s.heap.size ≤ z → A z) : ∀ n : Nat, ∀ (x1 : Int32) (x2 : Int64) (x4 : Int32)(H : Heap) (locs : List Loc) (ls : Array Slot), fK_measuredOfAge_5 fu k σ n x1 x2 x4 = some r → lv_has ls 5 [(0, .ref (q 0)), (1, .int x1), (2, .long x2), (4, .int x4)] → va_P D cl0 (wdK q k cI cJ σ) H → va_D A (wdK q k cI cJ σ) → va_S A s.heap H locs → W p l e ({ frames := 4, cells := 0, slots := 0, locals := 89 }) s m args below meth c H locs 0 0 (MQ below (kQl D cl0 [(cI, .int), (cJ, .long)] (wdK q k cI cJ) A r σ) args s 0 0 A) (F0 m 5 ls []) := by
  obtain ⟨hx, hb, hr, hml, hown, hts, hlocks⟩ := id C0
  intro n
  induction n with
  | zero =>
    intro x1 x2 x4 H locs ls hf hl hP hD hS
    cases hf
  | succ n ih =>
    intro x1 x2 x4 H locs ls hf hl hP hD hS
    rw [fK_measuredOfAge_5] at hf
    refine lv_iload hx hb dK_measuredOfAge_5 (lv_at hl 3 rfl) ?_
    refine lv_aload_n hx hb dK_measuredOfAge_7 rfl (lv_at hl 0 rfl) ?_
    refine gK_classes hx hb hown hts hK hP dK_measuredOfAge_8 ?_
    refine lv_icmp_ge (tgt := 55) hx hb dK_measuredOfAge_11 (by decide) (fun c11 => ?_) (fun c11 => ?_)
    · have hf := (if_pos c11).symm.trans hf
      refine lv_lload_n hx hb dK_measuredOfAge_55 rfl (lv_at hl 2 rfl) ?_
      exact kr_lret C0 hK hP hD hS (Option.some.inj hf) rfl dK_measuredOfAge_56
    · have hf := (if_neg c11).symm.trans hf
      refine lv_aload_n hx hb dK_measuredOfAge_14 rfl (lv_at hl 0 rfl) ?_
      refine gK_measured hx hb hown hts hK hP dK_measuredOfAge_15 ?_
      refine lv_iload hx hb dK_measuredOfAge_18 (lv_at hl 3 rfl) ?_
      obtain ⟨v20, ev20, hf⟩ := kb1 hf
      refine kr_laload hx hb hK hP 7 1 rfl rfl ev20 dK_measuredOfAge_20 ?_
      refine lv_lconst (v := 0) hx hb dK_measuredOfAge_21 (by decide) ?_
      refine W.lcmp hx hb dK_measuredOfAge_22 ?_
      refine lv_if_le (tgt := 49) hx hb dK_measuredOfAge_23 (by decide) (fun c22 => ?_) (fun c22 => ?_)
      · rw [lg_cmp_le] at c22
        have hf := (if_pos c22).symm.trans hf
        refine lv_iinc (v := (x4 + 1)) (lv' := [(4, .int (x4 + 1)), (0, .ref (q 0)), (1, .int x1), (2, .long x2)]) hx hb dK_measuredOfAge_49 hl (k := 3) rfl rfl (by decide) rfl (fun ls hl => ?_)
        refine lv_goto (tgt := 5) hx hb dK_measuredOfAge_52 (by decide) ?_
        exact ih x1 x2 (x4 + 1) _ _ ls hf (lv_sub hl [1, 2, 3, 0] rfl) hP hD hS
      · rw [lg_cmp_le] at c22
        have hf := (if_neg c22).symm.trans hf
        refine lv_lload_n hx hb dK_measuredOfAge_26 rfl (lv_at hl 2 rfl) ?_
        refine lv_aload_n hx hb dK_measuredOfAge_27 rfl (lv_at hl 0 rfl) ?_
        refine gK_measured hx hb hown hts hK hP dK_measuredOfAge_28 ?_
        refine lv_iload hx hb dK_measuredOfAge_31 (lv_at hl 3 rfl) ?_
        obtain ⟨v33, ev33, hf⟩ := kb1 hf
        refine kr_laload hx hb hK hP 7 1 rfl rfl ev33 dK_measuredOfAge_33 ?_
        refine lv_aload_n hx hb dK_measuredOfAge_34 rfl (lv_at hl 0 rfl) ?_
        refine lv_aload_n hx hb dK_measuredOfAge_35 rfl (lv_at hl 0 rfl) ?_
        refine gK_groupOf hx hb hown hts hK hP dK_measuredOfAge_36 ?_
        refine lv_iload hx hb dK_measuredOfAge_39 (lv_at hl 3 rfl) ?_
        obtain ⟨v41, ev41, hf⟩ := kb1 hf
        refine kr_iaload hx hb hK hP 5 0 rfl rfl ev41 dK_measuredOfAge_41 ?_
        refine lv_iload_n hx hb dK_measuredOfAge_42 rfl (lv_at hl 1 rfl) ?_
        obtain ⟨v43, ev43, hf⟩ := kb1 hf
        refine kr_callVl (av := [.int v41, .int x1]) ⟨hx, hb, hml, hown, hts⟩ (mK_commonShare l D q k cI cJ _ σ v41 x1 v43 ev43) (cwV 2 hts (kgood_V TK_good (by decide +kernel)) rfl rfl rfl (by decide +kernel) ⟨Nat.le_of_ble_eq_true rfl, Nat.le_of_ble_eq_true rfl⟩) hK hP hD hS hA (ci := 0) (q0 := 0) rfl rfl rfl hl.1 rfl (Nat.le_of_ble_eq_true rfl) dK_measuredOfAge_43 ⟨Nat.le_of_ble_eq_true rfl, Nat.le_of_ble_eq_true rfl⟩ (fun H locs hP hD hS => ?_)
        refine lv_lmul hx hb dK_measuredOfAge_46 ?_
        refine lv_ladd hx hb dK_measuredOfAge_47 ?_
        refine lv_lstore_n (lv' := [(2, .long (x2 + (v33 * v43))), (0, .ref (q 0)), (1, .int x1), (4, .int x4)]) hx hb dK_measuredOfAge_48 rfl hl (by decide) rfl (fun ls hl => ?_)
        refine lv_iinc (v := (x4 + 1)) (lv' := [(4, .int (x4 + 1)), (2, .long (x2 + (v33 * v43))), (0, .ref (q 0)), (1, .int x1)]) hx hb dK_measuredOfAge_49 hl (k := 3) rfl rfl (by decide) rfl (fun ls hl => ?_)
        refine lv_goto (tgt := 5) hx hb dK_measuredOfAge_52 (by decide) ?_
        exact ih x1 (x2 + (v33 * v43)) (x4 + 1) _ _ ls hf (lv_sub hl [2, 3, 1, 0] rfl) hP hD hS
set_option maxHeartbeats 400000 in
set_option maxRecDepth 100000 in
theorem mK_measuredOfAge (l : Launch) (D : va_G) (q : Nat → Nat) (k : kK) (cI cJ : ClassId) (sz : Nat) (fu : Nat) (σ : sK) (x1 : Int32) (r : Int64) (hf : fK_measuredOfAge fu k σ x1 = some r) : Met l yK_measuredOfAge (.code yK_measuredOfAge cK_measuredOfAge 5 (some .long) :: TK) ({ frames := 4, cells := 0, slots := 0, locals := 89 }) (kPre D cl0 [(cI, .int), (cJ, .long)] (wdK q k cI cJ) sz σ [.ref (q 0), .int x1]) (kQl D cl0 [(cI, .int), (cJ, .long)] (wdK q k cI cJ) (va_A (wdK q k cI cJ σ) sz) r σ) 0 0 (va_A (wdK q k cI cJ σ) sz) := by
  refine kr_start (own := RK) (by decide) rfl (Nat.le_of_ble_eq_true rfl) ?_
  intro p e s m args below meth c ls C0 hsz hK hP hD hl
  subst hsz
  obtain ⟨hx, hb, hr, hml, hown, hts, hlocks⟩ := id C0
  have hA : ∀ z : Nat, s.heap.size ≤ z → va_A (wdK q k cI cJ σ) s.heap.size z := fun z h => Or.inr h
  generalize va_A (wdK q k cI cJ σ) s.heap.size = A at hD hA ⊢
  have hS : va_S A s.heap s.heap [] := va_S.rf
  have hl : lv_has ls 5 [(0, .ref (q 0)), (1, .int x1)] := hl
  unfold fK_measuredOfAge at hf
  refine lv_lconst (v := 0) hx hb dK_measuredOfAge_0 (by decide) ?_
  refine lv_lstore_n (lv' := [(2, .long (0 : Int64)), (0, .ref (q 0)), (1, .int x1)]) hx hb dK_measuredOfAge_1 rfl hl (by decide) rfl (fun ls hl => ?_)
  refine lv_iconst (v := 0) hx hb dK_measuredOfAge_2 (by decide) ?_
  refine lv_istore (lv' := [(4, .int 0), (2, .long (0 : Int64)), (0, .ref (q 0)), (1, .int x1)]) hx hb dK_measuredOfAge_3 hl (by decide) rfl (fun ls hl => ?_)
  exact tK_measuredOfAge_5 C0 hK hA fu x1 (0 : Int64) 0 _ _ ls hf (lv_sub hl [2, 3, 1, 0] rfl) hP hD hS
theorem dK_raised_0 : decode cK_raised 0 = .ok (.aload_n 0, 1) := by decide +kernel
theorem dK_raised_1 : decode cK_raised 1 = .ok (.iload_n 3, 1) := by decide +kernel
theorem dK_raised_2 : decode cK_raised 2 = .ok (.invokevirtual 83, 3) := by decide +kernel
theorem dK_raised_5 : decode cK_raised 5 = .ok (.ifCond .eq (19), 3) := by decide +kernel
theorem dK_raised_8 : decode cK_raised 8 = .ok (.iload 4, 2) := by decide +kernel
theorem dK_raised_10 : decode cK_raised 10 = .ok (.invokestatic 100, 3) := by decide +kernel
theorem dK_raised_13 : decode cK_raised 13 = .ok (.ifCond .eq (11), 3) := by decide +kernel
theorem dK_raised_16 : decode cK_raised 16 = .ok (.aload_n 0, 1) := by decide +kernel
theorem dK_raised_17 : decode cK_raised 17 = .ok (.lload_n 1, 1) := by decide +kernel
theorem dK_raised_18 : decode cK_raised 18 = .ok (.invokevirtual 140, 3) := by decide +kernel
theorem dK_raised_21 : decode cK_raised 21 = .ok (.ifCond .ne (7), 3) := by decide +kernel
theorem dK_raised_24 : decode cK_raised 24 = .ok (.ldc2_w 103, 3) := by decide +kernel
theorem dK_raised_27 : decode cK_raised 27 = .ok (.lreturn, 1) := by decide +kernel
theorem dK_raised_28 : decode cK_raised 28 = .ok (.lload_n 1, 1) := by decide +kernel
theorem dK_raised_29 : decode cK_raised 29 = .ok (.aload_n 0, 1) := by decide +kernel
theorem dK_raised_30 : decode cK_raised 30 = .ok (.iload_n 3, 1) := by decide +kernel
theorem dK_raised_31 : decode cK_raised 31 = .ok (.invokevirtual 144, 3) := by decide +kernel
theorem dK_raised_34 : decode cK_raised 34 = .ok (.lmul, 1) := by decide +kernel
theorem dK_raised_35 : decode cK_raised 35 = .ok (.aload_n 0, 1) := by decide +kernel
theorem dK_raised_36 : decode cK_raised 36 = .ok (.getfield 13, 3) := by decide +kernel
theorem dK_raised_39 : decode cK_raised 39 = .ok (.ldc2_w 148, 3) := by decide +kernel
theorem dK_raised_42 : decode cK_raised 42 = .ok (.lmul, 1) := by decide +kernel
theorem dK_raised_43 : decode cK_raised 43 = .ok (.iload 4, 2) := by decide +kernel
theorem dK_raised_45 : decode cK_raised 45 = .ok (.invokestatic 115, 3) := by decide +kernel
theorem dK_raised_48 : decode cK_raised 48 = .ok (.lreturn, 1) := by decide +kernel
set_option maxHeartbeats 400000 in
set_option maxRecDepth 100000 in
theorem mK_raised (l : Launch) (D : va_G) (q : Nat → Nat) (k : kK) (cI cJ : ClassId) (sz : Nat) (fu : Nat) (σ : sK) (x1 : Int64) (x3 : Int32) (x4 : Int32) (r : Int64) (hf : fK_raised fu k σ x1 x3 x4 = some r) : Met l yK_raised (.code yK_raised cK_raised 5 (some .long) :: TK) ({ frames := 5, cells := 0, slots := 0, locals := 113 }) (kPre D cl0 [(cI, .int), (cJ, .long)] (wdK q k cI cJ) sz σ [.ref (q 0), .long x1, .int x3, .int x4]) (kQl D cl0 [(cI, .int), (cJ, .long)] (wdK q k cI cJ) (va_A (wdK q k cI cJ σ) sz) r σ) 0 0 (va_A (wdK q k cI cJ σ) sz) := by
  refine kr_start (own := RK) (by decide) rfl (Nat.le_of_ble_eq_true rfl) ?_
  intro p e s m args below meth c ls C0 hsz hK hP hD hl
  subst hsz
  obtain ⟨hx, hb, hr, hml, hown, hts, hlocks⟩ := id C0
  have hA : ∀ z : Nat, s.heap.size ≤ z → va_A (wdK q k cI cJ σ) s.heap.size z := fun z h => Or.inr h
  generalize va_A (wdK q k cI cJ σ) s.heap.size = A at hD hA ⊢
  have hS : va_S A s.heap s.heap [] := va_S.rf
  have hl : lv_has ls 5 [(0, .ref (q 0)), (1, .long x1), (3, .int x3), (4, .int x4)] := hl
  unfold fK_raised at hf
  refine lv_aload_n hx hb dK_raised_0 rfl (lv_at hl 0 rfl) ?_
  refine lv_iload_n hx hb dK_raised_1 rfl (lv_at hl 2 rfl) ?_
  refine kr_callVi (av := [.int x3]) ⟨hx, hb, hml, hown, hts⟩ (mK_isAge l D q k cI cJ _ σ x3 _ rfl) (cwV 1 hts (kgood_V TK_good (by decide +kernel)) rfl rfl rfl (by decide +kernel) ⟨Nat.le_of_ble_eq_true rfl, Nat.le_of_ble_eq_true rfl⟩) hK hP hD hS hA (ci := 0) (q0 := 0) rfl rfl rfl hl.1 rfl (Nat.le_of_ble_eq_true rfl) dK_raised_2 ⟨Nat.le_of_ble_eq_true rfl, Nat.le_of_ble_eq_true rfl⟩ (fun H locs hP hD hS => ?_)
  refine lv_if_eq (tgt := 24) hx hb dK_raised_5 (by decide) (fun c5 => ?_) (fun c5 => ?_)
  · have hf := (if_pos c5).symm.trans hf
    refine lv_ldc2 (v := -1) hx hb hown (hts (.constantLong RK 103 (-1)) (by decide +kernel)) dK_raised_24 ?_
    exact kr_lret C0 hK hP hD hS (Option.some.inj hf) rfl dK_raised_27
  · have hf := (if_neg c5).symm.trans hf
    refine lv_iload hx hb dK_raised_8 (lv_at hl 3 rfl) ?_
    refine kr_callSi (av := [.int x4]) ⟨hx, hb, hml, hown, hts⟩ (mK_isZeroOrOne l D _ (wdK q k cI cJ) [(cI, .int), (cJ, .long)] cl0 _ σ x4 _ rfl) (cwS 1 hts (kgood_S TK_good (by decide +kernel)) rfl rfl rfl (by decide +kernel) ⟨Nat.le_of_ble_eq_true rfl, Nat.le_of_ble_eq_true rfl⟩) hK hP hD hS hA rfl hl.1 rfl (Nat.le_of_ble_eq_true rfl) dK_raised_10 ⟨Nat.le_of_ble_eq_true rfl, Nat.le_of_ble_eq_true rfl⟩ (fun H locs hP hD hS => ?_)
    refine lv_if_eq (tgt := 24) hx hb dK_raised_13 (by decide) (fun c13 => ?_) (fun c13 => ?_)
    · have hf := (if_pos c13).symm.trans hf
      refine lv_ldc2 (v := -1) hx hb hown (hts (.constantLong RK 103 (-1)) (by decide +kernel)) dK_raised_24 ?_
      exact kr_lret C0 hK hP hD hS (Option.some.inj hf) rfl dK_raised_27
    · have hf := (if_neg c13).symm.trans hf
      refine lv_aload_n hx hb dK_raised_16 rfl (lv_at hl 0 rfl) ?_
      refine lv_lload_n hx hb dK_raised_17 rfl (lv_at hl 1 rfl) ?_
      obtain ⟨v18, ev18, hf⟩ := kb1 hf
      refine kr_callVi (av := [.long x1]) ⟨hx, hb, hml, hown, hts⟩ (mK_canRaise l D q k cI cJ _ fu σ x1 v18 ev18) (cwV 1 hts (kgood_V TK_good (by decide +kernel)) rfl rfl rfl (by decide +kernel) ⟨Nat.le_of_ble_eq_true rfl, Nat.le_of_ble_eq_true rfl⟩) hK hP hD hS hA (ci := 0) (q0 := 0) rfl rfl rfl hl.1 rfl (Nat.le_of_ble_eq_true rfl) dK_raised_18 ⟨Nat.le_of_ble_eq_true rfl, Nat.le_of_ble_eq_true rfl⟩ (fun H locs hP hD hS => ?_)
      refine lv_if_ne (tgt := 28) hx hb dK_raised_21 (by decide) (fun c21 => ?_) (fun c21 => ?_)
      · have hf := (if_neg c21).symm.trans hf
        refine lv_lload_n hx hb dK_raised_28 rfl (lv_at hl 1 rfl) ?_
        refine lv_aload_n hx hb dK_raised_29 rfl (lv_at hl 0 rfl) ?_
        refine lv_iload_n hx hb dK_raised_30 rfl (lv_at hl 2 rfl) ?_
        obtain ⟨v31, ev31, hf⟩ := kb1 hf
        refine kr_callVl (av := [.int x3]) ⟨hx, hb, hml, hown, hts⟩ (mK_measuredOfAge l D q k cI cJ _ fu σ x3 v31 ev31) (cwV 1 hts (kgood_V TK_good (by decide +kernel)) rfl rfl rfl (by decide +kernel) ⟨Nat.le_of_ble_eq_true rfl, Nat.le_of_ble_eq_true rfl⟩) hK hP hD hS hA (ci := 0) (q0 := 0) rfl rfl rfl hl.1 rfl (Nat.le_of_ble_eq_true rfl) dK_raised_31 ⟨Nat.le_of_ble_eq_true rfl, Nat.le_of_ble_eq_true rfl⟩ (fun H locs hP hD hS => ?_)
        refine lv_lmul hx hb dK_raised_34 ?_
        refine lv_aload_n hx hb dK_raised_35 rfl (lv_at hl 0 rfl) ?_
        refine gK_measuredInAll hx hb hown hts hK hP dK_raised_36 ?_
        refine lv_ldc2 (v := 232792560) hx hb hown (hts (.constantLong RK 148 (232792560)) (by decide +kernel)) dK_raised_39 ?_
        refine lv_lmul hx hb dK_raised_42 ?_
        refine lv_iload hx hb dK_raised_43 (lv_at hl 3 rfl) ?_
        obtain ⟨v45, ev45, hf⟩ := kb1 hf
        refine kr_callSl (av := [.long (x1 * v31), .long ((sK_measuredInAll σ) * (232792560 : Int64)), .int x4]) ⟨hx, hb, hml, hown, hts⟩ (mK_fractionPart l D _ (wdK q k cI cJ) [(cI, .int), (cJ, .long)] cl0 _ fu σ (x1 * v31) ((sK_measuredInAll σ) * (232792560 : Int64)) x4 v45 ev45) (cwS 3 hts (kgood_S TK_good (by decide +kernel)) rfl rfl rfl (by decide +kernel) ⟨Nat.le_of_ble_eq_true rfl, Nat.le_of_ble_eq_true rfl⟩) hK hP hD hS hA rfl hl.1 rfl (Nat.le_of_ble_eq_true rfl) dK_raised_45 ⟨Nat.le_of_ble_eq_true rfl, Nat.le_of_ble_eq_true rfl⟩ (fun H locs hP hD hS => ?_)
        exact kr_lret C0 hK hP hD hS (Option.some.inj hf) rfl dK_raised_48
      · have hf := (if_pos c21).symm.trans hf
        refine lv_ldc2 (v := -1) hx hb hown (hts (.constantLong RK 103 (-1)) (by decide +kernel)) dK_raised_24 ?_
        exact kr_lret C0 hK hP hD hS (Option.some.inj hf) rfl dK_raised_27
theorem dK_sums_0 : decode cK_sums 0 = .ok (.aload_n 0, 1) := by decide +kernel
theorem dK_sums_1 : decode cK_sums 1 = .ok (.lload_n 1, 1) := by decide +kernel
theorem dK_sums_2 : decode cK_sums 2 = .ok (.invokevirtual 140, 3) := by decide +kernel
theorem dK_sums_5 : decode cK_sums 5 = .ok (.ifCond .ne (5), 3) := by decide +kernel
theorem dK_sums_8 : decode cK_sums 8 = .ok (.iconst 0, 1) := by decide +kernel
theorem dK_sums_9 : decode cK_sums 9 = .ok (.ireturn, 1) := by decide +kernel
theorem dK_sums_10 : decode cK_sums 10 = .ok (.lconst 0, 1) := by decide +kernel
theorem dK_sums_11 : decode cK_sums 11 = .ok (.lstore_n 3, 1) := by decide +kernel
theorem dK_sums_12 : decode cK_sums 12 = .ok (.iconst 0, 1) := by decide +kernel
theorem dK_sums_13 : decode cK_sums 13 = .ok (.istore 5, 2) := by decide +kernel
theorem dK_sums_15 : decode cK_sums 15 = .ok (.iload 5, 2) := by decide +kernel
theorem dK_sums_17 : decode cK_sums 17 = .ok (.aload_n 0, 1) := by decide +kernel
theorem dK_sums_18 : decode cK_sums 18 = .ok (.getfield 29, 3) := by decide +kernel
theorem dK_sums_21 : decode cK_sums 21 = .ok (.if_icmp .ge (20), 3) := by decide +kernel
theorem dK_sums_24 : decode cK_sums 24 = .ok (.lload_n 3, 1) := by decide +kernel
theorem dK_sums_25 : decode cK_sums 25 = .ok (.lload_n 1, 1) := by decide +kernel
theorem dK_sums_26 : decode cK_sums 26 = .ok (.aload_n 0, 1) := by decide +kernel
theorem dK_sums_27 : decode cK_sums 27 = .ok (.iload 5, 2) := by decide +kernel
theorem dK_sums_29 : decode cK_sums 29 = .ok (.invokevirtual 144, 3) := by decide +kernel
theorem dK_sums_32 : decode cK_sums 32 = .ok (.lmul, 1) := by decide +kernel
theorem dK_sums_33 : decode cK_sums 33 = .ok (.ladd, 1) := by decide +kernel
theorem dK_sums_34 : decode cK_sums 34 = .ok (.lstore_n 3, 1) := by decide +kernel
theorem dK_sums_35 : decode cK_sums 35 = .ok (.iinc 5 (1), 3) := by decide +kernel
theorem dK_sums_38 : decode cK_sums 38 = .ok (.goto (-23), 3) := by decide +kernel
theorem dK_sums_41 : decode cK_sums 41 = .ok (.lload_n 3, 1) := by decide +kernel
theorem dK_sums_42 : decode cK_sums 42 = .ok (.lload_n 1, 1) := by decide +kernel
theorem dK_sums_43 : decode cK_sums 43 = .ok (.aload_n 0, 1) := by decide +kernel
theorem dK_sums_44 : decode cK_sums 44 = .ok (.getfield 13, 3) := by decide +kernel
theorem dK_sums_47 : decode cK_sums 47 = .ok (.lmul, 1) := by decide +kernel
theorem dK_sums_48 : decode cK_sums 48 = .ok (.ldc2_w 148, 3) := by decide +kernel
theorem dK_sums_51 : decode cK_sums 51 = .ok (.lmul, 1) := by decide +kernel
theorem dK_sums_52 : decode cK_sums 52 = .ok (.lcmp, 1) := by decide +kernel
theorem dK_sums_53 : decode cK_sums 53 = .ok (.ifCond .ne (7), 3) := by decide +kernel
theorem dK_sums_56 : decode cK_sums 56 = .ok (.iconst 1, 1) := by decide +kernel
theorem dK_sums_57 : decode cK_sums 57 = .ok (.goto (4), 3) := by decide +kernel
theorem dK_sums_60 : decode cK_sums 60 = .ok (.iconst 0, 1) := by decide +kernel
theorem dK_sums_61 : decode cK_sums 61 = .ok (.ireturn, 1) := by decide +kernel
set_option maxHeartbeats 400000 in
set_option maxRecDepth 100000 in
theorem tK_sums_15 {p : Program} {l : Launch} {e : Env} {s : State} {m : MethodId} {args : Array Value} {below : List Frame} {meth : Method} {c : Code} {D : va_G} {A : Nat → Prop} {q : Nat → Nat} {k : kK} {cI cJ : ClassId} {r : Int32} {σ : sK} {fu : Nat} (C0 : Cx p s m args meth c cK_sums 6 (some .boolean) RK TK) (hK : va_K D cl0 [(cI, .int), (cJ, .long)] s) (hA : ∀ z, s.heap.size ≤ z → A z) : ∀ n : Nat, ∀ (x1 : Int64) (x3 : Int64) (x5 : Int32)(H : Heap) (locs : List Loc) (ls : Array Slot), fK_sums_15 fu k σ n x1 x3 x5 = some r → lv_has ls 6 [(0, .ref (q 0)), (1, .long x1), (3, .long x3), (5, .int x5)] → va_P D cl0 (wdK q k cI cJ σ) H → va_D A (wdK q k cI cJ σ) → va_S A s.heap H locs → W p l e ({ frames := 5, cells := 0, slots := 0, locals := 113 }) s m args below meth c H locs 0 0 (MQ below (kQi D cl0 [(cI, .int), (cJ, .long)] (wdK q k cI cJ) A r σ) args s 0 0 A) (F0 m 15 ls []) := by
  obtain ⟨hx, hb, hr, hml, hown, hts, hlocks⟩ := id C0
  intro n
  induction n with
  | zero =>
    intro x1 x3 x5 H locs ls hf hl hP hD hS
    cases hf
  | succ n ih =>
    intro x1 x3 x5 H locs ls hf hl hP hD hS
    rw [fK_sums_15] at hf
    refine lv_iload hx hb dK_sums_15 (lv_at hl 3 rfl) ?_
    refine lv_aload_n hx hb dK_sums_17 rfl (lv_at hl 0 rfl) ?_
    refine gK_ages hx hb hown hts hK hP dK_sums_18 ?_
    refine lv_icmp_ge (tgt := 41) hx hb dK_sums_21 (by decide) (fun c21 => ?_) (fun c21 => ?_)
    · have hf := (if_pos c21).symm.trans hf
      refine lv_lload_n hx hb dK_sums_41 rfl (lv_at hl 2 rfl) ?_
      refine lv_lload_n hx hb dK_sums_42 rfl (lv_at hl 1 rfl) ?_
      refine lv_aload_n hx hb dK_sums_43 rfl (lv_at hl 0 rfl) ?_
      refine gK_measuredInAll hx hb hown hts hK hP dK_sums_44 ?_
      refine lv_lmul hx hb dK_sums_47 ?_
      refine lv_ldc2 (v := 232792560) hx hb hown (hts (.constantLong RK 148 (232792560)) (by decide +kernel)) dK_sums_48 ?_
      refine lv_lmul hx hb dK_sums_51 ?_
      refine W.lcmp hx hb dK_sums_52 ?_
      refine lv_if_ne (tgt := 60) hx hb dK_sums_53 (by decide) (fun c52 => ?_) (fun c52 => ?_)
      · rw [lg_cmp_eq] at c52
        have hf := (if_neg c52).symm.trans hf
        refine lv_iconst (v := 0) hx hb dK_sums_60 (by decide) ?_
        exact kr_zret C0 hK hP hD hS rfl (Option.some.inj hf) rfl dK_sums_61
      · rw [lg_cmp_eq] at c52
        have hf := (if_pos c52).symm.trans hf
        refine lv_iconst (v := 1) hx hb dK_sums_56 (by decide) ?_
        refine lv_goto (tgt := 61) hx hb dK_sums_57 (by decide) ?_
        exact kr_zret C0 hK hP hD hS rfl (Option.some.inj hf) rfl dK_sums_61
    · have hf := (if_neg c21).symm.trans hf
      refine lv_lload_n hx hb dK_sums_24 rfl (lv_at hl 2 rfl) ?_
      refine lv_lload_n hx hb dK_sums_25 rfl (lv_at hl 1 rfl) ?_
      refine lv_aload_n hx hb dK_sums_26 rfl (lv_at hl 0 rfl) ?_
      refine lv_iload hx hb dK_sums_27 (lv_at hl 3 rfl) ?_
      obtain ⟨v29, ev29, hf⟩ := kb1 hf
      refine kr_callVl (av := [.int x5]) ⟨hx, hb, hml, hown, hts⟩ (mK_measuredOfAge l D q k cI cJ _ fu σ x5 v29 ev29) (cwV 1 hts (kgood_V TK_good (by decide +kernel)) rfl rfl rfl (by decide +kernel) ⟨Nat.le_of_ble_eq_true rfl, Nat.le_of_ble_eq_true rfl⟩) hK hP hD hS hA (ci := 0) (q0 := 0) rfl rfl rfl hl.1 rfl (Nat.le_of_ble_eq_true rfl) dK_sums_29 ⟨Nat.le_of_ble_eq_true rfl, Nat.le_of_ble_eq_true rfl⟩ (fun H locs hP hD hS => ?_)
      refine lv_lmul hx hb dK_sums_32 ?_
      refine lv_ladd hx hb dK_sums_33 ?_
      refine lv_lstore_n (lv' := [(3, .long (x3 + (x1 * v29))), (0, .ref (q 0)), (1, .long x1), (5, .int x5)]) hx hb dK_sums_34 rfl hl (by decide) rfl (fun ls hl => ?_)
      refine lv_iinc (v := (x5 + 1)) (lv' := [(5, .int (x5 + 1)), (3, .long (x3 + (x1 * v29))), (0, .ref (q 0)), (1, .long x1)]) hx hb dK_sums_35 hl (k := 3) rfl rfl (by decide) rfl (fun ls hl => ?_)
      refine lv_goto (tgt := 15) hx hb dK_sums_38 (by decide) ?_
      exact ih x1 (x3 + (x1 * v29)) (x5 + 1) _ _ ls hf (lv_sub hl [2, 3, 1, 0] rfl) hP hD hS
set_option maxHeartbeats 400000 in
set_option maxRecDepth 100000 in
theorem mK_sums (l : Launch) (D : va_G) (q : Nat → Nat) (k : kK) (cI cJ : ClassId) (sz : Nat) (fu : Nat) (σ : sK) (x1 : Int64) (r : Int32) (hf : fK_sums fu k σ x1 = some r) : Met l yK_sums (.code yK_sums cK_sums 6 (some .boolean) :: TK) ({ frames := 5, cells := 0, slots := 0, locals := 113 }) (kPre D cl0 [(cI, .int), (cJ, .long)] (wdK q k cI cJ) sz σ [.ref (q 0), .long x1]) (kQi D cl0 [(cI, .int), (cJ, .long)] (wdK q k cI cJ) (va_A (wdK q k cI cJ σ) sz) r σ) 0 0 (va_A (wdK q k cI cJ σ) sz) := by
  refine kr_start (own := RK) (by decide) rfl (Nat.le_of_ble_eq_true rfl) ?_
  intro p e s m args below meth c ls C0 hsz hK hP hD hl
  subst hsz
  obtain ⟨hx, hb, hr, hml, hown, hts, hlocks⟩ := id C0
  have hA : ∀ z : Nat, s.heap.size ≤ z → va_A (wdK q k cI cJ σ) s.heap.size z := fun z h => Or.inr h
  generalize va_A (wdK q k cI cJ σ) s.heap.size = A at hD hA ⊢
  have hS : va_S A s.heap s.heap [] := va_S.rf
  have hl : lv_has ls 6 [(0, .ref (q 0)), (1, .long x1)] := hl
  unfold fK_sums at hf
  refine lv_aload_n hx hb dK_sums_0 rfl (lv_at hl 0 rfl) ?_
  refine lv_lload_n hx hb dK_sums_1 rfl (lv_at hl 1 rfl) ?_
  obtain ⟨v2, ev2, hf⟩ := kb1 hf
  refine kr_callVi (av := [.long x1]) ⟨hx, hb, hml, hown, hts⟩ (mK_canRaise l D q k cI cJ _ fu σ x1 v2 ev2) (cwV 1 hts (kgood_V TK_good (by decide +kernel)) rfl rfl rfl (by decide +kernel) ⟨Nat.le_of_ble_eq_true rfl, Nat.le_of_ble_eq_true rfl⟩) hK hP hD hS hA (ci := 0) (q0 := 0) rfl rfl rfl hl.1 rfl (Nat.le_of_ble_eq_true rfl) dK_sums_2 ⟨Nat.le_of_ble_eq_true rfl, Nat.le_of_ble_eq_true rfl⟩ (fun H locs hP hD hS => ?_)
  refine lv_if_ne (tgt := 10) hx hb dK_sums_5 (by decide) (fun c5 => ?_) (fun c5 => ?_)
  · have hf := (if_neg c5).symm.trans hf
    refine lv_lconst (v := 0) hx hb dK_sums_10 (by decide) ?_
    refine lv_lstore_n (lv' := [(3, .long (0 : Int64)), (0, .ref (q 0)), (1, .long x1)]) hx hb dK_sums_11 rfl hl (by decide) rfl (fun ls hl => ?_)
    refine lv_iconst (v := 0) hx hb dK_sums_12 (by decide) ?_
    refine lv_istore (lv' := [(5, .int 0), (3, .long (0 : Int64)), (0, .ref (q 0)), (1, .long x1)]) hx hb dK_sums_13 hl (by decide) rfl (fun ls hl => ?_)
    exact tK_sums_15 C0 hK hA fu x1 (0 : Int64) 0 _ _ ls hf (lv_sub hl [2, 3, 1, 0] rfl) hP hD hS
  · have hf := (if_pos c5).symm.trans hf
    refine lv_iconst (v := 0) hx hb dK_sums_8 (by decide) ?_
    exact kr_zret C0 hK hP hD hS rfl (Option.some.inj hf) rfl dK_sums_9
theorem dK_error_0 : decode cK_error 0 = .ok (.aload_n 0, 1) := by decide +kernel
theorem dK_error_1 : decode cK_error 1 = .ok (.iload_n 1, 1) := by decide +kernel
theorem dK_error_2 : decode cK_error 2 = .ok (.invokevirtual 83, 3) := by decide +kernel
theorem dK_error_5 : decode cK_error 5 = .ok (.ifCond .eq (21), 3) := by decide +kernel
theorem dK_error_8 : decode cK_error 8 = .ok (.aload_n 0, 1) := by decide +kernel
theorem dK_error_9 : decode cK_error 9 = .ok (.iload_n 2, 1) := by decide +kernel
theorem dK_error_10 : decode cK_error 10 = .ok (.invokevirtual 83, 3) := by decide +kernel
theorem dK_error_13 : decode cK_error 13 = .ok (.ifCond .eq (13), 3) := by decide +kernel
theorem dK_error_16 : decode cK_error 16 = .ok (.iload_n 3, 1) := by decide +kernel
theorem dK_error_17 : decode cK_error 17 = .ok (.ifCond .lt (9), 3) := by decide +kernel
theorem dK_error_20 : decode cK_error 20 = .ok (.iload_n 3, 1) := by decide +kernel
theorem dK_error_21 : decode cK_error 21 = .ok (.bipush (20), 2) := by decide +kernel
theorem dK_error_23 : decode cK_error 23 = .ok (.if_icmp .le (5), 3) := by decide +kernel
theorem dK_error_26 : decode cK_error 26 = .ok (.iconst 0, 1) := by decide +kernel
theorem dK_error_27 : decode cK_error 27 = .ok (.ireturn, 1) := by decide +kernel
theorem dK_error_28 : decode cK_error 28 = .ok (.aload_n 0, 1) := by decide +kernel
theorem dK_error_29 : decode cK_error 29 = .ok (.getfield 55, 3) := by decide +kernel
theorem dK_error_32 : decode cK_error 32 = .ok (.iload_n 1, 1) := by decide +kernel
theorem dK_error_33 : decode cK_error 33 = .ok (.aload_n 0, 1) := by decide +kernel
theorem dK_error_34 : decode cK_error 34 = .ok (.getfield 29, 3) := by decide +kernel
theorem dK_error_37 : decode cK_error 37 = .ok (.imul, 1) := by decide +kernel
theorem dK_error_38 : decode cK_error 38 = .ok (.iload_n 2, 1) := by decide +kernel
theorem dK_error_39 : decode cK_error 39 = .ok (.iadd, 1) := by decide +kernel
theorem dK_error_40 : decode cK_error 40 = .ok (.iload_n 3, 1) := by decide +kernel
theorem dK_error_41 : decode cK_error 41 = .ok (.iastore, 1) := by decide +kernel
theorem dK_error_42 : decode cK_error 42 = .ok (.iconst 1, 1) := by decide +kernel
theorem dK_error_43 : decode cK_error 43 = .ok (.ireturn, 1) := by decide +kernel
set_option maxHeartbeats 400000 in
set_option maxRecDepth 100000 in
theorem mK_error (l : Launch) (D : va_G) (q : Nat → Nat) (k : kK) (cI cJ : ClassId) (sz : Nat) (σ : sK) (σ' : sK) (x1 : Int32) (x2 : Int32) (x3 : Int32) (r : Int32) (hf : fK_error k σ x1 x2 x3 = some (r, σ')) : Met l yK_error (.code yK_error cK_error 4 (some .boolean) :: TK) ({ frames := 1, cells := 0, slots := 0, locals := 21 }) (kPre D cl0 [(cI, .int), (cJ, .long)] (wdK q k cI cJ) sz σ [.ref (q 0), .int x1, .int x2, .int x3]) (kQi D cl0 [(cI, .int), (cJ, .long)] (wdK q k cI cJ) (va_A (wdK q k cI cJ σ) sz) r σ') 0 0 (va_A (wdK q k cI cJ σ) sz) := by
  refine kr_start (own := RK) (by decide) rfl (Nat.le_of_ble_eq_true rfl) ?_
  intro p e s m args below meth c ls C0 hsz hK hP hD hl
  subst hsz
  obtain ⟨hx, hb, hr, hml, hown, hts, hlocks⟩ := id C0
  have hA : ∀ z : Nat, s.heap.size ≤ z → va_A (wdK q k cI cJ σ) s.heap.size z := fun z h => Or.inr h
  generalize va_A (wdK q k cI cJ σ) s.heap.size = A at hD hA ⊢
  have hS : va_S A s.heap s.heap [] := va_S.rf
  have hl : lv_has ls 4 [(0, .ref (q 0)), (1, .int x1), (2, .int x2), (3, .int x3)] := hl
  unfold fK_error at hf
  refine lv_aload_n hx hb dK_error_0 rfl (lv_at hl 0 rfl) ?_
  refine lv_iload_n hx hb dK_error_1 rfl (lv_at hl 1 rfl) ?_
  refine kr_callVi (av := [.int x1]) ⟨hx, hb, hml, hown, hts⟩ (mK_isAge l D q k cI cJ _ σ x1 _ rfl) (cwV 1 hts (kgood_V TK_good (by decide +kernel)) rfl rfl rfl (by decide +kernel) ⟨Nat.le_of_ble_eq_true rfl, Nat.le_of_ble_eq_true rfl⟩) hK hP hD hS hA (ci := 0) (q0 := 0) rfl rfl rfl hl.1 rfl (Nat.le_of_ble_eq_true rfl) dK_error_2 ⟨Nat.le_of_ble_eq_true rfl, Nat.le_of_ble_eq_true rfl⟩ (fun H locs hP hD hS => ?_)
  refine lv_if_eq (tgt := 26) hx hb dK_error_5 (by decide) (fun c5 => ?_) (fun c5 => ?_)
  · have hf := (if_pos c5).symm.trans hf
    refine lv_iconst (v := 0) hx hb dK_error_26 (by decide) ?_
    exact kr_zret C0 hK hP hD hS rfl (congrArg Prod.fst (Option.some.inj hf)) (congrArg Prod.snd (Option.some.inj hf)) dK_error_27
  · have hf := (if_neg c5).symm.trans hf
    refine lv_aload_n hx hb dK_error_8 rfl (lv_at hl 0 rfl) ?_
    refine lv_iload_n hx hb dK_error_9 rfl (lv_at hl 2 rfl) ?_
    refine kr_callVi (av := [.int x2]) ⟨hx, hb, hml, hown, hts⟩ (mK_isAge l D q k cI cJ _ σ x2 _ rfl) (cwV 1 hts (kgood_V TK_good (by decide +kernel)) rfl rfl rfl (by decide +kernel) ⟨Nat.le_of_ble_eq_true rfl, Nat.le_of_ble_eq_true rfl⟩) hK hP hD hS hA (ci := 0) (q0 := 0) rfl rfl rfl hl.1 rfl (Nat.le_of_ble_eq_true rfl) dK_error_10 ⟨Nat.le_of_ble_eq_true rfl, Nat.le_of_ble_eq_true rfl⟩ (fun H locs hP hD hS => ?_)
    refine lv_if_eq (tgt := 26) hx hb dK_error_13 (by decide) (fun c13 => ?_) (fun c13 => ?_)
    · have hf := (if_pos c13).symm.trans hf
      refine lv_iconst (v := 0) hx hb dK_error_26 (by decide) ?_
      exact kr_zret C0 hK hP hD hS rfl (congrArg Prod.fst (Option.some.inj hf)) (congrArg Prod.snd (Option.some.inj hf)) dK_error_27
    · have hf := (if_neg c13).symm.trans hf
      refine lv_iload_n hx hb dK_error_16 rfl (lv_at hl 3 rfl) ?_
      refine lv_if_lt (tgt := 26) hx hb dK_error_17 (by decide) (fun c17 => ?_) (fun c17 => ?_)
      · have hf := (if_pos c17).symm.trans hf
        refine lv_iconst (v := 0) hx hb dK_error_26 (by decide) ?_
        exact kr_zret C0 hK hP hD hS rfl (congrArg Prod.fst (Option.some.inj hf)) (congrArg Prod.snd (Option.some.inj hf)) dK_error_27
      · have hf := (if_neg c17).symm.trans hf
        refine lv_iload_n hx hb dK_error_20 rfl (lv_at hl 3 rfl) ?_
        refine lv_bipush (v := 20) hx hb dK_error_21 (by decide) ?_
        refine lv_icmp_le (tgt := 28) hx hb dK_error_23 (by decide) (fun c23 => ?_) (fun c23 => ?_)
        · have hf := (if_pos c23).symm.trans hf
          refine lv_aload_n hx hb dK_error_28 rfl (lv_at hl 0 rfl) ?_
          refine gK_errors hx hb hown hts hK hP dK_error_29 ?_
          refine lv_iload_n hx hb dK_error_32 rfl (lv_at hl 1 rfl) ?_
          refine lv_aload_n hx hb dK_error_33 rfl (lv_at hl 0 rfl) ?_
          refine gK_ages hx hb hown hts hK hP dK_error_34 ?_
          refine lv_imul hx hb dK_error_37 ?_
          refine lv_iload_n hx hb dK_error_38 rfl (lv_at hl 2 rfl) ?_
          refine lv_iadd hx hb dK_error_39 ?_
          refine lv_iload_n hx hb dK_error_40 rfl (lv_at hl 3 rfl) ?_
          obtain ⟨a41, ea41, hf⟩ := kb1 hf
          refine kr_iastore (σ' := (uK_errors σ a41)) hx hb hK hP hD hS 8 0 rfl rfl ea41 (wK_errors q k cI cJ _ _) dK_error_41 (fun H locs hP hD hS => ?_)
          generalize (uK_errors σ a41) = s41 at hf hP hD
          refine lv_iconst (v := 1) hx hb dK_error_42 (by decide) ?_
          exact kr_zret C0 hK hP hD hS rfl (congrArg Prod.fst (Option.some.inj hf)) (congrArg Prod.snd (Option.some.inj hf)) dK_error_43
        · have hf := (if_neg c23).symm.trans hf
          refine lv_iconst (v := 0) hx hb dK_error_26 (by decide) ?_
          exact kr_zret C0 hK hP hD hS rfl (congrArg Prod.fst (Option.some.inj hf)) (congrArg Prod.snd (Option.some.inj hf)) dK_error_27
