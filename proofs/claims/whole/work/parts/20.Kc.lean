theorem dK_isLeastOfGroup_0 : decode cK_isLeastOfGroup 0 = .ok (.aload_n 0, 1) := by decide +kernel
theorem dK_isLeastOfGroup_1 : decode cK_isLeastOfGroup 1 = .ok (.getfield 45, 3) := by decide +kernel
theorem dK_isLeastOfGroup_4 : decode cK_isLeastOfGroup 4 = .ok (.iload_n 1, 1) := by decide +kernel
theorem dK_isLeastOfGroup_5 : decode cK_isLeastOfGroup 5 = .ok (.iaload, 1) := by decide +kernel
theorem dK_isLeastOfGroup_6 : decode cK_isLeastOfGroup 6 = .ok (.iload_n 1, 1) := by decide +kernel
theorem dK_isLeastOfGroup_7 : decode cK_isLeastOfGroup 7 = .ok (.if_icmp .ne (7), 3) := by decide +kernel
theorem dK_isLeastOfGroup_10 : decode cK_isLeastOfGroup 10 = .ok (.iconst 1, 1) := by decide +kernel
theorem dK_isLeastOfGroup_11 : decode cK_isLeastOfGroup 11 = .ok (.goto (4), 3) := by decide +kernel
theorem dK_isLeastOfGroup_14 : decode cK_isLeastOfGroup 14 = .ok (.iconst 0, 1) := by decide +kernel
theorem dK_isLeastOfGroup_15 : decode cK_isLeastOfGroup 15 = .ok (.ireturn, 1) := by decide +kernel
set_option maxHeartbeats 400000 in
set_option maxRecDepth 100000 in
theorem mK_isLeastOfGroup (l : Launch) (D : va_G) (q : Nat → Nat) (k : kK) (cI cJ : ClassId) (sz : Nat) (σ : sK) (x1 : Int32) (r : Int32) (hf : fK_isLeastOfGroup k σ x1 = some r) : Met l yK_isLeastOfGroup (.code yK_isLeastOfGroup cK_isLeastOfGroup 2 (some .boolean) :: TK) ({ frames := 0, cells := 0, slots := 0, locals := 0 }) (kPre D cl0 [(cI, .int), (cJ, .long)] (wdK q k cI cJ) sz σ [.ref (q 0), .int x1]) (kQi D cl0 [(cI, .int), (cJ, .long)] (wdK q k cI cJ) (va_A (wdK q k cI cJ σ) sz) r σ) 0 0 (va_A (wdK q k cI cJ σ) sz) := by
  refine kr_start (own := RK) (by decide) rfl (Nat.le_of_ble_eq_true rfl) ?_
  intro p e s m args below meth c ls C0 hsz hK hP hD hl
  subst hsz
  obtain ⟨hx, hb, hr, hml, hown, hts, hlocks⟩ := id C0
  have hA : ∀ z : Nat, s.heap.size ≤ z → va_A (wdK q k cI cJ σ) s.heap.size z := fun z h => Or.inr h
  generalize va_A (wdK q k cI cJ σ) s.heap.size = A at hD hA ⊢
  have hS : va_S A s.heap s.heap [] := va_S.rf
  have hl : lv_has ls 2 [(0, .ref (q 0)), (1, .int x1)] := hl
  unfold fK_isLeastOfGroup at hf
  refine lv_aload_n hx hb dK_isLeastOfGroup_0 rfl (lv_at hl 0 rfl) ?_
  refine gK_groupOf hx hb hown hts hK hP dK_isLeastOfGroup_1 ?_
  refine lv_iload_n hx hb dK_isLeastOfGroup_4 rfl (lv_at hl 1 rfl) ?_
  obtain ⟨v5, ev5, hf⟩ := kb1 hf
  refine kr_iaload hx hb hK hP 5 0 rfl rfl ev5 dK_isLeastOfGroup_5 ?_
  refine lv_iload_n hx hb dK_isLeastOfGroup_6 rfl (lv_at hl 1 rfl) ?_
  refine lv_icmp_ne (tgt := 14) hx hb dK_isLeastOfGroup_7 (by decide) (fun c7 => ?_) (fun c7 => ?_)
  · have hf := (if_neg c7).symm.trans hf
    refine lv_iconst (v := 0) hx hb dK_isLeastOfGroup_14 (by decide) ?_
    exact kr_zret C0 hK hP hD hS rfl (Option.some.inj hf) rfl dK_isLeastOfGroup_15
  · have hf := (if_pos c7).symm.trans hf
    refine lv_iconst (v := 1) hx hb dK_isLeastOfGroup_10 (by decide) ?_
    refine lv_goto (tgt := 15) hx hb dK_isLeastOfGroup_11 (by decide) ?_
    exact kr_zret C0 hK hP hD hS rfl (Option.some.inj hf) rfl dK_isLeastOfGroup_15
theorem dK_empty_0 : decode cK_empty 0 = .ok (.iconst 0, 1) := by decide +kernel
theorem dK_empty_1 : decode cK_empty 1 = .ok (.istore_n 2, 1) := by decide +kernel
theorem dK_empty_2 : decode cK_empty 2 = .ok (.iconst 0, 1) := by decide +kernel
theorem dK_empty_3 : decode cK_empty 3 = .ok (.istore_n 3, 1) := by decide +kernel
theorem dK_empty_4 : decode cK_empty 4 = .ok (.iload_n 3, 1) := by decide +kernel
theorem dK_empty_5 : decode cK_empty 5 = .ok (.aload_n 0, 1) := by decide +kernel
theorem dK_empty_6 : decode cK_empty 6 = .ok (.getfield 26, 3) := by decide +kernel
theorem dK_empty_9 : decode cK_empty 9 = .ok (.if_icmp .ge (45), 3) := by decide +kernel
theorem dK_empty_12 : decode cK_empty 12 = .ok (.aload_n 0, 1) := by decide +kernel
theorem dK_empty_13 : decode cK_empty 13 = .ok (.iload_n 3, 1) := by decide +kernel
theorem dK_empty_14 : decode cK_empty 14 = .ok (.invokevirtual 119, 3) := by decide +kernel
theorem dK_empty_17 : decode cK_empty 17 = .ok (.ifCond .eq (31), 3) := by decide +kernel
theorem dK_empty_20 : decode cK_empty 20 = .ok (.aload_n 0, 1) := by decide +kernel
theorem dK_empty_21 : decode cK_empty 21 = .ok (.iload_n 3, 1) := by decide +kernel
theorem dK_empty_22 : decode cK_empty 22 = .ok (.invokevirtual 112, 3) := by decide +kernel
theorem dK_empty_25 : decode cK_empty 25 = .ok (.ifCond .ne (23), 3) := by decide +kernel
theorem dK_empty_28 : decode cK_empty 28 = .ok (.aload_n 0, 1) := by decide +kernel
theorem dK_empty_29 : decode cK_empty 29 = .ok (.getfield 48, 3) := by decide +kernel
theorem dK_empty_32 : decode cK_empty 32 = .ok (.iload_n 3, 1) := by decide +kernel
theorem dK_empty_33 : decode cK_empty 33 = .ok (.iaload, 1) := by decide +kernel
theorem dK_empty_34 : decode cK_empty 34 = .ok (.iconst (-1), 1) := by decide +kernel
theorem dK_empty_35 : decode cK_empty 35 = .ok (.if_icmp .ne (13), 3) := by decide +kernel
theorem dK_empty_38 : decode cK_empty 38 = .ok (.iload_n 2, 1) := by decide +kernel
theorem dK_empty_39 : decode cK_empty 39 = .ok (.iload_n 1, 1) := by decide +kernel
theorem dK_empty_40 : decode cK_empty 40 = .ok (.if_icmp .ne (5), 3) := by decide +kernel
theorem dK_empty_43 : decode cK_empty 43 = .ok (.iload_n 3, 1) := by decide +kernel
theorem dK_empty_44 : decode cK_empty 44 = .ok (.ireturn, 1) := by decide +kernel
theorem dK_empty_45 : decode cK_empty 45 = .ok (.iinc 2 (1), 3) := by decide +kernel
theorem dK_empty_48 : decode cK_empty 48 = .ok (.iinc 3 (1), 3) := by decide +kernel
theorem dK_empty_51 : decode cK_empty 51 = .ok (.goto (-47), 3) := by decide +kernel
theorem dK_empty_54 : decode cK_empty 54 = .ok (.iconst (-1), 1) := by decide +kernel
theorem dK_empty_55 : decode cK_empty 55 = .ok (.ireturn, 1) := by decide +kernel
set_option maxHeartbeats 400000 in
set_option maxRecDepth 100000 in
theorem tK_empty_4 {p : Program} {l : Launch} {e : Env} {s : State} {m : MethodId} {args : Array Value} {below : List Frame} {meth : Method} {c : Code} {D : va_G} {A : Nat → Prop} {q : Nat → Nat} {k : kK} {cI cJ : ClassId} {r : Int32} {σ : sK} {fu : Nat} (C0 : Cx p s m args meth c cK_empty 4 (some .int) RK TK) (hK : va_K D cl0 [(cI, .int), (cJ, .long)] s) (hA : ∀ z, s.heap.size ≤ z → A z) : ∀ n : Nat, ∀ (x1 : Int32) (x2 : Int32) (x3 : Int32)(H : Heap) (locs : List Loc) (ls : Array Slot), fK_empty_4 fu k σ n x1 x2 x3 = some r → lv_has ls 4 [(0, .ref (q 0)), (1, .int x1), (2, .int x2), (3, .int x3)] → va_P D cl0 (wdK q k cI cJ σ) H → va_D A (wdK q k cI cJ σ) → va_S A s.heap H locs → W p l e ({ frames := 2, cells := 0, slots := 0, locals := 43 }) s m args below meth c H locs 0 0 (MQ below (kQi D cl0 [(cI, .int), (cJ, .long)] (wdK q k cI cJ) A r σ) args s 0 0 A) (F0 m 4 ls []) := by
  obtain ⟨hx, hb, hr, hml, hown, hts, hlocks⟩ := id C0
  intro n
  induction n with
  | zero =>
    intro x1 x2 x3 H locs ls hf hl hP hD hS
    cases hf
  | succ n ih =>
    intro x1 x2 x3 H locs ls hf hl hP hD hS
    rw [fK_empty_4] at hf
    refine lv_iload_n hx hb dK_empty_4 rfl (lv_at hl 3 rfl) ?_
    refine lv_aload_n hx hb dK_empty_5 rfl (lv_at hl 0 rfl) ?_
    refine gK_classes hx hb hown hts hK hP dK_empty_6 ?_
    refine lv_icmp_ge (tgt := 54) hx hb dK_empty_9 (by decide) (fun c9 => ?_) (fun c9 => ?_)
    · have hf := (if_pos c9).symm.trans hf
      refine lv_iconst (v := (-1)) hx hb dK_empty_54 (by decide) ?_
      exact kr_iret C0 hK hP hD hS (Option.some.inj hf) rfl dK_empty_55
    · have hf := (if_neg c9).symm.trans hf
      refine lv_aload_n hx hb dK_empty_12 rfl (lv_at hl 0 rfl) ?_
      refine lv_iload_n hx hb dK_empty_13 rfl (lv_at hl 3 rfl) ?_
      obtain ⟨v14, ev14, hf⟩ := kb1 hf
      refine kr_callVi (av := [.int x3]) ⟨hx, hb, hml, hown, hts⟩ (mK_isLeastOfGroup l D q k cI cJ _ σ x3 v14 ev14) (cwV 1 hts (kgood_V TK_good (by decide +kernel)) rfl rfl rfl (by decide +kernel) ⟨Nat.le_of_ble_eq_true rfl, Nat.le_of_ble_eq_true rfl⟩) hK hP hD hS hA (ci := 0) (q0 := 0) rfl rfl rfl hl.1 rfl (Nat.le_of_ble_eq_true rfl) dK_empty_14 ⟨Nat.le_of_ble_eq_true rfl, Nat.le_of_ble_eq_true rfl⟩ (fun H locs hP hD hS => ?_)
      refine lv_if_eq (tgt := 48) hx hb dK_empty_17 (by decide) (fun c17 => ?_) (fun c17 => ?_)
      · have hf := (if_pos c17).symm.trans hf
        refine lv_iinc (v := (x3 + 1)) (lv' := [(3, .int (x3 + 1)), (0, .ref (q 0)), (1, .int x1), (2, .int x2)]) hx hb dK_empty_48 hl (k := 3) rfl rfl (by decide) rfl (fun ls hl => ?_)
        refine lv_goto (tgt := 4) hx hb dK_empty_51 (by decide) ?_
        exact ih x1 x2 (x3 + 1) _ _ ls hf (lv_sub hl [1, 2, 3, 0] rfl) hP hD hS
      · have hf := (if_neg c17).symm.trans hf
        refine lv_aload_n hx hb dK_empty_20 rfl (lv_at hl 0 rfl) ?_
        refine lv_iload_n hx hb dK_empty_21 rfl (lv_at hl 3 rfl) ?_
        obtain ⟨v22, ev22, hf⟩ := kb1 hf
        refine kr_callVi (av := [.int x3]) ⟨hx, hb, hml, hown, hts⟩ (mK_own l D q k cI cJ _ σ x3 v22 ev22) (cwV 1 hts (kgood_V TK_good (by decide +kernel)) rfl rfl rfl (by decide +kernel) ⟨Nat.le_of_ble_eq_true rfl, Nat.le_of_ble_eq_true rfl⟩) hK hP hD hS hA (ci := 0) (q0 := 0) rfl rfl rfl hl.1 rfl (Nat.le_of_ble_eq_true rfl) dK_empty_22 ⟨Nat.le_of_ble_eq_true rfl, Nat.le_of_ble_eq_true rfl⟩ (fun H locs hP hD hS => ?_)
        refine lv_if_ne (tgt := 48) hx hb dK_empty_25 (by decide) (fun c25 => ?_) (fun c25 => ?_)
        · have hf := (if_neg c25).symm.trans hf
          refine lv_iinc (v := (x3 + 1)) (lv' := [(3, .int (x3 + 1)), (0, .ref (q 0)), (1, .int x1), (2, .int x2)]) hx hb dK_empty_48 hl (k := 3) rfl rfl (by decide) rfl (fun ls hl => ?_)
          refine lv_goto (tgt := 4) hx hb dK_empty_51 (by decide) ?_
          exact ih x1 x2 (x3 + 1) _ _ ls hf (lv_sub hl [1, 2, 3, 0] rfl) hP hD hS
        · have hf := (if_pos c25).symm.trans hf
          refine lv_aload_n hx hb dK_empty_28 rfl (lv_at hl 0 rfl) ?_
          refine gK_filledBy hx hb hown hts hK hP dK_empty_29 ?_
          refine lv_iload_n hx hb dK_empty_32 rfl (lv_at hl 3 rfl) ?_
          obtain ⟨v33, ev33, hf⟩ := kb1 hf
          refine kr_iaload hx hb hK hP 6 0 rfl rfl ev33 dK_empty_33 ?_
          refine lv_iconst (v := (-1)) hx hb dK_empty_34 (by decide) ?_
          refine lv_icmp_ne (tgt := 48) hx hb dK_empty_35 (by decide) (fun c35 => ?_) (fun c35 => ?_)
          · have hf := (if_neg c35).symm.trans hf
            refine lv_iinc (v := (x3 + 1)) (lv' := [(3, .int (x3 + 1)), (0, .ref (q 0)), (1, .int x1), (2, .int x2)]) hx hb dK_empty_48 hl (k := 3) rfl rfl (by decide) rfl (fun ls hl => ?_)
            refine lv_goto (tgt := 4) hx hb dK_empty_51 (by decide) ?_
            exact ih x1 x2 (x3 + 1) _ _ ls hf (lv_sub hl [1, 2, 3, 0] rfl) hP hD hS
          · have hf := (if_pos c35).symm.trans hf
            refine lv_iload_n hx hb dK_empty_38 rfl (lv_at hl 2 rfl) ?_
            refine lv_iload_n hx hb dK_empty_39 rfl (lv_at hl 1 rfl) ?_
            refine lv_icmp_ne (tgt := 45) hx hb dK_empty_40 (by decide) (fun c40 => ?_) (fun c40 => ?_)
            · have hf := (if_neg c40).symm.trans hf
              refine lv_iinc (v := (x2 + 1)) (lv' := [(2, .int (x2 + 1)), (0, .ref (q 0)), (1, .int x1), (3, .int x3)]) hx hb dK_empty_45 hl (k := 2) rfl rfl (by decide) rfl (fun ls hl => ?_)
              refine lv_iinc (v := (x3 + 1)) (lv' := [(3, .int (x3 + 1)), (2, .int (x2 + 1)), (0, .ref (q 0)), (1, .int x1)]) hx hb dK_empty_48 hl (k := 3) rfl rfl (by decide) rfl (fun ls hl => ?_)
              refine lv_goto (tgt := 4) hx hb dK_empty_51 (by decide) ?_
              exact ih x1 (x2 + 1) (x3 + 1) _ _ ls hf (lv_sub hl [2, 3, 1, 0] rfl) hP hD hS
            · have hf := (if_pos c40).symm.trans hf
              refine lv_iload_n hx hb dK_empty_43 rfl (lv_at hl 3 rfl) ?_
              exact kr_iret C0 hK hP hD hS (Option.some.inj hf) rfl dK_empty_44
set_option maxHeartbeats 400000 in
set_option maxRecDepth 100000 in
theorem mK_empty (l : Launch) (D : va_G) (q : Nat → Nat) (k : kK) (cI cJ : ClassId) (sz : Nat) (fu : Nat) (σ : sK) (x1 : Int32) (r : Int32) (hf : fK_empty fu k σ x1 = some r) : Met l yK_empty (.code yK_empty cK_empty 4 (some .int) :: TK) ({ frames := 2, cells := 0, slots := 0, locals := 43 }) (kPre D cl0 [(cI, .int), (cJ, .long)] (wdK q k cI cJ) sz σ [.ref (q 0), .int x1]) (kQi D cl0 [(cI, .int), (cJ, .long)] (wdK q k cI cJ) (va_A (wdK q k cI cJ σ) sz) r σ) 0 0 (va_A (wdK q k cI cJ σ) sz) := by
  refine kr_start (own := RK) (by decide) rfl (Nat.le_of_ble_eq_true rfl) ?_
  intro p e s m args below meth c ls C0 hsz hK hP hD hl
  subst hsz
  obtain ⟨hx, hb, hr, hml, hown, hts, hlocks⟩ := id C0
  have hA : ∀ z : Nat, s.heap.size ≤ z → va_A (wdK q k cI cJ σ) s.heap.size z := fun z h => Or.inr h
  generalize va_A (wdK q k cI cJ σ) s.heap.size = A at hD hA ⊢
  have hS : va_S A s.heap s.heap [] := va_S.rf
  have hl : lv_has ls 4 [(0, .ref (q 0)), (1, .int x1)] := hl
  unfold fK_empty at hf
  refine lv_iconst (v := 0) hx hb dK_empty_0 (by decide) ?_
  refine lv_istore_n (lv' := [(2, .int 0), (0, .ref (q 0)), (1, .int x1)]) hx hb dK_empty_1 rfl hl (by decide) rfl (fun ls hl => ?_)
  refine lv_iconst (v := 0) hx hb dK_empty_2 (by decide) ?_
  refine lv_istore_n (lv' := [(3, .int 0), (2, .int 0), (0, .ref (q 0)), (1, .int x1)]) hx hb dK_empty_3 rfl hl (by decide) rfl (fun ls hl => ?_)
  exact tK_empty_4 C0 hK hA fu x1 0 0 _ _ ls hf (lv_sub hl [2, 3, 1, 0] rfl) hP hD hS
theorem dK_distanceTo_0 : decode cK_distanceTo 0 = .ok (.aload_n 0, 1) := by decide +kernel
theorem dK_distanceTo_1 : decode cK_distanceTo 1 = .ok (.getfield 26, 3) := by decide +kernel
theorem dK_distanceTo_4 : decode cK_distanceTo 4 = .ok (.istore_n 3, 1) := by decide +kernel
theorem dK_distanceTo_5 : decode cK_distanceTo 5 = .ok (.iconst 0, 1) := by decide +kernel
theorem dK_distanceTo_6 : decode cK_distanceTo 6 = .ok (.istore 4, 2) := by decide +kernel
theorem dK_distanceTo_8 : decode cK_distanceTo 8 = .ok (.iload 4, 2) := by decide +kernel
theorem dK_distanceTo_10 : decode cK_distanceTo 10 = .ok (.aload_n 0, 1) := by decide +kernel
theorem dK_distanceTo_11 : decode cK_distanceTo 11 = .ok (.getfield 26, 3) := by decide +kernel
theorem dK_distanceTo_14 : decode cK_distanceTo 14 = .ok (.if_icmp .ge (32), 3) := by decide +kernel
theorem dK_distanceTo_17 : decode cK_distanceTo 17 = .ok (.aload_n 0, 1) := by decide +kernel
theorem dK_distanceTo_18 : decode cK_distanceTo 18 = .ok (.getfield 45, 3) := by decide +kernel
theorem dK_distanceTo_21 : decode cK_distanceTo 21 = .ok (.iload 4, 2) := by decide +kernel
theorem dK_distanceTo_23 : decode cK_distanceTo 23 = .ok (.iaload, 1) := by decide +kernel
theorem dK_distanceTo_24 : decode cK_distanceTo 24 = .ok (.iload_n 1, 1) := by decide +kernel
theorem dK_distanceTo_25 : decode cK_distanceTo 25 = .ok (.if_icmp .ne (15), 3) := by decide +kernel
theorem dK_distanceTo_28 : decode cK_distanceTo 28 = .ok (.iload_n 3, 1) := by decide +kernel
theorem dK_distanceTo_29 : decode cK_distanceTo 29 = .ok (.iload 4, 2) := by decide +kernel
theorem dK_distanceTo_31 : decode cK_distanceTo 31 = .ok (.iload_n 2, 1) := by decide +kernel
theorem dK_distanceTo_32 : decode cK_distanceTo 32 = .ok (.isub, 1) := by decide +kernel
theorem dK_distanceTo_33 : decode cK_distanceTo 33 = .ok (.invokestatic 135, 3) := by decide +kernel
theorem dK_distanceTo_36 : decode cK_distanceTo 36 = .ok (.invokestatic 17, 3) := by decide +kernel
theorem dK_distanceTo_39 : decode cK_distanceTo 39 = .ok (.istore_n 3, 1) := by decide +kernel
theorem dK_distanceTo_40 : decode cK_distanceTo 40 = .ok (.iinc 4 (1), 3) := by decide +kernel
theorem dK_distanceTo_43 : decode cK_distanceTo 43 = .ok (.goto (-35), 3) := by decide +kernel
theorem dK_distanceTo_46 : decode cK_distanceTo 46 = .ok (.iload_n 3, 1) := by decide +kernel
theorem dK_distanceTo_47 : decode cK_distanceTo 47 = .ok (.ireturn, 1) := by decide +kernel
set_option maxHeartbeats 400000 in
set_option maxRecDepth 100000 in
theorem tK_distanceTo_8 {p : Program} {l : Launch} {e : Env} {s : State} {m : MethodId} {args : Array Value} {below : List Frame} {meth : Method} {c : Code} {D : va_G} {A : Nat → Prop} {q : Nat → Nat} {k : kK} {cI cJ : ClassId} {r : Int32} {σ : sK} {fu : Nat} (C0 : Cx p s m args meth c cK_distanceTo 5 (some .int) RK TK) (hK : va_K D cl0 [(cI, .int), (cJ, .long)] s) (hA : ∀ z, s.heap.size ≤ z → A z) : ∀ n : Nat, ∀ (x1 : Int32) (x2 : Int32) (x3 : Int32) (x4 : Int32)(H : Heap) (locs : List Loc) (ls : Array Slot), fK_distanceTo_8 fu k σ n x1 x2 x3 x4 = some r → lv_has ls 5 [(0, .ref (q 0)), (1, .int x1), (2, .int x2), (3, .int x3), (4, .int x4)] → va_P D cl0 (wdK q k cI cJ σ) H → va_D A (wdK q k cI cJ σ) → va_S A s.heap H locs → W p l e ({ frames := 1, cells := 0, slots := 0, locals := 21 }) s m args below meth c H locs 0 0 (MQ below (kQi D cl0 [(cI, .int), (cJ, .long)] (wdK q k cI cJ) A r σ) args s 0 0 A) (F0 m 8 ls []) := by
  obtain ⟨hx, hb, hr, hml, hown, hts, hlocks⟩ := id C0
  intro n
  induction n with
  | zero =>
    intro x1 x2 x3 x4 H locs ls hf hl hP hD hS
    cases hf
  | succ n ih =>
    intro x1 x2 x3 x4 H locs ls hf hl hP hD hS
    rw [fK_distanceTo_8] at hf
    refine lv_iload hx hb dK_distanceTo_8 (lv_at hl 4 rfl) ?_
    refine lv_aload_n hx hb dK_distanceTo_10 rfl (lv_at hl 0 rfl) ?_
    refine gK_classes hx hb hown hts hK hP dK_distanceTo_11 ?_
    refine lv_icmp_ge (tgt := 46) hx hb dK_distanceTo_14 (by decide) (fun c14 => ?_) (fun c14 => ?_)
    · have hf := (if_pos c14).symm.trans hf
      refine lv_iload_n hx hb dK_distanceTo_46 rfl (lv_at hl 3 rfl) ?_
      exact kr_iret C0 hK hP hD hS (Option.some.inj hf) rfl dK_distanceTo_47
    · have hf := (if_neg c14).symm.trans hf
      refine lv_aload_n hx hb dK_distanceTo_17 rfl (lv_at hl 0 rfl) ?_
      refine gK_groupOf hx hb hown hts hK hP dK_distanceTo_18 ?_
      refine lv_iload hx hb dK_distanceTo_21 (lv_at hl 4 rfl) ?_
      obtain ⟨v23, ev23, hf⟩ := kb1 hf
      refine kr_iaload hx hb hK hP 5 0 rfl rfl ev23 dK_distanceTo_23 ?_
      refine lv_iload_n hx hb dK_distanceTo_24 rfl (lv_at hl 1 rfl) ?_
      refine lv_icmp_ne (tgt := 40) hx hb dK_distanceTo_25 (by decide) (fun c25 => ?_) (fun c25 => ?_)
      · have hf := (if_neg c25).symm.trans hf
        refine lv_iinc (v := (x4 + 1)) (lv' := [(4, .int (x4 + 1)), (0, .ref (q 0)), (1, .int x1), (2, .int x2), (3, .int x3)]) hx hb dK_distanceTo_40 hl (k := 4) rfl rfl (by decide) rfl (fun ls hl => ?_)
        refine lv_goto (tgt := 8) hx hb dK_distanceTo_43 (by decide) ?_
        exact ih x1 x2 x3 (x4 + 1) _ _ ls hf (lv_sub hl [1, 2, 3, 4, 0] rfl) hP hD hS
      · have hf := (if_pos c25).symm.trans hf
        refine lv_iload_n hx hb dK_distanceTo_28 rfl (lv_at hl 3 rfl) ?_
        refine lv_iload hx hb dK_distanceTo_29 (lv_at hl 4 rfl) ?_
        refine lv_iload_n hx hb dK_distanceTo_31 rfl (lv_at hl 2 rfl) ?_
        refine lv_isub hx hb dK_distanceTo_32 ?_
        refine va_mabs hx hb (hml.trans hl.1.symm) hown (hts (.methodLink RK 135 Lib.Math.abs.name) (by decide +kernel)) (hts (.static Lib.Math.abs.name) (by decide +kernel)) (hts (.initialized "java/lang/Math") (by decide +kernel)) (hts (.code Lib.Math.abs.name Lib.Math.abs.code 1 (some .int)) (by decide +kernel)) (Nat.le_of_ble_eq_true rfl) (Nat.le_of_ble_eq_true rfl) (Nat.le_of_ble_eq_true rfl) (Nat.le_of_ble_eq_true rfl) dK_distanceTo_33 ?_
        refine va_mmin hx hb (hml.trans hl.1.symm) hown (hts (.methodLink RK 17 Lib.Math.min.name) (by decide +kernel)) (hts (.static Lib.Math.min.name) (by decide +kernel)) (hts (.initialized "java/lang/Math") (by decide +kernel)) (hts (.code Lib.Math.min.name Lib.Math.min.code 2 (some .int)) (by decide +kernel)) (Nat.le_of_ble_eq_true rfl) (Nat.le_of_ble_eq_true rfl) (Nat.le_of_ble_eq_true rfl) (Nat.le_of_ble_eq_true rfl) dK_distanceTo_36 ?_
        refine lv_istore_n (lv' := [(3, .int (if (if 0 ≤ (x4 - x2) then (x4 - x2) else 0 - (x4 - x2)) < x3 then (if 0 ≤ (x4 - x2) then (x4 - x2) else 0 - (x4 - x2)) else x3)), (0, .ref (q 0)), (1, .int x1), (2, .int x2), (4, .int x4)]) hx hb dK_distanceTo_39 rfl hl (by decide) rfl (fun ls hl => ?_)
        refine lv_iinc (v := (x4 + 1)) (lv' := [(4, .int (x4 + 1)), (3, .int (if (if 0 ≤ (x4 - x2) then (x4 - x2) else 0 - (x4 - x2)) < x3 then (if 0 ≤ (x4 - x2) then (x4 - x2) else 0 - (x4 - x2)) else x3)), (0, .ref (q 0)), (1, .int x1), (2, .int x2)]) hx hb dK_distanceTo_40 hl (k := 4) rfl rfl (by decide) rfl (fun ls hl => ?_)
        refine lv_goto (tgt := 8) hx hb dK_distanceTo_43 (by decide) ?_
        exact ih x1 x2 (if (if 0 ≤ (x4 - x2) then (x4 - x2) else 0 - (x4 - x2)) < x3 then (if 0 ≤ (x4 - x2) then (x4 - x2) else 0 - (x4 - x2)) else x3) (x4 + 1) _ _ ls hf (lv_sub hl [2, 3, 4, 1, 0] rfl) hP hD hS
set_option maxHeartbeats 400000 in
set_option maxRecDepth 100000 in
theorem mK_distanceTo (l : Launch) (D : va_G) (q : Nat → Nat) (k : kK) (cI cJ : ClassId) (sz : Nat) (fu : Nat) (σ : sK) (x1 : Int32) (x2 : Int32) (r : Int32) (hf : fK_distanceTo fu k σ x1 x2 = some r) : Met l yK_distanceTo (.code yK_distanceTo cK_distanceTo 5 (some .int) :: TK) ({ frames := 1, cells := 0, slots := 0, locals := 21 }) (kPre D cl0 [(cI, .int), (cJ, .long)] (wdK q k cI cJ) sz σ [.ref (q 0), .int x1, .int x2]) (kQi D cl0 [(cI, .int), (cJ, .long)] (wdK q k cI cJ) (va_A (wdK q k cI cJ σ) sz) r σ) 0 0 (va_A (wdK q k cI cJ σ) sz) := by
  refine kr_start (own := RK) (by decide) rfl (Nat.le_of_ble_eq_true rfl) ?_
  intro p e s m args below meth c ls C0 hsz hK hP hD hl
  subst hsz
  obtain ⟨hx, hb, hr, hml, hown, hts, hlocks⟩ := id C0
  have hA : ∀ z : Nat, s.heap.size ≤ z → va_A (wdK q k cI cJ σ) s.heap.size z := fun z h => Or.inr h
  generalize va_A (wdK q k cI cJ σ) s.heap.size = A at hD hA ⊢
  have hS : va_S A s.heap s.heap [] := va_S.rf
  have hl : lv_has ls 5 [(0, .ref (q 0)), (1, .int x1), (2, .int x2)] := hl
  unfold fK_distanceTo at hf
  refine lv_aload_n hx hb dK_distanceTo_0 rfl (lv_at hl 0 rfl) ?_
  refine gK_classes hx hb hown hts hK hP dK_distanceTo_1 ?_
  refine lv_istore_n (lv' := [(3, .int (kK_classes k)), (0, .ref (q 0)), (1, .int x1), (2, .int x2)]) hx hb dK_distanceTo_4 rfl hl (by decide) rfl (fun ls hl => ?_)
  refine lv_iconst (v := 0) hx hb dK_distanceTo_5 (by decide) ?_
  refine lv_istore (lv' := [(4, .int 0), (3, .int (kK_classes k)), (0, .ref (q 0)), (1, .int x1), (2, .int x2)]) hx hb dK_distanceTo_6 hl (by decide) rfl (fun ls hl => ?_)
  exact tK_distanceTo_8 C0 hK hA fu x1 x2 (kK_classes k) 0 _ _ ls hf (lv_sub hl [2, 3, 4, 1, 0] rfl) hP hD hS
theorem dK_nearestWithReadings_0 : decode cK_nearestWithReadings 0 = .ok (.iconst (-1), 1) := by decide +kernel
theorem dK_nearestWithReadings_1 : decode cK_nearestWithReadings 1 = .ok (.istore_n 2, 1) := by decide +kernel
theorem dK_nearestWithReadings_2 : decode cK_nearestWithReadings 2 = .ok (.aload_n 0, 1) := by decide +kernel
theorem dK_nearestWithReadings_3 : decode cK_nearestWithReadings 3 = .ok (.getfield 26, 3) := by decide +kernel
theorem dK_nearestWithReadings_6 : decode cK_nearestWithReadings 6 = .ok (.istore_n 3, 1) := by decide +kernel
theorem dK_nearestWithReadings_7 : decode cK_nearestWithReadings 7 = .ok (.iconst 0, 1) := by decide +kernel
theorem dK_nearestWithReadings_8 : decode cK_nearestWithReadings 8 = .ok (.istore 4, 2) := by decide +kernel
theorem dK_nearestWithReadings_10 : decode cK_nearestWithReadings 10 = .ok (.iload 4, 2) := by decide +kernel
theorem dK_nearestWithReadings_12 : decode cK_nearestWithReadings 12 = .ok (.aload_n 0, 1) := by decide +kernel
theorem dK_nearestWithReadings_13 : decode cK_nearestWithReadings 13 = .ok (.getfield 26, 3) := by decide +kernel
theorem dK_nearestWithReadings_16 : decode cK_nearestWithReadings 16 = .ok (.if_icmp .ge (63), 3) := by decide +kernel
theorem dK_nearestWithReadings_19 : decode cK_nearestWithReadings 19 = .ok (.aload_n 0, 1) := by decide +kernel
theorem dK_nearestWithReadings_20 : decode cK_nearestWithReadings 20 = .ok (.getfield 45, 3) := by decide +kernel
theorem dK_nearestWithReadings_23 : decode cK_nearestWithReadings 23 = .ok (.iload 4, 2) := by decide +kernel
theorem dK_nearestWithReadings_25 : decode cK_nearestWithReadings 25 = .ok (.iaload, 1) := by decide +kernel
theorem dK_nearestWithReadings_26 : decode cK_nearestWithReadings 26 = .ok (.istore 5, 2) := by decide +kernel
theorem dK_nearestWithReadings_28 : decode cK_nearestWithReadings 28 = .ok (.aload_n 0, 1) := by decide +kernel
theorem dK_nearestWithReadings_29 : decode cK_nearestWithReadings 29 = .ok (.iload 5, 2) := by decide +kernel
theorem dK_nearestWithReadings_31 : decode cK_nearestWithReadings 31 = .ok (.invokevirtual 112, 3) := by decide +kernel
theorem dK_nearestWithReadings_34 : decode cK_nearestWithReadings 34 = .ok (.ifCond .ne (6), 3) := by decide +kernel
theorem dK_nearestWithReadings_37 : decode cK_nearestWithReadings 37 = .ok (.goto (36), 3) := by decide +kernel
theorem dK_nearestWithReadings_40 : decode cK_nearestWithReadings 40 = .ok (.aload_n 0, 1) := by decide +kernel
theorem dK_nearestWithReadings_41 : decode cK_nearestWithReadings 41 = .ok (.iload_n 1, 1) := by decide +kernel
theorem dK_nearestWithReadings_42 : decode cK_nearestWithReadings 42 = .ok (.iload 4, 2) := by decide +kernel
theorem dK_nearestWithReadings_44 : decode cK_nearestWithReadings 44 = .ok (.invokevirtual 132, 3) := by decide +kernel
theorem dK_nearestWithReadings_47 : decode cK_nearestWithReadings 47 = .ok (.istore 6, 2) := by decide +kernel
theorem dK_nearestWithReadings_49 : decode cK_nearestWithReadings 49 = .ok (.iload 6, 2) := by decide +kernel
theorem dK_nearestWithReadings_51 : decode cK_nearestWithReadings 51 = .ok (.iload_n 3, 1) := by decide +kernel
theorem dK_nearestWithReadings_52 : decode cK_nearestWithReadings 52 = .ok (.if_icmp .lt (15), 3) := by decide +kernel
theorem dK_nearestWithReadings_55 : decode cK_nearestWithReadings 55 = .ok (.iload 6, 2) := by decide +kernel
theorem dK_nearestWithReadings_57 : decode cK_nearestWithReadings 57 = .ok (.iload_n 3, 1) := by decide +kernel
theorem dK_nearestWithReadings_58 : decode cK_nearestWithReadings 58 = .ok (.if_icmp .ne (15), 3) := by decide +kernel
theorem dK_nearestWithReadings_61 : decode cK_nearestWithReadings 61 = .ok (.iload 5, 2) := by decide +kernel
theorem dK_nearestWithReadings_63 : decode cK_nearestWithReadings 63 = .ok (.iload_n 2, 1) := by decide +kernel
theorem dK_nearestWithReadings_64 : decode cK_nearestWithReadings 64 = .ok (.if_icmp .ge (9), 3) := by decide +kernel
theorem dK_nearestWithReadings_67 : decode cK_nearestWithReadings 67 = .ok (.iload 6, 2) := by decide +kernel
theorem dK_nearestWithReadings_69 : decode cK_nearestWithReadings 69 = .ok (.istore_n 3, 1) := by decide +kernel
theorem dK_nearestWithReadings_70 : decode cK_nearestWithReadings 70 = .ok (.iload 5, 2) := by decide +kernel
theorem dK_nearestWithReadings_72 : decode cK_nearestWithReadings 72 = .ok (.istore_n 2, 1) := by decide +kernel
theorem dK_nearestWithReadings_73 : decode cK_nearestWithReadings 73 = .ok (.iinc 4 (1), 3) := by decide +kernel
theorem dK_nearestWithReadings_76 : decode cK_nearestWithReadings 76 = .ok (.goto (-66), 3) := by decide +kernel
theorem dK_nearestWithReadings_79 : decode cK_nearestWithReadings 79 = .ok (.iload_n 2, 1) := by decide +kernel
theorem dK_nearestWithReadings_80 : decode cK_nearestWithReadings 80 = .ok (.ireturn, 1) := by decide +kernel
set_option maxHeartbeats 400000 in
set_option maxRecDepth 100000 in
theorem tK_nearestWithReadings_67 {p : Program} {l : Launch} {e : Env} {s : State} {m : MethodId} {args : Array Value} {below : List Frame} {meth : Method} {c : Code} {D : va_G} {A : Nat → Prop} {q : Nat → Nat} {k : kK} {cI cJ : ClassId} {r : Int32} {σ : sK} {fu : Nat} {h10 : Int32 → Int32 → Int32 → Int32 → Option Int32} (C0 : Cx p s m args meth c cK_nearestWithReadings 7 (some .int) RK TK) (hK : va_K D cl0 [(cI, .int), (cJ, .long)] s) (hA : ∀ z, s.heap.size ≤ z → A z) (ih10 : ∀ (x1 : Int32) (x2 : Int32) (x3 : Int32) (x4 : Int32)(H : Heap) (locs : List Loc) (ls : Array Slot), h10 x1 x2 x3 x4 = some r → lv_has ls 7 [(0, .ref (q 0)), (1, .int x1), (2, .int x2), (3, .int x3), (4, .int x4)] → va_P D cl0 (wdK q k cI cJ σ) H → va_D A (wdK q k cI cJ σ) → va_S A s.heap H locs → W p l e ({ frames := 2, cells := 0, slots := 0, locals := 45 }) s m args below meth c H locs 0 0 (MQ below (kQi D cl0 [(cI, .int), (cJ, .long)] (wdK q k cI cJ) A r σ) args s 0 0 A) (F0 m 10 ls [])) : ∀ (x1 : Int32) (x4 : Int32) (x5 : Int32) (x6 : Int32)(H : Heap) (locs : List Loc) (ls : Array Slot), fK_nearestWithReadings_67 fu k σ h10 x1 x4 x5 x6 = some r → lv_has ls 7 [(0, .ref (q 0)), (1, .int x1), (4, .int x4), (5, .int x5), (6, .int x6)] → va_P D cl0 (wdK q k cI cJ σ) H → va_D A (wdK q k cI cJ σ) → va_S A s.heap H locs → W p l e ({ frames := 2, cells := 0, slots := 0, locals := 45 }) s m args below meth c H locs 0 0 (MQ below (kQi D cl0 [(cI, .int), (cJ, .long)] (wdK q k cI cJ) A r σ) args s 0 0 A) (F0 m 67 ls []) := by
  obtain ⟨hx, hb, hr, hml, hown, hts, hlocks⟩ := id C0
  intro x1 x4 x5 x6 H locs ls hf hl hP hD hS
  unfold fK_nearestWithReadings_67 at hf
  refine lv_iload hx hb dK_nearestWithReadings_67 (lv_at hl 4 rfl) ?_
  refine lv_istore_n (lv' := [(3, .int x6), (0, .ref (q 0)), (1, .int x1), (4, .int x4), (5, .int x5), (6, .int x6)]) hx hb dK_nearestWithReadings_69 rfl hl (by decide) rfl (fun ls hl => ?_)
  refine lv_iload hx hb dK_nearestWithReadings_70 (lv_at hl 4 rfl) ?_
  refine lv_istore_n (lv' := [(2, .int x5), (3, .int x6), (0, .ref (q 0)), (1, .int x1), (4, .int x4), (5, .int x5), (6, .int x6)]) hx hb dK_nearestWithReadings_72 rfl hl (by decide) rfl (fun ls hl => ?_)
  refine lv_iinc (v := (x4 + 1)) (lv' := [(4, .int (x4 + 1)), (2, .int x5), (3, .int x6), (0, .ref (q 0)), (1, .int x1), (5, .int x5), (6, .int x6)]) hx hb dK_nearestWithReadings_73 hl (k := 4) rfl rfl (by decide) rfl (fun ls hl => ?_)
  refine lv_goto (tgt := 10) hx hb dK_nearestWithReadings_76 (by decide) ?_
  exact ih10 x1 x5 x6 (x4 + 1) _ _ ls hf (lv_sub hl [3, 4, 1, 2, 0] rfl) hP hD hS
set_option maxHeartbeats 400000 in
set_option maxRecDepth 100000 in
theorem tK_nearestWithReadings_10 {p : Program} {l : Launch} {e : Env} {s : State} {m : MethodId} {args : Array Value} {below : List Frame} {meth : Method} {c : Code} {D : va_G} {A : Nat → Prop} {q : Nat → Nat} {k : kK} {cI cJ : ClassId} {r : Int32} {σ : sK} {fu : Nat} (C0 : Cx p s m args meth c cK_nearestWithReadings 7 (some .int) RK TK) (hK : va_K D cl0 [(cI, .int), (cJ, .long)] s) (hA : ∀ z, s.heap.size ≤ z → A z) : ∀ n : Nat, ∀ (x1 : Int32) (x2 : Int32) (x3 : Int32) (x4 : Int32)(H : Heap) (locs : List Loc) (ls : Array Slot), fK_nearestWithReadings_10 fu k σ n x1 x2 x3 x4 = some r → lv_has ls 7 [(0, .ref (q 0)), (1, .int x1), (2, .int x2), (3, .int x3), (4, .int x4)] → va_P D cl0 (wdK q k cI cJ σ) H → va_D A (wdK q k cI cJ σ) → va_S A s.heap H locs → W p l e ({ frames := 2, cells := 0, slots := 0, locals := 45 }) s m args below meth c H locs 0 0 (MQ below (kQi D cl0 [(cI, .int), (cJ, .long)] (wdK q k cI cJ) A r σ) args s 0 0 A) (F0 m 10 ls []) := by
  obtain ⟨hx, hb, hr, hml, hown, hts, hlocks⟩ := id C0
  intro n
  induction n with
  | zero =>
    intro x1 x2 x3 x4 H locs ls hf hl hP hD hS
    cases hf
  | succ n ih =>
    intro x1 x2 x3 x4 H locs ls hf hl hP hD hS
    rw [fK_nearestWithReadings_10] at hf
    refine lv_iload hx hb dK_nearestWithReadings_10 (lv_at hl 4 rfl) ?_
    refine lv_aload_n hx hb dK_nearestWithReadings_12 rfl (lv_at hl 0 rfl) ?_
    refine gK_classes hx hb hown hts hK hP dK_nearestWithReadings_13 ?_
    refine lv_icmp_ge (tgt := 79) hx hb dK_nearestWithReadings_16 (by decide) (fun c16 => ?_) (fun c16 => ?_)
    · have hf := (if_pos c16).symm.trans hf
      refine lv_iload_n hx hb dK_nearestWithReadings_79 rfl (lv_at hl 2 rfl) ?_
      exact kr_iret C0 hK hP hD hS (Option.some.inj hf) rfl dK_nearestWithReadings_80
    · have hf := (if_neg c16).symm.trans hf
      refine lv_aload_n hx hb dK_nearestWithReadings_19 rfl (lv_at hl 0 rfl) ?_
      refine gK_groupOf hx hb hown hts hK hP dK_nearestWithReadings_20 ?_
      refine lv_iload hx hb dK_nearestWithReadings_23 (lv_at hl 4 rfl) ?_
      obtain ⟨v25, ev25, hf⟩ := kb1 hf
      refine kr_iaload hx hb hK hP 5 0 rfl rfl ev25 dK_nearestWithReadings_25 ?_
      refine lv_istore (lv' := [(5, .int v25), (0, .ref (q 0)), (1, .int x1), (2, .int x2), (3, .int x3), (4, .int x4)]) hx hb dK_nearestWithReadings_26 hl (by decide) rfl (fun ls hl => ?_)
      refine lv_aload_n hx hb dK_nearestWithReadings_28 rfl (lv_at hl 1 rfl) ?_
      refine lv_iload hx hb dK_nearestWithReadings_29 (lv_at hl 0 rfl) ?_
      obtain ⟨v31, ev31, hf⟩ := kb1 hf
      refine kr_callVi (av := [.int v25]) ⟨hx, hb, hml, hown, hts⟩ (mK_own l D q k cI cJ _ σ v25 v31 ev31) (cwV 1 hts (kgood_V TK_good (by decide +kernel)) rfl rfl rfl (by decide +kernel) ⟨Nat.le_of_ble_eq_true rfl, Nat.le_of_ble_eq_true rfl⟩) hK hP hD hS hA (ci := 0) (q0 := 0) rfl rfl rfl hl.1 rfl (Nat.le_of_ble_eq_true rfl) dK_nearestWithReadings_31 ⟨Nat.le_of_ble_eq_true rfl, Nat.le_of_ble_eq_true rfl⟩ (fun H locs hP hD hS => ?_)
      refine lv_if_ne (tgt := 40) hx hb dK_nearestWithReadings_34 (by decide) (fun c34 => ?_) (fun c34 => ?_)
      · have hf := (if_neg c34).symm.trans hf
        refine lv_aload_n hx hb dK_nearestWithReadings_40 rfl (lv_at hl 1 rfl) ?_
        refine lv_iload_n hx hb dK_nearestWithReadings_41 rfl (lv_at hl 2 rfl) ?_
        refine lv_iload hx hb dK_nearestWithReadings_42 (lv_at hl 5 rfl) ?_
        obtain ⟨v44, ev44, hf⟩ := kb1 hf
        refine kr_callVi (av := [.int x1, .int x4]) ⟨hx, hb, hml, hown, hts⟩ (mK_distanceTo l D q k cI cJ _ fu σ x1 x4 v44 ev44) (cwV 2 hts (kgood_V TK_good (by decide +kernel)) rfl rfl rfl (by decide +kernel) ⟨Nat.le_of_ble_eq_true rfl, Nat.le_of_ble_eq_true rfl⟩) hK hP hD hS hA (ci := 0) (q0 := 0) rfl rfl rfl hl.1 rfl (Nat.le_of_ble_eq_true rfl) dK_nearestWithReadings_44 ⟨Nat.le_of_ble_eq_true rfl, Nat.le_of_ble_eq_true rfl⟩ (fun H locs hP hD hS => ?_)
        refine lv_istore (lv' := [(6, .int v44), (5, .int v25), (0, .ref (q 0)), (1, .int x1), (2, .int x2), (3, .int x3), (4, .int x4)]) hx hb dK_nearestWithReadings_47 hl (by decide) rfl (fun ls hl => ?_)
        refine lv_iload hx hb dK_nearestWithReadings_49 (lv_at hl 0 rfl) ?_
        refine lv_iload_n hx hb dK_nearestWithReadings_51 rfl (lv_at hl 5 rfl) ?_
        refine lv_icmp_lt (tgt := 67) hx hb dK_nearestWithReadings_52 (by decide) (fun c52 => ?_) (fun c52 => ?_)
        · have hf := (if_pos c52).symm.trans hf
          exact tK_nearestWithReadings_67 C0 hK hA ih x1 x4 v25 v44 _ _ ls hf (lv_sub hl [2, 3, 6, 1, 0] rfl) hP hD hS
        · have hf := (if_neg c52).symm.trans hf
          refine lv_iload hx hb dK_nearestWithReadings_55 (lv_at hl 0 rfl) ?_
          refine lv_iload_n hx hb dK_nearestWithReadings_57 rfl (lv_at hl 5 rfl) ?_
          refine lv_icmp_ne (tgt := 73) hx hb dK_nearestWithReadings_58 (by decide) (fun c58 => ?_) (fun c58 => ?_)
          · have hf := (if_neg c58).symm.trans hf
            refine lv_iinc (v := (x4 + 1)) (lv' := [(4, .int (x4 + 1)), (6, .int v44), (5, .int v25), (0, .ref (q 0)), (1, .int x1), (2, .int x2), (3, .int x3)]) hx hb dK_nearestWithReadings_73 hl (k := 6) rfl rfl (by decide) rfl (fun ls hl => ?_)
            refine lv_goto (tgt := 10) hx hb dK_nearestWithReadings_76 (by decide) ?_
            exact ih x1 x2 x3 (x4 + 1) _ _ ls hf (lv_sub hl [3, 4, 5, 6, 0] rfl) hP hD hS
          · have hf := (if_pos c58).symm.trans hf
            refine lv_iload hx hb dK_nearestWithReadings_61 (lv_at hl 1 rfl) ?_
            refine lv_iload_n hx hb dK_nearestWithReadings_63 rfl (lv_at hl 4 rfl) ?_
            refine lv_icmp_ge (tgt := 73) hx hb dK_nearestWithReadings_64 (by decide) (fun c64 => ?_) (fun c64 => ?_)
            · have hf := (if_pos c64).symm.trans hf
              refine lv_iinc (v := (x4 + 1)) (lv' := [(4, .int (x4 + 1)), (6, .int v44), (5, .int v25), (0, .ref (q 0)), (1, .int x1), (2, .int x2), (3, .int x3)]) hx hb dK_nearestWithReadings_73 hl (k := 6) rfl rfl (by decide) rfl (fun ls hl => ?_)
              refine lv_goto (tgt := 10) hx hb dK_nearestWithReadings_76 (by decide) ?_
              exact ih x1 x2 x3 (x4 + 1) _ _ ls hf (lv_sub hl [3, 4, 5, 6, 0] rfl) hP hD hS
            · have hf := (if_neg c64).symm.trans hf
              exact tK_nearestWithReadings_67 C0 hK hA ih x1 x4 v25 v44 _ _ ls hf (lv_sub hl [2, 3, 6, 1, 0] rfl) hP hD hS
      · have hf := (if_pos c34).symm.trans hf
        refine lv_goto (tgt := 73) hx hb dK_nearestWithReadings_37 (by decide) ?_
        refine lv_iinc (v := (x4 + 1)) (lv' := [(4, .int (x4 + 1)), (5, .int v25), (0, .ref (q 0)), (1, .int x1), (2, .int x2), (3, .int x3)]) hx hb dK_nearestWithReadings_73 hl (k := 5) rfl rfl (by decide) rfl (fun ls hl => ?_)
        refine lv_goto (tgt := 10) hx hb dK_nearestWithReadings_76 (by decide) ?_
        exact ih x1 x2 x3 (x4 + 1) _ _ ls hf (lv_sub hl [2, 3, 4, 5, 0] rfl) hP hD hS
set_option maxHeartbeats 400000 in
set_option maxRecDepth 100000 in
theorem mK_nearestWithReadings (l : Launch) (D : va_G) (q : Nat → Nat) (k : kK) (cI cJ : ClassId) (sz : Nat) (fu : Nat) (σ : sK) (x1 : Int32) (r : Int32) (hf : fK_nearestWithReadings fu k σ x1 = some r) : Met l yK_nearestWithReadings (.code yK_nearestWithReadings cK_nearestWithReadings 7 (some .int) :: TK) ({ frames := 2, cells := 0, slots := 0, locals := 45 }) (kPre D cl0 [(cI, .int), (cJ, .long)] (wdK q k cI cJ) sz σ [.ref (q 0), .int x1]) (kQi D cl0 [(cI, .int), (cJ, .long)] (wdK q k cI cJ) (va_A (wdK q k cI cJ σ) sz) r σ) 0 0 (va_A (wdK q k cI cJ σ) sz) := by
  refine kr_start (own := RK) (by decide) rfl (Nat.le_of_ble_eq_true rfl) ?_
  intro p e s m args below meth c ls C0 hsz hK hP hD hl
  subst hsz
  obtain ⟨hx, hb, hr, hml, hown, hts, hlocks⟩ := id C0
  have hA : ∀ z : Nat, s.heap.size ≤ z → va_A (wdK q k cI cJ σ) s.heap.size z := fun z h => Or.inr h
  generalize va_A (wdK q k cI cJ σ) s.heap.size = A at hD hA ⊢
  have hS : va_S A s.heap s.heap [] := va_S.rf
  have hl : lv_has ls 7 [(0, .ref (q 0)), (1, .int x1)] := hl
  unfold fK_nearestWithReadings at hf
  refine lv_iconst (v := (-1)) hx hb dK_nearestWithReadings_0 (by decide) ?_
  refine lv_istore_n (lv' := [(2, .int (-1)), (0, .ref (q 0)), (1, .int x1)]) hx hb dK_nearestWithReadings_1 rfl hl (by decide) rfl (fun ls hl => ?_)
  refine lv_aload_n hx hb dK_nearestWithReadings_2 rfl (lv_at hl 1 rfl) ?_
  refine gK_classes hx hb hown hts hK hP dK_nearestWithReadings_3 ?_
  refine lv_istore_n (lv' := [(3, .int (kK_classes k)), (2, .int (-1)), (0, .ref (q 0)), (1, .int x1)]) hx hb dK_nearestWithReadings_6 rfl hl (by decide) rfl (fun ls hl => ?_)
  refine lv_iconst (v := 0) hx hb dK_nearestWithReadings_7 (by decide) ?_
  refine lv_istore (lv' := [(4, .int 0), (3, .int (kK_classes k)), (2, .int (-1)), (0, .ref (q 0)), (1, .int x1)]) hx hb dK_nearestWithReadings_8 hl (by decide) rfl (fun ls hl => ?_)
  exact tK_nearestWithReadings_10 C0 hK hA fu x1 (-1) (kK_classes k) 0 _ _ ls hf (lv_sub hl [3, 4, 2, 1, 0] rfl) hP hD hS
theorem dK_fill_0 : decode cK_fill 0 = .ok (.aload_n 0, 1) := by decide +kernel
theorem dK_fill_1 : decode cK_fill 1 = .ok (.iload_n 1, 1) := by decide +kernel
theorem dK_fill_2 : decode cK_fill 2 = .ok (.invokevirtual 79, 3) := by decide +kernel
theorem dK_fill_5 : decode cK_fill 5 = .ok (.ifCond .eq (16), 3) := by decide +kernel
theorem dK_fill_8 : decode cK_fill 8 = .ok (.aload_n 0, 1) := by decide +kernel
theorem dK_fill_9 : decode cK_fill 9 = .ok (.aload_n 0, 1) := by decide +kernel
theorem dK_fill_10 : decode cK_fill 10 = .ok (.getfield 45, 3) := by decide +kernel
theorem dK_fill_13 : decode cK_fill 13 = .ok (.iload_n 1, 1) := by decide +kernel
theorem dK_fill_14 : decode cK_fill 14 = .ok (.iaload, 1) := by decide +kernel
theorem dK_fill_15 : decode cK_fill 15 = .ok (.invokevirtual 112, 3) := by decide +kernel
theorem dK_fill_18 : decode cK_fill 18 = .ok (.ifCond .le (5), 3) := by decide +kernel
theorem dK_fill_21 : decode cK_fill 21 = .ok (.iconst (-1), 1) := by decide +kernel
theorem dK_fill_22 : decode cK_fill 22 = .ok (.ireturn, 1) := by decide +kernel
theorem dK_fill_23 : decode cK_fill 23 = .ok (.aload_n 0, 1) := by decide +kernel
theorem dK_fill_24 : decode cK_fill 24 = .ok (.aload_n 0, 1) := by decide +kernel
theorem dK_fill_25 : decode cK_fill 25 = .ok (.getfield 45, 3) := by decide +kernel
theorem dK_fill_28 : decode cK_fill 28 = .ok (.iload_n 1, 1) := by decide +kernel
theorem dK_fill_29 : decode cK_fill 29 = .ok (.iaload, 1) := by decide +kernel
theorem dK_fill_30 : decode cK_fill 30 = .ok (.invokevirtual 122, 3) := by decide +kernel
theorem dK_fill_33 : decode cK_fill 33 = .ok (.istore_n 2, 1) := by decide +kernel
theorem dK_fill_34 : decode cK_fill 34 = .ok (.iload_n 2, 1) := by decide +kernel
theorem dK_fill_35 : decode cK_fill 35 = .ok (.iconst (-1), 1) := by decide +kernel
theorem dK_fill_36 : decode cK_fill 36 = .ok (.if_icmp .eq (15), 3) := by decide +kernel
theorem dK_fill_39 : decode cK_fill 39 = .ok (.aload_n 0, 1) := by decide +kernel
theorem dK_fill_40 : decode cK_fill 40 = .ok (.getfield 48, 3) := by decide +kernel
theorem dK_fill_43 : decode cK_fill 43 = .ok (.aload_n 0, 1) := by decide +kernel
theorem dK_fill_44 : decode cK_fill 44 = .ok (.getfield 45, 3) := by decide +kernel
theorem dK_fill_47 : decode cK_fill 47 = .ok (.iload_n 1, 1) := by decide +kernel
theorem dK_fill_48 : decode cK_fill 48 = .ok (.iaload, 1) := by decide +kernel
theorem dK_fill_49 : decode cK_fill 49 = .ok (.iload_n 2, 1) := by decide +kernel
theorem dK_fill_50 : decode cK_fill 50 = .ok (.iastore, 1) := by decide +kernel
theorem dK_fill_51 : decode cK_fill 51 = .ok (.iload_n 2, 1) := by decide +kernel
theorem dK_fill_52 : decode cK_fill 52 = .ok (.ireturn, 1) := by decide +kernel
set_option maxHeartbeats 400000 in
set_option maxRecDepth 100000 in
theorem mK_fill (l : Launch) (D : va_G) (q : Nat → Nat) (k : kK) (cI cJ : ClassId) (sz : Nat) (fu : Nat) (σ : sK) (σ' : sK) (x1 : Int32) (r : Int32) (hf : fK_fill fu k σ x1 = some (r, σ')) : Met l yK_fill (.code yK_fill cK_fill 3 (some .int) :: TK) ({ frames := 3, cells := 0, slots := 0, locals := 71 }) (kPre D cl0 [(cI, .int), (cJ, .long)] (wdK q k cI cJ) sz σ [.ref (q 0), .int x1]) (kQi D cl0 [(cI, .int), (cJ, .long)] (wdK q k cI cJ) (va_A (wdK q k cI cJ σ) sz) r σ') 0 0 (va_A (wdK q k cI cJ σ) sz) := by
  refine kr_start (own := RK) (by decide) rfl (Nat.le_of_ble_eq_true rfl) ?_
  intro p e s m args below meth c ls C0 hsz hK hP hD hl
  subst hsz
  obtain ⟨hx, hb, hr, hml, hown, hts, hlocks⟩ := id C0
  have hA : ∀ z : Nat, s.heap.size ≤ z → va_A (wdK q k cI cJ σ) s.heap.size z := fun z h => Or.inr h
  generalize va_A (wdK q k cI cJ σ) s.heap.size = A at hD hA ⊢
  have hS : va_S A s.heap s.heap [] := va_S.rf
  have hl : lv_has ls 3 [(0, .ref (q 0)), (1, .int x1)] := hl
  unfold fK_fill at hf
  refine lv_aload_n hx hb dK_fill_0 rfl (lv_at hl 0 rfl) ?_
  refine lv_iload_n hx hb dK_fill_1 rfl (lv_at hl 1 rfl) ?_
  refine kr_callVi (av := [.int x1]) ⟨hx, hb, hml, hown, hts⟩ (mK_isClass l D q k cI cJ _ σ x1 _ rfl) (cwV 1 hts (kgood_V TK_good (by decide +kernel)) rfl rfl rfl (by decide +kernel) ⟨Nat.le_of_ble_eq_true rfl, Nat.le_of_ble_eq_true rfl⟩) hK hP hD hS hA (ci := 0) (q0 := 0) rfl rfl rfl hl.1 rfl (Nat.le_of_ble_eq_true rfl) dK_fill_2 ⟨Nat.le_of_ble_eq_true rfl, Nat.le_of_ble_eq_true rfl⟩ (fun H locs hP hD hS => ?_)
  refine lv_if_eq (tgt := 21) hx hb dK_fill_5 (by decide) (fun c5 => ?_) (fun c5 => ?_)
  · have hf := (if_pos c5).symm.trans hf
    refine lv_iconst (v := (-1)) hx hb dK_fill_21 (by decide) ?_
    exact kr_iret C0 hK hP hD hS (congrArg Prod.fst (Option.some.inj hf)) (congrArg Prod.snd (Option.some.inj hf)) dK_fill_22
  · have hf := (if_neg c5).symm.trans hf
    refine lv_aload_n hx hb dK_fill_8 rfl (lv_at hl 0 rfl) ?_
    refine lv_aload_n hx hb dK_fill_9 rfl (lv_at hl 0 rfl) ?_
    refine gK_groupOf hx hb hown hts hK hP dK_fill_10 ?_
    refine lv_iload_n hx hb dK_fill_13 rfl (lv_at hl 1 rfl) ?_
    obtain ⟨v14, ev14, hf⟩ := kb1 hf
    refine kr_iaload hx hb hK hP 5 0 rfl rfl ev14 dK_fill_14 ?_
    obtain ⟨v15, ev15, hf⟩ := kb1 hf
    refine kr_callVi (av := [.int v14]) ⟨hx, hb, hml, hown, hts⟩ (mK_own l D q k cI cJ _ σ v14 v15 ev15) (cwV 1 hts (kgood_V TK_good (by decide +kernel)) rfl rfl rfl (by decide +kernel) ⟨Nat.le_of_ble_eq_true rfl, Nat.le_of_ble_eq_true rfl⟩) hK hP hD hS hA (ci := 0) (q0 := 0) rfl rfl rfl hl.1 rfl (Nat.le_of_ble_eq_true rfl) dK_fill_15 ⟨Nat.le_of_ble_eq_true rfl, Nat.le_of_ble_eq_true rfl⟩ (fun H locs hP hD hS => ?_)
    refine lv_if_le (tgt := 23) hx hb dK_fill_18 (by decide) (fun c18 => ?_) (fun c18 => ?_)
    · have hf := (if_pos c18).symm.trans hf
      refine lv_aload_n hx hb dK_fill_23 rfl (lv_at hl 0 rfl) ?_
      refine lv_aload_n hx hb dK_fill_24 rfl (lv_at hl 0 rfl) ?_
      refine gK_groupOf hx hb hown hts hK hP dK_fill_25 ?_
      refine lv_iload_n hx hb dK_fill_28 rfl (lv_at hl 1 rfl) ?_
      obtain ⟨v29, ev29, hf⟩ := kb1 hf
      refine kr_iaload hx hb hK hP 5 0 rfl rfl ev29 dK_fill_29 ?_
      obtain ⟨v30, ev30, hf⟩ := kb1 hf
      refine kr_callVi (av := [.int v29]) ⟨hx, hb, hml, hown, hts⟩ (mK_nearestWithReadings l D q k cI cJ _ fu σ v29 v30 ev30) (cwV 1 hts (kgood_V TK_good (by decide +kernel)) rfl rfl rfl (by decide +kernel) ⟨Nat.le_of_ble_eq_true rfl, Nat.le_of_ble_eq_true rfl⟩) hK hP hD hS hA (ci := 0) (q0 := 0) rfl rfl rfl hl.1 rfl (Nat.le_of_ble_eq_true rfl) dK_fill_30 ⟨Nat.le_of_ble_eq_true rfl, Nat.le_of_ble_eq_true rfl⟩ (fun H locs hP hD hS => ?_)
      refine lv_istore_n (lv' := [(2, .int v30), (0, .ref (q 0)), (1, .int x1)]) hx hb dK_fill_33 rfl hl (by decide) rfl (fun ls hl => ?_)
      refine lv_iload_n hx hb dK_fill_34 rfl (lv_at hl 0 rfl) ?_
      refine lv_iconst (v := (-1)) hx hb dK_fill_35 (by decide) ?_
      refine lv_icmp_eq (tgt := 51) hx hb dK_fill_36 (by decide) (fun c36 => ?_) (fun c36 => ?_)
      · have hf := (if_pos c36).symm.trans hf
        refine lv_iload_n hx hb dK_fill_51 rfl (lv_at hl 0 rfl) ?_
        exact kr_iret C0 hK hP hD hS (congrArg Prod.fst (Option.some.inj hf)) (congrArg Prod.snd (Option.some.inj hf)) dK_fill_52
      · have hf := (if_neg c36).symm.trans hf
        refine lv_aload_n hx hb dK_fill_39 rfl (lv_at hl 1 rfl) ?_
        refine gK_filledBy hx hb hown hts hK hP dK_fill_40 ?_
        refine lv_aload_n hx hb dK_fill_43 rfl (lv_at hl 1 rfl) ?_
        refine gK_groupOf hx hb hown hts hK hP dK_fill_44 ?_
        refine lv_iload_n hx hb dK_fill_47 rfl (lv_at hl 2 rfl) ?_
        obtain ⟨v48, ev48, hf⟩ := kb1 hf
        refine kr_iaload hx hb hK hP 5 0 rfl rfl ev48 dK_fill_48 ?_
        refine lv_iload_n hx hb dK_fill_49 rfl (lv_at hl 0 rfl) ?_
        obtain ⟨a50, ea50, hf⟩ := kb1 hf
        refine kr_iastore (σ' := (uK_filledBy σ a50)) hx hb hK hP hD hS 6 0 rfl rfl ea50 (wK_filledBy q k cI cJ _ _) dK_fill_50 (fun H locs hP hD hS => ?_)
        generalize (uK_filledBy σ a50) = s50 at hf hP hD
        refine lv_iload_n hx hb dK_fill_51 rfl (lv_at hl 0 rfl) ?_
        exact kr_iret C0 hK hP hD hS (congrArg Prod.fst (Option.some.inj hf)) (congrArg Prod.snd (Option.some.inj hf)) dK_fill_52
    · have hf := (if_neg c18).symm.trans hf
      refine lv_iconst (v := (-1)) hx hb dK_fill_21 (by decide) ?_
      exact kr_iret C0 hK hP hD hS (congrArg Prod.fst (Option.some.inj hf)) (congrArg Prod.snd (Option.some.inj hf)) dK_fill_22
theorem dK_marked_0 : decode cK_marked 0 = .ok (.aload_n 0, 1) := by decide +kernel
theorem dK_marked_1 : decode cK_marked 1 = .ok (.iload_n 1, 1) := by decide +kernel
theorem dK_marked_2 : decode cK_marked 2 = .ok (.invokevirtual 79, 3) := by decide +kernel
theorem dK_marked_5 : decode cK_marked 5 = .ok (.ifCond .eq (35), 3) := by decide +kernel
theorem dK_marked_8 : decode cK_marked 8 = .ok (.aload_n 0, 1) := by decide +kernel
theorem dK_marked_9 : decode cK_marked 9 = .ok (.getfield 48, 3) := by decide +kernel
theorem dK_marked_12 : decode cK_marked 12 = .ok (.aload_n 0, 1) := by decide +kernel
theorem dK_marked_13 : decode cK_marked 13 = .ok (.getfield 45, 3) := by decide +kernel
theorem dK_marked_16 : decode cK_marked 16 = .ok (.iload_n 1, 1) := by decide +kernel
theorem dK_marked_17 : decode cK_marked 17 = .ok (.iaload, 1) := by decide +kernel
theorem dK_marked_18 : decode cK_marked 18 = .ok (.iaload, 1) := by decide +kernel
theorem dK_marked_19 : decode cK_marked 19 = .ok (.iconst (-1), 1) := by decide +kernel
theorem dK_marked_20 : decode cK_marked 20 = .ok (.if_icmp .eq (20), 3) := by decide +kernel
theorem dK_marked_23 : decode cK_marked 23 = .ok (.aload_n 0, 1) := by decide +kernel
theorem dK_marked_24 : decode cK_marked 24 = .ok (.aload_n 0, 1) := by decide +kernel
theorem dK_marked_25 : decode cK_marked 25 = .ok (.getfield 45, 3) := by decide +kernel
theorem dK_marked_28 : decode cK_marked 28 = .ok (.iload_n 1, 1) := by decide +kernel
theorem dK_marked_29 : decode cK_marked 29 = .ok (.iaload, 1) := by decide +kernel
theorem dK_marked_30 : decode cK_marked 30 = .ok (.invokevirtual 112, 3) := by decide +kernel
theorem dK_marked_33 : decode cK_marked 33 = .ok (.ifCond .ne (7), 3) := by decide +kernel
theorem dK_marked_36 : decode cK_marked 36 = .ok (.iconst 1, 1) := by decide +kernel
theorem dK_marked_37 : decode cK_marked 37 = .ok (.goto (4), 3) := by decide +kernel
theorem dK_marked_40 : decode cK_marked 40 = .ok (.iconst 0, 1) := by decide +kernel
theorem dK_marked_41 : decode cK_marked 41 = .ok (.ireturn, 1) := by decide +kernel
set_option maxHeartbeats 400000 in
set_option maxRecDepth 100000 in
theorem mK_marked (l : Launch) (D : va_G) (q : Nat → Nat) (k : kK) (cI cJ : ClassId) (sz : Nat) (σ : sK) (x1 : Int32) (r : Int32) (hf : fK_marked k σ x1 = some r) : Met l yK_marked (.code yK_marked cK_marked 2 (some .boolean) :: TK) ({ frames := 2, cells := 0, slots := 0, locals := 43 }) (kPre D cl0 [(cI, .int), (cJ, .long)] (wdK q k cI cJ) sz σ [.ref (q 0), .int x1]) (kQi D cl0 [(cI, .int), (cJ, .long)] (wdK q k cI cJ) (va_A (wdK q k cI cJ σ) sz) r σ) 0 0 (va_A (wdK q k cI cJ σ) sz) := by
  refine kr_start (own := RK) (by decide) rfl (Nat.le_of_ble_eq_true rfl) ?_
  intro p e s m args below meth c ls C0 hsz hK hP hD hl
  subst hsz
  obtain ⟨hx, hb, hr, hml, hown, hts, hlocks⟩ := id C0
  have hA : ∀ z : Nat, s.heap.size ≤ z → va_A (wdK q k cI cJ σ) s.heap.size z := fun z h => Or.inr h
  generalize va_A (wdK q k cI cJ σ) s.heap.size = A at hD hA ⊢
  have hS : va_S A s.heap s.heap [] := va_S.rf
  have hl : lv_has ls 2 [(0, .ref (q 0)), (1, .int x1)] := hl
  unfold fK_marked at hf
  refine lv_aload_n hx hb dK_marked_0 rfl (lv_at hl 0 rfl) ?_
  refine lv_iload_n hx hb dK_marked_1 rfl (lv_at hl 1 rfl) ?_
  refine kr_callVi (av := [.int x1]) ⟨hx, hb, hml, hown, hts⟩ (mK_isClass l D q k cI cJ _ σ x1 _ rfl) (cwV 1 hts (kgood_V TK_good (by decide +kernel)) rfl rfl rfl (by decide +kernel) ⟨Nat.le_of_ble_eq_true rfl, Nat.le_of_ble_eq_true rfl⟩) hK hP hD hS hA (ci := 0) (q0 := 0) rfl rfl rfl hl.1 rfl (Nat.le_of_ble_eq_true rfl) dK_marked_2 ⟨Nat.le_of_ble_eq_true rfl, Nat.le_of_ble_eq_true rfl⟩ (fun H locs hP hD hS => ?_)
  refine lv_if_eq (tgt := 40) hx hb dK_marked_5 (by decide) (fun c5 => ?_) (fun c5 => ?_)
  · have hf := (if_pos c5).symm.trans hf
    refine lv_iconst (v := 0) hx hb dK_marked_40 (by decide) ?_
    exact kr_zret C0 hK hP hD hS rfl (Option.some.inj hf) rfl dK_marked_41
  · have hf := (if_neg c5).symm.trans hf
    refine lv_aload_n hx hb dK_marked_8 rfl (lv_at hl 0 rfl) ?_
    refine gK_filledBy hx hb hown hts hK hP dK_marked_9 ?_
    refine lv_aload_n hx hb dK_marked_12 rfl (lv_at hl 0 rfl) ?_
    refine gK_groupOf hx hb hown hts hK hP dK_marked_13 ?_
    refine lv_iload_n hx hb dK_marked_16 rfl (lv_at hl 1 rfl) ?_
    obtain ⟨v17, ev17, hf⟩ := kb1 hf
    refine kr_iaload hx hb hK hP 5 0 rfl rfl ev17 dK_marked_17 ?_
    obtain ⟨v18, ev18, hf⟩ := kb1 hf
    refine kr_iaload hx hb hK hP 6 0 rfl rfl ev18 dK_marked_18 ?_
    refine lv_iconst (v := (-1)) hx hb dK_marked_19 (by decide) ?_
    refine lv_icmp_eq (tgt := 40) hx hb dK_marked_20 (by decide) (fun c20 => ?_) (fun c20 => ?_)
    · have hf := (if_pos c20).symm.trans hf
      refine lv_iconst (v := 0) hx hb dK_marked_40 (by decide) ?_
      exact kr_zret C0 hK hP hD hS rfl (Option.some.inj hf) rfl dK_marked_41
    · have hf := (if_neg c20).symm.trans hf
      refine lv_aload_n hx hb dK_marked_23 rfl (lv_at hl 0 rfl) ?_
      refine lv_aload_n hx hb dK_marked_24 rfl (lv_at hl 0 rfl) ?_
      refine gK_groupOf hx hb hown hts hK hP dK_marked_25 ?_
      refine lv_iload_n hx hb dK_marked_28 rfl (lv_at hl 1 rfl) ?_
      obtain ⟨v29, ev29, hf⟩ := kb1 hf
      refine kr_iaload hx hb hK hP 5 0 rfl rfl ev29 dK_marked_29 ?_
      obtain ⟨v30, ev30, hf⟩ := kb1 hf
      refine kr_callVi (av := [.int v29]) ⟨hx, hb, hml, hown, hts⟩ (mK_own l D q k cI cJ _ σ v29 v30 ev30) (cwV 1 hts (kgood_V TK_good (by decide +kernel)) rfl rfl rfl (by decide +kernel) ⟨Nat.le_of_ble_eq_true rfl, Nat.le_of_ble_eq_true rfl⟩) hK hP hD hS hA (ci := 0) (q0 := 0) rfl rfl rfl hl.1 rfl (Nat.le_of_ble_eq_true rfl) dK_marked_30 ⟨Nat.le_of_ble_eq_true rfl, Nat.le_of_ble_eq_true rfl⟩ (fun H locs hP hD hS => ?_)
      refine lv_if_ne (tgt := 40) hx hb dK_marked_33 (by decide) (fun c33 => ?_) (fun c33 => ?_)
      · have hf := (if_neg c33).symm.trans hf
        refine lv_iconst (v := 0) hx hb dK_marked_40 (by decide) ?_
        exact kr_zret C0 hK hP hD hS rfl (Option.some.inj hf) rfl dK_marked_41
      · have hf := (if_pos c33).symm.trans hf
        refine lv_iconst (v := 1) hx hb dK_marked_36 (by decide) ?_
        refine lv_goto (tgt := 41) hx hb dK_marked_37 (by decide) ?_
        exact kr_zret C0 hK hP hD hS rfl (Option.some.inj hf) rfl dK_marked_41
theorem dK_dropFills_0 : decode cK_dropFills 0 = .ok (.aload_n 0, 1) := by decide +kernel
theorem dK_dropFills_1 : decode cK_dropFills 1 = .ok (.getfield 48, 3) := by decide +kernel
theorem dK_dropFills_4 : decode cK_dropFills 4 = .ok (.iload_n 1, 1) := by decide +kernel
theorem dK_dropFills_5 : decode cK_dropFills 5 = .ok (.iconst (-1), 1) := by decide +kernel
theorem dK_dropFills_6 : decode cK_dropFills 6 = .ok (.iastore, 1) := by decide +kernel
theorem dK_dropFills_7 : decode cK_dropFills 7 = .ok (.aload_n 0, 1) := by decide +kernel
theorem dK_dropFills_8 : decode cK_dropFills 8 = .ok (.getfield 48, 3) := by decide +kernel
theorem dK_dropFills_11 : decode cK_dropFills 11 = .ok (.iload_n 2, 1) := by decide +kernel
theorem dK_dropFills_12 : decode cK_dropFills 12 = .ok (.iconst (-1), 1) := by decide +kernel
theorem dK_dropFills_13 : decode cK_dropFills 13 = .ok (.iastore, 1) := by decide +kernel
theorem dK_dropFills_14 : decode cK_dropFills 14 = .ok (.iconst 0, 1) := by decide +kernel
theorem dK_dropFills_15 : decode cK_dropFills 15 = .ok (.istore_n 3, 1) := by decide +kernel
theorem dK_dropFills_16 : decode cK_dropFills 16 = .ok (.iload_n 3, 1) := by decide +kernel
theorem dK_dropFills_17 : decode cK_dropFills 17 = .ok (.aload_n 0, 1) := by decide +kernel
theorem dK_dropFills_18 : decode cK_dropFills 18 = .ok (.getfield 26, 3) := by decide +kernel
theorem dK_dropFills_21 : decode cK_dropFills 21 = .ok (.if_icmp .ge (36), 3) := by decide +kernel
theorem dK_dropFills_24 : decode cK_dropFills 24 = .ok (.aload_n 0, 1) := by decide +kernel
theorem dK_dropFills_25 : decode cK_dropFills 25 = .ok (.getfield 48, 3) := by decide +kernel
theorem dK_dropFills_28 : decode cK_dropFills 28 = .ok (.iload_n 3, 1) := by decide +kernel
theorem dK_dropFills_29 : decode cK_dropFills 29 = .ok (.iaload, 1) := by decide +kernel
theorem dK_dropFills_30 : decode cK_dropFills 30 = .ok (.iload_n 1, 1) := by decide +kernel
theorem dK_dropFills_31 : decode cK_dropFills 31 = .ok (.if_icmp .eq (13), 3) := by decide +kernel
theorem dK_dropFills_34 : decode cK_dropFills 34 = .ok (.aload_n 0, 1) := by decide +kernel
theorem dK_dropFills_35 : decode cK_dropFills 35 = .ok (.getfield 48, 3) := by decide +kernel
theorem dK_dropFills_38 : decode cK_dropFills 38 = .ok (.iload_n 3, 1) := by decide +kernel
theorem dK_dropFills_39 : decode cK_dropFills 39 = .ok (.iaload, 1) := by decide +kernel
theorem dK_dropFills_40 : decode cK_dropFills 40 = .ok (.iload_n 2, 1) := by decide +kernel
theorem dK_dropFills_41 : decode cK_dropFills 41 = .ok (.if_icmp .ne (10), 3) := by decide +kernel
theorem dK_dropFills_44 : decode cK_dropFills 44 = .ok (.aload_n 0, 1) := by decide +kernel
theorem dK_dropFills_45 : decode cK_dropFills 45 = .ok (.getfield 48, 3) := by decide +kernel
theorem dK_dropFills_48 : decode cK_dropFills 48 = .ok (.iload_n 3, 1) := by decide +kernel
theorem dK_dropFills_49 : decode cK_dropFills 49 = .ok (.iconst (-1), 1) := by decide +kernel
theorem dK_dropFills_50 : decode cK_dropFills 50 = .ok (.iastore, 1) := by decide +kernel
theorem dK_dropFills_51 : decode cK_dropFills 51 = .ok (.iinc 3 (1), 3) := by decide +kernel
theorem dK_dropFills_54 : decode cK_dropFills 54 = .ok (.goto (-38), 3) := by decide +kernel
theorem dK_dropFills_57 : decode cK_dropFills 57 = .ok (.return_, 1) := by decide +kernel
set_option maxHeartbeats 400000 in
set_option maxRecDepth 100000 in
theorem tK_dropFills_44 {p : Program} {l : Launch} {e : Env} {s : State} {m : MethodId} {args : Array Value} {below : List Frame} {meth : Method} {c : Code} {D : va_G} {A : Nat → Prop} {q : Nat → Nat} {k : kK} {cI cJ : ClassId} {σ' : sK} {fu : Nat} {h16 : sK → Int32 → Int32 → Int32 → Option sK} (C0 : Cx p s m args meth c cK_dropFills 4 none RK TK) (hK : va_K D cl0 [(cI, .int), (cJ, .long)] s) (hA : ∀ z, s.heap.size ≤ z → A z) (ih16 : ∀ (σ : sK) (x1 : Int32) (x2 : Int32) (x3 : Int32)(H : Heap) (locs : List Loc) (ls : Array Slot), h16 σ x1 x2 x3 = some σ' → lv_has ls 4 [(0, .ref (q 0)), (1, .int x1), (2, .int x2), (3, .int x3)] → va_P D cl0 (wdK q k cI cJ σ) H → va_D A (wdK q k cI cJ σ) → va_S A s.heap H locs → W p l e ({ frames := 0, cells := 0, slots := 0, locals := 0 }) s m args below meth c H locs 0 0 (MQ below (kQv D cl0 [(cI, .int), (cJ, .long)] (wdK q k cI cJ) A σ') args s 0 0 A) (F0 m 16 ls [])) : ∀ (σ : sK) (x1 : Int32) (x2 : Int32) (x3 : Int32)(H : Heap) (locs : List Loc) (ls : Array Slot), fK_dropFills_44 fu k h16 σ x1 x2 x3 = some σ' → lv_has ls 4 [(0, .ref (q 0)), (1, .int x1), (2, .int x2), (3, .int x3)] → va_P D cl0 (wdK q k cI cJ σ) H → va_D A (wdK q k cI cJ σ) → va_S A s.heap H locs → W p l e ({ frames := 0, cells := 0, slots := 0, locals := 0 }) s m args below meth c H locs 0 0 (MQ below (kQv D cl0 [(cI, .int), (cJ, .long)] (wdK q k cI cJ) A σ') args s 0 0 A) (F0 m 44 ls []) := by
  obtain ⟨hx, hb, hr, hml, hown, hts, hlocks⟩ := id C0
  intro σ x1 x2 x3 H locs ls hf hl hP hD hS
  unfold fK_dropFills_44 at hf
  refine lv_aload_n hx hb dK_dropFills_44 rfl (lv_at hl 0 rfl) ?_
  refine gK_filledBy hx hb hown hts hK hP dK_dropFills_45 ?_
  refine lv_iload_n hx hb dK_dropFills_48 rfl (lv_at hl 3 rfl) ?_
  refine lv_iconst (v := (-1)) hx hb dK_dropFills_49 (by decide) ?_
  obtain ⟨a50, ea50, hf⟩ := kb1 hf
  refine kr_iastore (σ' := (uK_filledBy σ a50)) hx hb hK hP hD hS 6 0 rfl rfl ea50 (wK_filledBy q k cI cJ _ _) dK_dropFills_50 (fun H locs hP hD hS => ?_)
  generalize (uK_filledBy σ a50) = s50 at hf hP hD
  refine lv_iinc (v := (x3 + 1)) (lv' := [(3, .int (x3 + 1)), (0, .ref (q 0)), (1, .int x1), (2, .int x2)]) hx hb dK_dropFills_51 hl (k := 3) rfl rfl (by decide) rfl (fun ls hl => ?_)
  refine lv_goto (tgt := 16) hx hb dK_dropFills_54 (by decide) ?_
  exact ih16 s50 x1 x2 (x3 + 1) _ _ ls hf (lv_sub hl [1, 2, 3, 0] rfl) hP hD hS
set_option maxHeartbeats 400000 in
set_option maxRecDepth 100000 in
theorem tK_dropFills_16 {p : Program} {l : Launch} {e : Env} {s : State} {m : MethodId} {args : Array Value} {below : List Frame} {meth : Method} {c : Code} {D : va_G} {A : Nat → Prop} {q : Nat → Nat} {k : kK} {cI cJ : ClassId} {σ' : sK} {fu : Nat} (C0 : Cx p s m args meth c cK_dropFills 4 none RK TK) (hK : va_K D cl0 [(cI, .int), (cJ, .long)] s) (hA : ∀ z, s.heap.size ≤ z → A z) : ∀ n : Nat, ∀ (σ : sK) (x1 : Int32) (x2 : Int32) (x3 : Int32)(H : Heap) (locs : List Loc) (ls : Array Slot), fK_dropFills_16 fu k n σ x1 x2 x3 = some σ' → lv_has ls 4 [(0, .ref (q 0)), (1, .int x1), (2, .int x2), (3, .int x3)] → va_P D cl0 (wdK q k cI cJ σ) H → va_D A (wdK q k cI cJ σ) → va_S A s.heap H locs → W p l e ({ frames := 0, cells := 0, slots := 0, locals := 0 }) s m args below meth c H locs 0 0 (MQ below (kQv D cl0 [(cI, .int), (cJ, .long)] (wdK q k cI cJ) A σ') args s 0 0 A) (F0 m 16 ls []) := by
  obtain ⟨hx, hb, hr, hml, hown, hts, hlocks⟩ := id C0
  intro n
  induction n with
  | zero =>
    intro σ x1 x2 x3 H locs ls hf hl hP hD hS
    cases hf
  | succ n ih =>
    intro σ x1 x2 x3 H locs ls hf hl hP hD hS
    rw [fK_dropFills_16] at hf
    refine lv_iload_n hx hb dK_dropFills_16 rfl (lv_at hl 3 rfl) ?_
    refine lv_aload_n hx hb dK_dropFills_17 rfl (lv_at hl 0 rfl) ?_
    refine gK_classes hx hb hown hts hK hP dK_dropFills_18 ?_
    refine lv_icmp_ge (tgt := 57) hx hb dK_dropFills_21 (by decide) (fun c21 => ?_) (fun c21 => ?_)
    · have hf := (if_pos c21).symm.trans hf
      exact kr_vret C0 hK hP hD hS (Option.some.inj hf) dK_dropFills_57
    · have hf := (if_neg c21).symm.trans hf
      refine lv_aload_n hx hb dK_dropFills_24 rfl (lv_at hl 0 rfl) ?_
      refine gK_filledBy hx hb hown hts hK hP dK_dropFills_25 ?_
      refine lv_iload_n hx hb dK_dropFills_28 rfl (lv_at hl 3 rfl) ?_
      obtain ⟨v29, ev29, hf⟩ := kb1 hf
      refine kr_iaload hx hb hK hP 6 0 rfl rfl ev29 dK_dropFills_29 ?_
      refine lv_iload_n hx hb dK_dropFills_30 rfl (lv_at hl 1 rfl) ?_
      refine lv_icmp_eq (tgt := 44) hx hb dK_dropFills_31 (by decide) (fun c31 => ?_) (fun c31 => ?_)
      · have hf := (if_pos c31).symm.trans hf
        exact tK_dropFills_44 C0 hK hA ih σ x1 x2 x3 _ _ ls hf (lv_sub hl [0, 1, 2, 3] rfl) hP hD hS
      · have hf := (if_neg c31).symm.trans hf
        refine lv_aload_n hx hb dK_dropFills_34 rfl (lv_at hl 0 rfl) ?_
        refine gK_filledBy hx hb hown hts hK hP dK_dropFills_35 ?_
        refine lv_iload_n hx hb dK_dropFills_38 rfl (lv_at hl 3 rfl) ?_
        obtain ⟨v39, ev39, hf⟩ := kb1 hf
        refine kr_iaload hx hb hK hP 6 0 rfl rfl ev39 dK_dropFills_39 ?_
        refine lv_iload_n hx hb dK_dropFills_40 rfl (lv_at hl 2 rfl) ?_
        refine lv_icmp_ne (tgt := 51) hx hb dK_dropFills_41 (by decide) (fun c41 => ?_) (fun c41 => ?_)
        · have hf := (if_neg c41).symm.trans hf
          refine lv_iinc (v := (x3 + 1)) (lv' := [(3, .int (x3 + 1)), (0, .ref (q 0)), (1, .int x1), (2, .int x2)]) hx hb dK_dropFills_51 hl (k := 3) rfl rfl (by decide) rfl (fun ls hl => ?_)
          refine lv_goto (tgt := 16) hx hb dK_dropFills_54 (by decide) ?_
          exact ih σ x1 x2 (x3 + 1) _ _ ls hf (lv_sub hl [1, 2, 3, 0] rfl) hP hD hS
        · have hf := (if_pos c41).symm.trans hf
          exact tK_dropFills_44 C0 hK hA ih σ x1 x2 x3 _ _ ls hf (lv_sub hl [0, 1, 2, 3] rfl) hP hD hS
set_option maxHeartbeats 400000 in
set_option maxRecDepth 100000 in
theorem mK_dropFills (l : Launch) (D : va_G) (q : Nat → Nat) (k : kK) (cI cJ : ClassId) (sz : Nat) (fu : Nat) (σ : sK) (σ' : sK) (x1 : Int32) (x2 : Int32) (hf : fK_dropFills fu k σ x1 x2 = some σ') : Met l yK_dropFills (.code yK_dropFills cK_dropFills 4 none :: TK) ({ frames := 0, cells := 0, slots := 0, locals := 0 }) (kPre D cl0 [(cI, .int), (cJ, .long)] (wdK q k cI cJ) sz σ [.ref (q 0), .int x1, .int x2]) (kQv D cl0 [(cI, .int), (cJ, .long)] (wdK q k cI cJ) (va_A (wdK q k cI cJ σ) sz) σ') 0 0 (va_A (wdK q k cI cJ σ) sz) := by
  refine kr_start (own := RK) (by decide) rfl (Nat.le_of_ble_eq_true rfl) ?_
  intro p e s m args below meth c ls C0 hsz hK hP hD hl
  subst hsz
  obtain ⟨hx, hb, hr, hml, hown, hts, hlocks⟩ := id C0
  have hA : ∀ z : Nat, s.heap.size ≤ z → va_A (wdK q k cI cJ σ) s.heap.size z := fun z h => Or.inr h
  generalize va_A (wdK q k cI cJ σ) s.heap.size = A at hD hA ⊢
  have hS : va_S A s.heap s.heap [] := va_S.rf
  have hl : lv_has ls 4 [(0, .ref (q 0)), (1, .int x1), (2, .int x2)] := hl
  unfold fK_dropFills at hf
  refine lv_aload_n hx hb dK_dropFills_0 rfl (lv_at hl 0 rfl) ?_
  refine gK_filledBy hx hb hown hts hK hP dK_dropFills_1 ?_
  refine lv_iload_n hx hb dK_dropFills_4 rfl (lv_at hl 1 rfl) ?_
  refine lv_iconst (v := (-1)) hx hb dK_dropFills_5 (by decide) ?_
  obtain ⟨a6, ea6, hf⟩ := kb1 hf
  refine kr_iastore (σ' := (uK_filledBy σ a6)) hx hb hK hP hD hS 6 0 rfl rfl ea6 (wK_filledBy q k cI cJ _ _) dK_dropFills_6 (fun H locs hP hD hS => ?_)
  generalize (uK_filledBy σ a6) = s6 at hf hP hD
  refine lv_aload_n hx hb dK_dropFills_7 rfl (lv_at hl 0 rfl) ?_
  refine gK_filledBy hx hb hown hts hK hP dK_dropFills_8 ?_
  refine lv_iload_n hx hb dK_dropFills_11 rfl (lv_at hl 2 rfl) ?_
  refine lv_iconst (v := (-1)) hx hb dK_dropFills_12 (by decide) ?_
  obtain ⟨a13, ea13, hf⟩ := kb1 hf
  refine kr_iastore (σ' := (uK_filledBy s6 a13)) hx hb hK hP hD hS 6 0 rfl rfl ea13 (wK_filledBy q k cI cJ _ _) dK_dropFills_13 (fun H locs hP hD hS => ?_)
  generalize (uK_filledBy s6 a13) = s13 at hf hP hD
  refine lv_iconst (v := 0) hx hb dK_dropFills_14 (by decide) ?_
  refine lv_istore_n (lv' := [(3, .int 0), (0, .ref (q 0)), (1, .int x1), (2, .int x2)]) hx hb dK_dropFills_15 rfl hl (by decide) rfl (fun ls hl => ?_)
  exact tK_dropFills_16 C0 hK hA fu s13 x1 x2 0 _ _ ls hf (lv_sub hl [1, 2, 3, 0] rfl) hP hD hS
