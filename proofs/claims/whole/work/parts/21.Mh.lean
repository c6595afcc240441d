theorem dM_pooled_0 : decode cM_pooled 0 = .ok (.aload_n 0, 1) := by decide +kernel
theorem dM_pooled_1 : decode cM_pooled 1 = .ok (.iload_n 1, 1) := by decide +kernel
theorem dM_pooled_2 : decode cM_pooled 2 = .ok (.invokevirtual 58, 3) := by decide +kernel
theorem dM_pooled_5 : decode cM_pooled 5 = .ok (.ifCond .eq (11), 3) := by decide +kernel
theorem dM_pooled_8 : decode cM_pooled 8 = .ok (.aload_n 0, 1) := by decide +kernel
theorem dM_pooled_9 : decode cM_pooled 9 = .ok (.iload_n 1, 1) := by decide +kernel
theorem dM_pooled_10 : decode cM_pooled 10 = .ok (.invokevirtual 120, 3) := by decide +kernel
theorem dM_pooled_13 : decode cM_pooled 13 = .ok (.ifCond .ne (5), 3) := by decide +kernel
theorem dM_pooled_16 : decode cM_pooled 16 = .ok (.iconst 0, 1) := by decide +kernel
theorem dM_pooled_17 : decode cM_pooled 17 = .ok (.ireturn, 1) := by decide +kernel
theorem dM_pooled_18 : decode cM_pooled 18 = .ok (.iconst 0, 1) := by decide +kernel
theorem dM_pooled_19 : decode cM_pooled 19 = .ok (.istore_n 2, 1) := by decide +kernel
theorem dM_pooled_20 : decode cM_pooled 20 = .ok (.iconst 0, 1) := by decide +kernel
theorem dM_pooled_21 : decode cM_pooled 21 = .ok (.istore_n 3, 1) := by decide +kernel
theorem dM_pooled_22 : decode cM_pooled 22 = .ok (.iload_n 3, 1) := by decide +kernel
theorem dM_pooled_23 : decode cM_pooled 23 = .ok (.aload_n 0, 1) := by decide +kernel
theorem dM_pooled_24 : decode cM_pooled 24 = .ok (.getfield 42, 3) := by decide +kernel
theorem dM_pooled_27 : decode cM_pooled 27 = .ok (.if_icmp .ge (34), 3) := by decide +kernel
theorem dM_pooled_30 : decode cM_pooled 30 = .ok (.iload_n 2, 1) := by decide +kernel
theorem dM_pooled_31 : decode cM_pooled 31 = .ok (.aload_n 0, 1) := by decide +kernel
theorem dM_pooled_32 : decode cM_pooled 32 = .ok (.iload_n 3, 1) := by decide +kernel
theorem dM_pooled_33 : decode cM_pooled 33 = .ok (.invokevirtual 120, 3) := by decide +kernel
theorem dM_pooled_36 : decode cM_pooled 36 = .ok (.ifCond .le (16), 3) := by decide +kernel
theorem dM_pooled_39 : decode cM_pooled 39 = .ok (.aload_n 0, 1) := by decide +kernel
theorem dM_pooled_40 : decode cM_pooled 40 = .ok (.iload_n 1, 1) := by decide +kernel
theorem dM_pooled_41 : decode cM_pooled 41 = .ok (.iload_n 3, 1) := by decide +kernel
theorem dM_pooled_42 : decode cM_pooled 42 = .ok (.invokevirtual 127, 3) := by decide +kernel
theorem dM_pooled_45 : decode cM_pooled 45 = .ok (.ifCond .eq (7), 3) := by decide +kernel
theorem dM_pooled_48 : decode cM_pooled 48 = .ok (.iconst 1, 1) := by decide +kernel
theorem dM_pooled_49 : decode cM_pooled 49 = .ok (.goto (4), 3) := by decide +kernel
theorem dM_pooled_52 : decode cM_pooled 52 = .ok (.iconst 0, 1) := by decide +kernel
theorem dM_pooled_53 : decode cM_pooled 53 = .ok (.iadd, 1) := by decide +kernel
theorem dM_pooled_54 : decode cM_pooled 54 = .ok (.istore_n 2, 1) := by decide +kernel
theorem dM_pooled_55 : decode cM_pooled 55 = .ok (.iinc 3 (1), 3) := by decide +kernel
theorem dM_pooled_58 : decode cM_pooled 58 = .ok (.goto (-36), 3) := by decide +kernel
theorem dM_pooled_61 : decode cM_pooled 61 = .ok (.iload_n 2, 1) := by decide +kernel
theorem dM_pooled_62 : decode cM_pooled 62 = .ok (.ireturn, 1) := by decide +kernel
set_option maxHeartbeats 400000 in
set_option maxRecDepth 100000 in
theorem tM_pooled_53 {p : Program} {l : Launch} {e : Env} {s : State} {m : MethodId} {args : Array Value} {below : List Frame} {meth : Method} {c : Code} {D : va_G} {A : Nat → Prop} {q : Nat → Nat} {k : kM} {cI cJ : ClassId} {r : Int32} {σ' : sM} {fu : Nat} {h22 : sM → Int32 → Int32 → Int32 → Option (Int32 × sM)} (C0 : Cx p s m args meth c cM_pooled 4 (some .int) RM TM) (hK : va_K D cl0 [(cI, .int), (cJ, .long)] s) (hA : ∀ z, s.heap.size ≤ z → A z) (ih22 : ∀ (σ : sM) (x1 : Int32) (x2 : Int32) (x3 : Int32)(H : Heap) (locs : List Loc) (ls : Array Slot), h22 σ x1 x2 x3 = some (r, σ') → lv_has ls 4 [(0, .ref (q 0)), (1, .int x1), (2, .int x2), (3, .int x3)] → va_P D cl0 (wdM q k cI cJ σ) H → va_D A (wdM q k cI cJ σ) → va_S A s.heap H locs → W p l e ({ frames := 5, cells := 0, slots := 0, locals := 128 }) s m args below meth c H locs 0 0 (MQ below (kQi D cl0 [(cI, .int), (cJ, .long)] (wdM q k cI cJ) A r σ') args s 0 0 A) (F0 m 22 ls [])) : ∀ (σ : sM) (y0 : Int32) (y1 : Int32) (x1 : Int32) (x3 : Int32)(H : Heap) (locs : List Loc) (ls : Array Slot), fM_pooled_53 fu k h22 σ y0 y1 x1 x3 = some (r, σ') → lv_has ls 4 [(0, .ref (q 0)), (1, .int x1), (3, .int x3)] → va_P D cl0 (wdM q k cI cJ σ) H → va_D A (wdM q k cI cJ σ) → va_S A s.heap H locs → W p l e ({ frames := 5, cells := 0, slots := 0, locals := 128 }) s m args below meth c H locs 0 0 (MQ below (kQi D cl0 [(cI, .int), (cJ, .long)] (wdM q k cI cJ) A r σ') args s 0 0 A) (F0 m 53 ls [.int y1, .int y0]) := by
  obtain ⟨hx, hb, hr, hml, hown, hts, hlocks⟩ := id C0
  intro σ y0 y1 x1 x3 H locs ls hf hl hP hD hS
  unfold fM_pooled_53 at hf
  refine lv_iadd hx hb dM_pooled_53 ?_
  refine lv_istore_n (lv' := [(2, .int (y0 + y1)), (0, .ref (q 0)), (1, .int x1), (3, .int x3)]) hx hb dM_pooled_54 rfl hl (by decide) rfl (fun ls hl => ?_)
  refine lv_iinc (v := (x3 + 1)) (lv' := [(3, .int (x3 + 1)), (2, .int (y0 + y1)), (0, .ref (q 0)), (1, .int x1)]) hx hb dM_pooled_55 hl (k := 3) rfl rfl (by decide) rfl (fun ls hl => ?_)
  refine lv_goto (tgt := 22) hx hb dM_pooled_58 (by decide) ?_
  exact ih22 σ x1 (y0 + y1) (x3 + 1) _ _ ls hf (lv_sub hl [2, 3, 1, 0] rfl) hP hD hS
set_option maxHeartbeats 400000 in
set_option maxRecDepth 100000 in
theorem tM_pooled_52 {p : Program} {l : Launch} {e : Env} {s : State} {m : MethodId} {args : Array Value} {below : List Frame} {meth : Method} {c : Code} {D : va_G} {A : Nat → Prop} {q : Nat → Nat} {k : kM} {cI cJ : ClassId} {r : Int32} {σ' : sM} {fu : Nat} {h22 : sM → Int32 → Int32 → Int32 → Option (Int32 × sM)} (C0 : Cx p s m args meth c cM_pooled 4 (some .int) RM TM) (hK : va_K D cl0 [(cI, .int), (cJ, .long)] s) (hA : ∀ z, s.heap.size ≤ z → A z) (ih22 : ∀ (σ : sM) (x1 : Int32) (x2 : Int32) (x3 : Int32)(H : Heap) (locs : List Loc) (ls : Array Slot), h22 σ x1 x2 x3 = some (r, σ') → lv_has ls 4 [(0, .ref (q 0)), (1, .int x1), (2, .int x2), (3, .int x3)] → va_P D cl0 (wdM q k cI cJ σ) H → va_D A (wdM q k cI cJ σ) → va_S A s.heap H locs → W p l e ({ frames := 5, cells := 0, slots := 0, locals := 128 }) s m args below meth c H locs 0 0 (MQ below (kQi D cl0 [(cI, .int), (cJ, .long)] (wdM q k cI cJ) A r σ') args s 0 0 A) (F0 m 22 ls [])) : ∀ (σ : sM) (y0 : Int32) (x1 : Int32) (x3 : Int32)(H : Heap) (locs : List Loc) (ls : Array Slot), fM_pooled_52 fu k h22 σ y0 x1 x3 = some (r, σ') → lv_has ls 4 [(0, .ref (q 0)), (1, .int x1), (3, .int x3)] → va_P D cl0 (wdM q k cI cJ σ) H → va_D A (wdM q k cI cJ σ) → va_S A s.heap H locs → W p l e ({ frames := 5, cells := 0, slots := 0, locals := 128 }) s m args below meth c H locs 0 0 (MQ below (kQi D cl0 [(cI, .int), (cJ, .long)] (wdM q k cI cJ) A r σ') args s 0 0 A) (F0 m 52 ls [.int y0]) := by
  obtain ⟨hx, hb, hr, hml, hown, hts, hlocks⟩ := id C0
  intro σ y0 x1 x3 H locs ls hf hl hP hD hS
  unfold fM_pooled_52 at hf
  refine lv_iconst (v := 0) hx hb dM_pooled_52 (by decide) ?_
  exact tM_pooled_53 C0 hK hA ih22 σ y0 0 x1 x3 _ _ ls hf (lv_sub hl [0, 1, 2] rfl) hP hD hS
set_option maxHeartbeats 400000 in
set_option maxRecDepth 100000 in
theorem tM_pooled_22 {p : Program} {l : Launch} {e : Env} {s : State} {m : MethodId} {args : Array Value} {below : List Frame} {meth : Method} {c : Code} {D : va_G} {A : Nat → Prop} {q : Nat → Nat} {k : kM} {cI cJ : ClassId} {r : Int32} {σ' : sM} {fu : Nat} (C0 : Cx p s m args meth c cM_pooled 4 (some .int) RM TM) (hK : va_K D cl0 [(cI, .int), (cJ, .long)] s) (hA : ∀ z, s.heap.size ≤ z → A z) : ∀ n : Nat, ∀ (σ : sM) (x1 : Int32) (x2 : Int32) (x3 : Int32)(H : Heap) (locs : List Loc) (ls : Array Slot), fM_pooled_22 fu k n σ x1 x2 x3 = some (r, σ') → lv_has ls 4 [(0, .ref (q 0)), (1, .int x1), (2, .int x2), (3, .int x3)] → va_P D cl0 (wdM q k cI cJ σ) H → va_D A (wdM q k cI cJ σ) → va_S A s.heap H locs → W p l e ({ frames := 5, cells := 0, slots := 0, locals := 128 }) s m args below meth c H locs 0 0 (MQ below (kQi D cl0 [(cI, .int), (cJ, .long)] (wdM q k cI cJ) A r σ') args s 0 0 A) (F0 m 22 ls []) := by
  obtain ⟨hx, hb, hr, hml, hown, hts, hlocks⟩ := id C0
  intro n
  induction n with
  | zero =>
    intro σ x1 x2 x3 H locs ls hf hl hP hD hS
    cases hf
  | succ n ih =>
    intro σ x1 x2 x3 H locs ls hf hl hP hD hS
    rw [fM_pooled_22] at hf
    refine lv_iload_n hx hb dM_pooled_22 rfl (lv_at hl 3 rfl) ?_
    refine lv_aload_n hx hb dM_pooled_23 rfl (lv_at hl 0 rfl) ?_
    refine gM_ages hx hb hown hts hK hP dM_pooled_24 ?_
    refine lv_icmp_ge (tgt := 61) hx hb dM_pooled_27 (by decide) (fun c27 => ?_) (fun c27 => ?_)
    · have hf := (if_pos c27).symm.trans hf
      refine lv_iload_n hx hb dM_pooled_61 rfl (lv_at hl 2 rfl) ?_
      exact kr_iret C0 hK hP hD hS (congrArg Prod.fst (Option.some.inj hf)) (congrArg Prod.snd (Option.some.inj hf)) dM_pooled_62
    · have hf := (if_neg c27).symm.trans hf
      refine lv_iload_n hx hb dM_pooled_30 rfl (lv_at hl 2 rfl) ?_
      refine lv_aload_n hx hb dM_pooled_31 rfl (lv_at hl 0 rfl) ?_
      refine lv_iload_n hx hb dM_pooled_32 rfl (lv_at hl 3 rfl) ?_
      obtain ⟨v33, ev33, hf⟩ := kb1 hf
      refine kr_callVi (av := [.int x3]) ⟨hx, hb, hml, hown, hts⟩ (mM_ofAge l D q k cI cJ _ fu σ x3 v33 ev33) (cwV 1 hts (kgood_V TM_good (by decide +kernel)) rfl rfl rfl (by decide +kernel) ⟨Nat.le_of_ble_eq_true rfl, Nat.le_of_ble_eq_true rfl⟩) hK hP hD hS hA (ci := 1) (q0 := 0) rfl rfl rfl hl.1 rfl (Nat.le_of_ble_eq_true rfl) dM_pooled_33 ⟨Nat.le_of_ble_eq_true rfl, Nat.le_of_ble_eq_true rfl⟩ (fun H locs hP hD hS => ?_)
      refine lv_if_le (tgt := 52) hx hb dM_pooled_36 (by decide) (fun c36 => ?_) (fun c36 => ?_)
      · have hf := (if_pos c36).symm.trans hf
        exact tM_pooled_52 C0 hK hA ih σ x2 x1 x3 _ _ ls hf (lv_sub hl [0, 1, 3] rfl) hP hD hS
      · have hf := (if_neg c36).symm.trans hf
        refine lv_aload_n hx hb dM_pooled_39 rfl (lv_at hl 0 rfl) ?_
        refine lv_iload_n hx hb dM_pooled_40 rfl (lv_at hl 1 rfl) ?_
        refine lv_iload_n hx hb dM_pooled_41 rfl (lv_at hl 3 rfl) ?_
        obtain ⟨v42, s42, es42, hf⟩ := kb2 hf
        refine kr_callVi (av := [.int x1, .int x3]) ⟨hx, hb, hml, hown, hts⟩ (mM_isSame l D q k cI cJ _ fu σ s42 x1 x3 v42 es42) (cwV 2 hts (kgood_V TM_good (by decide +kernel)) rfl rfl rfl (by decide +kernel) ⟨Nat.le_of_ble_eq_true rfl, Nat.le_of_ble_eq_true rfl⟩) hK hP hD hS hA (ci := 1) (q0 := 0) rfl rfl rfl hl.1 rfl (Nat.le_of_ble_eq_true rfl) dM_pooled_42 ⟨Nat.le_of_ble_eq_true rfl, Nat.le_of_ble_eq_true rfl⟩ (fun H locs hP hD hS => ?_)
        refine lv_if_eq (tgt := 52) hx hb dM_pooled_45 (by decide) (fun c45 => ?_) (fun c45 => ?_)
        · have hf := (if_pos c45).symm.trans hf
          exact tM_pooled_52 C0 hK hA ih s42 x2 x1 x3 _ _ ls hf (lv_sub hl [0, 1, 3] rfl) hP hD hS
        · have hf := (if_neg c45).symm.trans hf
          refine lv_iconst (v := 1) hx hb dM_pooled_48 (by decide) ?_
          refine lv_goto (tgt := 53) hx hb dM_pooled_49 (by decide) ?_
          exact tM_pooled_53 C0 hK hA ih s42 x2 1 x1 x3 _ _ ls hf (lv_sub hl [0, 1, 3] rfl) hP hD hS
set_option maxHeartbeats 400000 in
set_option maxRecDepth 100000 in
theorem mM_pooled (l : Launch) (D : va_G) (q : Nat → Nat) (k : kM) (cI cJ : ClassId) (sz : Nat) (fu : Nat) (σ : sM) (σ' : sM) (x1 : Int32) (r : Int32) (hf : fM_pooled fu k σ x1 = some (r, σ')) : Met l yM_pooled (.code yM_pooled cM_pooled 4 (some .int) :: TM) ({ frames := 5, cells := 0, slots := 0, locals := 128 }) (kPre D cl0 [(cI, .int), (cJ, .long)] (wdM q k cI cJ) sz σ [.ref (q 0), .int x1]) (kQi D cl0 [(cI, .int), (cJ, .long)] (wdM q k cI cJ) (va_A (wdM q k cI cJ σ) sz) r σ') 0 0 (va_A (wdM q k cI cJ σ) sz) := by
  refine kr_start (own := RM) (by decide) rfl (Nat.le_of_ble_eq_true rfl) ?_
  intro p e s m args below meth c ls C0 hsz hK hP hD hl
  subst hsz
  obtain ⟨hx, hb, hr, hml, hown, hts, hlocks⟩ := id C0
  have hA : ∀ z : Nat, s.heap.size ≤ z → va_A (wdM q k cI cJ σ) s.heap.size z := fun z h => Or.inr h
  generalize va_A (wdM q k cI cJ σ) s.heap.size = A at hD hA ⊢
  have hS : va_S A s.heap s.heap [] := va_S.rf
  have hl : lv_has ls 4 [(0, .ref (q 0)), (1, .int x1)] := hl
  unfold fM_pooled at hf
  refine lv_aload_n hx hb dM_pooled_0 rfl (lv_at hl 0 rfl) ?_
  refine lv_iload_n hx hb dM_pooled_1 rfl (lv_at hl 1 rfl) ?_
  refine kr_callVi (av := [.int x1]) ⟨hx, hb, hml, hown, hts⟩ (mM_isAge l D q k cI cJ _ σ x1 _ rfl) (cwV 1 hts (kgood_V TM_good (by decide +kernel)) rfl rfl rfl (by decide +kernel) ⟨Nat.le_of_ble_eq_true rfl, Nat.le_of_ble_eq_true rfl⟩) hK hP hD hS hA (ci := 1) (q0 := 0) rfl rfl rfl hl.1 rfl (Nat.le_of_ble_eq_true rfl) dM_pooled_2 ⟨Nat.le_of_ble_eq_true rfl, Nat.le_of_ble_eq_true rfl⟩ (fun H locs hP hD hS => ?_)
  refine lv_if_eq (tgt := 16) hx hb dM_pooled_5 (by decide) (fun c5 => ?_) (fun c5 => ?_)
  · have hf := (if_pos c5).symm.trans hf
    refine lv_iconst (v := 0) hx hb dM_pooled_16 (by decide) ?_
    exact kr_iret C0 hK hP hD hS (congrArg Prod.fst (Option.some.inj hf)) (congrArg Prod.snd (Option.some.inj hf)) dM_pooled_17
  · have hf := (if_neg c5).symm.trans hf
    refine lv_aload_n hx hb dM_pooled_8 rfl (lv_at hl 0 rfl) ?_
    refine lv_iload_n hx hb dM_pooled_9 rfl (lv_at hl 1 rfl) ?_
    obtain ⟨v10, ev10, hf⟩ := kb1 hf
    refine kr_callVi (av := [.int x1]) ⟨hx, hb, hml, hown, hts⟩ (mM_ofAge l D q k cI cJ _ fu σ x1 v10 ev10) (cwV 1 hts (kgood_V TM_good (by decide +kernel)) rfl rfl rfl (by decide +kernel) ⟨Nat.le_of_ble_eq_true rfl, Nat.le_of_ble_eq_true rfl⟩) hK hP hD hS hA (ci := 1) (q0 := 0) rfl rfl rfl hl.1 rfl (Nat.le_of_ble_eq_true rfl) dM_pooled_10 ⟨Nat.le_of_ble_eq_true rfl, Nat.le_of_ble_eq_true rfl⟩ (fun H locs hP hD hS => ?_)
    refine lv_if_ne (tgt := 18) hx hb dM_pooled_13 (by decide) (fun c13 => ?_) (fun c13 => ?_)
    · have hf := (if_neg c13).symm.trans hf
      refine lv_iconst (v := 0) hx hb dM_pooled_18 (by decide) ?_
      refine lv_istore_n (lv' := [(2, .int 0), (0, .ref (q 0)), (1, .int x1)]) hx hb dM_pooled_19 rfl hl (by decide) rfl (fun ls hl => ?_)
      refine lv_iconst (v := 0) hx hb dM_pooled_20 (by decide) ?_
      refine lv_istore_n (lv' := [(3, .int 0), (2, .int 0), (0, .ref (q 0)), (1, .int x1)]) hx hb dM_pooled_21 rfl hl (by decide) rfl (fun ls hl => ?_)
      exact tM_pooled_22 C0 hK hA fu σ x1 0 0 _ _ ls hf (lv_sub hl [2, 3, 1, 0] rfl) hP hD hS
    · have hf := (if_pos c13).symm.trans hf
      refine lv_iconst (v := 0) hx hb dM_pooled_16 (by decide) ?_
      exact kr_iret C0 hK hP hD hS (congrArg Prod.fst (Option.some.inj hf)) (congrArg Prod.snd (Option.some.inj hf)) dM_pooled_17
theorem dM_sex_0 : decode cM_sex 0 = .ok (.aload_n 0, 1) := by decide +kernel
theorem dM_sex_1 : decode cM_sex 1 = .ok (.iload_n 1, 1) := by decide +kernel
theorem dM_sex_2 : decode cM_sex 2 = .ok (.invokevirtual 54, 3) := by decide +kernel
theorem dM_sex_5 : decode cM_sex 5 = .ok (.ifCond .eq (18), 3) := by decide +kernel
theorem dM_sex_8 : decode cM_sex 8 = .ok (.iload_n 2, 1) := by decide +kernel
theorem dM_sex_9 : decode cM_sex 9 = .ok (.ifCond .lt (14), 3) := by decide +kernel
theorem dM_sex_12 : decode cM_sex 12 = .ok (.iload_n 2, 1) := by decide +kernel
theorem dM_sex_13 : decode cM_sex 13 = .ok (.iload_n 3, 1) := by decide +kernel
theorem dM_sex_14 : decode cM_sex 14 = .ok (.if_icmp .gt (9), 3) := by decide +kernel
theorem dM_sex_17 : decode cM_sex 17 = .ok (.iload_n 3, 1) := by decide +kernel
theorem dM_sex_18 : decode cM_sex 18 = .ok (.bipush (100), 2) := by decide +kernel
theorem dM_sex_20 : decode cM_sex 20 = .ok (.if_icmp .le (5), 3) := by decide +kernel
theorem dM_sex_23 : decode cM_sex 23 = .ok (.iconst 0, 1) := by decide +kernel
theorem dM_sex_24 : decode cM_sex 24 = .ok (.ireturn, 1) := by decide +kernel
theorem dM_sex_25 : decode cM_sex 25 = .ok (.aload_n 0, 1) := by decide +kernel
theorem dM_sex_26 : decode cM_sex 26 = .ok (.getfield 30, 3) := by decide +kernel
theorem dM_sex_29 : decode cM_sex 29 = .ok (.iload_n 1, 1) := by decide +kernel
theorem dM_sex_30 : decode cM_sex 30 = .ok (.iload_n 2, 1) := by decide +kernel
theorem dM_sex_31 : decode cM_sex 31 = .ok (.iastore, 1) := by decide +kernel
theorem dM_sex_32 : decode cM_sex 32 = .ok (.aload_n 0, 1) := by decide +kernel
theorem dM_sex_33 : decode cM_sex 33 = .ok (.getfield 33, 3) := by decide +kernel
theorem dM_sex_36 : decode cM_sex 36 = .ok (.iload_n 1, 1) := by decide +kernel
theorem dM_sex_37 : decode cM_sex 37 = .ok (.iload_n 3, 1) := by decide +kernel
theorem dM_sex_38 : decode cM_sex 38 = .ok (.iastore, 1) := by decide +kernel
theorem dM_sex_39 : decode cM_sex 39 = .ok (.iconst 1, 1) := by decide +kernel
theorem dM_sex_40 : decode cM_sex 40 = .ok (.ireturn, 1) := by decide +kernel
set_option maxHeartbeats 400000 in
set_option maxRecDepth 100000 in
theorem mM_sex (l : Launch) (D : va_G) (q : Nat → Nat) (k : kM) (cI cJ : ClassId) (sz : Nat) (σ : sM) (σ' : sM) (x1 : Int32) (x2 : Int32) (x3 : Int32) (r : Int32) (hf : fM_sex k σ x1 x2 x3 = some (r, σ')) : Met l yM_sex (.code yM_sex cM_sex 4 (some .boolean) :: TM) ({ frames := 1, cells := 0, slots := 0, locals := 21 }) (kPre D cl0 [(cI, .int), (cJ, .long)] (wdM q k cI cJ) sz σ [.ref (q 0), .int x1, .int x2, .int x3]) (kQi D cl0 [(cI, .int), (cJ, .long)] (wdM q k cI cJ) (va_A (wdM q k cI cJ σ) sz) r σ') 0 0 (va_A (wdM q k cI cJ σ) sz) := by
  refine kr_start (own := RM) (by decide) rfl (Nat.le_of_ble_eq_true rfl) ?_
  intro p e s m args below meth c ls C0 hsz hK hP hD hl
  subst hsz
  obtain ⟨hx, hb, hr, hml, hown, hts, hlocks⟩ := id C0
  have hA : ∀ z : Nat, s.heap.size ≤ z → va_A (wdM q k cI cJ σ) s.heap.size z := fun z h => Or.inr h
  generalize va_A (wdM q k cI cJ σ) s.heap.size = A at hD hA ⊢
  have hS : va_S A s.heap s.heap [] := va_S.rf
  have hl : lv_has ls 4 [(0, .ref (q 0)), (1, .int x1), (2, .int x2), (3, .int x3)] := hl
  unfold fM_sex at hf
  refine lv_aload_n hx hb dM_sex_0 rfl (lv_at hl 0 rfl) ?_
  refine lv_iload_n hx hb dM_sex_1 rfl (lv_at hl 1 rfl) ?_
  refine kr_callVi (av := [.int x1]) ⟨hx, hb, hml, hown, hts⟩ (mM_isClass l D q k cI cJ _ σ x1 _ rfl) (cwV 1 hts (kgood_V TM_good (by decide +kernel)) rfl rfl rfl (by decide +kernel) ⟨Nat.le_of_ble_eq_true rfl, Nat.le_of_ble_eq_true rfl⟩) hK hP hD hS hA (ci := 1) (q0 := 0) rfl rfl rfl hl.1 rfl (Nat.le_of_ble_eq_true rfl) dM_sex_2 ⟨Nat.le_of_ble_eq_true rfl, Nat.le_of_ble_eq_true rfl⟩ (fun H locs hP hD hS => ?_)
  refine lv_if_eq (tgt := 23) hx hb dM_sex_5 (by decide) (fun c5 => ?_) (fun c5 => ?_)
  · have hf := (if_pos c5).symm.trans hf
    refine lv_iconst (v := 0) hx hb dM_sex_23 (by decide) ?_
    exact kr_zret C0 hK hP hD hS rfl (congrArg Prod.fst (Option.some.inj hf)) (congrArg Prod.snd (Option.some.inj hf)) dM_sex_24
  · have hf := (if_neg c5).symm.trans hf
    refine lv_iload_n hx hb dM_sex_8 rfl (lv_at hl 2 rfl) ?_
    refine lv_if_lt (tgt := 23) hx hb dM_sex_9 (by decide) (fun c9 => ?_) (fun c9 => ?_)
    · have hf := (if_pos c9).symm.trans hf
      refine lv_iconst (v := 0) hx hb dM_sex_23 (by decide) ?_
      exact kr_zret C0 hK hP hD hS rfl (congrArg Prod.fst (Option.some.inj hf)) (congrArg Prod.snd (Option.some.inj hf)) dM_sex_24
    · have hf := (if_neg c9).symm.trans hf
      refine lv_iload_n hx hb dM_sex_12 rfl (lv_at hl 2 rfl) ?_
      refine lv_iload_n hx hb dM_sex_13 rfl (lv_at hl 3 rfl) ?_
      refine lv_icmp_gt (tgt := 23) hx hb dM_sex_14 (by decide) (fun c14 => ?_) (fun c14 => ?_)
      · have hf := (if_pos c14).symm.trans hf
        refine lv_iconst (v := 0) hx hb dM_sex_23 (by decide) ?_
        exact kr_zret C0 hK hP hD hS rfl (congrArg Prod.fst (Option.some.inj hf)) (congrArg Prod.snd (Option.some.inj hf)) dM_sex_24
      · have hf := (if_neg c14).symm.trans hf
        refine lv_iload_n hx hb dM_sex_17 rfl (lv_at hl 3 rfl) ?_
        refine lv_bipush (v := 100) hx hb dM_sex_18 (by decide) ?_
        refine lv_icmp_le (tgt := 25) hx hb dM_sex_20 (by decide) (fun c20 => ?_) (fun c20 => ?_)
        · have hf := (if_pos c20).symm.trans hf
          refine lv_aload_n hx hb dM_sex_25 rfl (lv_at hl 0 rfl) ?_
          refine gM_maleCount hx hb hown hts hK hP dM_sex_26 ?_
          refine lv_iload_n hx hb dM_sex_29 rfl (lv_at hl 1 rfl) ?_
          refine lv_iload_n hx hb dM_sex_30 rfl (lv_at hl 2 rfl) ?_
          obtain ⟨a31, ea31, hf⟩ := kb1 hf
          refine kr_iastore (σ' := (uM_maleCount σ a31)) hx hb hK hP hD hS 6 0 rfl rfl ea31 (wM_maleCount q k cI cJ _ _) dM_sex_31 (fun H locs hP hD hS => ?_)
          generalize (uM_maleCount σ a31) = s31 at hf hP hD
          refine lv_aload_n hx hb dM_sex_32 rfl (lv_at hl 0 rfl) ?_
          refine gM_sexCount hx hb hown hts hK hP dM_sex_33 ?_
          refine lv_iload_n hx hb dM_sex_36 rfl (lv_at hl 1 rfl) ?_
          refine lv_iload_n hx hb dM_sex_37 rfl (lv_at hl 3 rfl) ?_
          obtain ⟨a38, ea38, hf⟩ := kb1 hf
          refine kr_iastore (σ' := (uM_sexCount s31 a38)) hx hb hK hP hD hS 7 0 rfl rfl ea38 (wM_sexCount q k cI cJ _ _) dM_sex_38 (fun H locs hP hD hS => ?_)
          generalize (uM_sexCount s31 a38) = s38 at hf hP hD
          refine lv_iconst (v := 1) hx hb dM_sex_39 (by decide) ?_
          exact kr_zret C0 hK hP hD hS rfl (congrArg Prod.fst (Option.some.inj hf)) (congrArg Prod.snd (Option.some.inj hf)) dM_sex_40
        · have hf := (if_neg c20).symm.trans hf
          refine lv_iconst (v := 0) hx hb dM_sex_23 (by decide) ?_
          exact kr_zret C0 hK hP hD hS rfl (congrArg Prod.fst (Option.some.inj hf)) (congrArg Prod.snd (Option.some.inj hf)) dM_sex_24
theorem dM_males_0 : decode cM_males 0 = .ok (.aload_n 0, 1) := by decide +kernel
theorem dM_males_1 : decode cM_males 1 = .ok (.iload_n 1, 1) := by decide +kernel
theorem dM_males_2 : decode cM_males 2 = .ok (.invokevirtual 54, 3) := by decide +kernel
theorem dM_males_5 : decode cM_males 5 = .ok (.ifCond .eq (10), 3) := by decide +kernel
theorem dM_males_8 : decode cM_males 8 = .ok (.iload_n 2, 1) := by decide +kernel
theorem dM_males_9 : decode cM_males 9 = .ok (.invokestatic 71, 3) := by decide +kernel
theorem dM_males_12 : decode cM_males 12 = .ok (.ifCond .ne (7), 3) := by decide +kernel
theorem dM_males_15 : decode cM_males 15 = .ok (.ldc2_w 52, 3) := by decide +kernel
theorem dM_males_18 : decode cM_males 18 = .ok (.lreturn, 1) := by decide +kernel
theorem dM_males_19 : decode cM_males 19 = .ok (.iconst 0, 1) := by decide +kernel
theorem dM_males_20 : decode cM_males 20 = .ok (.istore_n 3, 1) := by decide +kernel
theorem dM_males_21 : decode cM_males 21 = .ok (.iconst 0, 1) := by decide +kernel
theorem dM_males_22 : decode cM_males 22 = .ok (.istore 4, 2) := by decide +kernel
theorem dM_males_24 : decode cM_males 24 = .ok (.iconst 0, 1) := by decide +kernel
theorem dM_males_25 : decode cM_males 25 = .ok (.istore 5, 2) := by decide +kernel
theorem dM_males_27 : decode cM_males 27 = .ok (.iload 5, 2) := by decide +kernel
theorem dM_males_29 : decode cM_males 29 = .ok (.aload_n 0, 1) := by decide +kernel
theorem dM_males_30 : decode cM_males 30 = .ok (.getfield 39, 3) := by decide +kernel
theorem dM_males_33 : decode cM_males 33 = .ok (.if_icmp .ge (71), 3) := by decide +kernel
theorem dM_males_36 : decode cM_males 36 = .ok (.iload_n 3, 1) := by decide +kernel
theorem dM_males_37 : decode cM_males 37 = .ok (.aload_n 0, 1) := by decide +kernel
theorem dM_males_38 : decode cM_males 38 = .ok (.getfield 17, 3) := by decide +kernel
theorem dM_males_41 : decode cM_males 41 = .ok (.iload 5, 2) := by decide +kernel
theorem dM_males_43 : decode cM_males 43 = .ok (.iaload, 1) := by decide +kernel
theorem dM_males_44 : decode cM_males 44 = .ok (.aload_n 0, 1) := by decide +kernel
theorem dM_males_45 : decode cM_males 45 = .ok (.getfield 17, 3) := by decide +kernel
theorem dM_males_48 : decode cM_males 48 = .ok (.iload_n 1, 1) := by decide +kernel
theorem dM_males_49 : decode cM_males 49 = .ok (.iaload, 1) := by decide +kernel
theorem dM_males_50 : decode cM_males 50 = .ok (.if_icmp .ne (13), 3) := by decide +kernel
theorem dM_males_53 : decode cM_males 53 = .ok (.aload_n 0, 1) := by decide +kernel
theorem dM_males_54 : decode cM_males 54 = .ok (.getfield 30, 3) := by decide +kernel
theorem dM_males_57 : decode cM_males 57 = .ok (.iload 5, 2) := by decide +kernel
theorem dM_males_59 : decode cM_males 59 = .ok (.iaload, 1) := by decide +kernel
theorem dM_males_60 : decode cM_males 60 = .ok (.goto (4), 3) := by decide +kernel
theorem dM_males_63 : decode cM_males 63 = .ok (.iconst 0, 1) := by decide +kernel
theorem dM_males_64 : decode cM_males 64 = .ok (.iadd, 1) := by decide +kernel
theorem dM_males_65 : decode cM_males 65 = .ok (.istore_n 3, 1) := by decide +kernel
theorem dM_males_66 : decode cM_males 66 = .ok (.iload 4, 2) := by decide +kernel
theorem dM_males_68 : decode cM_males 68 = .ok (.aload_n 0, 1) := by decide +kernel
theorem dM_males_69 : decode cM_males 69 = .ok (.getfield 17, 3) := by decide +kernel
theorem dM_males_72 : decode cM_males 72 = .ok (.iload 5, 2) := by decide +kernel
theorem dM_males_74 : decode cM_males 74 = .ok (.iaload, 1) := by decide +kernel
theorem dM_males_75 : decode cM_males 75 = .ok (.aload_n 0, 1) := by decide +kernel
theorem dM_males_76 : decode cM_males 76 = .ok (.getfield 17, 3) := by decide +kernel
theorem dM_males_79 : decode cM_males 79 = .ok (.iload_n 1, 1) := by decide +kernel
theorem dM_males_80 : decode cM_males 80 = .ok (.iaload, 1) := by decide +kernel
theorem dM_males_81 : decode cM_males 81 = .ok (.if_icmp .ne (13), 3) := by decide +kernel
theorem dM_males_84 : decode cM_males 84 = .ok (.aload_n 0, 1) := by decide +kernel
theorem dM_males_85 : decode cM_males 85 = .ok (.getfield 33, 3) := by decide +kernel
theorem dM_males_88 : decode cM_males 88 = .ok (.iload 5, 2) := by decide +kernel
theorem dM_males_90 : decode cM_males 90 = .ok (.iaload, 1) := by decide +kernel
theorem dM_males_91 : decode cM_males 91 = .ok (.goto (4), 3) := by decide +kernel
theorem dM_males_94 : decode cM_males 94 = .ok (.iconst 0, 1) := by decide +kernel
theorem dM_males_95 : decode cM_males 95 = .ok (.iadd, 1) := by decide +kernel
theorem dM_males_96 : decode cM_males 96 = .ok (.istore 4, 2) := by decide +kernel
theorem dM_males_98 : decode cM_males 98 = .ok (.iinc 5 (1), 3) := by decide +kernel
theorem dM_males_101 : decode cM_males 101 = .ok (.goto (-74), 3) := by decide +kernel
theorem dM_males_104 : decode cM_males 104 = .ok (.iload 4, 2) := by decide +kernel
theorem dM_males_106 : decode cM_males 106 = .ok (.ifCond .ne (9), 3) := by decide +kernel
theorem dM_males_109 : decode cM_males 109 = .ok (.ldc2_w 52, 3) := by decide +kernel
theorem dM_males_112 : decode cM_males 112 = .ok (.goto (12), 3) := by decide +kernel
theorem dM_males_115 : decode cM_males 115 = .ok (.iload_n 3, 1) := by decide +kernel
theorem dM_males_116 : decode cM_males 116 = .ok (.i2l, 1) := by decide +kernel
theorem dM_males_117 : decode cM_males 117 = .ok (.iload 4, 2) := by decide +kernel
theorem dM_males_119 : decode cM_males 119 = .ok (.i2l, 1) := by decide +kernel
theorem dM_males_120 : decode cM_males 120 = .ok (.iload_n 2, 1) := by decide +kernel
theorem dM_males_121 : decode cM_males 121 = .ok (.invokestatic 77, 3) := by decide +kernel
theorem dM_males_124 : decode cM_males 124 = .ok (.lreturn, 1) := by decide +kernel
set_option maxHeartbeats 400000 in
set_option maxRecDepth 100000 in
theorem tM_males_95 {p : Program} {l : Launch} {e : Env} {s : State} {m : MethodId} {args : Array Value} {below : List Frame} {meth : Method} {c : Code} {D : va_G} {A : Nat → Prop} {q : Nat → Nat} {k : kM} {cI cJ : ClassId} {r : Int64} {σ : sM} {fu : Nat} {h27 : Int32 → Int32 → Int32 → Int32 → Int32 → Option Int64} (C0 : Cx p s m args meth c cM_males 6 (some .long) RM TM) (hK : va_K D cl0 [(cI, .int), (cJ, .long)] s) (hA : ∀ z, s.heap.size ≤ z → A z) (ih27 : ∀ (x1 : Int32) (x2 : Int32) (x3 : Int32) (x4 : Int32) (x5 : Int32)(H : Heap) (locs : List Loc) (ls : Array Slot), h27 x1 x2 x3 x4 x5 = some r → lv_has ls 6 [(0, .ref (q 0)), (1, .int x1), (2, .int x2), (3, .int x3), (4, .int x4), (5, .int x5)] → va_P D cl0 (wdM q k cI cJ σ) H → va_D A (wdM q k cI cJ σ) → va_S A s.heap H locs → W p l e ({ frames := 1, cells := 0, slots := 0, locals := 32 }) s m args below meth c H locs 0 0 (MQ below (kQl D cl0 [(cI, .int), (cJ, .long)] (wdM q k cI cJ) A r σ) args s 0 0 A) (F0 m 27 ls [])) : ∀ (y0 : Int32) (y1 : Int32) (x1 : Int32) (x2 : Int32) (x3 : Int32) (x5 : Int32)(H : Heap) (locs : List Loc) (ls : Array Slot), fM_males_95 fu k σ h27 y0 y1 x1 x2 x3 x5 = some r → lv_has ls 6 [(0, .ref (q 0)), (1, .int x1), (2, .int x2), (3, .int x3), (5, .int x5)] → va_P D cl0 (wdM q k cI cJ σ) H → va_D A (wdM q k cI cJ σ) → va_S A s.heap H locs → W p l e ({ frames := 1, cells := 0, slots := 0, locals := 32 }) s m args below meth c H locs 0 0 (MQ below (kQl D cl0 [(cI, .int), (cJ, .long)] (wdM q k cI cJ) A r σ) args s 0 0 A) (F0 m 95 ls [.int y1, .int y0]) := by
  obtain ⟨hx, hb, hr, hml, hown, hts, hlocks⟩ := id C0
  intro y0 y1 x1 x2 x3 x5 H locs ls hf hl hP hD hS
  unfold fM_males_95 at hf
  refine lv_iadd hx hb dM_males_95 ?_
  refine lv_istore (lv' := [(4, .int (y0 + y1)), (0, .ref (q 0)), (1, .int x1), (2, .int x2), (3, .int x3), (5, .int x5)]) hx hb dM_males_96 hl (by decide) rfl (fun ls hl => ?_)
  refine lv_iinc (v := (x5 + 1)) (lv' := [(5, .int (x5 + 1)), (4, .int (y0 + y1)), (0, .ref (q 0)), (1, .int x1), (2, .int x2), (3, .int x3)]) hx hb dM_males_98 hl (k := 5) rfl rfl (by decide) rfl (fun ls hl => ?_)
  refine lv_goto (tgt := 27) hx hb dM_males_101 (by decide) ?_
  exact ih27 x1 x2 x3 (y0 + y1) (x5 + 1) _ _ ls hf (lv_sub hl [2, 3, 4, 5, 1, 0] rfl) hP hD hS
set_option maxHeartbeats 400000 in
set_option maxRecDepth 100000 in
theorem tM_males_64 {p : Program} {l : Launch} {e : Env} {s : State} {m : MethodId} {args : Array Value} {below : List Frame} {meth : Method} {c : Code} {D : va_G} {A : Nat → Prop} {q : Nat → Nat} {k : kM} {cI cJ : ClassId} {r : Int64} {σ : sM} {fu : Nat} {h27 : Int32 → Int32 → Int32 → Int32 → Int32 → Option Int64} (C0 : Cx p s m args meth c cM_males 6 (some .long) RM TM) (hK : va_K D cl0 [(cI, .int), (cJ, .long)] s) (hA : ∀ z, s.heap.size ≤ z → A z) (ih27 : ∀ (x1 : Int32) (x2 : Int32) (x3 : Int32) (x4 : Int32) (x5 : Int32)(H : Heap) (locs : List Loc) (ls : Array Slot), h27 x1 x2 x3 x4 x5 = some r → lv_has ls 6 [(0, .ref (q 0)), (1, .int x1), (2, .int x2), (3, .int x3), (4, .int x4), (5, .int x5)] → va_P D cl0 (wdM q k cI cJ σ) H → va_D A (wdM q k cI cJ σ) → va_S A s.heap H locs → W p l e ({ frames := 1, cells := 0, slots := 0, locals := 32 }) s m args below meth c H locs 0 0 (MQ below (kQl D cl0 [(cI, .int), (cJ, .long)] (wdM q k cI cJ) A r σ) args s 0 0 A) (F0 m 27 ls [])) : ∀ (y0 : Int32) (y1 : Int32) (x1 : Int32) (x2 : Int32) (x4 : Int32) (x5 : Int32)(H : Heap) (locs : List Loc) (ls : Array Slot), fM_males_64 fu k σ h27 y0 y1 x1 x2 x4 x5 = some r → lv_has ls 6 [(0, .ref (q 0)), (1, .int x1), (2, .int x2), (4, .int x4), (5, .int x5)] → va_P D cl0 (wdM q k cI cJ σ) H → va_D A (wdM q k cI cJ σ) → va_S A s.heap H locs → W p l e ({ frames := 1, cells := 0, slots := 0, locals := 32 }) s m args below meth c H locs 0 0 (MQ below (kQl D cl0 [(cI, .int), (cJ, .long)] (wdM q k cI cJ) A r σ) args s 0 0 A) (F0 m 64 ls [.int y1, .int y0]) := by
  obtain ⟨hx, hb, hr, hml, hown, hts, hlocks⟩ := id C0
  intro y0 y1 x1 x2 x4 x5 H locs ls hf hl hP hD hS
  unfold fM_males_64 at hf
  refine lv_iadd hx hb dM_males_64 ?_
  refine lv_istore_n (lv' := [(3, .int (y0 + y1)), (0, .ref (q 0)), (1, .int x1), (2, .int x2), (4, .int x4), (5, .int x5)]) hx hb dM_males_65 rfl hl (by decide) rfl (fun ls hl => ?_)
  refine lv_iload hx hb dM_males_66 (lv_at hl 4 rfl) ?_
  refine lv_aload_n hx hb dM_males_68 rfl (lv_at hl 1 rfl) ?_
  refine gM_group hx hb hown hts hK hP dM_males_69 ?_
  refine lv_iload hx hb dM_males_72 (lv_at hl 5 rfl) ?_
  obtain ⟨v74, ev74, hf⟩ := kb1 hf
  refine kr_iaload hx hb hK hP 2 0 rfl rfl ev74 dM_males_74 ?_
  refine lv_aload_n hx hb dM_males_75 rfl (lv_at hl 1 rfl) ?_
  refine gM_group hx hb hown hts hK hP dM_males_76 ?_
  refine lv_iload_n hx hb dM_males_79 rfl (lv_at hl 2 rfl) ?_
  obtain ⟨v80, ev80, hf⟩ := kb1 hf
  refine kr_iaload hx hb hK hP 2 0 rfl rfl ev80 dM_males_80 ?_
  refine lv_icmp_ne (tgt := 94) hx hb dM_males_81 (by decide) (fun c81 => ?_) (fun c81 => ?_)
  · have hf := (if_neg c81).symm.trans hf
    refine lv_iconst (v := 0) hx hb dM_males_94 (by decide) ?_
    exact tM_males_95 C0 hK hA ih27 x4 0 x1 x2 (y0 + y1) x5 _ _ ls hf (lv_sub hl [1, 2, 3, 0, 5] rfl) hP hD hS
  · have hf := (if_pos c81).symm.trans hf
    refine lv_aload_n hx hb dM_males_84 rfl (lv_at hl 1 rfl) ?_
    refine gM_sexCount hx hb hown hts hK hP dM_males_85 ?_
    refine lv_iload hx hb dM_males_88 (lv_at hl 5 rfl) ?_
    obtain ⟨v90, ev90, hf⟩ := kb1 hf
    refine kr_iaload hx hb hK hP 7 0 rfl rfl ev90 dM_males_90 ?_
    refine lv_goto (tgt := 95) hx hb dM_males_91 (by decide) ?_
    exact tM_males_95 C0 hK hA ih27 x4 v90 x1 x2 (y0 + y1) x5 _ _ ls hf (lv_sub hl [1, 2, 3, 0, 5] rfl) hP hD hS
set_option maxHeartbeats 400000 in
set_option maxRecDepth 100000 in
theorem tM_males_27 {p : Program} {l : Launch} {e : Env} {s : State} {m : MethodId} {args : Array Value} {below : List Frame} {meth : Method} {c : Code} {D : va_G} {A : Nat → Prop} {q : Nat → Nat} {k : kM} {cI cJ : ClassId} {r : Int64} {σ : sM} {fu : Nat} (C0 : Cx p s m args meth c cM_males 6 (some .long) RM TM) (hK : va_K D cl0 [(cI, .int), (cJ, .long)] s) (hA : ∀ z, s.heap.size ≤ z → A z) : ∀ n : Nat, ∀ (x1 : Int32) (x2 : Int32) (x3 : Int32) (x4 : Int32) (x5 : Int32)(H : Heap) (locs : List Loc) (ls : Array Slot), fM_males_27 fu k σ n x1 x2 x3 x4 x5 = some r → lv_has ls 6 [(0, .ref (q 0)), (1, .int x1), (2, .int x2), (3, .int x3), (4, .int x4), (5, .int x5)] → va_P D cl0 (wdM q k cI cJ σ) H → va_D A (wdM q k cI cJ σ) → va_S A s.heap H locs → W p l e ({ frames := 1, cells := 0, slots := 0, locals := 32 }) s m args below meth c H locs 0 0 (MQ below (kQl D cl0 [(cI, .int), (cJ, .long)] (wdM q k cI cJ) A r σ) args s 0 0 A) (F0 m 27 ls []) := by
  obtain ⟨hx, hb, hr, hml, hown, hts, hlocks⟩ := id C0
  intro n
  induction n with
  | zero =>
    intro x1 x2 x3 x4 x5 H locs ls hf hl hP hD hS
    cases hf
  | succ n ih =>
    intro x1 x2 x3 x4 x5 H locs ls hf hl hP hD hS
    rw [fM_males_27] at hf
    refine lv_iload hx hb dM_males_27 (lv_at hl 5 rfl) ?_
    refine lv_aload_n hx hb dM_males_29 rfl (lv_at hl 0 rfl) ?_
    refine gM_classes hx hb hown hts hK hP dM_males_30 ?_
    refine lv_icmp_ge (tgt := 104) hx hb dM_males_33 (by decide) (fun c33 => ?_) (fun c33 => ?_)
    · have hf := (if_pos c33).symm.trans hf
      refine lv_iload hx hb dM_males_104 (lv_at hl 4 rfl) ?_
      refine lv_if_ne (tgt := 115) hx hb dM_males_106 (by decide) (fun c106 => ?_) (fun c106 => ?_)
      · have hf := (if_neg c106).symm.trans hf
        refine lv_iload_n hx hb dM_males_115 rfl (lv_at hl 3 rfl) ?_
        refine lv_i2l (v := x3.toInt64) hx hb dM_males_116 rfl ?_
        refine lv_iload hx hb dM_males_117 (lv_at hl 4 rfl) ?_
        refine lv_i2l (v := x4.toInt64) hx hb dM_males_119 rfl ?_
        refine lv_iload_n hx hb dM_males_120 rfl (lv_at hl 2 rfl) ?_
        obtain ⟨v121, ev121, hf⟩ := kb1 hf
        refine kr_callSl (av := [.long x3.toInt64, .long x4.toInt64, .int x2]) ⟨hx, hb, hml, hown, hts⟩ (mM_partOf l D _ (wdM q k cI cJ) [(cI, .int), (cJ, .long)] cl0 _ fu σ x3.toInt64 x4.toInt64 x2 v121 ev121) (cwS 3 hts (kgood_S TM_good (by decide +kernel)) rfl rfl rfl (by decide +kernel) ⟨Nat.le_of_ble_eq_true rfl, Nat.le_of_ble_eq_true rfl⟩) hK hP hD hS hA rfl hl.1 rfl (Nat.le_of_ble_eq_true rfl) dM_males_121 ⟨Nat.le_of_ble_eq_true rfl, Nat.le_of_ble_eq_true rfl⟩ (fun H locs hP hD hS => ?_)
        exact kr_lret C0 hK hP hD hS (Option.some.inj hf) rfl dM_males_124
      · have hf := (if_pos c106).symm.trans hf
        refine lv_ldc2 (v := -1) hx hb hown (hts (.constantLong RM 52 (-1)) (by decide +kernel)) dM_males_109 ?_
        refine lv_goto (tgt := 124) hx hb dM_males_112 (by decide) ?_
        exact kr_lret C0 hK hP hD hS (Option.some.inj hf) rfl dM_males_124
    · have hf := (if_neg c33).symm.trans hf
      refine lv_iload_n hx hb dM_males_36 rfl (lv_at hl 3 rfl) ?_
      refine lv_aload_n hx hb dM_males_37 rfl (lv_at hl 0 rfl) ?_
      refine gM_group hx hb hown hts hK hP dM_males_38 ?_
      refine lv_iload hx hb dM_males_41 (lv_at hl 5 rfl) ?_
      obtain ⟨v43, ev43, hf⟩ := kb1 hf
      refine kr_iaload hx hb hK hP 2 0 rfl rfl ev43 dM_males_43 ?_
      refine lv_aload_n hx hb dM_males_44 rfl (lv_at hl 0 rfl) ?_
      refine gM_group hx hb hown hts hK hP dM_males_45 ?_
      refine lv_iload_n hx hb dM_males_48 rfl (lv_at hl 1 rfl) ?_
      obtain ⟨v49, ev49, hf⟩ := kb1 hf
      refine kr_iaload hx hb hK hP 2 0 rfl rfl ev49 dM_males_49 ?_
      refine lv_icmp_ne (tgt := 63) hx hb dM_males_50 (by decide) (fun c50 => ?_) (fun c50 => ?_)
      · have hf := (if_neg c50).symm.trans hf
        refine lv_iconst (v := 0) hx hb dM_males_63 (by decide) ?_
        exact tM_males_64 C0 hK hA ih x3 0 x1 x2 x4 x5 _ _ ls hf (lv_sub hl [0, 1, 2, 4, 5] rfl) hP hD hS
      · have hf := (if_pos c50).symm.trans hf
        refine lv_aload_n hx hb dM_males_53 rfl (lv_at hl 0 rfl) ?_
        refine gM_maleCount hx hb hown hts hK hP dM_males_54 ?_
        refine lv_iload hx hb dM_males_57 (lv_at hl 5 rfl) ?_
        obtain ⟨v59, ev59, hf⟩ := kb1 hf
        refine kr_iaload hx hb hK hP 6 0 rfl rfl ev59 dM_males_59 ?_
        refine lv_goto (tgt := 64) hx hb dM_males_60 (by decide) ?_
        exact tM_males_64 C0 hK hA ih x3 v59 x1 x2 x4 x5 _ _ ls hf (lv_sub hl [0, 1, 2, 4, 5] rfl) hP hD hS
set_option maxHeartbeats 400000 in
set_option maxRecDepth 100000 in
theorem mM_males (l : Launch) (D : va_G) (q : Nat → Nat) (k : kM) (cI cJ : ClassId) (sz : Nat) (fu : Nat) (σ : sM) (x1 : Int32) (x2 : Int32) (r : Int64) (hf : fM_males fu k σ x1 x2 = some r) : Met l yM_males (.code yM_males cM_males 6 (some .long) :: TM) ({ frames := 1, cells := 0, slots := 0, locals := 32 }) (kPre D cl0 [(cI, .int), (cJ, .long)] (wdM q k cI cJ) sz σ [.ref (q 0), .int x1, .int x2]) (kQl D cl0 [(cI, .int), (cJ, .long)] (wdM q k cI cJ) (va_A (wdM q k cI cJ σ) sz) r σ) 0 0 (va_A (wdM q k cI cJ σ) sz) := by
  refine kr_start (own := RM) (by decide) rfl (Nat.le_of_ble_eq_true rfl) ?_
  intro p e s m args below meth c ls C0 hsz hK hP hD hl
  subst hsz
  obtain ⟨hx, hb, hr, hml, hown, hts, hlocks⟩ := id C0
  have hA : ∀ z : Nat, s.heap.size ≤ z → va_A (wdM q k cI cJ σ) s.heap.size z := fun z h => Or.inr h
  generalize va_A (wdM q k cI cJ σ) s.heap.size = A at hD hA ⊢
  have hS : va_S A s.heap s.heap [] := va_S.rf
  have hl : lv_has ls 6 [(0, .ref (q 0)), (1, .int x1), (2, .int x2)] := hl
  unfold fM_males at hf
  refine lv_aload_n hx hb dM_males_0 rfl (lv_at hl 0 rfl) ?_
  refine lv_iload_n hx hb dM_males_1 rfl (lv_at hl 1 rfl) ?_
  refine kr_callVi (av := [.int x1]) ⟨hx, hb, hml, hown, hts⟩ (mM_isClass l D q k cI cJ _ σ x1 _ rfl) (cwV 1 hts (kgood_V TM_good (by decide +kernel)) rfl rfl rfl (by decide +kernel) ⟨Nat.le_of_ble_eq_true rfl, Nat.le_of_ble_eq_true rfl⟩) hK hP hD hS hA (ci := 1) (q0 := 0) rfl rfl rfl hl.1 rfl (Nat.le_of_ble_eq_true rfl) dM_males_2 ⟨Nat.le_of_ble_eq_true rfl, Nat.le_of_ble_eq_true rfl⟩ (fun H locs hP hD hS => ?_)
  refine lv_if_eq (tgt := 15) hx hb dM_males_5 (by decide) (fun c5 => ?_) (fun c5 => ?_)
  · have hf := (if_pos c5).symm.trans hf
    refine lv_ldc2 (v := -1) hx hb hown (hts (.constantLong RM 52 (-1)) (by decide +kernel)) dM_males_15 ?_
    exact kr_lret C0 hK hP hD hS (Option.some.inj hf) rfl dM_males_18
  · have hf := (if_neg c5).symm.trans hf
    refine lv_iload_n hx hb dM_males_8 rfl (lv_at hl 2 rfl) ?_
    refine kr_callSi (av := [.int x2]) ⟨hx, hb, hml, hown, hts⟩ (mM_isPart l D _ (wdM q k cI cJ) [(cI, .int), (cJ, .long)] cl0 _ σ x2 _ rfl) (cwS 1 hts (kgood_S TM_good (by decide +kernel)) rfl rfl rfl (by decide +kernel) ⟨Nat.le_of_ble_eq_true rfl, Nat.le_of_ble_eq_true rfl⟩) hK hP hD hS hA rfl hl.1 rfl (Nat.le_of_ble_eq_true rfl) dM_males_9 ⟨Nat.le_of_ble_eq_true rfl, Nat.le_of_ble_eq_true rfl⟩ (fun H locs hP hD hS => ?_)
    refine lv_if_ne (tgt := 19) hx hb dM_males_12 (by decide) (fun c12 => ?_) (fun c12 => ?_)
    · have hf := (if_neg c12).symm.trans hf
      refine lv_iconst (v := 0) hx hb dM_males_19 (by decide) ?_
      refine lv_istore_n (lv' := [(3, .int 0), (0, .ref (q 0)), (1, .int x1), (2, .int x2)]) hx hb dM_males_20 rfl hl (by decide) rfl (fun ls hl => ?_)
      refine lv_iconst (v := 0) hx hb dM_males_21 (by decide) ?_
      refine lv_istore (lv' := [(4, .int 0), (3, .int 0), (0, .ref (q 0)), (1, .int x1), (2, .int x2)]) hx hb dM_males_22 hl (by decide) rfl (fun ls hl => ?_)
      refine lv_iconst (v := 0) hx hb dM_males_24 (by decide) ?_
      refine lv_istore (lv' := [(5, .int 0), (4, .int 0), (3, .int 0), (0, .ref (q 0)), (1, .int x1), (2, .int x2)]) hx hb dM_males_25 hl (by decide) rfl (fun ls hl => ?_)
      exact tM_males_27 C0 hK hA fu x1 x2 0 0 0 _ _ ls hf (lv_sub hl [3, 4, 5, 2, 1, 0] rfl) hP hD hS
    · have hf := (if_pos c12).symm.trans hf
      refine lv_ldc2 (v := -1) hx hb hown (hts (.constantLong RM 52 (-1)) (by decide +kernel)) dM_males_15 ?_
      exact kr_lret C0 hK hP hD hS (Option.some.inj hf) rfl dM_males_18
