theorem dK_moveReadings_0 : decode cK_moveReadings 0 = .ok (.iconst 0, 1) := by decide +kernel
theorem dK_moveReadings_1 : decode cK_moveReadings 1 = .ok (.istore_n 3, 1) := by decide +kernel
theorem dK_moveReadings_2 : decode cK_moveReadings 2 = .ok (.iload_n 3, 1) := by decide +kernel
theorem dK_moveReadings_3 : decode cK_moveReadings 3 = .ok (.iconst 5, 1) := by decide +kernel
theorem dK_moveReadings_4 : decode cK_moveReadings 4 = .ok (.if_icmp .ge (85), 3) := by decide +kernel
theorem dK_moveReadings_7 : decode cK_moveReadings 7 = .ok (.aload_n 0, 1) := by decide +kernel
theorem dK_moveReadings_8 : decode cK_moveReadings 8 = .ok (.getfield 42, 3) := by decide +kernel
theorem dK_moveReadings_11 : decode cK_moveReadings 11 = .ok (.iload_n 3, 1) := by decide +kernel
theorem dK_moveReadings_12 : decode cK_moveReadings 12 = .ok (.aload_n 0, 1) := by decide +kernel
theorem dK_moveReadings_13 : decode cK_moveReadings 13 = .ok (.getfield 26, 3) := by decide +kernel
theorem dK_moveReadings_16 : decode cK_moveReadings 16 = .ok (.imul, 1) := by decide +kernel
theorem dK_moveReadings_17 : decode cK_moveReadings 17 = .ok (.iload_n 1, 1) := by decide +kernel
theorem dK_moveReadings_18 : decode cK_moveReadings 18 = .ok (.iadd, 1) := by decide +kernel
theorem dK_moveReadings_19 : decode cK_moveReadings 19 = .ok (.dup2, 1) := by decide +kernel
theorem dK_moveReadings_20 : decode cK_moveReadings 20 = .ok (.iaload, 1) := by decide +kernel
theorem dK_moveReadings_21 : decode cK_moveReadings 21 = .ok (.aload_n 0, 1) := by decide +kernel
theorem dK_moveReadings_22 : decode cK_moveReadings 22 = .ok (.getfield 42, 3) := by decide +kernel
theorem dK_moveReadings_25 : decode cK_moveReadings 25 = .ok (.iload_n 3, 1) := by decide +kernel
theorem dK_moveReadings_26 : decode cK_moveReadings 26 = .ok (.aload_n 0, 1) := by decide +kernel
theorem dK_moveReadings_27 : decode cK_moveReadings 27 = .ok (.getfield 26, 3) := by decide +kernel
theorem dK_moveReadings_30 : decode cK_moveReadings 30 = .ok (.imul, 1) := by decide +kernel
theorem dK_moveReadings_31 : decode cK_moveReadings 31 = .ok (.iload_n 2, 1) := by decide +kernel
theorem dK_moveReadings_32 : decode cK_moveReadings 32 = .ok (.iadd, 1) := by decide +kernel
theorem dK_moveReadings_33 : decode cK_moveReadings 33 = .ok (.iaload, 1) := by decide +kernel
theorem dK_moveReadings_34 : decode cK_moveReadings 34 = .ok (.iadd, 1) := by decide +kernel
theorem dK_moveReadings_35 : decode cK_moveReadings 35 = .ok (.iastore, 1) := by decide +kernel
theorem dK_moveReadings_36 : decode cK_moveReadings 36 = .ok (.iconst 0, 1) := by decide +kernel
theorem dK_moveReadings_37 : decode cK_moveReadings 37 = .ok (.istore 4, 2) := by decide +kernel
theorem dK_moveReadings_39 : decode cK_moveReadings 39 = .ok (.iload 4, 2) := by decide +kernel
theorem dK_moveReadings_41 : decode cK_moveReadings 41 = .ok (.aload_n 0, 1) := by decide +kernel
theorem dK_moveReadings_42 : decode cK_moveReadings 42 = .ok (.getfield 29, 3) := by decide +kernel
theorem dK_moveReadings_45 : decode cK_moveReadings 45 = .ok (.if_icmp .ge (38), 3) := by decide +kernel
theorem dK_moveReadings_48 : decode cK_moveReadings 48 = .ok (.aload_n 0, 1) := by decide +kernel
theorem dK_moveReadings_49 : decode cK_moveReadings 49 = .ok (.getfield 39, 3) := by decide +kernel
theorem dK_moveReadings_52 : decode cK_moveReadings 52 = .ok (.aload_n 0, 1) := by decide +kernel
theorem dK_moveReadings_53 : decode cK_moveReadings 53 = .ok (.iload_n 3, 1) := by decide +kernel
theorem dK_moveReadings_54 : decode cK_moveReadings 54 = .ok (.iload_n 1, 1) := by decide +kernel
theorem dK_moveReadings_55 : decode cK_moveReadings 55 = .ok (.iload 4, 2) := by decide +kernel
theorem dK_moveReadings_57 : decode cK_moveReadings 57 = .ok (.invokevirtual 96, 3) := by decide +kernel
theorem dK_moveReadings_60 : decode cK_moveReadings 60 = .ok (.dup2, 1) := by decide +kernel
theorem dK_moveReadings_61 : decode cK_moveReadings 61 = .ok (.iaload, 1) := by decide +kernel
theorem dK_moveReadings_62 : decode cK_moveReadings 62 = .ok (.aload_n 0, 1) := by decide +kernel
theorem dK_moveReadings_63 : decode cK_moveReadings 63 = .ok (.getfield 39, 3) := by decide +kernel
theorem dK_moveReadings_66 : decode cK_moveReadings 66 = .ok (.aload_n 0, 1) := by decide +kernel
theorem dK_moveReadings_67 : decode cK_moveReadings 67 = .ok (.iload_n 3, 1) := by decide +kernel
theorem dK_moveReadings_68 : decode cK_moveReadings 68 = .ok (.iload_n 2, 1) := by decide +kernel
theorem dK_moveReadings_69 : decode cK_moveReadings 69 = .ok (.iload 4, 2) := by decide +kernel
theorem dK_moveReadings_71 : decode cK_moveReadings 71 = .ok (.invokevirtual 96, 3) := by decide +kernel
theorem dK_moveReadings_74 : decode cK_moveReadings 74 = .ok (.iaload, 1) := by decide +kernel
theorem dK_moveReadings_75 : decode cK_moveReadings 75 = .ok (.iadd, 1) := by decide +kernel
theorem dK_moveReadings_76 : decode cK_moveReadings 76 = .ok (.iastore, 1) := by decide +kernel
theorem dK_moveReadings_77 : decode cK_moveReadings 77 = .ok (.iinc 4 (1), 3) := by decide +kernel
theorem dK_moveReadings_80 : decode cK_moveReadings 80 = .ok (.goto (-41), 3) := by decide +kernel
theorem dK_moveReadings_83 : decode cK_moveReadings 83 = .ok (.iinc 3 (1), 3) := by decide +kernel
theorem dK_moveReadings_86 : decode cK_moveReadings 86 = .ok (.goto (-84), 3) := by decide +kernel
theorem dK_moveReadings_89 : decode cK_moveReadings 89 = .ok (.return_, 1) := by decide +kernel
set_option maxHeartbeats 400000 in
set_option maxRecDepth 100000 in
theorem tK_moveReadings_39 {p : Program} {l : Launch} {e : Env} {s : State} {m : MethodId} {args : Array Value} {below : List Frame} {meth : Method} {c : Code} {D : va_G} {A : Nat → Prop} {q : Nat → Nat} {k : kK} {cI cJ : ClassId} {σ' : sK} {fu : Nat} {h2 : sK → Int32 → Int32 → Int32 → Option sK} (C0 : Cx p s m args meth c cK_moveReadings 5 none RK TK) (hK : va_K D cl0 [(cI, .int), (cJ, .long)] s) (hA : ∀ z, s.heap.size ≤ z → A z) (ih2 : ∀ (σ : sK) (x1 : Int32) (x2 : Int32) (x3 : Int32)(H : Heap) (locs : List Loc) (ls : Array Slot), h2 σ x1 x2 x3 = some σ' → lv_has ls 5 [(0, .ref (q 0)), (1, .int x1), (2, .int x2), (3, .int x3)] → va_P D cl0 (wdK q k cI cJ σ) H → va_D A (wdK q k cI cJ σ) → va_S A s.heap H locs → W p l e ({ frames := 1, cells := 0, slots := 0, locals := 23 }) s m args below meth c H locs 0 0 (MQ below (kQv D cl0 [(cI, .int), (cJ, .long)] (wdK q k cI cJ) A σ') args s 0 0 A) (F0 m 2 ls [])) : ∀ n : Nat, ∀ (σ : sK) (x1 : Int32) (x2 : Int32) (x3 : Int32) (x4 : Int32)(H : Heap) (locs : List Loc) (ls : Array Slot), fK_moveReadings_39 fu k h2 n σ x1 x2 x3 x4 = some σ' → lv_has ls 5 [(0, .ref (q 0)), (1, .int x1), (2, .int x2), (3, .int x3), (4, .int x4)] → va_P D cl0 (wdK q k cI cJ σ) H → va_D A (wdK q k cI cJ σ) → va_S A s.heap H locs → W p l e ({ frames := 1, cells := 0, slots := 0, locals := 23 }) s m args below meth c H locs 0 0 (MQ below (kQv D cl0 [(cI, .int), (cJ, .long)] (wdK q k cI cJ) A σ') args s 0 0 A) (F0 m 39 ls []) := by
  obtain ⟨hx, hb, hr, hml, hown, hts, hlocks⟩ := id C0
  intro n
  induction n with
  | zero =>
    intro σ x1 x2 x3 x4 H locs ls hf hl hP hD hS
    cases hf
  | succ n ih =>
    intro σ x1 x2 x3 x4 H locs ls hf hl hP hD hS
    rw [fK_moveReadings_39] at hf
    refine lv_iload hx hb dK_moveReadings_39 (lv_at hl 4 rfl) ?_
    refine lv_aload_n hx hb dK_moveReadings_41 rfl (lv_at hl 0 rfl) ?_
    refine gK_ages hx hb hown hts hK hP dK_moveReadings_42 ?_
    refine lv_icmp_ge (tgt := 83) hx hb dK_moveReadings_45 (by decide) (fun c45 => ?_) (fun c45 => ?_)
    · have hf := (if_pos c45).symm.trans hf
      refine lv_iinc (v := (x3 + 1)) (lv' := [(3, .int (x3 + 1)), (0, .ref (q 0)), (1, .int x1), (2, .int x2), (4, .int x4)]) hx hb dK_moveReadings_83 hl (k := 3) rfl rfl (by decide) rfl (fun ls hl => ?_)
      refine lv_goto (tgt := 2) hx hb dK_moveReadings_86 (by decide) ?_
      exact ih2 σ x1 x2 (x3 + 1) _ _ ls hf (lv_sub hl [1, 2, 3, 0] rfl) hP hD hS
    · have hf := (if_neg c45).symm.trans hf
      refine lv_aload_n hx hb dK_moveReadings_48 rfl (lv_at hl 0 rfl) ?_
      refine gK_groupReadings hx hb hown hts hK hP dK_moveReadings_49 ?_
      refine lv_aload_n hx hb dK_moveReadings_52 rfl (lv_at hl 0 rfl) ?_
      refine lv_iload_n hx hb dK_moveReadings_53 rfl (lv_at hl 3 rfl) ?_
      refine lv_iload_n hx hb dK_moveReadings_54 rfl (lv_at hl 1 rfl) ?_
      refine lv_iload hx hb dK_moveReadings_55 (lv_at hl 4 rfl) ?_
      refine kr_callVi (av := [.int x3, .int x1, .int x4]) ⟨hx, hb, hml, hown, hts⟩ (mK_cell l D q k cI cJ _ σ x3 x1 x4 _ rfl) (cwV 3 hts (kgood_V TK_good (by decide +kernel)) rfl rfl rfl (by decide +kernel) ⟨Nat.le_of_ble_eq_true rfl, Nat.le_of_ble_eq_true rfl⟩) hK hP hD hS hA (ci := 0) (q0 := 0) rfl rfl rfl hl.1 rfl (Nat.le_of_ble_eq_true rfl) dK_moveReadings_57 ⟨Nat.le_of_ble_eq_true rfl, Nat.le_of_ble_eq_true rfl⟩ (fun H locs hP hD hS => ?_)
      refine lv_dup2_11 hx hb dK_moveReadings_60 rfl rfl ?_
      obtain ⟨v61, ev61, hf⟩ := kb1 hf
      refine kr_iaload hx hb hK hP 3 0 rfl rfl ev61 dK_moveReadings_61 ?_
      refine lv_aload_n hx hb dK_moveReadings_62 rfl (lv_at hl 0 rfl) ?_
      refine gK_groupReadings hx hb hown hts hK hP dK_moveReadings_63 ?_
      refine lv_aload_n hx hb dK_moveReadings_66 rfl (lv_at hl 0 rfl) ?_
      refine lv_iload_n hx hb dK_moveReadings_67 rfl (lv_at hl 3 rfl) ?_
      refine lv_iload_n hx hb dK_moveReadings_68 rfl (lv_at hl 2 rfl) ?_
      refine lv_iload hx hb dK_moveReadings_69 (lv_at hl 4 rfl) ?_
      refine kr_callVi (av := [.int x3, .int x2, .int x4]) ⟨hx, hb, hml, hown, hts⟩ (mK_cell l D q k cI cJ _ σ x3 x2 x4 _ rfl) (cwV 3 hts (kgood_V TK_good (by decide +kernel)) rfl rfl rfl (by decide +kernel) ⟨Nat.le_of_ble_eq_true rfl, Nat.le_of_ble_eq_true rfl⟩) hK hP hD hS hA (ci := 0) (q0 := 0) rfl rfl rfl hl.1 rfl (Nat.le_of_ble_eq_true rfl) dK_moveReadings_71 ⟨Nat.le_of_ble_eq_true rfl, Nat.le_of_ble_eq_true rfl⟩ (fun H locs hP hD hS => ?_)
      obtain ⟨v74, ev74, hf⟩ := kb1 hf
      refine kr_iaload hx hb hK hP 3 0 rfl rfl ev74 dK_moveReadings_74 ?_
      refine lv_iadd hx hb dK_moveReadings_75 ?_
      obtain ⟨a76, ea76, hf⟩ := kb1 hf
      refine kr_iastore (σ' := (uK_groupReadings σ a76)) hx hb hK hP hD hS 3 0 rfl rfl ea76 (wK_groupReadings q k cI cJ _ _) dK_moveReadings_76 (fun H locs hP hD hS => ?_)
      generalize (uK_groupReadings σ a76) = s76 at hf hP hD
      refine lv_iinc (v := (x4 + 1)) (lv' := [(4, .int (x4 + 1)), (0, .ref (q 0)), (1, .int x1), (2, .int x2), (3, .int x3)]) hx hb dK_moveReadings_77 hl (k := 4) rfl rfl (by decide) rfl (fun ls hl => ?_)
      refine lv_goto (tgt := 39) hx hb dK_moveReadings_80 (by decide) ?_
      exact ih s76 x1 x2 x3 (x4 + 1) _ _ ls hf (lv_sub hl [1, 2, 3, 4, 0] rfl) hP hD hS
set_option maxHeartbeats 400000 in
set_option maxRecDepth 100000 in
theorem tK_moveReadings_2 {p : Program} {l : Launch} {e : Env} {s : State} {m : MethodId} {args : Array Value} {below : List Frame} {meth : Method} {c : Code} {D : va_G} {A : Nat → Prop} {q : Nat → Nat} {k : kK} {cI cJ : ClassId} {σ' : sK} {fu : Nat} (C0 : Cx p s m args meth c cK_moveReadings 5 none RK TK) (hK : va_K D cl0 [(cI, .int), (cJ, .long)] s) (hA : ∀ z, s.heap.size ≤ z → A z) : ∀ n : Nat, ∀ (σ : sK) (x1 : Int32) (x2 : Int32) (x3 : Int32)(H : Heap) (locs : List Loc) (ls : Array Slot), fK_moveReadings_2 fu k n σ x1 x2 x3 = some σ' → lv_has ls 5 [(0, .ref (q 0)), (1, .int x1), (2, .int x2), (3, .int x3)] → va_P D cl0 (wdK q k cI cJ σ) H → va_D A (wdK q k cI cJ σ) → va_S A s.heap H locs → W p l e ({ frames := 1, cells := 0, slots := 0, locals := 23 }) s m args below meth c H locs 0 0 (MQ below (kQv D cl0 [(cI, .int), (cJ, .long)] (wdK q k cI cJ) A σ') args s 0 0 A) (F0 m 2 ls []) := by
  obtain ⟨hx, hb, hr, hml, hown, hts, hlocks⟩ := id C0
  intro n
  induction n with
  | zero =>
    intro σ x1 x2 x3 H locs ls hf hl hP hD hS
    cases hf
  | succ n ih =>
    intro σ x1 x2 x3 H locs ls hf hl hP hD hS
    rw [fK_moveReadings_2] at hf
    refine lv_iload_n hx hb dK_moveReadings_2 rfl (lv_at hl 3 rfl) ?_
    refine lv_iconst (v := 5) hx hb dK_moveReadings_3 (by decide) ?_
    refine lv_icmp_ge (tgt := 89) hx hb dK_moveReadings_4 (by decide) (fun c4 => ?_) (fun c4 => ?_)
    · have hf := (if_pos c4).symm.trans hf
      exact kr_vret C0 hK hP hD hS (Option.some.inj hf) dK_moveReadings_89
    · have hf := (if_neg c4).symm.trans hf
      refine lv_aload_n hx hb dK_moveReadings_7 rfl (lv_at hl 0 rfl) ?_
      refine gK_groupSize hx hb hown hts hK hP dK_moveReadings_8 ?_
      refine lv_iload_n hx hb dK_moveReadings_11 rfl (lv_at hl 3 rfl) ?_
      refine lv_aload_n hx hb dK_moveReadings_12 rfl (lv_at hl 0 rfl) ?_
      refine gK_classes hx hb hown hts hK hP dK_moveReadings_13 ?_
      refine lv_imul hx hb dK_moveReadings_16 ?_
      refine lv_iload_n hx hb dK_moveReadings_17 rfl (lv_at hl 1 rfl) ?_
      refine lv_iadd hx hb dK_moveReadings_18 ?_
      refine lv_dup2_11 hx hb dK_moveReadings_19 rfl rfl ?_
      obtain ⟨v20, ev20, hf⟩ := kb1 hf
      refine kr_iaload hx hb hK hP 4 0 rfl rfl ev20 dK_moveReadings_20 ?_
      refine lv_aload_n hx hb dK_moveReadings_21 rfl (lv_at hl 0 rfl) ?_
      refine gK_groupSize hx hb hown hts hK hP dK_moveReadings_22 ?_
      refine lv_iload_n hx hb dK_moveReadings_25 rfl (lv_at hl 3 rfl) ?_
      refine lv_aload_n hx hb dK_moveReadings_26 rfl (lv_at hl 0 rfl) ?_
      refine gK_classes hx hb hown hts hK hP dK_moveReadings_27 ?_
      refine lv_imul hx hb dK_moveReadings_30 ?_
      refine lv_iload_n hx hb dK_moveReadings_31 rfl (lv_at hl 2 rfl) ?_
      refine lv_iadd hx hb dK_moveReadings_32 ?_
      obtain ⟨v33, ev33, hf⟩ := kb1 hf
      refine kr_iaload hx hb hK hP 4 0 rfl rfl ev33 dK_moveReadings_33 ?_
      refine lv_iadd hx hb dK_moveReadings_34 ?_
      obtain ⟨a35, ea35, hf⟩ := kb1 hf
      refine kr_iastore (σ' := (uK_groupSize σ a35)) hx hb hK hP hD hS 4 0 rfl rfl ea35 (wK_groupSize q k cI cJ _ _) dK_moveReadings_35 (fun H locs hP hD hS => ?_)
      generalize (uK_groupSize σ a35) = s35 at hf hP hD
      refine lv_iconst (v := 0) hx hb dK_moveReadings_36 (by decide) ?_
      refine lv_istore (lv' := [(4, .int 0), (0, .ref (q 0)), (1, .int x1), (2, .int x2), (3, .int x3)]) hx hb dK_moveReadings_37 hl (by decide) rfl (fun ls hl => ?_)
      exact tK_moveReadings_39 C0 hK hA ih fu s35 x1 x2 x3 0 _ _ ls hf (lv_sub hl [1, 2, 3, 4, 0] rfl) hP hD hS
set_option maxHeartbeats 400000 in
set_option maxRecDepth 100000 in
theorem mK_moveReadings (l : Launch) (D : va_G) (q : Nat → Nat) (k : kK) (cI cJ : ClassId) (sz : Nat) (fu : Nat) (σ : sK) (σ' : sK) (x1 : Int32) (x2 : Int32) (hf : fK_moveReadings fu k σ x1 x2 = some σ') : Met l yK_moveReadings (.code yK_moveReadings cK_moveReadings 5 none :: TK) ({ frames := 1, cells := 0, slots := 0, locals := 23 }) (kPre D cl0 [(cI, .int), (cJ, .long)] (wdK q k cI cJ) sz σ [.ref (q 0), .int x1, .int x2]) (kQv D cl0 [(cI, .int), (cJ, .long)] (wdK q k cI cJ) (va_A (wdK q k cI cJ σ) sz) σ') 0 0 (va_A (wdK q k cI cJ σ) sz) := by
  refine kr_start (own := RK) (by decide) rfl (Nat.le_of_ble_eq_true rfl) ?_
  intro p e s m args below meth c ls C0 hsz hK hP hD hl
  subst hsz
  obtain ⟨hx, hb, hr, hml, hown, hts, hlocks⟩ := id C0
  have hA : ∀ z : Nat, s.heap.size ≤ z → va_A (wdK q k cI cJ σ) s.heap.size z := fun z h => Or.inr h
  generalize va_A (wdK q k cI cJ σ) s.heap.size = A at hD hA ⊢
  have hS : va_S A s.heap s.heap [] := va_S.rf
  have hl : lv_has ls 5 [(0, .ref (q 0)), (1, .int x1), (2, .int x2)] := hl
  unfold fK_moveReadings at hf
  refine lv_iconst (v := 0) hx hb dK_moveReadings_0 (by decide) ?_
  refine lv_istore_n (lv' := [(3, .int 0), (0, .ref (q 0)), (1, .int x1), (2, .int x2)]) hx hb dK_moveReadings_1 rfl hl (by decide) rfl (fun ls hl => ?_)
  exact tK_moveReadings_2 C0 hK hA fu σ x1 x2 0 _ _ ls hf (lv_sub hl [1, 2, 3, 0] rfl) hP hD hS
theorem dK_joined_0 : decode cK_joined 0 = .ok (.aload_n 0, 1) := by decide +kernel
theorem dK_joined_1 : decode cK_joined 1 = .ok (.iload_n 1, 1) := by decide +kernel
theorem dK_joined_2 : decode cK_joined 2 = .ok (.invokevirtual 79, 3) := by decide +kernel
theorem dK_joined_5 : decode cK_joined 5 = .ok (.ifCond .eq (11), 3) := by decide +kernel
theorem dK_joined_8 : decode cK_joined 8 = .ok (.aload_n 0, 1) := by decide +kernel
theorem dK_joined_9 : decode cK_joined 9 = .ok (.iload_n 2, 1) := by decide +kernel
theorem dK_joined_10 : decode cK_joined 10 = .ok (.invokevirtual 79, 3) := by decide +kernel
theorem dK_joined_13 : decode cK_joined 13 = .ok (.ifCond .ne (5), 3) := by decide +kernel
theorem dK_joined_16 : decode cK_joined 16 = .ok (.iconst (-1), 1) := by decide +kernel
theorem dK_joined_17 : decode cK_joined 17 = .ok (.ireturn, 1) := by decide +kernel
theorem dK_joined_18 : decode cK_joined 18 = .ok (.aload_n 0, 1) := by decide +kernel
theorem dK_joined_19 : decode cK_joined 19 = .ok (.getfield 45, 3) := by decide +kernel
theorem dK_joined_22 : decode cK_joined 22 = .ok (.iload_n 1, 1) := by decide +kernel
theorem dK_joined_23 : decode cK_joined 23 = .ok (.iaload, 1) := by decide +kernel
theorem dK_joined_24 : decode cK_joined 24 = .ok (.aload_n 0, 1) := by decide +kernel
theorem dK_joined_25 : decode cK_joined 25 = .ok (.getfield 45, 3) := by decide +kernel
theorem dK_joined_28 : decode cK_joined 28 = .ok (.iload_n 2, 1) := by decide +kernel
theorem dK_joined_29 : decode cK_joined 29 = .ok (.iaload, 1) := by decide +kernel
theorem dK_joined_30 : decode cK_joined 30 = .ok (.invokestatic 17, 3) := by decide +kernel
theorem dK_joined_33 : decode cK_joined 33 = .ok (.istore_n 3, 1) := by decide +kernel
theorem dK_joined_34 : decode cK_joined 34 = .ok (.aload_n 0, 1) := by decide +kernel
theorem dK_joined_35 : decode cK_joined 35 = .ok (.getfield 45, 3) := by decide +kernel
theorem dK_joined_38 : decode cK_joined 38 = .ok (.iload_n 1, 1) := by decide +kernel
theorem dK_joined_39 : decode cK_joined 39 = .ok (.iaload, 1) := by decide +kernel
theorem dK_joined_40 : decode cK_joined 40 = .ok (.aload_n 0, 1) := by decide +kernel
theorem dK_joined_41 : decode cK_joined 41 = .ok (.getfield 45, 3) := by decide +kernel
theorem dK_joined_44 : decode cK_joined 44 = .ok (.iload_n 2, 1) := by decide +kernel
theorem dK_joined_45 : decode cK_joined 45 = .ok (.iaload, 1) := by decide +kernel
theorem dK_joined_46 : decode cK_joined 46 = .ok (.invokestatic 23, 3) := by decide +kernel
theorem dK_joined_49 : decode cK_joined 49 = .ok (.istore 4, 2) := by decide +kernel
theorem dK_joined_51 : decode cK_joined 51 = .ok (.iload_n 3, 1) := by decide +kernel
theorem dK_joined_52 : decode cK_joined 52 = .ok (.iload 4, 2) := by decide +kernel
theorem dK_joined_54 : decode cK_joined 54 = .ok (.if_icmp .eq (22), 3) := by decide +kernel
theorem dK_joined_57 : decode cK_joined 57 = .ok (.aload_n 0, 1) := by decide +kernel
theorem dK_joined_58 : decode cK_joined 58 = .ok (.iconst 4, 1) := by decide +kernel
theorem dK_joined_59 : decode cK_joined 59 = .ok (.iload_n 3, 1) := by decide +kernel
theorem dK_joined_60 : decode cK_joined 60 = .ok (.invokevirtual 89, 3) := by decide +kernel
theorem dK_joined_63 : decode cK_joined 63 = .ok (.aload_n 0, 1) := by decide +kernel
theorem dK_joined_64 : decode cK_joined 64 = .ok (.iconst 4, 1) := by decide +kernel
theorem dK_joined_65 : decode cK_joined 65 = .ok (.iload 4, 2) := by decide +kernel
theorem dK_joined_67 : decode cK_joined 67 = .ok (.invokevirtual 89, 3) := by decide +kernel
theorem dK_joined_70 : decode cK_joined 70 = .ok (.iadd, 1) := by decide +kernel
theorem dK_joined_71 : decode cK_joined 71 = .ok (.bipush (20), 2) := by decide +kernel
theorem dK_joined_73 : decode cK_joined 73 = .ok (.if_icmp .le (5), 3) := by decide +kernel
theorem dK_joined_76 : decode cK_joined 76 = .ok (.iconst (-1), 1) := by decide +kernel
theorem dK_joined_77 : decode cK_joined 77 = .ok (.ireturn, 1) := by decide +kernel
theorem dK_joined_78 : decode cK_joined 78 = .ok (.aload_n 0, 1) := by decide +kernel
theorem dK_joined_79 : decode cK_joined 79 = .ok (.iload_n 3, 1) := by decide +kernel
theorem dK_joined_80 : decode cK_joined 80 = .ok (.iload 4, 2) := by decide +kernel
theorem dK_joined_82 : decode cK_joined 82 = .ok (.invokevirtual 125, 3) := by decide +kernel
theorem dK_joined_85 : decode cK_joined 85 = .ok (.aload_n 0, 1) := by decide +kernel
theorem dK_joined_86 : decode cK_joined 86 = .ok (.iload_n 3, 1) := by decide +kernel
theorem dK_joined_87 : decode cK_joined 87 = .ok (.iload 4, 2) := by decide +kernel
theorem dK_joined_89 : decode cK_joined 89 = .ok (.invokevirtual 129, 3) := by decide +kernel
theorem dK_joined_92 : decode cK_joined 92 = .ok (.iconst 0, 1) := by decide +kernel
theorem dK_joined_93 : decode cK_joined 93 = .ok (.istore 5, 2) := by decide +kernel
theorem dK_joined_95 : decode cK_joined 95 = .ok (.iload 5, 2) := by decide +kernel
theorem dK_joined_97 : decode cK_joined 97 = .ok (.aload_n 0, 1) := by decide +kernel
theorem dK_joined_98 : decode cK_joined 98 = .ok (.getfield 26, 3) := by decide +kernel
theorem dK_joined_101 : decode cK_joined 101 = .ok (.if_icmp .ge (29), 3) := by decide +kernel
theorem dK_joined_104 : decode cK_joined 104 = .ok (.aload_n 0, 1) := by decide +kernel
theorem dK_joined_105 : decode cK_joined 105 = .ok (.getfield 45, 3) := by decide +kernel
theorem dK_joined_108 : decode cK_joined 108 = .ok (.iload 5, 2) := by decide +kernel
theorem dK_joined_110 : decode cK_joined 110 = .ok (.iaload, 1) := by decide +kernel
theorem dK_joined_111 : decode cK_joined 111 = .ok (.iload 4, 2) := by decide +kernel
theorem dK_joined_113 : decode cK_joined 113 = .ok (.if_icmp .ne (11), 3) := by decide +kernel
theorem dK_joined_116 : decode cK_joined 116 = .ok (.aload_n 0, 1) := by decide +kernel
theorem dK_joined_117 : decode cK_joined 117 = .ok (.getfield 45, 3) := by decide +kernel
theorem dK_joined_120 : decode cK_joined 120 = .ok (.iload 5, 2) := by decide +kernel
theorem dK_joined_122 : decode cK_joined 122 = .ok (.iload_n 3, 1) := by decide +kernel
theorem dK_joined_123 : decode cK_joined 123 = .ok (.iastore, 1) := by decide +kernel
theorem dK_joined_124 : decode cK_joined 124 = .ok (.iinc 5 (1), 3) := by decide +kernel
theorem dK_joined_127 : decode cK_joined 127 = .ok (.goto (-32), 3) := by decide +kernel
theorem dK_joined_130 : decode cK_joined 130 = .ok (.iload_n 3, 1) := by decide +kernel
theorem dK_joined_131 : decode cK_joined 131 = .ok (.ireturn, 1) := by decide +kernel
set_option maxHeartbeats 400000 in
set_option maxRecDepth 100000 in
theorem tK_joined_95 {p : Program} {l : Launch} {e : Env} {s : State} {m : MethodId} {args : Array Value} {below : List Frame} {meth : Method} {c : Code} {D : va_G} {A : Nat → Prop} {q : Nat → Nat} {k : kK} {cI cJ : ClassId} {r : Int32} {σ' : sK} {fu : Nat} (C0 : Cx p s m args meth c cK_joined 6 (some .int) RK TK) (hK : va_K D cl0 [(cI, .int), (cJ, .long)] s) (hA : ∀ z, s.heap.size ≤ z → A z) : ∀ n : Nat, ∀ (σ : sK) (x3 : Int32) (x4 : Int32) (x5 : Int32)(H : Heap) (locs : List Loc) (ls : Array Slot), fK_joined_95 fu k n σ x3 x4 x5 = some (r, σ') → lv_has ls 6 [(0, .ref (q 0)), (3, .int x3), (4, .int x4), (5, .int x5)] → va_P D cl0 (wdK q k cI cJ σ) H → va_D A (wdK q k cI cJ σ) → va_S A s.heap H locs → W p l e ({ frames := 2, cells := 0, slots := 0, locals := 47 }) s m args below meth c H locs 0 0 (MQ below (kQi D cl0 [(cI, .int), (cJ, .long)] (wdK q k cI cJ) A r σ') args s 0 0 A) (F0 m 95 ls []) := by
  obtain ⟨hx, hb, hr, hml, hown, hts, hlocks⟩ := id C0
  intro n
  induction n with
  | zero =>
    intro σ x3 x4 x5 H locs ls hf hl hP hD hS
    cases hf
  | succ n ih =>
    intro σ x3 x4 x5 H locs ls hf hl hP hD hS
    rw [fK_joined_95] at hf
    refine lv_iload hx hb dK_joined_95 (lv_at hl 3 rfl) ?_
    refine lv_aload_n hx hb dK_joined_97 rfl (lv_at hl 0 rfl) ?_
    refine gK_classes hx hb hown hts hK hP dK_joined_98 ?_
    refine lv_icmp_ge (tgt := 130) hx hb dK_joined_101 (by decide) (fun c101 => ?_) (fun c101 => ?_)
    · have hf := (if_pos c101).symm.trans hf
      refine lv_iload_n hx hb dK_joined_130 rfl (lv_at hl 1 rfl) ?_
      exact kr_iret C0 hK hP hD hS (congrArg Prod.fst (Option.some.inj hf)) (congrArg Prod.snd (Option.some.inj hf)) dK_joined_131
    · have hf := (if_neg c101).symm.trans hf
      refine lv_aload_n hx hb dK_joined_104 rfl (lv_at hl 0 rfl) ?_
      refine gK_groupOf hx hb hown hts hK hP dK_joined_105 ?_
      refine lv_iload hx hb dK_joined_108 (lv_at hl 3 rfl) ?_
      obtain ⟨v110, ev110, hf⟩ := kb1 hf
      refine kr_iaload hx hb hK hP 5 0 rfl rfl ev110 dK_joined_110 ?_
      refine lv_iload hx hb dK_joined_111 (lv_at hl 2 rfl) ?_
      refine lv_icmp_ne (tgt := 124) hx hb dK_joined_113 (by decide) (fun c113 => ?_) (fun c113 => ?_)
      · have hf := (if_neg c113).symm.trans hf
        refine lv_iinc (v := (x5 + 1)) (lv' := [(5, .int (x5 + 1)), (0, .ref (q 0)), (3, .int x3), (4, .int x4)]) hx hb dK_joined_124 hl (k := 3) rfl rfl (by decide) rfl (fun ls hl => ?_)
        refine lv_goto (tgt := 95) hx hb dK_joined_127 (by decide) ?_
        exact ih σ x3 x4 (x5 + 1) _ _ ls hf (lv_sub hl [1, 2, 3, 0] rfl) hP hD hS
      · have hf := (if_pos c113).symm.trans hf
        refine lv_aload_n hx hb dK_joined_116 rfl (lv_at hl 0 rfl) ?_
        refine gK_groupOf hx hb hown hts hK hP dK_joined_117 ?_
        refine lv_iload hx hb dK_joined_120 (lv_at hl 3 rfl) ?_
        refine lv_iload_n hx hb dK_joined_122 rfl (lv_at hl 1 rfl) ?_
        obtain ⟨a123, ea123, hf⟩ := kb1 hf
        refine kr_iastore (σ' := (uK_groupOf σ a123)) hx hb hK hP hD hS 5 0 rfl rfl ea123 (wK_groupOf q k cI cJ _ _) dK_joined_123 (fun H locs hP hD hS => ?_)
        generalize (uK_groupOf σ a123) = s123 at hf hP hD
        refine lv_iinc (v := (x5 + 1)) (lv' := [(5, .int (x5 + 1)), (0, .ref (q 0)), (3, .int x3), (4, .int x4)]) hx hb dK_joined_124 hl (k := 3) rfl rfl (by decide) rfl (fun ls hl => ?_)
        refine lv_goto (tgt := 95) hx hb dK_joined_127 (by decide) ?_
        exact ih s123 x3 x4 (x5 + 1) _ _ ls hf (lv_sub hl [1, 2, 3, 0] rfl) hP hD hS
set_option maxHeartbeats 400000 in
set_option maxRecDepth 100000 in
theorem mK_joined (l : Launch) (D : va_G) (q : Nat → Nat) (k : kK) (cI cJ : ClassId) (sz : Nat) (fu : Nat) (σ : sK) (σ' : sK) (x1 : Int32) (x2 : Int32) (r : Int32) (hf : fK_joined fu k σ x1 x2 = some (r, σ')) : Met l yK_joined (.code yK_joined cK_joined 6 (some .int) :: TK) ({ frames := 2, cells := 0, slots := 0, locals := 47 }) (kPre D cl0 [(cI, .int), (cJ, .long)] (wdK q k cI cJ) sz σ [.ref (q 0), .int x1, .int x2]) (kQi D cl0 [(cI, .int), (cJ, .long)] (wdK q k cI cJ) (va_A (wdK q k cI cJ σ) sz) r σ') 0 0 (va_A (wdK q k cI cJ σ) sz) := by
  refine kr_start (own := RK) (by decide) rfl (Nat.le_of_ble_eq_true rfl) ?_
  intro p e s m args below meth c ls C0 hsz hK hP hD hl
  subst hsz
  obtain ⟨hx, hb, hr, hml, hown, hts, hlocks⟩ := id C0
  have hA : ∀ z : Nat, s.heap.size ≤ z → va_A (wdK q k cI cJ σ) s.heap.size z := fun z h => Or.inr h
  generalize va_A (wdK q k cI cJ σ) s.heap.size = A at hD hA ⊢
  have hS : va_S A s.heap s.heap [] := va_S.rf
  have hl : lv_has ls 6 [(0, .ref (q 0)), (1, .int x1), (2, .int x2)] := hl
  unfold fK_joined at hf
  refine lv_aload_n hx hb dK_joined_0 rfl (lv_at hl 0 rfl) ?_
  refine lv_iload_n hx hb dK_joined_1 rfl (lv_at hl 1 rfl) ?_
  refine kr_callVi (av := [.int x1]) ⟨hx, hb, hml, hown, hts⟩ (mK_isClass l D q k cI cJ _ σ x1 _ rfl) (cwV 1 hts (kgood_V TK_good (by decide +kernel)) rfl rfl rfl (by decide +kernel) ⟨Nat.le_of_ble_eq_true rfl, Nat.le_of_ble_eq_true rfl⟩) hK hP hD hS hA (ci := 0) (q0 := 0) rfl rfl rfl hl.1 rfl (Nat.le_of_ble_eq_true rfl) dK_joined_2 ⟨Nat.le_of_ble_eq_true rfl, Nat.le_of_ble_eq_true rfl⟩ (fun H locs hP hD hS => ?_)
  refine lv_if_eq (tgt := 16) hx hb dK_joined_5 (by decide) (fun c5 => ?_) (fun c5 => ?_)
  · have hf := (if_pos c5).symm.trans hf
    refine lv_iconst (v := (-1)) hx hb dK_joined_16 (by decide) ?_
    exact kr_iret C0 hK hP hD hS (congrArg Prod.fst (Option.some.inj hf)) (congrArg Prod.snd (Option.some.inj hf)) dK_joined_17
  · have hf := (if_neg c5).symm.trans hf
    refine lv_aload_n hx hb dK_joined_8 rfl (lv_at hl 0 rfl) ?_
    refine lv_iload_n hx hb dK_joined_9 rfl (lv_at hl 2 rfl) ?_
    refine kr_callVi (av := [.int x2]) ⟨hx, hb, hml, hown, hts⟩ (mK_isClass l D q k cI cJ _ σ x2 _ rfl) (cwV 1 hts (kgood_V TK_good (by decide +kernel)) rfl rfl rfl (by decide +kernel) ⟨Nat.le_of_ble_eq_true rfl, Nat.le_of_ble_eq_true rfl⟩) hK hP hD hS hA (ci := 0) (q0 := 0) rfl rfl rfl hl.1 rfl (Nat.le_of_ble_eq_true rfl) dK_joined_10 ⟨Nat.le_of_ble_eq_true rfl, Nat.le_of_ble_eq_true rfl⟩ (fun H locs hP hD hS => ?_)
    refine lv_if_ne (tgt := 18) hx hb dK_joined_13 (by decide) (fun c13 => ?_) (fun c13 => ?_)
    · have hf := (if_neg c13).symm.trans hf
      refine lv_aload_n hx hb dK_joined_18 rfl (lv_at hl 0 rfl) ?_
      refine gK_groupOf hx hb hown hts hK hP dK_joined_19 ?_
      refine lv_iload_n hx hb dK_joined_22 rfl (lv_at hl 1 rfl) ?_
      obtain ⟨v23, ev23, hf⟩ := kb1 hf
      refine kr_iaload hx hb hK hP 5 0 rfl rfl ev23 dK_joined_23 ?_
      refine lv_aload_n hx hb dK_joined_24 rfl (lv_at hl 0 rfl) ?_
      refine gK_groupOf hx hb hown hts hK hP dK_joined_25 ?_
      refine lv_iload_n hx hb dK_joined_28 rfl (lv_at hl 2 rfl) ?_
      obtain ⟨v29, ev29, hf⟩ := kb1 hf
      refine kr_iaload hx hb hK hP 5 0 rfl rfl ev29 dK_joined_29 ?_
      refine va_mmin hx hb (hml.trans hl.1.symm) hown (hts (.methodLink RK 17 Lib.Math.min.name) (by decide +kernel)) (hts (.static Lib.Math.min.name) (by decide +kernel)) (hts (.initialized "java/lang/Math") (by decide +kernel)) (hts (.code Lib.Math.min.name Lib.Math.min.code 2 (some .int)) (by decide +kernel)) (Nat.le_of_ble_eq_true rfl) (Nat.le_of_ble_eq_true rfl) (Nat.le_of_ble_eq_true rfl) (Nat.le_of_ble_eq_true rfl) dK_joined_30 ?_
      refine lv_istore_n (lv' := [(3, .int (if v29 < v23 then v29 else v23)), (0, .ref (q 0)), (1, .int x1), (2, .int x2)]) hx hb dK_joined_33 rfl hl (by decide) rfl (fun ls hl => ?_)
      refine lv_aload_n hx hb dK_joined_34 rfl (lv_at hl 1 rfl) ?_
      refine gK_groupOf hx hb hown hts hK hP dK_joined_35 ?_
      refine lv_iload_n hx hb dK_joined_38 rfl (lv_at hl 2 rfl) ?_
      obtain ⟨v39, ev39, hf⟩ := kb1 hf
      refine kr_iaload hx hb hK hP 5 0 rfl rfl ev39 dK_joined_39 ?_
      refine lv_aload_n hx hb dK_joined_40 rfl (lv_at hl 1 rfl) ?_
      refine gK_groupOf hx hb hown hts hK hP dK_joined_41 ?_
      refine lv_iload_n hx hb dK_joined_44 rfl (lv_at hl 3 rfl) ?_
      obtain ⟨v45, ev45, hf⟩ := kb1 hf
      refine kr_iaload hx hb hK hP 5 0 rfl rfl ev45 dK_joined_45 ?_
      refine va_mmax hx hb (hml.trans hl.1.symm) hown (hts (.methodLink RK 23 Lib.Math.max.name) (by decide +kernel)) (hts (.static Lib.Math.max.name) (by decide +kernel)) (hts (.initialized "java/lang/Math") (by decide +kernel)) (hts (.code Lib.Math.max.name Lib.Math.max.code 2 (some .int)) (by decide +kernel)) (Nat.le_of_ble_eq_true rfl) (Nat.le_of_ble_eq_true rfl) (Nat.le_of_ble_eq_true rfl) (Nat.le_of_ble_eq_true rfl) dK_joined_46 ?_
      refine lv_istore (lv' := [(4, .int (if v39 < v45 then v45 else v39)), (3, .int (if v29 < v23 then v29 else v23)), (0, .ref (q 0)), (1, .int x1), (2, .int x2)]) hx hb dK_joined_49 hl (by decide) rfl (fun ls hl => ?_)
      refine lv_iload_n hx hb dK_joined_51 rfl (lv_at hl 1 rfl) ?_
      refine lv_iload hx hb dK_joined_52 (lv_at hl 0 rfl) ?_
      refine lv_icmp_eq (tgt := 76) hx hb dK_joined_54 (by decide) (fun c54 => ?_) (fun c54 => ?_)
      · have hf := (if_pos c54).symm.trans hf
        refine lv_iconst (v := (-1)) hx hb dK_joined_76 (by decide) ?_
        exact kr_iret C0 hK hP hD hS (congrArg Prod.fst (Option.some.inj hf)) (congrArg Prod.snd (Option.some.inj hf)) dK_joined_77
      · have hf := (if_neg c54).symm.trans hf
        refine lv_aload_n hx hb dK_joined_57 rfl (lv_at hl 2 rfl) ?_
        refine lv_iconst (v := 4) hx hb dK_joined_58 (by decide) ?_
        refine lv_iload_n hx hb dK_joined_59 rfl (lv_at hl 1 rfl) ?_
        obtain ⟨v60, ev60, hf⟩ := kb1 hf
        refine kr_callVi (av := [.int 4, .int (if v29 < v23 then v29 else v23)]) ⟨hx, hb, hml, hown, hts⟩ (mK_sizeIn l D q k cI cJ _ σ 4 (if v29 < v23 then v29 else v23) v60 ev60) (cwV 2 hts (kgood_V TK_good (by decide +kernel)) rfl rfl rfl (by decide +kernel) ⟨Nat.le_of_ble_eq_true rfl, Nat.le_of_ble_eq_true rfl⟩) hK hP hD hS hA (ci := 0) (q0 := 0) rfl rfl rfl hl.1 rfl (Nat.le_of_ble_eq_true rfl) dK_joined_60 ⟨Nat.le_of_ble_eq_true rfl, Nat.le_of_ble_eq_true rfl⟩ (fun H locs hP hD hS => ?_)
        refine lv_aload_n hx hb dK_joined_63 rfl (lv_at hl 2 rfl) ?_
        refine lv_iconst (v := 4) hx hb dK_joined_64 (by decide) ?_
        refine lv_iload hx hb dK_joined_65 (lv_at hl 0 rfl) ?_
        obtain ⟨v67, ev67, hf⟩ := kb1 hf
        refine kr_callVi (av := [.int 4, .int (if v39 < v45 then v45 else v39)]) ⟨hx, hb, hml, hown, hts⟩ (mK_sizeIn l D q k cI cJ _ σ 4 (if v39 < v45 then v45 else v39) v67 ev67) (cwV 2 hts (kgood_V TK_good (by decide +kernel)) rfl rfl rfl (by decide +kernel) ⟨Nat.le_of_ble_eq_true rfl, Nat.le_of_ble_eq_true rfl⟩) hK hP hD hS hA (ci := 0) (q0 := 0) rfl rfl rfl hl.1 rfl (Nat.le_of_ble_eq_true rfl) dK_joined_67 ⟨Nat.le_of_ble_eq_true rfl, Nat.le_of_ble_eq_true rfl⟩ (fun H locs hP hD hS => ?_)
        refine lv_iadd hx hb dK_joined_70 ?_
        refine lv_bipush (v := 20) hx hb dK_joined_71 (by decide) ?_
        refine lv_icmp_le (tgt := 78) hx hb dK_joined_73 (by decide) (fun c73 => ?_) (fun c73 => ?_)
        · have hf := (if_pos c73).symm.trans hf
          refine lv_aload_n hx hb dK_joined_78 rfl (lv_at hl 2 rfl) ?_
          refine lv_iload_n hx hb dK_joined_79 rfl (lv_at hl 1 rfl) ?_
          refine lv_iload hx hb dK_joined_80 (lv_at hl 0 rfl) ?_
          obtain ⟨s82, es82, hf⟩ := kb1 hf
          refine kr_callVv (av := [.int (if v29 < v23 then v29 else v23), .int (if v39 < v45 then v45 else v39)]) ⟨hx, hb, hml, hown, hts⟩ (mK_dropFills l D q k cI cJ _ fu σ s82 (if v29 < v23 then v29 else v23) (if v39 < v45 then v45 else v39) es82) (cwV 2 hts (kgood_V TK_good (by decide +kernel)) rfl rfl rfl (by decide +kernel) ⟨Nat.le_of_ble_eq_true rfl, Nat.le_of_ble_eq_true rfl⟩) hK hP hD hS hA (ci := 0) (q0 := 0) rfl rfl rfl hl.1 rfl (Nat.le_of_ble_eq_true rfl) dK_joined_82 ⟨Nat.le_of_ble_eq_true rfl, Nat.le_of_ble_eq_true rfl⟩ (fun H locs hP hD hS => ?_)
          refine lv_aload_n hx hb dK_joined_85 rfl (lv_at hl 2 rfl) ?_
          refine lv_iload_n hx hb dK_joined_86 rfl (lv_at hl 1 rfl) ?_
          refine lv_iload hx hb dK_joined_87 (lv_at hl 0 rfl) ?_
          obtain ⟨s89, es89, hf⟩ := kb1 hf
          refine kr_callVv (av := [.int (if v29 < v23 then v29 else v23), .int (if v39 < v45 then v45 else v39)]) ⟨hx, hb, hml, hown, hts⟩ (mK_moveReadings l D q k cI cJ _ fu s82 s89 (if v29 < v23 then v29 else v23) (if v39 < v45 then v45 else v39) es89) (cwV 2 hts (kgood_V TK_good (by decide +kernel)) rfl rfl rfl (by decide +kernel) ⟨Nat.le_of_ble_eq_true rfl, Nat.le_of_ble_eq_true rfl⟩) hK hP hD hS hA (ci := 0) (q0 := 0) rfl rfl rfl hl.1 rfl (Nat.le_of_ble_eq_true rfl) dK_joined_89 ⟨Nat.le_of_ble_eq_true rfl, Nat.le_of_ble_eq_true rfl⟩ (fun H locs hP hD hS => ?_)
          refine lv_iconst (v := 0) hx hb dK_joined_92 (by decide) ?_
          refine lv_istore (lv' := [(5, .int 0), (4, .int (if v39 < v45 then v45 else v39)), (3, .int (if v29 < v23 then v29 else v23)), (0, .ref (q 0)), (1, .int x1), (2, .int x2)]) hx hb dK_joined_93 hl (by decide) rfl (fun ls hl => ?_)
          exact tK_joined_95 C0 hK hA fu s89 (if v29 < v23 then v29 else v23) (if v39 < v45 then v45 else v39) 0 _ _ ls hf (lv_sub hl [3, 2, 1, 0] rfl) hP hD hS
        · have hf := (if_neg c73).symm.trans hf
          refine lv_iconst (v := (-1)) hx hb dK_joined_76 (by decide) ?_
          exact kr_iret C0 hK hP hD hS (congrArg Prod.fst (Option.some.inj hf)) (congrArg Prod.snd (Option.some.inj hf)) dK_joined_77
    · have hf := (if_pos c13).symm.trans hf
      refine lv_iconst (v := (-1)) hx hb dK_joined_16 (by decide) ?_
      exact kr_iret C0 hK hP hD hS (congrArg Prod.fst (Option.some.inj hf)) (congrArg Prod.snd (Option.some.inj hf)) dK_joined_17
theorem dK_groups_0 : decode cK_groups 0 = .ok (.iconst 0, 1) := by decide +kernel
theorem dK_groups_1 : decode cK_groups 1 = .ok (.istore_n 1, 1) := by decide +kernel
theorem dK_groups_2 : decode cK_groups 2 = .ok (.iconst 0, 1) := by decide +kernel
theorem dK_groups_3 : decode cK_groups 3 = .ok (.istore_n 2, 1) := by decide +kernel
theorem dK_groups_4 : decode cK_groups 4 = .ok (.iload_n 2, 1) := by decide +kernel
theorem dK_groups_5 : decode cK_groups 5 = .ok (.aload_n 0, 1) := by decide +kernel
theorem dK_groups_6 : decode cK_groups 6 = .ok (.getfield 26, 3) := by decide +kernel
theorem dK_groups_9 : decode cK_groups 9 = .ok (.if_icmp .ge (20), 3) := by decide +kernel
theorem dK_groups_12 : decode cK_groups 12 = .ok (.aload_n 0, 1) := by decide +kernel
theorem dK_groups_13 : decode cK_groups 13 = .ok (.iload_n 2, 1) := by decide +kernel
theorem dK_groups_14 : decode cK_groups 14 = .ok (.invokevirtual 119, 3) := by decide +kernel
theorem dK_groups_17 : decode cK_groups 17 = .ok (.ifCond .eq (6), 3) := by decide +kernel
theorem dK_groups_20 : decode cK_groups 20 = .ok (.iinc 1 (1), 3) := by decide +kernel
theorem dK_groups_23 : decode cK_groups 23 = .ok (.iinc 2 (1), 3) := by decide +kernel
theorem dK_groups_26 : decode cK_groups 26 = .ok (.goto (-22), 3) := by decide +kernel
theorem dK_groups_29 : decode cK_groups 29 = .ok (.iload_n 1, 1) := by decide +kernel
theorem dK_groups_30 : decode cK_groups 30 = .ok (.ireturn, 1) := by decide +kernel
set_option maxHeartbeats 400000 in
set_option maxRecDepth 100000 in
theorem tK_groups_4 {p : Program} {l : Launch} {e : Env} {s : State} {m : MethodId} {args : Array Value} {below : List Frame} {meth : Method} {c : Code} {D : va_G} {A : Nat → Prop} {q : Nat → Nat} {k : kK} {cI cJ : ClassId} {r : Int32} {σ : sK} {fu : Nat} (C0 : Cx p s m args meth c cK_groups 3 (some .int) RK TK) (hK : va_K D cl0 [(cI, .int), (cJ, .long)] s) (hA : ∀ z, s.heap.size ≤ z → A z) : ∀ n : Nat, ∀ (x1 : Int32) (x2 : Int32)(H : Heap) (locs : List Loc) (ls : Array Slot), fK_groups_4 fu k σ n x1 x2 = some r → lv_has ls 3 [(0, .ref (q 0)), (1, .int x1), (2, .int x2)] → va_P D cl0 (wdK q k cI cJ σ) H → va_D A (wdK q k cI cJ σ) → va_S A s.heap H locs → W p l e ({ frames := 1, cells := 0, slots := 0, locals := 21 }) s m args below meth c H locs 0 0 (MQ below (kQi D cl0 [(cI, .int), (cJ, .long)] (wdK q k cI cJ) A r σ) args s 0 0 A) (F0 m 4 ls []) := by
  obtain ⟨hx, hb, hr, hml, hown, hts, hlocks⟩ := id C0
  intro n
  induction n with
  | zero =>
    intro x1 x2 H locs ls hf hl hP hD hS
    cases hf
  | succ n ih =>
    intro x1 x2 H locs ls hf hl hP hD hS
    rw [fK_groups_4] at hf
    refine lv_iload_n hx hb dK_groups_4 rfl (lv_at hl 2 rfl) ?_
    refine lv_aload_n hx hb dK_groups_5 rfl (lv_at hl 0 rfl) ?_
    refine gK_classes hx hb hown hts hK hP dK_groups_6 ?_
    refine lv_icmp_ge (tgt := 29) hx hb dK_groups_9 (by decide) (fun c9 => ?_) (fun c9 => ?_)
    · have hf := (if_pos c9).symm.trans hf
      refine lv_iload_n hx hb dK_groups_29 rfl (lv_at hl 1 rfl) ?_
      exact kr_iret C0 hK hP hD hS (Option.some.inj hf) rfl dK_groups_30
    · have hf := (if_neg c9).symm.trans hf
      refine lv_aload_n hx hb dK_groups_12 rfl (lv_at hl 0 rfl) ?_
      refine lv_iload_n hx hb dK_groups_13 rfl (lv_at hl 2 rfl) ?_
      obtain ⟨v14, ev14, hf⟩ := kb1 hf
      refine kr_callVi (av := [.int x2]) ⟨hx, hb, hml, hown, hts⟩ (mK_isLeastOfGroup l D q k cI cJ _ σ x2 v14 ev14) (cwV 1 hts (kgood_V TK_good (by decide +kernel)) rfl rfl rfl (by decide +kernel) ⟨Nat.le_of_ble_eq_true rfl, Nat.le_of_ble_eq_true rfl⟩) hK hP hD hS hA (ci := 0) (q0 := 0) rfl rfl rfl hl.1 rfl (Nat.le_of_ble_eq_true rfl) dK_groups_14 ⟨Nat.le_of_ble_eq_true rfl, Nat.le_of_ble_eq_true rfl⟩ (fun H locs hP hD hS => ?_)
      refine lv_if_eq (tgt := 23) hx hb dK_groups_17 (by decide) (fun c17 => ?_) (fun c17 => ?_)
      · have hf := (if_pos c17).symm.trans hf
        refine lv_iinc (v := (x2 + 1)) (lv' := [(2, .int (x2 + 1)), (0, .ref (q 0)), (1, .int x1)]) hx hb dK_groups_23 hl (k := 2) rfl rfl (by decide) rfl (fun ls hl => ?_)
        refine lv_goto (tgt := 4) hx hb dK_groups_26 (by decide) ?_
        exact ih x1 (x2 + 1) _ _ ls hf (lv_sub hl [1, 2, 0] rfl) hP hD hS
      · have hf := (if_neg c17).symm.trans hf
        refine lv_iinc (v := (x1 + 1)) (lv' := [(1, .int (x1 + 1)), (0, .ref (q 0)), (2, .int x2)]) hx hb dK_groups_20 hl (k := 1) rfl rfl (by decide) rfl (fun ls hl => ?_)
        refine lv_iinc (v := (x2 + 1)) (lv' := [(2, .int (x2 + 1)), (1, .int (x1 + 1)), (0, .ref (q 0))]) hx hb dK_groups_23 hl (k := 2) rfl rfl (by decide) rfl (fun ls hl => ?_)
        refine lv_goto (tgt := 4) hx hb dK_groups_26 (by decide) ?_
        exact ih (x1 + 1) (x2 + 1) _ _ ls hf (lv_sub hl [2, 1, 0] rfl) hP hD hS
set_option maxHeartbeats 400000 in
set_option maxRecDepth 100000 in
theorem mK_groups (l : Launch) (D : va_G) (q : Nat → Nat) (k : kK) (cI cJ : ClassId) (sz : Nat) (fu : Nat) (σ : sK) (r : Int32) (hf : fK_groups fu k σ = some r) : Met l yK_groups (.code yK_groups cK_groups 3 (some .int) :: TK) ({ frames := 1, cells := 0, slots := 0, locals := 21 }) (kPre D cl0 [(cI, .int), (cJ, .long)] (wdK q k cI cJ) sz σ [.ref (q 0)]) (kQi D cl0 [(cI, .int), (cJ, .long)] (wdK q k cI cJ) (va_A (wdK q k cI cJ σ) sz) r σ) 0 0 (va_A (wdK q k cI cJ σ) sz) := by
  refine kr_start (own := RK) (by decide) rfl (Nat.le_of_ble_eq_true rfl) ?_
  intro p e s m args below meth c ls C0 hsz hK hP hD hl
  subst hsz
  obtain ⟨hx, hb, hr, hml, hown, hts, hlocks⟩ := id C0
  have hA : ∀ z : Nat, s.heap.size ≤ z → va_A (wdK q k cI cJ σ) s.heap.size z := fun z h => Or.inr h
  generalize va_A (wdK q k cI cJ σ) s.heap.size = A at hD hA ⊢
  have hS : va_S A s.heap s.heap [] := va_S.rf
  have hl : lv_has ls 3 [(0, .ref (q 0))] := hl
  unfold fK_groups at hf
  refine lv_iconst (v := 0) hx hb dK_groups_0 (by decide) ?_
  refine lv_istore_n (lv' := [(1, .int 0), (0, .ref (q 0))]) hx hb dK_groups_1 rfl hl (by decide) rfl (fun ls hl => ?_)
  refine lv_iconst (v := 0) hx hb dK_groups_2 (by decide) ?_
  refine lv_istore_n (lv' := [(2, .int 0), (1, .int 0), (0, .ref (q 0))]) hx hb dK_groups_3 rfl hl (by decide) rfl (fun ls hl => ?_)
  exact tK_groups_4 C0 hK hA fu 0 0 _ _ ls hf (lv_sub hl [2, 1, 0] rfl) hP hD hS
theorem dK_sample_0 : decode cK_sample 0 = .ok (.aload_n 0, 1) := by decide +kernel
theorem dK_sample_1 : decode cK_sample 1 = .ok (.iload_n 1, 1) := by decide +kernel
theorem dK_sample_2 : decode cK_sample 2 = .ok (.invokevirtual 79, 3) := by decide +kernel
theorem dK_sample_5 : decode cK_sample 5 = .ok (.ifCond .eq (22), 3) := by decide +kernel
theorem dK_sample_8 : decode cK_sample 8 = .ok (.lload_n 2, 1) := by decide +kernel
theorem dK_sample_9 : decode cK_sample 9 = .ok (.lconst 0, 1) := by decide +kernel
theorem dK_sample_10 : decode cK_sample 10 = .ok (.lcmp, 1) := by decide +kernel
theorem dK_sample_11 : decode cK_sample 11 = .ok (.ifCond .lt (16), 3) := by decide +kernel
theorem dK_sample_14 : decode cK_sample 14 = .ok (.lload_n 2, 1) := by decide +kernel
theorem dK_sample_15 : decode cK_sample 15 = .ok (.ldc2_w 138, 3) := by decide +kernel
theorem dK_sample_18 : decode cK_sample 18 = .ok (.aload_n 0, 1) := by decide +kernel
theorem dK_sample_19 : decode cK_sample 19 = .ok (.getfield 13, 3) := by decide +kernel
theorem dK_sample_22 : decode cK_sample 22 = .ok (.lsub, 1) := by decide +kernel
theorem dK_sample_23 : decode cK_sample 23 = .ok (.lcmp, 1) := by decide +kernel
theorem dK_sample_24 : decode cK_sample 24 = .ok (.ifCond .le (5), 3) := by decide +kernel
theorem dK_sample_27 : decode cK_sample 27 = .ok (.iconst 0, 1) := by decide +kernel
theorem dK_sample_28 : decode cK_sample 28 = .ok (.ireturn, 1) := by decide +kernel
theorem dK_sample_29 : decode cK_sample 29 = .ok (.aload_n 0, 1) := by decide +kernel
theorem dK_sample_30 : decode cK_sample 30 = .ok (.getfield 51, 3) := by decide +kernel
theorem dK_sample_33 : decode cK_sample 33 = .ok (.iload_n 1, 1) := by decide +kernel
theorem dK_sample_34 : decode cK_sample 34 = .ok (.dup2, 1) := by decide +kernel
theorem dK_sample_35 : decode cK_sample 35 = .ok (.laload, 1) := by decide +kernel
theorem dK_sample_36 : decode cK_sample 36 = .ok (.lload_n 2, 1) := by decide +kernel
theorem dK_sample_37 : decode cK_sample 37 = .ok (.ladd, 1) := by decide +kernel
theorem dK_sample_38 : decode cK_sample 38 = .ok (.lastore, 1) := by decide +kernel
theorem dK_sample_39 : decode cK_sample 39 = .ok (.aload_n 0, 1) := by decide +kernel
theorem dK_sample_40 : decode cK_sample 40 = .ok (.dup, 1) := by decide +kernel
theorem dK_sample_41 : decode cK_sample 41 = .ok (.getfield 13, 3) := by decide +kernel
theorem dK_sample_44 : decode cK_sample 44 = .ok (.lload_n 2, 1) := by decide +kernel
theorem dK_sample_45 : decode cK_sample 45 = .ok (.ladd, 1) := by decide +kernel
theorem dK_sample_46 : decode cK_sample 46 = .ok (.putfield 13, 3) := by decide +kernel
theorem dK_sample_49 : decode cK_sample 49 = .ok (.iconst 1, 1) := by decide +kernel
theorem dK_sample_50 : decode cK_sample 50 = .ok (.ireturn, 1) := by decide +kernel
set_option maxHeartbeats 400000 in
set_option maxRecDepth 100000 in
theorem mK_sample (l : Launch) (D : va_G) (q : Nat → Nat) (k : kK) (cI cJ : ClassId) (sz : Nat) (σ : sK) (σ' : sK) (x1 : Int32) (x2 : Int64) (r : Int32) (hf : fK_sample k σ x1 x2 = some (r, σ')) : Met l yK_sample (.code yK_sample cK_sample 4 (some .boolean) :: TK) ({ frames := 1, cells := 0, slots := 0, locals := 21 }) (kPre D cl0 [(cI, .int), (cJ, .long)] (wdK q k cI cJ) sz σ [.ref (q 0), .int x1, .long x2]) (kQi D cl0 [(cI, .int), (cJ, .long)] (wdK q k cI cJ) (va_A (wdK q k cI cJ σ) sz) r σ') 0 0 (va_A (wdK q k cI cJ σ) sz) := by
  refine kr_start (own := RK) (by decide) rfl (Nat.le_of_ble_eq_true rfl) ?_
  intro p e s m args below meth c ls C0 hsz hK hP hD hl
  subst hsz
  obtain ⟨hx, hb, hr, hml, hown, hts, hlocks⟩ := id C0
  have hA : ∀ z : Nat, s.heap.size ≤ z → va_A (wdK q k cI cJ σ) s.heap.size z := fun z h => Or.inr h
  generalize va_A (wdK q k cI cJ σ) s.heap.size = A at hD hA ⊢
  have hS : va_S A s.heap s.heap [] := va_S.rf
  have hl : lv_has ls 4 [(0, .ref (q 0)), (1, .int x1), (2, .long x2)] := hl
  unfold fK_sample at hf
  refine lv_aload_n hx hb dK_sample_0 rfl (lv_at hl 0 rfl) ?_
  refine lv_iload_n hx hb dK_sample_1 rfl (lv_at hl 1 rfl) ?_
  refine kr_callVi (av := [.int x1]) ⟨hx, hb, hml, hown, hts⟩ (mK_isClass l D q k cI cJ _ σ x1 _ rfl) (cwV 1 hts (kgood_V TK_good (by decide +kernel)) rfl rfl rfl (by decide +kernel) ⟨Nat.le_of_ble_eq_true rfl, Nat.le_of_ble_eq_true rfl⟩) hK hP hD hS hA (ci := 0) (q0 := 0) rfl rfl rfl hl.1 rfl (Nat.le_of_ble_eq_true rfl) dK_sample_2 ⟨Nat.le_of_ble_eq_true rfl, Nat.le_of_ble_eq_true rfl⟩ (fun H locs hP hD hS => ?_)
  refine lv_if_eq (tgt := 27) hx hb dK_sample_5 (by decide) (fun c5 => ?_) (fun c5 => ?_)
  · have hf := (if_pos c5).symm.trans hf
    refine lv_iconst (v := 0) hx hb dK_sample_27 (by decide) ?_
    exact kr_zret C0 hK hP hD hS rfl (congrArg Prod.fst (Option.some.inj hf)) (congrArg Prod.snd (Option.some.inj hf)) dK_sample_28
  · have hf := (if_neg c5).symm.trans hf
    refine lv_lload_n hx hb dK_sample_8 rfl (lv_at hl 2 rfl) ?_
    refine lv_lconst (v := 0) hx hb dK_sample_9 (by decide) ?_
    refine W.lcmp hx hb dK_sample_10 ?_
    refine lv_if_lt (tgt := 27) hx hb dK_sample_11 (by decide) (fun c10 => ?_) (fun c10 => ?_)
    · rw [lg_cmp_lt] at c10
      have hf := (if_pos c10).symm.trans hf
      refine lv_iconst (v := 0) hx hb dK_sample_27 (by decide) ?_
      exact kr_zret C0 hK hP hD hS rfl (congrArg Prod.fst (Option.some.inj hf)) (congrArg Prod.snd (Option.some.inj hf)) dK_sample_28
    · rw [lg_cmp_lt] at c10
      have hf := (if_neg c10).symm.trans hf
      refine lv_lload_n hx hb dK_sample_14 rfl (lv_at hl 2 rfl) ?_
      refine lv_ldc2 (v := 10000) hx hb hown (hts (.constantLong RK 138 (10000)) (by decide +kernel)) dK_sample_15 ?_
      refine lv_aload_n hx hb dK_sample_18 rfl (lv_at hl 0 rfl) ?_
      refine gK_measuredInAll hx hb hown hts hK hP dK_sample_19 ?_
      refine lv_lsub hx hb dK_sample_22 ?_
      refine W.lcmp hx hb dK_sample_23 ?_
      refine lv_if_le (tgt := 29) hx hb dK_sample_24 (by decide) (fun c23 => ?_) (fun c23 => ?_)
      · rw [lg_cmp_le] at c23
        have hf := (if_pos c23).symm.trans hf
        refine lv_aload_n hx hb dK_sample_29 rfl (lv_at hl 0 rfl) ?_
        refine gK_measured hx hb hown hts hK hP dK_sample_30 ?_
        refine lv_iload_n hx hb dK_sample_33 rfl (lv_at hl 1 rfl) ?_
        refine lv_dup2_11 hx hb dK_sample_34 rfl rfl ?_
        obtain ⟨v35, ev35, hf⟩ := kb1 hf
        refine kr_laload hx hb hK hP 7 1 rfl rfl ev35 dK_sample_35 ?_
        refine lv_lload_n hx hb dK_sample_36 rfl (lv_at hl 2 rfl) ?_
        refine lv_ladd hx hb dK_sample_37 ?_
        obtain ⟨a38, ea38, hf⟩ := kb1 hf
        refine kr_lastore (σ' := (uK_measured σ a38)) hx hb hK hP hD hS 7 1 rfl rfl ea38 (wK_measured q k cI cJ _ _) dK_sample_38 (fun H locs hP hD hS => ?_)
        generalize (uK_measured σ a38) = s38 at hf hP hD
        refine lv_aload_n hx hb dK_sample_39 rfl (lv_at hl 0 rfl) ?_
        refine lv_dup hx hb dK_sample_40 rfl ?_
        refine gK_measuredInAll hx hb hown hts hK hP dK_sample_41 ?_
        refine lv_lload_n hx hb dK_sample_44 rfl (lv_at hl 2 rfl) ?_
        refine lv_ladd hx hb dK_sample_45 ?_
        refine pK_measuredInAll hx hb hown hts hK hP hD hS dK_sample_46 (fun H locs hP hD hS => ?_)
        generalize (uK_measuredInAll s38 ((sK_measuredInAll s38) + x2)) = s46 at hf hP hD
        refine lv_iconst (v := 1) hx hb dK_sample_49 (by decide) ?_
        exact kr_zret C0 hK hP hD hS rfl (congrArg Prod.fst (Option.some.inj hf)) (congrArg Prod.snd (Option.some.inj hf)) dK_sample_50
      · rw [lg_cmp_le] at c23
        have hf := (if_neg c23).symm.trans hf
        refine lv_iconst (v := 0) hx hb dK_sample_27 (by decide) ?_
        exact kr_zret C0 hK hP hD hS rfl (congrArg Prod.fst (Option.some.inj hf)) (congrArg Prod.snd (Option.some.inj hf)) dK_sample_28
