theorem dM_read_0 : decode cM_read 0 = .ok (.aload_n 0, 1) := by decide +kernel
theorem dM_read_1 : decode cM_read 1 = .ok (.iload_n 1, 1) := by decide +kernel
theorem dM_read_2 : decode cM_read 2 = .ok (.invokevirtual 54, 3) := by decide +kernel
theorem dM_read_5 : decode cM_read 5 = .ok (.ifCond .eq (20), 3) := by decide +kernel
theorem dM_read_8 : decode cM_read 8 = .ok (.aload_n 0, 1) := by decide +kernel
theorem dM_read_9 : decode cM_read 9 = .ok (.iload_n 2, 1) := by decide +kernel
theorem dM_read_10 : decode cM_read 10 = .ok (.invokevirtual 58, 3) := by decide +kernel
theorem dM_read_13 : decode cM_read 13 = .ok (.ifCond .eq (12), 3) := by decide +kernel
theorem dM_read_16 : decode cM_read 16 = .ok (.iload_n 3, 1) := by decide +kernel
theorem dM_read_17 : decode cM_read 17 = .ok (.ifCond .lt (8), 3) := by decide +kernel
theorem dM_read_20 : decode cM_read 20 = .ok (.iload_n 3, 1) := by decide +kernel
theorem dM_read_21 : decode cM_read 21 = .ok (.iconst 4, 1) := by decide +kernel
theorem dM_read_22 : decode cM_read 22 = .ok (.if_icmp .lt (5), 3) := by decide +kernel
theorem dM_read_25 : decode cM_read 25 = .ok (.iconst 0, 1) := by decide +kernel
theorem dM_read_26 : decode cM_read 26 = .ok (.ireturn, 1) := by decide +kernel
theorem dM_read_27 : decode cM_read 27 = .ok (.aload_n 0, 1) := by decide +kernel
theorem dM_read_28 : decode cM_read 28 = .ok (.aload_n 0, 1) := by decide +kernel
theorem dM_read_29 : decode cM_read 29 = .ok (.getfield 17, 3) := by decide +kernel
theorem dM_read_32 : decode cM_read 32 = .ok (.iload_n 1, 1) := by decide +kernel
theorem dM_read_33 : decode cM_read 33 = .ok (.iaload, 1) := by decide +kernel
theorem dM_read_34 : decode cM_read 34 = .ok (.iconst (-1), 1) := by decide +kernel
theorem dM_read_35 : decode cM_read 35 = .ok (.iconst (-1), 1) := by decide +kernel
theorem dM_read_36 : decode cM_read 36 = .ok (.invokevirtual 61, 3) := by decide +kernel
theorem dM_read_39 : decode cM_read 39 = .ok (.bipush (20), 2) := by decide +kernel
theorem dM_read_41 : decode cM_read 41 = .ok (.if_icmp .ge (13), 3) := by decide +kernel
theorem dM_read_44 : decode cM_read 44 = .ok (.aload_n 0, 1) := by decide +kernel
theorem dM_read_45 : decode cM_read 45 = .ok (.iconst (-1), 1) := by decide +kernel
theorem dM_read_46 : decode cM_read 46 = .ok (.invokevirtual 64, 3) := by decide +kernel
theorem dM_read_49 : decode cM_read 49 = .ok (.bipush (100), 2) := by decide +kernel
theorem dM_read_51 : decode cM_read 51 = .ok (.if_icmp .lt (5), 3) := by decide +kernel
theorem dM_read_54 : decode cM_read 54 = .ok (.iconst 0, 1) := by decide +kernel
theorem dM_read_55 : decode cM_read 55 = .ok (.ireturn, 1) := by decide +kernel
theorem dM_read_56 : decode cM_read 56 = .ok (.aload_n 0, 1) := by decide +kernel
theorem dM_read_57 : decode cM_read 57 = .ok (.getfield 7, 3) := by decide +kernel
theorem dM_read_60 : decode cM_read 60 = .ok (.iload_n 3, 1) := by decide +kernel
theorem dM_read_61 : decode cM_read 61 = .ok (.iload_n 1, 1) := by decide +kernel
theorem dM_read_62 : decode cM_read 62 = .ok (.iload_n 2, 1) := by decide +kernel
theorem dM_read_63 : decode cM_read 63 = .ok (.invokestatic 45, 3) := by decide +kernel
theorem dM_read_66 : decode cM_read 66 = .ok (.dup2, 1) := by decide +kernel
theorem dM_read_67 : decode cM_read 67 = .ok (.iaload, 1) := by decide +kernel
theorem dM_read_68 : decode cM_read 68 = .ok (.iconst 1, 1) := by decide +kernel
theorem dM_read_69 : decode cM_read 69 = .ok (.iadd, 1) := by decide +kernel
theorem dM_read_70 : decode cM_read 70 = .ok (.iastore, 1) := by decide +kernel
theorem dM_read_71 : decode cM_read 71 = .ok (.iconst 1, 1) := by decide +kernel
theorem dM_read_72 : decode cM_read 72 = .ok (.ireturn, 1) := by decide +kernel
set_option maxHeartbeats 400000 in
set_option maxRecDepth 100000 in
theorem mM_read (l : Launch) (D : va_G) (q : Nat → Nat) (k : kM) (cI cJ : ClassId) (sz : Nat) (fu : Nat) (σ : sM) (σ' : sM) (x1 : Int32) (x2 : Int32) (x3 : Int32) (r : Int32) (hf : fM_read fu k σ x1 x2 x3 = some (r, σ')) : Met l yM_read (.code yM_read cM_read 4 (some .boolean) :: TM) ({ frames := 3, cells := 0, slots := 0, locals := 73 }) (kPre D cl0 [(cI, .int), (cJ, .long)] (wdM q k cI cJ) sz σ [.ref (q 0), .int x1, .int x2, .int x3]) (kQi D cl0 [(cI, .int), (cJ, .long)] (wdM q k cI cJ) (va_A (wdM q k cI cJ σ) sz) r σ') 0 0 (va_A (wdM q k cI cJ σ) sz) := by
  refine kr_start (own := RM) (by decide) rfl (Nat.le_of_ble_eq_true rfl) ?_
  intro p e s m args below meth c ls C0 hsz hK hP hD hl
  subst hsz
  obtain ⟨hx, hb, hr, hml, hown, hts, hlocks⟩ := id C0
  have hA : ∀ z : Nat, s.heap.size ≤ z → va_A (wdM q k cI cJ σ) s.heap.size z := fun z h => Or.inr h
  generalize va_A (wdM q k cI cJ σ) s.heap.size = A at hD hA ⊢
  have hS : va_S A s.heap s.heap [] := va_S.rf
  have hl : lv_has ls 4 [(0, .ref (q 0)), (1, .int x1), (2, .int x2), (3, .int x3)] := hl
  unfold fM_read at hf
  refine lv_aload_n hx hb dM_read_0 rfl (lv_at hl 0 rfl) ?_
  refine lv_iload_n hx hb dM_read_1 rfl (lv_at hl 1 rfl) ?_
  refine kr_callVi (av := [.int x1]) ⟨hx, hb, hml, hown, hts⟩ (mM_isClass l D q k cI cJ _ σ x1 _ rfl) (cwV 1 hts (kgood_V TM_good (by decide +kernel)) rfl rfl rfl (by decide +kernel) ⟨Nat.le_of_ble_eq_true rfl, Nat.le_of_ble_eq_true rfl⟩) hK hP hD hS hA (ci := 1) (q0 := 0) rfl rfl rfl hl.1 rfl (Nat.le_of_ble_eq_true rfl) dM_read_2 ⟨Nat.le_of_ble_eq_true rfl, Nat.le_of_ble_eq_true rfl⟩ (fun H locs hP hD hS => ?_)
  refine lv_if_eq (tgt := 25) hx hb dM_read_5 (by decide) (fun c5 => ?_) (fun c5 => ?_)
  · have hf := (if_pos c5).symm.trans hf
    refine lv_iconst (v := 0) hx hb dM_read_25 (by decide) ?_
    exact kr_zret C0 hK hP hD hS rfl (congrArg Prod.fst (Option.some.inj hf)) (congrArg Prod.snd (Option.some.inj hf)) dM_read_26
  · have hf := (if_neg c5).symm.trans hf
    refine lv_aload_n hx hb dM_read_8 rfl (lv_at hl 0 rfl) ?_
    refine lv_iload_n hx hb dM_read_9 rfl (lv_at hl 2 rfl) ?_
    refine kr_callVi (av := [.int x2]) ⟨hx, hb, hml, hown, hts⟩ (mM_isAge l D q k cI cJ _ σ x2 _ rfl) (cwV 1 hts (kgood_V TM_good (by decide +kernel)) rfl rfl rfl (by decide +kernel) ⟨Nat.le_of_ble_eq_true rfl, Nat.le_of_ble_eq_true rfl⟩) hK hP hD hS hA (ci := 1) (q0 := 0) rfl rfl rfl hl.1 rfl (Nat.le_of_ble_eq_true rfl) dM_read_10 ⟨Nat.le_of_ble_eq_true rfl, Nat.le_of_ble_eq_true rfl⟩ (fun H locs hP hD hS => ?_)
    refine lv_if_eq (tgt := 25) hx hb dM_read_13 (by decide) (fun c13 => ?_) (fun c13 => ?_)
    · have hf := (if_pos c13).symm.trans hf
      refine lv_iconst (v := 0) hx hb dM_read_25 (by decide) ?_
      exact kr_zret C0 hK hP hD hS rfl (congrArg Prod.fst (Option.some.inj hf)) (congrArg Prod.snd (Option.some.inj hf)) dM_read_26
    · have hf := (if_neg c13).symm.trans hf
      refine lv_iload_n hx hb dM_read_16 rfl (lv_at hl 3 rfl) ?_
      refine lv_if_lt (tgt := 25) hx hb dM_read_17 (by decide) (fun c17 => ?_) (fun c17 => ?_)
      · have hf := (if_pos c17).symm.trans hf
        refine lv_iconst (v := 0) hx hb dM_read_25 (by decide) ?_
        exact kr_zret C0 hK hP hD hS rfl (congrArg Prod.fst (Option.some.inj hf)) (congrArg Prod.snd (Option.some.inj hf)) dM_read_26
      · have hf := (if_neg c17).symm.trans hf
        refine lv_iload_n hx hb dM_read_20 rfl (lv_at hl 3 rfl) ?_
        refine lv_iconst (v := 4) hx hb dM_read_21 (by decide) ?_
        refine lv_icmp_lt (tgt := 27) hx hb dM_read_22 (by decide) (fun c22 => ?_) (fun c22 => ?_)
        · have hf := (if_pos c22).symm.trans hf
          refine lv_aload_n hx hb dM_read_27 rfl (lv_at hl 0 rfl) ?_
          refine lv_aload_n hx hb dM_read_28 rfl (lv_at hl 0 rfl) ?_
          refine gM_group hx hb hown hts hK hP dM_read_29 ?_
          refine lv_iload_n hx hb dM_read_32 rfl (lv_at hl 1 rfl) ?_
          obtain ⟨v33, ev33, hf⟩ := kb1 hf
          refine kr_iaload hx hb hK hP 2 0 rfl rfl ev33 dM_read_33 ?_
          refine lv_iconst (v := (-1)) hx hb dM_read_34 (by decide) ?_
          refine lv_iconst (v := (-1)) hx hb dM_read_35 (by decide) ?_
          obtain ⟨v36, ev36, hf⟩ := kb1 hf
          refine kr_callVi (av := [.int v33, .int (-1), .int (-1)]) ⟨hx, hb, hml, hown, hts⟩ (mM_inGroup l D q k cI cJ _ fu σ v33 (-1) (-1) v36 ev36) (cwV 3 hts (kgood_V TM_good (by decide +kernel)) rfl rfl rfl (by decide +kernel) ⟨Nat.le_of_ble_eq_true rfl, Nat.le_of_ble_eq_true rfl⟩) hK hP hD hS hA (ci := 1) (q0 := 0) rfl rfl rfl hl.1 rfl (Nat.le_of_ble_eq_true rfl) dM_read_36 ⟨Nat.le_of_ble_eq_true rfl, Nat.le_of_ble_eq_true rfl⟩ (fun H locs hP hD hS => ?_)
          refine lv_bipush (v := 20) hx hb dM_read_39 (by decide) ?_
          refine lv_icmp_ge (tgt := 54) hx hb dM_read_41 (by decide) (fun c41 => ?_) (fun c41 => ?_)
          · have hf := (if_pos c41).symm.trans hf
            refine lv_iconst (v := 0) hx hb dM_read_54 (by decide) ?_
            exact kr_zret C0 hK hP hD hS rfl (congrArg Prod.fst (Option.some.inj hf)) (congrArg Prod.snd (Option.some.inj hf)) dM_read_55
          · have hf := (if_neg c41).symm.trans hf
            refine lv_aload_n hx hb dM_read_44 rfl (lv_at hl 0 rfl) ?_
            refine lv_iconst (v := (-1)) hx hb dM_read_45 (by decide) ?_
            obtain ⟨v46, ev46, hf⟩ := kb1 hf
            refine kr_callVi (av := [.int (-1)]) ⟨hx, hb, hml, hown, hts⟩ (mM_inAll l D q k cI cJ _ fu σ (-1) v46 ev46) (cwV 1 hts (kgood_V TM_good (by decide +kernel)) rfl rfl rfl (by decide +kernel) ⟨Nat.le_of_ble_eq_true rfl, Nat.le_of_ble_eq_true rfl⟩) hK hP hD hS hA (ci := 1) (q0 := 0) rfl rfl rfl hl.1 rfl (Nat.le_of_ble_eq_true rfl) dM_read_46 ⟨Nat.le_of_ble_eq_true rfl, Nat.le_of_ble_eq_true rfl⟩ (fun H locs hP hD hS => ?_)
            refine lv_bipush (v := 100) hx hb dM_read_49 (by decide) ?_
            refine lv_icmp_lt (tgt := 56) hx hb dM_read_51 (by decide) (fun c51 => ?_) (fun c51 => ?_)
            · have hf := (if_pos c51).symm.trans hf
              refine lv_aload_n hx hb dM_read_56 rfl (lv_at hl 0 rfl) ?_
              refine gM_counts hx hb hown hts hK hP dM_read_57 ?_
              refine lv_iload_n hx hb dM_read_60 rfl (lv_at hl 3 rfl) ?_
              refine lv_iload_n hx hb dM_read_61 rfl (lv_at hl 1 rfl) ?_
              refine lv_iload_n hx hb dM_read_62 rfl (lv_at hl 2 rfl) ?_
              refine kr_callSi (av := [.int x3, .int x1, .int x2]) ⟨hx, hb, hml, hown, hts⟩ (mM_at l D _ (wdM q k cI cJ) [(cI, .int), (cJ, .long)] cl0 _ σ x3 x1 x2 _ rfl) (cwS 3 hts (kgood_S TM_good (by decide +kernel)) rfl rfl rfl (by decide +kernel) ⟨Nat.le_of_ble_eq_true rfl, Nat.le_of_ble_eq_true rfl⟩) hK hP hD hS hA rfl hl.1 rfl (Nat.le_of_ble_eq_true rfl) dM_read_63 ⟨Nat.le_of_ble_eq_true rfl, Nat.le_of_ble_eq_true rfl⟩ (fun H locs hP hD hS => ?_)
              refine lv_dup2_11 hx hb dM_read_66 rfl rfl ?_
              obtain ⟨v67, ev67, hf⟩ := kb1 hf
              refine kr_iaload hx hb hK hP 1 0 rfl rfl ev67 dM_read_67 ?_
              refine lv_iconst (v := 1) hx hb dM_read_68 (by decide) ?_
              refine lv_iadd hx hb dM_read_69 ?_
              obtain ⟨a70, ea70, hf⟩ := kb1 hf
              refine kr_iastore (σ' := (uM_counts σ a70)) hx hb hK hP hD hS 1 0 rfl rfl ea70 (wM_counts q k cI cJ _ _) dM_read_70 (fun H locs hP hD hS => ?_)
              generalize (uM_counts σ a70) = s70 at hf hP hD
              refine lv_iconst (v := 1) hx hb dM_read_71 (by decide) ?_
              exact kr_zret C0 hK hP hD hS rfl (congrArg Prod.fst (Option.some.inj hf)) (congrArg Prod.snd (Option.some.inj hf)) dM_read_72
            · have hf := (if_neg c51).symm.trans hf
              refine lv_iconst (v := 0) hx hb dM_read_54 (by decide) ?_
              exact kr_zret C0 hK hP hD hS rfl (congrArg Prod.fst (Option.some.inj hf)) (congrArg Prod.snd (Option.some.inj hf)) dM_read_55
        · have hf := (if_neg c22).symm.trans hf
          refine lv_iconst (v := 0) hx hb dM_read_25 (by decide) ?_
          exact kr_zret C0 hK hP hD hS rfl (congrArg Prod.fst (Option.some.inj hf)) (congrArg Prod.snd (Option.some.inj hf)) dM_read_26
theorem dM_place_0 : decode cM_place 0 = .ok (.iload_n 1, 1) := by decide +kernel
theorem dM_place_1 : decode cM_place 1 = .ok (.iconst (-1), 1) := by decide +kernel
theorem dM_place_2 : decode cM_place 2 = .ok (.if_icmp .lt (8), 3) := by decide +kernel
theorem dM_place_5 : decode cM_place 5 = .ok (.iload_n 1, 1) := by decide +kernel
theorem dM_place_6 : decode cM_place 6 = .ok (.iconst 4, 1) := by decide +kernel
theorem dM_place_7 : decode cM_place 7 = .ok (.if_icmp .lt (5), 3) := by decide +kernel
theorem dM_place_10 : decode cM_place 10 = .ok (.iconst (-1), 1) := by decide +kernel
theorem dM_place_11 : decode cM_place 11 = .ok (.ireturn, 1) := by decide +kernel
theorem dM_place_12 : decode cM_place 12 = .ok (.aload_n 0, 1) := by decide +kernel
theorem dM_place_13 : decode cM_place 13 = .ok (.iload_n 1, 1) := by decide +kernel
theorem dM_place_14 : decode cM_place 14 = .ok (.putfield 13, 3) := by decide +kernel
theorem dM_place_17 : decode cM_place 17 = .ok (.aload_n 0, 1) := by decide +kernel
theorem dM_place_18 : decode cM_place 18 = .ok (.iload_n 1, 1) := by decide +kernel
theorem dM_place_19 : decode cM_place 19 = .ok (.invokevirtual 64, 3) := by decide +kernel
theorem dM_place_22 : decode cM_place 22 = .ok (.ireturn, 1) := by decide +kernel
set_option maxHeartbeats 400000 in
set_option maxRecDepth 100000 in
theorem mM_place (l : Launch) (D : va_G) (q : Nat → Nat) (k : kM) (cI cJ : ClassId) (sz : Nat) (fu : Nat) (σ : sM) (σ' : sM) (x1 : Int32) (r : Int32) (hf : fM_place fu k σ x1 = some (r, σ')) : Met l yM_place (.code yM_place cM_place 2 (some .int) :: TM) ({ frames := 3, cells := 0, slots := 0, locals := 71 }) (kPre D cl0 [(cI, .int), (cJ, .long)] (wdM q k cI cJ) sz σ [.ref (q 0), .int x1]) (kQi D cl0 [(cI, .int), (cJ, .long)] (wdM q k cI cJ) (va_A (wdM q k cI cJ σ) sz) r σ') 0 0 (va_A (wdM q k cI cJ σ) sz) := by
  refine kr_start (own := RM) (by decide) rfl (Nat.le_of_ble_eq_true rfl) ?_
  intro p e s m args below meth c ls C0 hsz hK hP hD hl
  subst hsz
  obtain ⟨hx, hb, hr, hml, hown, hts, hlocks⟩ := id C0
  have hA : ∀ z : Nat, s.heap.size ≤ z → va_A (wdM q k cI cJ σ) s.heap.size z := fun z h => Or.inr h
  generalize va_A (wdM q k cI cJ σ) s.heap.size = A at hD hA ⊢
  have hS : va_S A s.heap s.heap [] := va_S.rf
  have hl : lv_has ls 2 [(0, .ref (q 0)), (1, .int x1)] := hl
  unfold fM_place at hf
  refine lv_iload_n hx hb dM_place_0 rfl (lv_at hl 1 rfl) ?_
  refine lv_iconst (v := (-1)) hx hb dM_place_1 (by decide) ?_
  refine lv_icmp_lt (tgt := 10) hx hb dM_place_2 (by decide) (fun c2 => ?_) (fun c2 => ?_)
  · have hf := (if_pos c2).symm.trans hf
    refine lv_iconst (v := (-1)) hx hb dM_place_10 (by decide) ?_
    exact kr_iret C0 hK hP hD hS (congrArg Prod.fst (Option.some.inj hf)) (congrArg Prod.snd (Option.some.inj hf)) dM_place_11
  · have hf := (if_neg c2).symm.trans hf
    refine lv_iload_n hx hb dM_place_5 rfl (lv_at hl 1 rfl) ?_
    refine lv_iconst (v := 4) hx hb dM_place_6 (by decide) ?_
    refine lv_icmp_lt (tgt := 12) hx hb dM_place_7 (by decide) (fun c7 => ?_) (fun c7 => ?_)
    · have hf := (if_pos c7).symm.trans hf
      refine lv_aload_n hx hb dM_place_12 rfl (lv_at hl 0 rfl) ?_
      refine lv_iload_n hx hb dM_place_13 rfl (lv_at hl 1 rfl) ?_
      refine pM_chosen hx hb hown hts hK hP hD hS dM_place_14 (fun H locs hP hD hS => ?_)
      generalize (uM_chosen σ x1) = s14 at hf hP hD
      refine lv_aload_n hx hb dM_place_17 rfl (lv_at hl 0 rfl) ?_
      refine lv_iload_n hx hb dM_place_18 rfl (lv_at hl 1 rfl) ?_
      obtain ⟨v19, ev19, hf⟩ := kb1 hf
      refine kr_callVi (av := [.int x1]) ⟨hx, hb, hml, hown, hts⟩ (mM_inAll l D q k cI cJ _ fu s14 x1 v19 ev19) (cwV 1 hts (kgood_V TM_good (by decide +kernel)) rfl rfl rfl (by decide +kernel) ⟨Nat.le_of_ble_eq_true rfl, Nat.le_of_ble_eq_true rfl⟩) hK hP hD hS hA (ci := 1) (q0 := 0) rfl rfl rfl hl.1 rfl (Nat.le_of_ble_eq_true rfl) dM_place_19 ⟨Nat.le_of_ble_eq_true rfl, Nat.le_of_ble_eq_true rfl⟩ (fun H locs hP hD hS => ?_)
      exact kr_iret C0 hK hP hD hS (congrArg Prod.fst (Option.some.inj hf)) (congrArg Prod.snd (Option.some.inj hf)) dM_place_22
    · have hf := (if_neg c7).symm.trans hf
      refine lv_iconst (v := (-1)) hx hb dM_place_10 (by decide) ?_
      exact kr_iret C0 hK hP hD hS (congrArg Prod.fst (Option.some.inj hf)) (congrArg Prod.snd (Option.some.inj hf)) dM_place_11
theorem dM_own_0 : decode cM_own 0 = .ok (.aload_n 0, 1) := by decide +kernel
theorem dM_own_1 : decode cM_own 1 = .ok (.iload_n 1, 1) := by decide +kernel
theorem dM_own_2 : decode cM_own 2 = .ok (.aload_n 0, 1) := by decide +kernel
theorem dM_own_3 : decode cM_own 3 = .ok (.getfield 13, 3) := by decide +kernel
theorem dM_own_6 : decode cM_own 6 = .ok (.iconst (-1), 1) := by decide +kernel
theorem dM_own_7 : decode cM_own 7 = .ok (.invokevirtual 61, 3) := by decide +kernel
theorem dM_own_10 : decode cM_own 10 = .ok (.ireturn, 1) := by decide +kernel
set_option maxHeartbeats 400000 in
set_option maxRecDepth 100000 in
theorem mM_own (l : Launch) (D : va_G) (q : Nat → Nat) (k : kM) (cI cJ : ClassId) (sz : Nat) (fu : Nat) (σ : sM) (x1 : Int32) (r : Int32) (hf : fM_own fu k σ x1 = some r) : Met l yM_own (.code yM_own cM_own 2 (some .int) :: TM) ({ frames := 3, cells := 0, slots := 0, locals := 73 }) (kPre D cl0 [(cI, .int), (cJ, .long)] (wdM q k cI cJ) sz σ [.ref (q 0), .int x1]) (kQi D cl0 [(cI, .int), (cJ, .long)] (wdM q k cI cJ) (va_A (wdM q k cI cJ σ) sz) r σ) 0 0 (va_A (wdM q k cI cJ σ) sz) := by
  refine kr_start (own := RM) (by decide) rfl (Nat.le_of_ble_eq_true rfl) ?_
  intro p e s m args below meth c ls C0 hsz hK hP hD hl
  subst hsz
  obtain ⟨hx, hb, hr, hml, hown, hts, hlocks⟩ := id C0
  have hA : ∀ z : Nat, s.heap.size ≤ z → va_A (wdM q k cI cJ σ) s.heap.size z := fun z h => Or.inr h
  generalize va_A (wdM q k cI cJ σ) s.heap.size = A at hD hA ⊢
  have hS : va_S A s.heap s.heap [] := va_S.rf
  have hl : lv_has ls 2 [(0, .ref (q 0)), (1, .int x1)] := hl
  unfold fM_own at hf
  refine lv_aload_n hx hb dM_own_0 rfl (lv_at hl 0 rfl) ?_
  refine lv_iload_n hx hb dM_own_1 rfl (lv_at hl 1 rfl) ?_
  refine lv_aload_n hx hb dM_own_2 rfl (lv_at hl 0 rfl) ?_
  refine gM_chosen hx hb hown hts hK hP dM_own_3 ?_
  refine lv_iconst (v := (-1)) hx hb dM_own_6 (by decide) ?_
  obtain ⟨v7, ev7, hf⟩ := kb1 hf
  refine kr_callVi (av := [.int x1, .int (sM_chosen σ), .int (-1)]) ⟨hx, hb, hml, hown, hts⟩ (mM_inGroup l D q k cI cJ _ fu σ x1 (sM_chosen σ) (-1) v7 ev7) (cwV 3 hts (kgood_V TM_good (by decide +kernel)) rfl rfl rfl (by decide +kernel) ⟨Nat.le_of_ble_eq_true rfl, Nat.le_of_ble_eq_true rfl⟩) hK hP hD hS hA (ci := 1) (q0 := 0) rfl rfl rfl hl.1 rfl (Nat.le_of_ble_eq_true rfl) dM_own_7 ⟨Nat.le_of_ble_eq_true rfl, Nat.le_of_ble_eq_true rfl⟩ (fun H locs hP hD hS => ?_)
  exact kr_iret C0 hK hP hD hS (Option.some.inj hf) rfl dM_own_10
theorem dM_source_0 : decode cM_source 0 = .ok (.aload_n 0, 1) := by decide +kernel
theorem dM_source_1 : decode cM_source 1 = .ok (.iload_n 1, 1) := by decide +kernel
theorem dM_source_2 : decode cM_source 2 = .ok (.invokevirtual 68, 3) := by decide +kernel
theorem dM_source_5 : decode cM_source 5 = .ok (.ifCond .le (7), 3) := by decide +kernel
theorem dM_source_8 : decode cM_source 8 = .ok (.iload_n 1, 1) := by decide +kernel
theorem dM_source_9 : decode cM_source 9 = .ok (.goto (9), 3) := by decide +kernel
theorem dM_source_12 : decode cM_source 12 = .ok (.aload_n 0, 1) := by decide +kernel
theorem dM_source_13 : decode cM_source 13 = .ok (.getfield 20, 3) := by decide +kernel
theorem dM_source_16 : decode cM_source 16 = .ok (.iload_n 1, 1) := by decide +kernel
theorem dM_source_17 : decode cM_source 17 = .ok (.iaload, 1) := by decide +kernel
theorem dM_source_18 : decode cM_source 18 = .ok (.istore_n 2, 1) := by decide +kernel
theorem dM_source_19 : decode cM_source 19 = .ok (.iload_n 2, 1) := by decide +kernel
theorem dM_source_20 : decode cM_source 20 = .ok (.iconst (-1), 1) := by decide +kernel
theorem dM_source_21 : decode cM_source 21 = .ok (.if_icmp .eq (15), 3) := by decide +kernel
theorem dM_source_24 : decode cM_source 24 = .ok (.aload_n 0, 1) := by decide +kernel
theorem dM_source_25 : decode cM_source 25 = .ok (.iload_n 2, 1) := by decide +kernel
theorem dM_source_26 : decode cM_source 26 = .ok (.invokevirtual 68, 3) := by decide +kernel
theorem dM_source_29 : decode cM_source 29 = .ok (.ifCond .le (7), 3) := by decide +kernel
theorem dM_source_32 : decode cM_source 32 = .ok (.iload_n 2, 1) := by decide +kernel
theorem dM_source_33 : decode cM_source 33 = .ok (.goto (4), 3) := by decide +kernel
theorem dM_source_36 : decode cM_source 36 = .ok (.iconst (-1), 1) := by decide +kernel
theorem dM_source_37 : decode cM_source 37 = .ok (.ireturn, 1) := by decide +kernel
set_option maxHeartbeats 400000 in
set_option maxRecDepth 100000 in
theorem tM_source_18 {p : Program} {l : Launch} {e : Env} {s : State} {m : MethodId} {args : Array Value} {below : List Frame} {meth : Method} {c : Code} {D : va_G} {A : Nat → Prop} {q : Nat → Nat} {k : kM} {cI cJ : ClassId} {r : Int32} {σ : sM} {fu : Nat} (C0 : Cx p s m args meth c cM_source 3 (some .int) RM TM) (hK : va_K D cl0 [(cI, .int), (cJ, .long)] s) (hA : ∀ z, s.heap.size ≤ z → A z) : ∀ (y0 : Int32)(H : Heap) (locs : List Loc) (ls : Array Slot), fM_source_18 fu k σ y0 = some r → lv_has ls 3 [(0, .ref (q 0))] → va_P D cl0 (wdM q k cI cJ σ) H → va_D A (wdM q k cI cJ σ) → va_S A s.heap H locs → W p l e ({ frames := 4, cells := 0, slots := 0, locals := 94 }) s m args below meth c H locs 0 0 (MQ below (kQi D cl0 [(cI, .int), (cJ, .long)] (wdM q k cI cJ) A r σ) args s 0 0 A) (F0 m 18 ls [.int y0]) := by
  obtain ⟨hx, hb, hr, hml, hown, hts, hlocks⟩ := id C0
  intro y0 H locs ls hf hl hP hD hS
  unfold fM_source_18 at hf
  refine lv_istore_n (lv' := [(2, .int y0), (0, .ref (q 0))]) hx hb dM_source_18 rfl hl (by decide) rfl (fun ls hl => ?_)
  refine lv_iload_n hx hb dM_source_19 rfl (lv_at hl 0 rfl) ?_
  refine lv_iconst (v := (-1)) hx hb dM_source_20 (by decide) ?_
  refine lv_icmp_eq (tgt := 36) hx hb dM_source_21 (by decide) (fun c21 => ?_) (fun c21 => ?_)
  · have hf := (if_pos c21).symm.trans hf
    refine lv_iconst (v := (-1)) hx hb dM_source_36 (by decide) ?_
    exact kr_iret C0 hK hP hD hS (Option.some.inj hf) rfl dM_source_37
  · have hf := (if_neg c21).symm.trans hf
    refine lv_aload_n hx hb dM_source_24 rfl (lv_at hl 1 rfl) ?_
    refine lv_iload_n hx hb dM_source_25 rfl (lv_at hl 0 rfl) ?_
    obtain ⟨v26, ev26, hf⟩ := kb1 hf
    refine kr_callVi (av := [.int y0]) ⟨hx, hb, hml, hown, hts⟩ (mM_own l D q k cI cJ _ fu σ y0 v26 ev26) (cwV 1 hts (kgood_V TM_good (by decide +kernel)) rfl rfl rfl (by decide +kernel) ⟨Nat.le_of_ble_eq_true rfl, Nat.le_of_ble_eq_true rfl⟩) hK hP hD hS hA (ci := 1) (q0 := 0) rfl rfl rfl hl.1 rfl (Nat.le_of_ble_eq_true rfl) dM_source_26 ⟨Nat.le_of_ble_eq_true rfl, Nat.le_of_ble_eq_true rfl⟩ (fun H locs hP hD hS => ?_)
    refine lv_if_le (tgt := 36) hx hb dM_source_29 (by decide) (fun c29 => ?_) (fun c29 => ?_)
    · have hf := (if_pos c29).symm.trans hf
      refine lv_iconst (v := (-1)) hx hb dM_source_36 (by decide) ?_
      exact kr_iret C0 hK hP hD hS (Option.some.inj hf) rfl dM_source_37
    · have hf := (if_neg c29).symm.trans hf
      refine lv_iload_n hx hb dM_source_32 rfl (lv_at hl 0 rfl) ?_
      refine lv_goto (tgt := 37) hx hb dM_source_33 (by decide) ?_
      exact kr_iret C0 hK hP hD hS (Option.some.inj hf) rfl dM_source_37
set_option maxHeartbeats 400000 in
set_option maxRecDepth 100000 in
theorem mM_source (l : Launch) (D : va_G) (q : Nat → Nat) (k : kM) (cI cJ : ClassId) (sz : Nat) (fu : Nat) (σ : sM) (x1 : Int32) (r : Int32) (hf : fM_source fu k σ x1 = some r) : Met l yM_source (.code yM_source cM_source 3 (some .int) :: TM) ({ frames := 4, cells := 0, slots := 0, locals := 94 }) (kPre D cl0 [(cI, .int), (cJ, .long)] (wdM q k cI cJ) sz σ [.ref (q 0), .int x1]) (kQi D cl0 [(cI, .int), (cJ, .long)] (wdM q k cI cJ) (va_A (wdM q k cI cJ σ) sz) r σ) 0 0 (va_A (wdM q k cI cJ σ) sz) := by
  refine kr_start (own := RM) (by decide) rfl (Nat.le_of_ble_eq_true rfl) ?_
  intro p e s m args below meth c ls C0 hsz hK hP hD hl
  subst hsz
  obtain ⟨hx, hb, hr, hml, hown, hts, hlocks⟩ := id C0
  have hA : ∀ z : Nat, s.heap.size ≤ z → va_A (wdM q k cI cJ σ) s.heap.size z := fun z h => Or.inr h
  generalize va_A (wdM q k cI cJ σ) s.heap.size = A at hD hA ⊢
  have hS : va_S A s.heap s.heap [] := va_S.rf
  have hl : lv_has ls 3 [(0, .ref (q 0)), (1, .int x1)] := hl
  unfold fM_source at hf
  refine lv_aload_n hx hb dM_source_0 rfl (lv_at hl 0 rfl) ?_
  refine lv_iload_n hx hb dM_source_1 rfl (lv_at hl 1 rfl) ?_
  obtain ⟨v2, ev2, hf⟩ := kb1 hf
  refine kr_callVi (av := [.int x1]) ⟨hx, hb, hml, hown, hts⟩ (mM_own l D q k cI cJ _ fu σ x1 v2 ev2) (cwV 1 hts (kgood_V TM_good (by decide +kernel)) rfl rfl rfl (by decide +kernel) ⟨Nat.le_of_ble_eq_true rfl, Nat.le_of_ble_eq_true rfl⟩) hK hP hD hS hA (ci := 1) (q0 := 0) rfl rfl rfl hl.1 rfl (Nat.le_of_ble_eq_true rfl) dM_source_2 ⟨Nat.le_of_ble_eq_true rfl, Nat.le_of_ble_eq_true rfl⟩ (fun H locs hP hD hS => ?_)
  refine lv_if_le (tgt := 12) hx hb dM_source_5 (by decide) (fun c5 => ?_) (fun c5 => ?_)
  · have hf := (if_pos c5).symm.trans hf
    refine lv_aload_n hx hb dM_source_12 rfl (lv_at hl 0 rfl) ?_
    refine gM_filler hx hb hown hts hK hP dM_source_13 ?_
    refine lv_iload_n hx hb dM_source_16 rfl (lv_at hl 1 rfl) ?_
    obtain ⟨v17, ev17, hf⟩ := kb1 hf
    refine kr_iaload hx hb hK hP 3 0 rfl rfl ev17 dM_source_17 ?_
    exact tM_source_18 C0 hK hA v17 _ _ ls hf (lv_sub hl [0] rfl) hP hD hS
  · have hf := (if_neg c5).symm.trans hf
    refine lv_iload_n hx hb dM_source_8 rfl (lv_at hl 1 rfl) ?_
    refine lv_goto (tgt := 18) hx hb dM_source_9 (by decide) ?_
    exact tM_source_18 C0 hK hA x1 _ _ ls hf (lv_sub hl [0] rfl) hP hD hS
theorem dM_share_0 : decode cM_share 0 = .ok (.aload_n 0, 1) := by decide +kernel
theorem dM_share_1 : decode cM_share 1 = .ok (.iload_n 1, 1) := by decide +kernel
theorem dM_share_2 : decode cM_share 2 = .ok (.invokevirtual 54, 3) := by decide +kernel
theorem dM_share_5 : decode cM_share 5 = .ok (.ifCond .eq (18), 3) := by decide +kernel
theorem dM_share_8 : decode cM_share 8 = .ok (.aload_n 0, 1) := by decide +kernel
theorem dM_share_9 : decode cM_share 9 = .ok (.iload_n 2, 1) := by decide +kernel
theorem dM_share_10 : decode cM_share 10 = .ok (.invokevirtual 58, 3) := by decide +kernel
theorem dM_share_13 : decode cM_share 13 = .ok (.ifCond .eq (10), 3) := by decide +kernel
theorem dM_share_16 : decode cM_share 16 = .ok (.iload_n 3, 1) := by decide +kernel
theorem dM_share_17 : decode cM_share 17 = .ok (.invokestatic 71, 3) := by decide +kernel
theorem dM_share_20 : decode cM_share 20 = .ok (.ifCond .ne (7), 3) := by decide +kernel
theorem dM_share_23 : decode cM_share 23 = .ok (.ldc2_w 52, 3) := by decide +kernel
theorem dM_share_26 : decode cM_share 26 = .ok (.lreturn, 1) := by decide +kernel
theorem dM_share_27 : decode cM_share 27 = .ok (.aload_n 0, 1) := by decide +kernel
theorem dM_share_28 : decode cM_share 28 = .ok (.aload_n 0, 1) := by decide +kernel
theorem dM_share_29 : decode cM_share 29 = .ok (.getfield 17, 3) := by decide +kernel
theorem dM_share_32 : decode cM_share 32 = .ok (.iload_n 1, 1) := by decide +kernel
theorem dM_share_33 : decode cM_share 33 = .ok (.iaload, 1) := by decide +kernel
theorem dM_share_34 : decode cM_share 34 = .ok (.invokevirtual 74, 3) := by decide +kernel
theorem dM_share_37 : decode cM_share 37 = .ok (.istore 4, 2) := by decide +kernel
theorem dM_share_39 : decode cM_share 39 = .ok (.iload 4, 2) := by decide +kernel
theorem dM_share_41 : decode cM_share 41 = .ok (.iconst (-1), 1) := by decide +kernel
theorem dM_share_42 : decode cM_share 42 = .ok (.if_icmp .ne (9), 3) := by decide +kernel
theorem dM_share_45 : decode cM_share 45 = .ok (.ldc2_w 52, 3) := by decide +kernel
theorem dM_share_48 : decode cM_share 48 = .ok (.goto (26), 3) := by decide +kernel
theorem dM_share_51 : decode cM_share 51 = .ok (.aload_n 0, 1) := by decide +kernel
theorem dM_share_52 : decode cM_share 52 = .ok (.iload 4, 2) := by decide +kernel
theorem dM_share_54 : decode cM_share 54 = .ok (.aload_n 0, 1) := by decide +kernel
theorem dM_share_55 : decode cM_share 55 = .ok (.getfield 13, 3) := by decide +kernel
theorem dM_share_58 : decode cM_share 58 = .ok (.iload_n 2, 1) := by decide +kernel
theorem dM_share_59 : decode cM_share 59 = .ok (.invokevirtual 61, 3) := by decide +kernel
theorem dM_share_62 : decode cM_share 62 = .ok (.i2l, 1) := by decide +kernel
theorem dM_share_63 : decode cM_share 63 = .ok (.aload_n 0, 1) := by decide +kernel
theorem dM_share_64 : decode cM_share 64 = .ok (.iload 4, 2) := by decide +kernel
theorem dM_share_66 : decode cM_share 66 = .ok (.invokevirtual 68, 3) := by decide +kernel
theorem dM_share_69 : decode cM_share 69 = .ok (.i2l, 1) := by decide +kernel
theorem dM_share_70 : decode cM_share 70 = .ok (.iload_n 3, 1) := by decide +kernel
theorem dM_share_71 : decode cM_share 71 = .ok (.invokestatic 77, 3) := by decide +kernel
theorem dM_share_74 : decode cM_share 74 = .ok (.lreturn, 1) := by decide +kernel
set_option maxHeartbeats 400000 in
set_option maxRecDepth 100000 in
theorem mM_share (l : Launch) (D : va_G) (q : Nat → Nat) (k : kM) (cI cJ : ClassId) (sz : Nat) (fu : Nat) (σ : sM) (x1 : Int32) (x2 : Int32) (x3 : Int32) (r : Int64) (hf : fM_share fu k σ x1 x2 x3 = some r) : Met l yM_share (.code yM_share cM_share 5 (some .long) :: TM) ({ frames := 5, cells := 0, slots := 0, locals := 116 }) (kPre D cl0 [(cI, .int), (cJ, .long)] (wdM q k cI cJ) sz σ [.ref (q 0), .int x1, .int x2, .int x3]) (kQl D cl0 [(cI, .int), (cJ, .long)] (wdM q k cI cJ) (va_A (wdM q k cI cJ σ) sz) r σ) 0 0 (va_A (wdM q k cI cJ σ) sz) := by
  refine kr_start (own := RM) (by decide) rfl (Nat.le_of_ble_eq_true rfl) ?_
  intro p e s m args below meth c ls C0 hsz hK hP hD hl
  subst hsz
  obtain ⟨hx, hb, hr, hml, hown, hts, hlocks⟩ := id C0
  have hA : ∀ z : Nat, s.heap.size ≤ z → va_A (wdM q k cI cJ σ) s.heap.size z := fun z h => Or.inr h
  generalize va_A (wdM q k cI cJ σ) s.heap.size = A at hD hA ⊢
  have hS : va_S A s.heap s.heap [] := va_S.rf
  have hl : lv_has ls 5 [(0, .ref (q 0)), (1, .int x1), (2, .int x2), (3, .int x3)] := hl
  unfold fM_share at hf
  refine lv_aload_n hx hb dM_share_0 rfl (lv_at hl 0 rfl) ?_
  refine lv_iload_n hx hb dM_share_1 rfl (lv_at hl 1 rfl) ?_
  refine kr_callVi (av := [.int x1]) ⟨hx, hb, hml, hown, hts⟩ (mM_isClass l D q k cI cJ _ σ x1 _ rfl) (cwV 1 hts (kgood_V TM_good (by decide +kernel)) rfl rfl rfl (by decide +kernel) ⟨Nat.le_of_ble_eq_true rfl, Nat.le_of_ble_eq_true rfl⟩) hK hP hD hS hA (ci := 1) (q0 := 0) rfl rfl rfl hl.1 rfl (Nat.le_of_ble_eq_true rfl) dM_share_2 ⟨Nat.le_of_ble_eq_true rfl, Nat.le_of_ble_eq_true rfl⟩ (fun H locs hP hD hS => ?_)
  refine lv_if_eq (tgt := 23) hx hb dM_share_5 (by decide) (fun c5 => ?_) (fun c5 => ?_)
  · have hf := (if_pos c5).symm.trans hf
    refine lv_ldc2 (v := -1) hx hb hown (hts (.constantLong RM 52 (-1)) (by decide +kernel)) dM_share_23 ?_
    exact kr_lret C0 hK hP hD hS (Option.some.inj hf) rfl dM_share_26
  · have hf := (if_neg c5).symm.trans hf
    refine lv_aload_n hx hb dM_share_8 rfl (lv_at hl 0 rfl) ?_
    refine lv_iload_n hx hb dM_share_9 rfl (lv_at hl 2 rfl) ?_
    refine kr_callVi (av := [.int x2]) ⟨hx, hb, hml, hown, hts⟩ (mM_isAge l D q k cI cJ _ σ x2 _ rfl) (cwV 1 hts (kgood_V TM_good (by decide +kernel)) rfl rfl rfl (by decide +kernel) ⟨Nat.le_of_ble_eq_true rfl, Nat.le_of_ble_eq_true rfl⟩) hK hP hD hS hA (ci := 1) (q0 := 0) rfl rfl rfl hl.1 rfl (Nat.le_of_ble_eq_true rfl) dM_share_10 ⟨Nat.le_of_ble_eq_true rfl, Nat.le_of_ble_eq_true rfl⟩ (fun H locs hP hD hS => ?_)
    refine lv_if_eq (tgt := 23) hx hb dM_share_13 (by decide) (fun c13 => ?_) (fun c13 => ?_)
    · have hf := (if_pos c13).symm.trans hf
      refine lv_ldc2 (v := -1) hx hb hown (hts (.constantLong RM 52 (-1)) (by decide +kernel)) dM_share_23 ?_
      exact kr_lret C0 hK hP hD hS (Option.some.inj hf) rfl dM_share_26
    · have hf := (if_neg c13).symm.trans hf
      refine lv_iload_n hx hb dM_share_16 rfl (lv_at hl 3 rfl) ?_
      refine kr_callSi (av := [.int x3]) ⟨hx, hb, hml, hown, hts⟩ (mM_isPart l D _ (wdM q k cI cJ) [(cI, .int), (cJ, .long)] cl0 _ σ x3 _ rfl) (cwS 1 hts (kgood_S TM_good (by decide +kernel)) rfl rfl rfl (by decide +kernel) ⟨Nat.le_of_ble_eq_true rfl, Nat.le_of_ble_eq_true rfl⟩) hK hP hD hS hA rfl hl.1 rfl (Nat.le_of_ble_eq_true rfl) dM_share_17 ⟨Nat.le_of_ble_eq_true rfl, Nat.le_of_ble_eq_true rfl⟩ (fun H locs hP hD hS => ?_)
      refine lv_if_ne (tgt := 27) hx hb dM_share_20 (by decide) (fun c20 => ?_) (fun c20 => ?_)
      · have hf := (if_neg c20).symm.trans hf
        refine lv_aload_n hx hb dM_share_27 rfl (lv_at hl 0 rfl) ?_
        refine lv_aload_n hx hb dM_share_28 rfl (lv_at hl 0 rfl) ?_
        refine gM_group hx hb hown hts hK hP dM_share_29 ?_
        refine lv_iload_n hx hb dM_share_32 rfl (lv_at hl 1 rfl) ?_
        obtain ⟨v33, ev33, hf⟩ := kb1 hf
        refine kr_iaload hx hb hK hP 2 0 rfl rfl ev33 dM_share_33 ?_
        obtain ⟨v34, ev34, hf⟩ := kb1 hf
        refine kr_callVi (av := [.int v33]) ⟨hx, hb, hml, hown, hts⟩ (mM_source l D q k cI cJ _ fu σ v33 v34 ev34) (cwV 1 hts (kgood_V TM_good (by decide +kernel)) rfl rfl rfl (by decide +kernel) ⟨Nat.le_of_ble_eq_true rfl, Nat.le_of_ble_eq_true rfl⟩) hK hP hD hS hA (ci := 1) (q0 := 0) rfl rfl rfl hl.1 rfl (Nat.le_of_ble_eq_true rfl) dM_share_34 ⟨Nat.le_of_ble_eq_true rfl, Nat.le_of_ble_eq_true rfl⟩ (fun H locs hP hD hS => ?_)
        refine lv_istore (lv' := [(4, .int v34), (0, .ref (q 0)), (1, .int x1), (2, .int x2), (3, .int x3)]) hx hb dM_share_37 hl (by decide) rfl (fun ls hl => ?_)
        refine lv_iload hx hb dM_share_39 (lv_at hl 0 rfl) ?_
        refine lv_iconst (v := (-1)) hx hb dM_share_41 (by decide) ?_
        refine lv_icmp_ne (tgt := 51) hx hb dM_share_42 (by decide) (fun c42 => ?_) (fun c42 => ?_)
        · have hf := (if_neg c42).symm.trans hf
          refine lv_aload_n hx hb dM_share_51 rfl (lv_at hl 1 rfl) ?_
          refine lv_iload hx hb dM_share_52 (lv_at hl 0 rfl) ?_
          refine lv_aload_n hx hb dM_share_54 rfl (lv_at hl 1 rfl) ?_
          refine gM_chosen hx hb hown hts hK hP dM_share_55 ?_
          refine lv_iload_n hx hb dM_share_58 rfl (lv_at hl 3 rfl) ?_
          obtain ⟨v59, ev59, hf⟩ := kb1 hf
          refine kr_callVi (av := [.int v34, .int (sM_chosen σ), .int x2]) ⟨hx, hb, hml, hown, hts⟩ (mM_inGroup l D q k cI cJ _ fu σ v34 (sM_chosen σ) x2 v59 ev59) (cwV 3 hts (kgood_V TM_good (by decide +kernel)) rfl rfl rfl (by decide +kernel) ⟨Nat.le_of_ble_eq_true rfl, Nat.le_of_ble_eq_true rfl⟩) hK hP hD hS hA (ci := 1) (q0 := 0) rfl rfl rfl hl.1 rfl (Nat.le_of_ble_eq_true rfl) dM_share_59 ⟨Nat.le_of_ble_eq_true rfl, Nat.le_of_ble_eq_true rfl⟩ (fun H locs hP hD hS => ?_)
          refine lv_i2l (v := v59.toInt64) hx hb dM_share_62 rfl ?_
          refine lv_aload_n hx hb dM_share_63 rfl (lv_at hl 1 rfl) ?_
          refine lv_iload hx hb dM_share_64 (lv_at hl 0 rfl) ?_
          obtain ⟨v66, ev66, hf⟩ := kb1 hf
          refine kr_callVi (av := [.int v34]) ⟨hx, hb, hml, hown, hts⟩ (mM_own l D q k cI cJ _ fu σ v34 v66 ev66) (cwV 1 hts (kgood_V TM_good (by decide +kernel)) rfl rfl rfl (by decide +kernel) ⟨Nat.le_of_ble_eq_true rfl, Nat.le_of_ble_eq_true rfl⟩) hK hP hD hS hA (ci := 1) (q0 := 0) rfl rfl rfl hl.1 rfl (Nat.le_of_ble_eq_true rfl) dM_share_66 ⟨Nat.le_of_ble_eq_true rfl, Nat.le_of_ble_eq_true rfl⟩ (fun H locs hP hD hS => ?_)
          refine lv_i2l (v := v66.toInt64) hx hb dM_share_69 rfl ?_
          refine lv_iload_n hx hb dM_share_70 rfl (lv_at hl 4 rfl) ?_
          obtain ⟨v71, ev71, hf⟩ := kb1 hf
          refine kr_callSl (av := [.long v59.toInt64, .long v66.toInt64, .int x3]) ⟨hx, hb, hml, hown, hts⟩ (mM_partOf l D _ (wdM q k cI cJ) [(cI, .int), (cJ, .long)] cl0 _ fu σ v59.toInt64 v66.toInt64 x3 v71 ev71) (cwS 3 hts (kgood_S TM_good (by decide +kernel)) rfl rfl rfl (by decide +kernel) ⟨Nat.le_of_ble_eq_true rfl, Nat.le_of_ble_eq_true rfl⟩) hK hP hD hS hA rfl hl.1 rfl (Nat.le_of_ble_eq_true rfl) dM_share_71 ⟨Nat.le_of_ble_eq_true rfl, Nat.le_of_ble_eq_true rfl⟩ (fun H locs hP hD hS => ?_)
          exact kr_lret C0 hK hP hD hS (Option.some.inj hf) rfl dM_share_74
        · have hf := (if_pos c42).symm.trans hf
          refine lv_ldc2 (v := -1) hx hb hown (hts (.constantLong RM 52 (-1)) (by decide +kernel)) dM_share_45 ?_
          refine lv_goto (tgt := 74) hx hb dM_share_48 (by decide) ?_
          exact kr_lret C0 hK hP hD hS (Option.some.inj hf) rfl dM_share_74
      · have hf := (if_pos c20).symm.trans hf
        refine lv_ldc2 (v := -1) hx hb hown (hts (.constantLong RM 52 (-1)) (by decide +kernel)) dM_share_23 ?_
        exact kr_lret C0 hK hP hD hS (Option.some.inj hf) rfl dM_share_26
theorem dM_empty_0 : decode cM_empty 0 = .ok (.iconst 0, 1) := by decide +kernel
theorem dM_empty_1 : decode cM_empty 1 = .ok (.istore_n 2, 1) := by decide +kernel
theorem dM_empty_2 : decode cM_empty 2 = .ok (.iconst 0, 1) := by decide +kernel
theorem dM_empty_3 : decode cM_empty 3 = .ok (.istore_n 3, 1) := by decide +kernel
theorem dM_empty_4 : decode cM_empty 4 = .ok (.iload_n 3, 1) := by decide +kernel
theorem dM_empty_5 : decode cM_empty 5 = .ok (.aload_n 0, 1) := by decide +kernel
theorem dM_empty_6 : decode cM_empty 6 = .ok (.getfield 39, 3) := by decide +kernel
theorem dM_empty_9 : decode cM_empty 9 = .ok (.if_icmp .ge (47), 3) := by decide +kernel
theorem dM_empty_12 : decode cM_empty 12 = .ok (.aload_n 0, 1) := by decide +kernel
theorem dM_empty_13 : decode cM_empty 13 = .ok (.getfield 17, 3) := by decide +kernel
theorem dM_empty_16 : decode cM_empty 16 = .ok (.iload_n 3, 1) := by decide +kernel
theorem dM_empty_17 : decode cM_empty 17 = .ok (.iaload, 1) := by decide +kernel
theorem dM_empty_18 : decode cM_empty 18 = .ok (.iload_n 3, 1) := by decide +kernel
theorem dM_empty_19 : decode cM_empty 19 = .ok (.if_icmp .ne (31), 3) := by decide +kernel
theorem dM_empty_22 : decode cM_empty 22 = .ok (.aload_n 0, 1) := by decide +kernel
theorem dM_empty_23 : decode cM_empty 23 = .ok (.iload_n 3, 1) := by decide +kernel
theorem dM_empty_24 : decode cM_empty 24 = .ok (.invokevirtual 68, 3) := by decide +kernel
theorem dM_empty_27 : decode cM_empty 27 = .ok (.ifCond .ne (23), 3) := by decide +kernel
theorem dM_empty_30 : decode cM_empty 30 = .ok (.aload_n 0, 1) := by decide +kernel
theorem dM_empty_31 : decode cM_empty 31 = .ok (.getfield 20, 3) := by decide +kernel
theorem dM_empty_34 : decode cM_empty 34 = .ok (.iload_n 3, 1) := by decide +kernel
theorem dM_empty_35 : decode cM_empty 35 = .ok (.iaload, 1) := by decide +kernel
theorem dM_empty_36 : decode cM_empty 36 = .ok (.iconst (-1), 1) := by decide +kernel
theorem dM_empty_37 : decode cM_empty 37 = .ok (.if_icmp .ne (13), 3) := by decide +kernel
theorem dM_empty_40 : decode cM_empty 40 = .ok (.iload_n 2, 1) := by decide +kernel
theorem dM_empty_41 : decode cM_empty 41 = .ok (.iload_n 1, 1) := by decide +kernel
theorem dM_empty_42 : decode cM_empty 42 = .ok (.if_icmp .ne (5), 3) := by decide +kernel
theorem dM_empty_45 : decode cM_empty 45 = .ok (.iload_n 3, 1) := by decide +kernel
theorem dM_empty_46 : decode cM_empty 46 = .ok (.ireturn, 1) := by decide +kernel
theorem dM_empty_47 : decode cM_empty 47 = .ok (.iinc 2 (1), 3) := by decide +kernel
theorem dM_empty_50 : decode cM_empty 50 = .ok (.iinc 3 (1), 3) := by decide +kernel
theorem dM_empty_53 : decode cM_empty 53 = .ok (.goto (-49), 3) := by decide +kernel
theorem dM_empty_56 : decode cM_empty 56 = .ok (.iconst (-1), 1) := by decide +kernel
theorem dM_empty_57 : decode cM_empty 57 = .ok (.ireturn, 1) := by decide +kernel
set_option maxHeartbeats 400000 in
set_option maxRecDepth 100000 in
theorem tM_empty_4 {p : Program} {l : Launch} {e : Env} {s : State} {m : MethodId} {args : Array Value} {below : List Frame} {meth : Method} {c : Code} {D : va_G} {A : Nat → Prop} {q : Nat → Nat} {k : kM} {cI cJ : ClassId} {r : Int32} {σ : sM} {fu : Nat} (C0 : Cx p s m args meth c cM_empty 4 (some .int) RM TM) (hK : va_K D cl0 [(cI, .int), (cJ, .long)] s) (hA : ∀ z, s.heap.size ≤ z → A z) : ∀ n : Nat, ∀ (x1 : Int32) (x2 : Int32) (x3 : Int32)(H : Heap) (locs : List Loc) (ls : Array Slot), fM_empty_4 fu k σ n x1 x2 x3 = some r → lv_has ls 4 [(0, .ref (q 0)), (1, .int x1), (2, .int x2), (3, .int x3)] → va_P D cl0 (wdM q k cI cJ σ) H → va_D A (wdM q k cI cJ σ) → va_S A s.heap H locs → W p l e ({ frames := 4, cells := 0, slots := 0, locals := 94 }) s m args below meth c H locs 0 0 (MQ below (kQi D cl0 [(cI, .int), (cJ, .long)] (wdM q k cI cJ) A r σ) args s 0 0 A) (F0 m 4 ls []) := by
  obtain ⟨hx, hb, hr, hml, hown, hts, hlocks⟩ := id C0
  intro n
  induction n with
  | zero =>
    intro x1 x2 x3 H locs ls hf hl hP hD hS
    cases hf
  | succ n ih =>
    intro x1 x2 x3 H locs ls hf hl hP hD hS
    rw [fM_empty_4] at hf
    refine lv_iload_n hx hb dM_empty_4 rfl (lv_at hl 3 rfl) ?_
    refine lv_aload_n hx hb dM_empty_5 rfl (lv_at hl 0 rfl) ?_
    refine gM_classes hx hb hown hts hK hP dM_empty_6 ?_
    refine lv_icmp_ge (tgt := 56) hx hb dM_empty_9 (by decide) (fun c9 => ?_) (fun c9 => ?_)
    · have hf := (if_pos c9).symm.trans hf
      refine lv_iconst (v := (-1)) hx hb dM_empty_56 (by decide) ?_
      exact kr_iret C0 hK hP hD hS (Option.some.inj hf) rfl dM_empty_57
    · have hf := (if_neg c9).symm.trans hf
      refine lv_aload_n hx hb dM_empty_12 rfl (lv_at hl 0 rfl) ?_
      refine gM_group hx hb hown hts hK hP dM_empty_13 ?_
      refine lv_iload_n hx hb dM_empty_16 rfl (lv_at hl 3 rfl) ?_
      obtain ⟨v17, ev17, hf⟩ := kb1 hf
      refine kr_iaload hx hb hK hP 2 0 rfl rfl ev17 dM_empty_17 ?_
      refine lv_iload_n hx hb dM_empty_18 rfl (lv_at hl 3 rfl) ?_
      refine lv_icmp_ne (tgt := 50) hx hb dM_empty_19 (by decide) (fun c19 => ?_) (fun c19 => ?_)
      · have hf := (if_neg c19).symm.trans hf
        refine lv_iinc (v := (x3 + 1)) (lv' := [(3, .int (x3 + 1)), (0, .ref (q 0)), (1, .int x1), (2, .int x2)]) hx hb dM_empty_50 hl (k := 3) rfl rfl (by decide) rfl (fun ls hl => ?_)
        refine lv_goto (tgt := 4) hx hb dM_empty_53 (by decide) ?_
        exact ih x1 x2 (x3 + 1) _ _ ls hf (lv_sub hl [1, 2, 3, 0] rfl) hP hD hS
      · have hf := (if_pos c19).symm.trans hf
        refine lv_aload_n hx hb dM_empty_22 rfl (lv_at hl 0 rfl) ?_
        refine lv_iload_n hx hb dM_empty_23 rfl (lv_at hl 3 rfl) ?_
        obtain ⟨v24, ev24, hf⟩ := kb1 hf
        refine kr_callVi (av := [.int x3]) ⟨hx, hb, hml, hown, hts⟩ (mM_own l D q k cI cJ _ fu σ x3 v24 ev24) (cwV 1 hts (kgood_V TM_good (by decide +kernel)) rfl rfl rfl (by decide +kernel) ⟨Nat.le_of_ble_eq_true rfl, Nat.le_of_ble_eq_true rfl⟩) hK hP hD hS hA (ci := 1) (q0 := 0) rfl rfl rfl hl.1 rfl (Nat.le_of_ble_eq_true rfl) dM_empty_24 ⟨Nat.le_of_ble_eq_true rfl, Nat.le_of_ble_eq_true rfl⟩ (fun H locs hP hD hS => ?_)
        refine lv_if_ne (tgt := 50) hx hb dM_empty_27 (by decide) (fun c27 => ?_) (fun c27 => ?_)
        · have hf := (if_neg c27).symm.trans hf
          refine lv_iinc (v := (x3 + 1)) (lv' := [(3, .int (x3 + 1)), (0, .ref (q 0)), (1, .int x1), (2, .int x2)]) hx hb dM_empty_50 hl (k := 3) rfl rfl (by decide) rfl (fun ls hl => ?_)
          refine lv_goto (tgt := 4) hx hb dM_empty_53 (by decide) ?_
          exact ih x1 x2 (x3 + 1) _ _ ls hf (lv_sub hl [1, 2, 3, 0] rfl) hP hD hS
        · have hf := (if_pos c27).symm.trans hf
          refine lv_aload_n hx hb dM_empty_30 rfl (lv_at hl 0 rfl) ?_
          refine gM_filler hx hb hown hts hK hP dM_empty_31 ?_
          refine lv_iload_n hx hb dM_empty_34 rfl (lv_at hl 3 rfl) ?_
          obtain ⟨v35, ev35, hf⟩ := kb1 hf
          refine kr_iaload hx hb hK hP 3 0 rfl rfl ev35 dM_empty_35 ?_
          refine lv_iconst (v := (-1)) hx hb dM_empty_36 (by decide) ?_
          refine lv_icmp_ne (tgt := 50) hx hb dM_empty_37 (by decide) (fun c37 => ?_) (fun c37 => ?_)
          · have hf := (if_neg c37).symm.trans hf
            refine lv_iinc (v := (x3 + 1)) (lv' := [(3, .int (x3 + 1)), (0, .ref (q 0)), (1, .int x1), (2, .int x2)]) hx hb dM_empty_50 hl (k := 3) rfl rfl (by decide) rfl (fun ls hl => ?_)
            refine lv_goto (tgt := 4) hx hb dM_empty_53 (by decide) ?_
            exact ih x1 x2 (x3 + 1) _ _ ls hf (lv_sub hl [1, 2, 3, 0] rfl) hP hD hS
          · have hf := (if_pos c37).symm.trans hf
            refine lv_iload_n hx hb dM_empty_40 rfl (lv_at hl 2 rfl) ?_
            refine lv_iload_n hx hb dM_empty_41 rfl (lv_at hl 1 rfl) ?_
            refine lv_icmp_ne (tgt := 47) hx hb dM_empty_42 (by decide) (fun c42 => ?_) (fun c42 => ?_)
            · have hf := (if_neg c42).symm.trans hf
              refine lv_iinc (v := (x2 + 1)) (lv' := [(2, .int (x2 + 1)), (0, .ref (q 0)), (1, .int x1), (3, .int x3)]) hx hb dM_empty_47 hl (k := 2) rfl rfl (by decide) rfl (fun ls hl => ?_)
              refine lv_iinc (v := (x3 + 1)) (lv' := [(3, .int (x3 + 1)), (2, .int (x2 + 1)), (0, .ref (q 0)), (1, .int x1)]) hx hb dM_empty_50 hl (k := 3) rfl rfl (by decide) rfl (fun ls hl => ?_)
              refine lv_goto (tgt := 4) hx hb dM_empty_53 (by decide) ?_
              exact ih x1 (x2 + 1) (x3 + 1) _ _ ls hf (lv_sub hl [2, 3, 1, 0] rfl) hP hD hS
            · have hf := (if_pos c42).symm.trans hf
              refine lv_iload_n hx hb dM_empty_45 rfl (lv_at hl 3 rfl) ?_
              exact kr_iret C0 hK hP hD hS (Option.some.inj hf) rfl dM_empty_46
set_option maxHeartbeats 400000 in
set_option maxRecDepth 100000 in
theorem mM_empty (l : Launch) (D : va_G) (q : Nat → Nat) (k : kM) (cI cJ : ClassId) (sz : Nat) (fu : Nat) (σ : sM) (x1 : Int32) (r : Int32) (hf : fM_empty fu k σ x1 = some r) : Met l yM_empty (.code yM_empty cM_empty 4 (some .int) :: TM) ({ frames := 4, cells := 0, slots := 0, locals := 94 }) (kPre D cl0 [(cI, .int), (cJ, .long)] (wdM q k cI cJ) sz σ [.ref (q 0), .int x1]) (kQi D cl0 [(cI, .int), (cJ, .long)] (wdM q k cI cJ) (va_A (wdM q k cI cJ σ) sz) r σ) 0 0 (va_A (wdM q k cI cJ σ) sz) := by
  refine kr_start (own := RM) (by decide) rfl (Nat.le_of_ble_eq_true rfl) ?_
  intro p e s m args below meth c ls C0 hsz hK hP hD hl
  subst hsz
  obtain ⟨hx, hb, hr, hml, hown, hts, hlocks⟩ := id C0
  have hA : ∀ z : Nat, s.heap.size ≤ z → va_A (wdM q k cI cJ σ) s.heap.size z := fun z h => Or.inr h
  generalize va_A (wdM q k cI cJ σ) s.heap.size = A at hD hA ⊢
  have hS : va_S A s.heap s.heap [] := va_S.rf
  have hl : lv_has ls 4 [(0, .ref (q 0)), (1, .int x1)] := hl
  unfold fM_empty at hf
  refine lv_iconst (v := 0) hx hb dM_empty_0 (by decide) ?_
  refine lv_istore_n (lv' := [(2, .int 0), (0, .ref (q 0)), (1, .int x1)]) hx hb dM_empty_1 rfl hl (by decide) rfl (fun ls hl => ?_)
  refine lv_iconst (v := 0) hx hb dM_empty_2 (by decide) ?_
  refine lv_istore_n (lv' := [(3, .int 0), (2, .int 0), (0, .ref (q 0)), (1, .int x1)]) hx hb dM_empty_3 rfl hl (by decide) rfl (fun ls hl => ?_)
  exact tM_empty_4 C0 hK hA fu x1 0 0 _ _ ls hf (lv_sub hl [2, 3, 1, 0] rfl) hP hD hS
theorem dM_distance_0 : decode cM_distance 0 = .ok (.bipush (100), 2) := by decide +kernel
theorem dM_distance_2 : decode cM_distance 2 = .ok (.istore_n 3, 1) := by decide +kernel
theorem dM_distance_3 : decode cM_distance 3 = .ok (.iconst 0, 1) := by decide +kernel
theorem dM_distance_4 : decode cM_distance 4 = .ok (.istore 4, 2) := by decide +kernel
theorem dM_distance_6 : decode cM_distance 6 = .ok (.iload 4, 2) := by decide +kernel
theorem dM_distance_8 : decode cM_distance 8 = .ok (.aload_n 0, 1) := by decide +kernel
theorem dM_distance_9 : decode cM_distance 9 = .ok (.getfield 39, 3) := by decide +kernel
theorem dM_distance_12 : decode cM_distance 12 = .ok (.if_icmp .ge (84), 3) := by decide +kernel
theorem dM_distance_15 : decode cM_distance 15 = .ok (.iconst 0, 1) := by decide +kernel
theorem dM_distance_16 : decode cM_distance 16 = .ok (.istore 5, 2) := by decide +kernel
theorem dM_distance_18 : decode cM_distance 18 = .ok (.iload 5, 2) := by decide +kernel
theorem dM_distance_20 : decode cM_distance 20 = .ok (.aload_n 0, 1) := by decide +kernel
theorem dM_distance_21 : decode cM_distance 21 = .ok (.getfield 39, 3) := by decide +kernel
theorem dM_distance_24 : decode cM_distance 24 = .ok (.if_icmp .ge (66), 3) := by decide +kernel
theorem dM_distance_27 : decode cM_distance 27 = .ok (.iload 4, 2) := by decide +kernel
theorem dM_distance_29 : decode cM_distance 29 = .ok (.iload 5, 2) := by decide +kernel
theorem dM_distance_31 : decode cM_distance 31 = .ok (.if_icmp .ge (11), 3) := by decide +kernel
theorem dM_distance_34 : decode cM_distance 34 = .ok (.iload 5, 2) := by decide +kernel
theorem dM_distance_36 : decode cM_distance 36 = .ok (.iload 4, 2) := by decide +kernel
theorem dM_distance_38 : decode cM_distance 38 = .ok (.isub, 1) := by decide +kernel
theorem dM_distance_39 : decode cM_distance 39 = .ok (.goto (8), 3) := by decide +kernel
theorem dM_distance_42 : decode cM_distance 42 = .ok (.iload 4, 2) := by decide +kernel
theorem dM_distance_44 : decode cM_distance 44 = .ok (.iload 5, 2) := by decide +kernel
theorem dM_distance_46 : decode cM_distance 46 = .ok (.isub, 1) := by decide +kernel
theorem dM_distance_47 : decode cM_distance 47 = .ok (.istore 6, 2) := by decide +kernel
theorem dM_distance_49 : decode cM_distance 49 = .ok (.aload_n 0, 1) := by decide +kernel
theorem dM_distance_50 : decode cM_distance 50 = .ok (.getfield 17, 3) := by decide +kernel
theorem dM_distance_53 : decode cM_distance 53 = .ok (.iload 4, 2) := by decide +kernel
theorem dM_distance_55 : decode cM_distance 55 = .ok (.iaload, 1) := by decide +kernel
theorem dM_distance_56 : decode cM_distance 56 = .ok (.iload_n 1, 1) := by decide +kernel
theorem dM_distance_57 : decode cM_distance 57 = .ok (.if_icmp .ne (25), 3) := by decide +kernel
theorem dM_distance_60 : decode cM_distance 60 = .ok (.aload_n 0, 1) := by decide +kernel
theorem dM_distance_61 : decode cM_distance 61 = .ok (.getfield 17, 3) := by decide +kernel
theorem dM_distance_64 : decode cM_distance 64 = .ok (.iload 5, 2) := by decide +kernel
theorem dM_distance_66 : decode cM_distance 66 = .ok (.iaload, 1) := by decide +kernel
theorem dM_distance_67 : decode cM_distance 67 = .ok (.iload_n 2, 1) := by decide +kernel
theorem dM_distance_68 : decode cM_distance 68 = .ok (.if_icmp .ne (14), 3) := by decide +kernel
theorem dM_distance_71 : decode cM_distance 71 = .ok (.iload 6, 2) := by decide +kernel
theorem dM_distance_73 : decode cM_distance 73 = .ok (.iload_n 3, 1) := by decide +kernel
theorem dM_distance_74 : decode cM_distance 74 = .ok (.if_icmp .ge (8), 3) := by decide +kernel
theorem dM_distance_77 : decode cM_distance 77 = .ok (.iload 6, 2) := by decide +kernel
theorem dM_distance_79 : decode cM_distance 79 = .ok (.goto (4), 3) := by decide +kernel
theorem dM_distance_82 : decode cM_distance 82 = .ok (.iload_n 3, 1) := by decide +kernel
theorem dM_distance_83 : decode cM_distance 83 = .ok (.istore_n 3, 1) := by decide +kernel
theorem dM_distance_84 : decode cM_distance 84 = .ok (.iinc 5 (1), 3) := by decide +kernel
theorem dM_distance_87 : decode cM_distance 87 = .ok (.goto (-69), 3) := by decide +kernel
theorem dM_distance_90 : decode cM_distance 90 = .ok (.iinc 4 (1), 3) := by decide +kernel
theorem dM_distance_93 : decode cM_distance 93 = .ok (.goto (-87), 3) := by decide +kernel
theorem dM_distance_96 : decode cM_distance 96 = .ok (.iload_n 3, 1) := by decide +kernel
theorem dM_distance_97 : decode cM_distance 97 = .ok (.ireturn, 1) := by decide +kernel
set_option maxHeartbeats 400000 in
set_option maxRecDepth 100000 in
theorem tM_distance_83 {p : Program} {l : Launch} {e : Env} {s : State} {m : MethodId} {args : Array Value} {below : List Frame} {meth : Method} {c : Code} {D : va_G} {A : Nat → Prop} {q : Nat → Nat} {k : kM} {cI cJ : ClassId} {r : Int32} {σ : sM} {fu : Nat} {h6 : Int32 → Int32 → Int32 → Int32 → Option Int32} {h18 : Int32 → Int32 → Int32 → Int32 → Int32 → Option Int32} (C0 : Cx p s m args meth c cM_distance 7 (some .int) RM TM) (hK : va_K D cl0 [(cI, .int), (cJ, .long)] s) (hA : ∀ z, s.heap.size ≤ z → A z) (ih6 : ∀ (x1 : Int32) (x2 : Int32) (x3 : Int32) (x4 : Int32)(H : Heap) (locs : List Loc) (ls : Array Slot), h6 x1 x2 x3 x4 = some r → lv_has ls 7 [(0, .ref (q 0)), (1, .int x1), (2, .int x2), (3, .int x3), (4, .int x4)] → va_P D cl0 (wdM q k cI cJ σ) H → va_D A (wdM q k cI cJ σ) → va_S A s.heap H locs → W p l e ({ frames := 0, cells := 0, slots := 0, locals := 0 }) s m args below meth c H locs 0 0 (MQ below (kQi D cl0 [(cI, .int), (cJ, .long)] (wdM q k cI cJ) A r σ) args s 0 0 A) (F0 m 6 ls [])) (ih18 : ∀ (x1 : Int32) (x2 : Int32) (x3 : Int32) (x4 : Int32) (x5 : Int32)(H : Heap) (locs : List Loc) (ls : Array Slot), h18 x1 x2 x3 x4 x5 = some r → lv_has ls 7 [(0, .ref (q 0)), (1, .int x1), (2, .int x2), (3, .int x3), (4, .int x4), (5, .int x5)] → va_P D cl0 (wdM q k cI cJ σ) H → va_D A (wdM q k cI cJ σ) → va_S A s.heap H locs → W p l e ({ frames := 0, cells := 0, slots := 0, locals := 0 }) s m args below meth c H locs 0 0 (MQ below (kQi D cl0 [(cI, .int), (cJ, .long)] (wdM q k cI cJ) A r σ) args s 0 0 A) (F0 m 18 ls [])) : ∀ (y0 : Int32) (x1 : Int32) (x2 : Int32) (x4 : Int32) (x5 : Int32)(H : Heap) (locs : List Loc) (ls : Array Slot), fM_distance_83 fu k σ h6 h18 y0 x1 x2 x4 x5 = some r → lv_has ls 7 [(0, .ref (q 0)), (1, .int x1), (2, .int x2), (4, .int x4), (5, .int x5)] → va_P D cl0 (wdM q k cI cJ σ) H → va_D A (wdM q k cI cJ σ) → va_S A s.heap H locs → W p l e ({ frames := 0, cells := 0, slots := 0, locals := 0 }) s m args below meth c H locs 0 0 (MQ below (kQi D cl0 [(cI, .int), (cJ, .long)] (wdM q k cI cJ) A r σ) args s 0 0 A) (F0 m 83 ls [.int y0]) := by
  obtain ⟨hx, hb, hr, hml, hown, hts, hlocks⟩ := id C0
  intro y0 x1 x2 x4 x5 H locs ls hf hl hP hD hS
  unfold fM_distance_83 at hf
  refine lv_istore_n (lv' := [(3, .int y0), (0, .ref (q 0)), (1, .int x1), (2, .int x2), (4, .int x4), (5, .int x5)]) hx hb dM_distance_83 rfl hl (by decide) rfl (fun ls hl => ?_)
  refine lv_iinc (v := (x5 + 1)) (lv' := [(5, .int (x5 + 1)), (3, .int y0), (0, .ref (q 0)), (1, .int x1), (2, .int x2), (4, .int x4)]) hx hb dM_distance_84 hl (k := 5) rfl rfl (by decide) rfl (fun ls hl => ?_)
  refine lv_goto (tgt := 18) hx hb dM_distance_87 (by decide) ?_
  exact ih18 x1 x2 y0 x4 (x5 + 1) _ _ ls hf (lv_sub hl [2, 3, 4, 1, 5, 0] rfl) hP hD hS
set_option maxHeartbeats 400000 in
set_option maxRecDepth 100000 in
theorem tM_distance_82 {p : Program} {l : Launch} {e : Env} {s : State} {m : MethodId} {args : Array Value} {below : List Frame} {meth : Method} {c : Code} {D : va_G} {A : Nat → Prop} {q : Nat → Nat} {k : kM} {cI cJ : ClassId} {r : Int32} {σ : sM} {fu : Nat} {h6 : Int32 → Int32 → Int32 → Int32 → Option Int32} {h18 : Int32 → Int32 → Int32 → Int32 → Int32 → Option Int32} (C0 : Cx p s m args meth c cM_distance 7 (some .int) RM TM) (hK : va_K D cl0 [(cI, .int), (cJ, .long)] s) (hA : ∀ z, s.heap.size ≤ z → A z) (ih6 : ∀ (x1 : Int32) (x2 : Int32) (x3 : Int32) (x4 : Int32)(H : Heap) (locs : List Loc) (ls : Array Slot), h6 x1 x2 x3 x4 = some r → lv_has ls 7 [(0, .ref (q 0)), (1, .int x1), (2, .int x2), (3, .int x3), (4, .int x4)] → va_P D cl0 (wdM q k cI cJ σ) H → va_D A (wdM q k cI cJ σ) → va_S A s.heap H locs → W p l e ({ frames := 0, cells := 0, slots := 0, locals := 0 }) s m args below meth c H locs 0 0 (MQ below (kQi D cl0 [(cI, .int), (cJ, .long)] (wdM q k cI cJ) A r σ) args s 0 0 A) (F0 m 6 ls [])) (ih18 : ∀ (x1 : Int32) (x2 : Int32) (x3 : Int32) (x4 : Int32) (x5 : Int32)(H : Heap) (locs : List Loc) (ls : Array Slot), h18 x1 x2 x3 x4 x5 = some r → lv_has ls 7 [(0, .ref (q 0)), (1, .int x1), (2, .int x2), (3, .int x3), (4, .int x4), (5, .int x5)] → va_P D cl0 (wdM q k cI cJ σ) H → va_D A (wdM q k cI cJ σ) → va_S A s.heap H locs → W p l e ({ frames := 0, cells := 0, slots := 0, locals := 0 }) s m args below meth c H locs 0 0 (MQ below (kQi D cl0 [(cI, .int), (cJ, .long)] (wdM q k cI cJ) A r σ) args s 0 0 A) (F0 m 18 ls [])) : ∀ (x1 : Int32) (x2 : Int32) (x3 : Int32) (x4 : Int32) (x5 : Int32)(H : Heap) (locs : List Loc) (ls : Array Slot), fM_distance_82 fu k σ h6 h18 x1 x2 x3 x4 x5 = some r → lv_has ls 7 [(0, .ref (q 0)), (1, .int x1), (2, .int x2), (3, .int x3), (4, .int x4), (5, .int x5)] → va_P D cl0 (wdM q k cI cJ σ) H → va_D A (wdM q k cI cJ σ) → va_S A s.heap H locs → W p l e ({ frames := 0, cells := 0, slots := 0, locals := 0 }) s m args below meth c H locs 0 0 (MQ below (kQi D cl0 [(cI, .int), (cJ, .long)] (wdM q k cI cJ) A r σ) args s 0 0 A) (F0 m 82 ls []) := by
  obtain ⟨hx, hb, hr, hml, hown, hts, hlocks⟩ := id C0
  intro x1 x2 x3 x4 x5 H locs ls hf hl hP hD hS
  unfold fM_distance_82 at hf
  refine lv_iload_n hx hb dM_distance_82 rfl (lv_at hl 3 rfl) ?_
  exact tM_distance_83 C0 hK hA ih6 ih18 x3 x1 x2 x4 x5 _ _ ls hf (lv_sub hl [0, 1, 2, 4, 5] rfl) hP hD hS
set_option maxHeartbeats 400000 in
set_option maxRecDepth 100000 in
theorem tM_distance_47 {p : Program} {l : Launch} {e : Env} {s : State} {m : MethodId} {args : Array Value} {below : List Frame} {meth : Method} {c : Code} {D : va_G} {A : Nat → Prop} {q : Nat → Nat} {k : kM} {cI cJ : ClassId} {r : Int32} {σ : sM} {fu : Nat} {h6 : Int32 → Int32 → Int32 → Int32 → Option Int32} {h18 : Int32 → Int32 → Int32 → Int32 → Int32 → Option Int32} (C0 : Cx p s m args meth c cM_distance 7 (some .int) RM TM) (hK : va_K D cl0 [(cI, .int), (cJ, .long)] s) (hA : ∀ z, s.heap.size ≤ z → A z) (ih6 : ∀ (x1 : Int32) (x2 : Int32) (x3 : Int32) (x4 : Int32)(H : Heap) (locs : List Loc) (ls : Array Slot), h6 x1 x2 x3 x4 = some r → lv_has ls 7 [(0, .ref (q 0)), (1, .int x1), (2, .int x2), (3, .int x3), (4, .int x4)] → va_P D cl0 (wdM q k cI cJ σ) H → va_D A (wdM q k cI cJ σ) → va_S A s.heap H locs → W p l e ({ frames := 0, cells := 0, slots := 0, locals := 0 }) s m args below meth c H locs 0 0 (MQ below (kQi D cl0 [(cI, .int), (cJ, .long)] (wdM q k cI cJ) A r σ) args s 0 0 A) (F0 m 6 ls [])) (ih18 : ∀ (x1 : Int32) (x2 : Int32) (x3 : Int32) (x4 : Int32) (x5 : Int32)(H : Heap) (locs : List Loc) (ls : Array Slot), h18 x1 x2 x3 x4 x5 = some r → lv_has ls 7 [(0, .ref (q 0)), (1, .int x1), (2, .int x2), (3, .int x3), (4, .int x4), (5, .int x5)] → va_P D cl0 (wdM q k cI cJ σ) H → va_D A (wdM q k cI cJ σ) → va_S A s.heap H locs → W p l e ({ frames := 0, cells := 0, slots := 0, locals := 0 }) s m args below meth c H locs 0 0 (MQ below (kQi D cl0 [(cI, .int), (cJ, .long)] (wdM q k cI cJ) A r σ) args s 0 0 A) (F0 m 18 ls [])) : ∀ (y0 : Int32) (x1 : Int32) (x2 : Int32) (x3 : Int32) (x4 : Int32) (x5 : Int32)(H : Heap) (locs : List Loc) (ls : Array Slot), fM_distance_47 fu k σ h6 h18 y0 x1 x2 x3 x4 x5 = some r → lv_has ls 7 [(0, .ref (q 0)), (1, .int x1), (2, .int x2), (3, .int x3), (4, .int x4), (5, .int x5)] → va_P D cl0 (wdM q k cI cJ σ) H → va_D A (wdM q k cI cJ σ) → va_S A s.heap H locs → W p l e ({ frames := 0, cells := 0, slots := 0, locals := 0 }) s m args below meth c H locs 0 0 (MQ below (kQi D cl0 [(cI, .int), (cJ, .long)] (wdM q k cI cJ) A r σ) args s 0 0 A) (F0 m 47 ls [.int y0]) := by
  obtain ⟨hx, hb, hr, hml, hown, hts, hlocks⟩ := id C0
  intro y0 x1 x2 x3 x4 x5 H locs ls hf hl hP hD hS
  unfold fM_distance_47 at hf
  refine lv_istore (lv' := [(6, .int y0), (0, .ref (q 0)), (1, .int x1), (2, .int x2), (3, .int x3), (4, .int x4), (5, .int x5)]) hx hb dM_distance_47 hl (by decide) rfl (fun ls hl => ?_)
  refine lv_aload_n hx hb dM_distance_49 rfl (lv_at hl 1 rfl) ?_
  refine gM_group hx hb hown hts hK hP dM_distance_50 ?_
  refine lv_iload hx hb dM_distance_53 (lv_at hl 5 rfl) ?_
  obtain ⟨v55, ev55, hf⟩ := kb1 hf
  refine kr_iaload hx hb hK hP 2 0 rfl rfl ev55 dM_distance_55 ?_
  refine lv_iload_n hx hb dM_distance_56 rfl (lv_at hl 2 rfl) ?_
  refine lv_icmp_ne (tgt := 82) hx hb dM_distance_57 (by decide) (fun c57 => ?_) (fun c57 => ?_)
  · have hf := (if_neg c57).symm.trans hf
    exact tM_distance_82 C0 hK hA ih6 ih18 x1 x2 x3 x4 x5 _ _ ls hf (lv_sub hl [1, 2, 3, 4, 5, 6] rfl) hP hD hS
  · have hf := (if_pos c57).symm.trans hf
    refine lv_aload_n hx hb dM_distance_60 rfl (lv_at hl 1 rfl) ?_
    refine gM_group hx hb hown hts hK hP dM_distance_61 ?_
    refine lv_iload hx hb dM_distance_64 (lv_at hl 6 rfl) ?_
    obtain ⟨v66, ev66, hf⟩ := kb1 hf
    refine kr_iaload hx hb hK hP 2 0 rfl rfl ev66 dM_distance_66 ?_
    refine lv_iload_n hx hb dM_distance_67 rfl (lv_at hl 3 rfl) ?_
    refine lv_icmp_ne (tgt := 82) hx hb dM_distance_68 (by decide) (fun c68 => ?_) (fun c68 => ?_)
    · have hf := (if_neg c68).symm.trans hf
      exact tM_distance_82 C0 hK hA ih6 ih18 x1 x2 x3 x4 x5 _ _ ls hf (lv_sub hl [1, 2, 3, 4, 5, 6] rfl) hP hD hS
    · have hf := (if_pos c68).symm.trans hf
      refine lv_iload hx hb dM_distance_71 (lv_at hl 0 rfl) ?_
      refine lv_iload_n hx hb dM_distance_73 rfl (lv_at hl 4 rfl) ?_
      refine lv_icmp_ge (tgt := 82) hx hb dM_distance_74 (by decide) (fun c74 => ?_) (fun c74 => ?_)
      · have hf := (if_pos c74).symm.trans hf
        exact tM_distance_82 C0 hK hA ih6 ih18 x1 x2 x3 x4 x5 _ _ ls hf (lv_sub hl [1, 2, 3, 4, 5, 6] rfl) hP hD hS
      · have hf := (if_neg c74).symm.trans hf
        refine lv_iload hx hb dM_distance_77 (lv_at hl 0 rfl) ?_
        refine lv_goto (tgt := 83) hx hb dM_distance_79 (by decide) ?_
        exact tM_distance_83 C0 hK hA ih6 ih18 y0 x1 x2 x4 x5 _ _ ls hf (lv_sub hl [1, 2, 3, 5, 6] rfl) hP hD hS
set_option maxHeartbeats 400000 in
set_option maxRecDepth 100000 in
theorem tM_distance_18 {p : Program} {l : Launch} {e : Env} {s : State} {m : MethodId} {args : Array Value} {below : List Frame} {meth : Method} {c : Code} {D : va_G} {A : Nat → Prop} {q : Nat → Nat} {k : kM} {cI cJ : ClassId} {r : Int32} {σ : sM} {fu : Nat} {h6 : Int32 → Int32 → Int32 → Int32 → Option Int32} (C0 : Cx p s m args meth c cM_distance 7 (some .int) RM TM) (hK : va_K D cl0 [(cI, .int), (cJ, .long)] s) (hA : ∀ z, s.heap.size ≤ z → A z) (ih6 : ∀ (x1 : Int32) (x2 : Int32) (x3 : Int32) (x4 : Int32)(H : Heap) (locs : List Loc) (ls : Array Slot), h6 x1 x2 x3 x4 = some r → lv_has ls 7 [(0, .ref (q 0)), (1, .int x1), (2, .int x2), (3, .int x3), (4, .int x4)] → va_P D cl0 (wdM q k cI cJ σ) H → va_D A (wdM q k cI cJ σ) → va_S A s.heap H locs → W p l e ({ frames := 0, cells := 0, slots := 0, locals := 0 }) s m args below meth c H locs 0 0 (MQ below (kQi D cl0 [(cI, .int), (cJ, .long)] (wdM q k cI cJ) A r σ) args s 0 0 A) (F0 m 6 ls [])) : ∀ n : Nat, ∀ (x1 : Int32) (x2 : Int32) (x3 : Int32) (x4 : Int32) (x5 : Int32)(H : Heap) (locs : List Loc) (ls : Array Slot), fM_distance_18 fu k σ h6 n x1 x2 x3 x4 x5 = some r → lv_has ls 7 [(0, .ref (q 0)), (1, .int x1), (2, .int x2), (3, .int x3), (4, .int x4), (5, .int x5)] → va_P D cl0 (wdM q k cI cJ σ) H → va_D A (wdM q k cI cJ σ) → va_S A s.heap H locs → W p l e ({ frames := 0, cells := 0, slots := 0, locals := 0 }) s m args below meth c H locs 0 0 (MQ below (kQi D cl0 [(cI, .int), (cJ, .long)] (wdM q k cI cJ) A r σ) args s 0 0 A) (F0 m 18 ls []) := by
  obtain ⟨hx, hb, hr, hml, hown, hts, hlocks⟩ := id C0
  intro n
  induction n with
  | zero =>
    intro x1 x2 x3 x4 x5 H locs ls hf hl hP hD hS
    cases hf
  | succ n ih =>
    intro x1 x2 x3 x4 x5 H locs ls hf hl hP hD hS
    rw [fM_distance_18] at hf
    refine lv_iload hx hb dM_distance_18 (lv_at hl 5 rfl) ?_
    refine lv_aload_n hx hb dM_distance_20 rfl (lv_at hl 0 rfl) ?_
    refine gM_classes hx hb hown hts hK hP dM_distance_21 ?_
    refine lv_icmp_ge (tgt := 90) hx hb dM_distance_24 (by decide) (fun c24 => ?_) (fun c24 => ?_)
    · have hf := (if_pos c24).symm.trans hf
      refine lv_iinc (v := (x4 + 1)) (lv' := [(4, .int (x4 + 1)), (0, .ref (q 0)), (1, .int x1), (2, .int x2), (3, .int x3), (5, .int x5)]) hx hb dM_distance_90 hl (k := 4) rfl rfl (by decide) rfl (fun ls hl => ?_)
      refine lv_goto (tgt := 6) hx hb dM_distance_93 (by decide) ?_
      exact ih6 x1 x2 x3 (x4 + 1) _ _ ls hf (lv_sub hl [1, 2, 3, 4, 0] rfl) hP hD hS
    · have hf := (if_neg c24).symm.trans hf
      refine lv_iload hx hb dM_distance_27 (lv_at hl 4 rfl) ?_
      refine lv_iload hx hb dM_distance_29 (lv_at hl 5 rfl) ?_
      refine lv_icmp_ge (tgt := 42) hx hb dM_distance_31 (by decide) (fun c31 => ?_) (fun c31 => ?_)
      · have hf := (if_pos c31).symm.trans hf
        refine lv_iload hx hb dM_distance_42 (lv_at hl 4 rfl) ?_
        refine lv_iload hx hb dM_distance_44 (lv_at hl 5 rfl) ?_
        refine lv_isub hx hb dM_distance_46 ?_
        exact tM_distance_47 C0 hK hA ih6 ih (x4 - x5) x1 x2 x3 x4 x5 _ _ ls hf (lv_sub hl [0, 1, 2, 3, 4, 5] rfl) hP hD hS
      · have hf := (if_neg c31).symm.trans hf
        refine lv_iload hx hb dM_distance_34 (lv_at hl 5 rfl) ?_
        refine lv_iload hx hb dM_distance_36 (lv_at hl 4 rfl) ?_
        refine lv_isub hx hb dM_distance_38 ?_
        refine lv_goto (tgt := 47) hx hb dM_distance_39 (by decide) ?_
        exact tM_distance_47 C0 hK hA ih6 ih (x5 - x4) x1 x2 x3 x4 x5 _ _ ls hf (lv_sub hl [0, 1, 2, 3, 4, 5] rfl) hP hD hS
set_option maxHeartbeats 400000 in
set_option maxRecDepth 100000 in
theorem tM_distance_6 {p : Program} {l : Launch} {e : Env} {s : State} {m : MethodId} {args : Array Value} {below : List Frame} {meth : Method} {c : Code} {D : va_G} {A : Nat → Prop} {q : Nat → Nat} {k : kM} {cI cJ : ClassId} {r : Int32} {σ : sM} {fu : Nat} (C0 : Cx p s m args meth c cM_distance 7 (some .int) RM TM) (hK : va_K D cl0 [(cI, .int), (cJ, .long)] s) (hA : ∀ z, s.heap.size ≤ z → A z) : ∀ n : Nat, ∀ (x1 : Int32) (x2 : Int32) (x3 : Int32) (x4 : Int32)(H : Heap) (locs : List Loc) (ls : Array Slot), fM_distance_6 fu k σ n x1 x2 x3 x4 = some r → lv_has ls 7 [(0, .ref (q 0)), (1, .int x1), (2, .int x2), (3, .int x3), (4, .int x4)] → va_P D cl0 (wdM q k cI cJ σ) H → va_D A (wdM q k cI cJ σ) → va_S A s.heap H locs → W p l e ({ frames := 0, cells := 0, slots := 0, locals := 0 }) s m args below meth c H locs 0 0 (MQ below (kQi D cl0 [(cI, .int), (cJ, .long)] (wdM q k cI cJ) A r σ) args s 0 0 A) (F0 m 6 ls []) := by
  obtain ⟨hx, hb, hr, hml, hown, hts, hlocks⟩ := id C0
  intro n
  induction n with
  | zero =>
    intro x1 x2 x3 x4 H locs ls hf hl hP hD hS
    cases hf
  | succ n ih =>
    intro x1 x2 x3 x4 H locs ls hf hl hP hD hS
    rw [fM_distance_6] at hf
    refine lv_iload hx hb dM_distance_6 (lv_at hl 4 rfl) ?_
    refine lv_aload_n hx hb dM_distance_8 rfl (lv_at hl 0 rfl) ?_
    refine gM_classes hx hb hown hts hK hP dM_distance_9 ?_
    refine lv_icmp_ge (tgt := 96) hx hb dM_distance_12 (by decide) (fun c12 => ?_) (fun c12 => ?_)
    · have hf := (if_pos c12).symm.trans hf
      refine lv_iload_n hx hb dM_distance_96 rfl (lv_at hl 3 rfl) ?_
      exact kr_iret C0 hK hP hD hS (Option.some.inj hf) rfl dM_distance_97
    · have hf := (if_neg c12).symm.trans hf
      refine lv_iconst (v := 0) hx hb dM_distance_15 (by decide) ?_
      refine lv_istore (lv' := [(5, .int 0), (0, .ref (q 0)), (1, .int x1), (2, .int x2), (3, .int x3), (4, .int x4)]) hx hb dM_distance_16 hl (by decide) rfl (fun ls hl => ?_)
      exact tM_distance_18 C0 hK hA ih fu x1 x2 x3 x4 0 _ _ ls hf (lv_sub hl [1, 2, 3, 4, 5, 0] rfl) hP hD hS
set_option maxHeartbeats 400000 in
set_option maxRecDepth 100000 in
theorem mM_distance (l : Launch) (D : va_G) (q : Nat → Nat) (k : kM) (cI cJ : ClassId) (sz : Nat) (fu : Nat) (σ : sM) (x1 : Int32) (x2 : Int32) (r : Int32) (hf : fM_distance fu k σ x1 x2 = some r) : Met l yM_distance (.code yM_distance cM_distance 7 (some .int) :: TM) ({ frames := 0, cells := 0, slots := 0, locals := 0 }) (kPre D cl0 [(cI, .int), (cJ, .long)] (wdM q k cI cJ) sz σ [.ref (q 0), .int x1, .int x2]) (kQi D cl0 [(cI, .int), (cJ, .long)] (wdM q k cI cJ) (va_A (wdM q k cI cJ σ) sz) r σ) 0 0 (va_A (wdM q k cI cJ σ) sz) := by
  refine kr_start (own := RM) (by decide) rfl (Nat.le_of_ble_eq_true rfl) ?_
  intro p e s m args below meth c ls C0 hsz hK hP hD hl
  subst hsz
  obtain ⟨hx, hb, hr, hml, hown, hts, hlocks⟩ := id C0
  have hA : ∀ z : Nat, s.heap.size ≤ z → va_A (wdM q k cI cJ σ) s.heap.size z := fun z h => Or.inr h
  generalize va_A (wdM q k cI cJ σ) s.heap.size = A at hD hA ⊢
  have hS : va_S A s.heap s.heap [] := va_S.rf
  have hl : lv_has ls 7 [(0, .ref (q 0)), (1, .int x1), (2, .int x2)] := hl
  unfold fM_distance at hf
  refine lv_bipush (v := 100) hx hb dM_distance_0 (by decide) ?_
  refine lv_istore_n (lv' := [(3, .int 100), (0, .ref (q 0)), (1, .int x1), (2, .int x2)]) hx hb dM_distance_2 rfl hl (by decide) rfl (fun ls hl => ?_)
  refine lv_iconst (v := 0) hx hb dM_distance_3 (by decide) ?_
  refine lv_istore (lv' := [(4, .int 0), (3, .int 100), (0, .ref (q 0)), (1, .int x1), (2, .int x2)]) hx hb dM_distance_4 hl (by decide) rfl (fun ls hl => ?_)
  exact tM_distance_6 C0 hK hA fu x1 x2 100 0 _ _ ls hf (lv_sub hl [2, 3, 4, 1, 0] rfl) hP hD hS
