theorem dM_fill_0 : decode cM_fill 0 = .ok (.aload_n 0, 1) := by decide +kernel
theorem dM_fill_1 : decode cM_fill 1 = .ok (.iload_n 1, 1) := by decide +kernel
theorem dM_fill_2 : decode cM_fill 2 = .ok (.invokevirtual 54, 3) := by decide +kernel
theorem dM_fill_5 : decode cM_fill 5 = .ok (.ifCond .eq (16), 3) := by decide +kernel
theorem dM_fill_8 : decode cM_fill 8 = .ok (.aload_n 0, 1) := by decide +kernel
theorem dM_fill_9 : decode cM_fill 9 = .ok (.aload_n 0, 1) := by decide +kernel
theorem dM_fill_10 : decode cM_fill 10 = .ok (.getfield 17, 3) := by decide +kernel
theorem dM_fill_13 : decode cM_fill 13 = .ok (.iload_n 1, 1) := by decide +kernel
theorem dM_fill_14 : decode cM_fill 14 = .ok (.iaload, 1) := by decide +kernel
theorem dM_fill_15 : decode cM_fill 15 = .ok (.invokevirtual 68, 3) := by decide +kernel
theorem dM_fill_18 : decode cM_fill 18 = .ok (.ifCond .le (5), 3) := by decide +kernel
theorem dM_fill_21 : decode cM_fill 21 = .ok (.iconst (-1), 1) := by decide +kernel
theorem dM_fill_22 : decode cM_fill 22 = .ok (.ireturn, 1) := by decide +kernel
theorem dM_fill_23 : decode cM_fill 23 = .ok (.iconst (-1), 1) := by decide +kernel
theorem dM_fill_24 : decode cM_fill 24 = .ok (.istore_n 2, 1) := by decide +kernel
theorem dM_fill_25 : decode cM_fill 25 = .ok (.iconst 0, 1) := by decide +kernel
theorem dM_fill_26 : decode cM_fill 26 = .ok (.istore_n 3, 1) := by decide +kernel
theorem dM_fill_27 : decode cM_fill 27 = .ok (.iload_n 3, 1) := by decide +kernel
theorem dM_fill_28 : decode cM_fill 28 = .ok (.aload_n 0, 1) := by decide +kernel
theorem dM_fill_29 : decode cM_fill 29 = .ok (.getfield 39, 3) := by decide +kernel
theorem dM_fill_32 : decode cM_fill 32 = .ok (.if_icmp .ge (59), 3) := by decide +kernel
theorem dM_fill_35 : decode cM_fill 35 = .ok (.aload_n 0, 1) := by decide +kernel
theorem dM_fill_36 : decode cM_fill 36 = .ok (.getfield 17, 3) := by decide +kernel
theorem dM_fill_39 : decode cM_fill 39 = .ok (.iload_n 3, 1) := by decide +kernel
theorem dM_fill_40 : decode cM_fill 40 = .ok (.iaload, 1) := by decide +kernel
theorem dM_fill_41 : decode cM_fill 41 = .ok (.iload_n 3, 1) := by decide +kernel
theorem dM_fill_42 : decode cM_fill 42 = .ok (.if_icmp .ne (43), 3) := by decide +kernel
theorem dM_fill_45 : decode cM_fill 45 = .ok (.aload_n 0, 1) := by decide +kernel
theorem dM_fill_46 : decode cM_fill 46 = .ok (.iload_n 3, 1) := by decide +kernel
theorem dM_fill_47 : decode cM_fill 47 = .ok (.invokevirtual 68, 3) := by decide +kernel
theorem dM_fill_50 : decode cM_fill 50 = .ok (.ifCond .le (35), 3) := by decide +kernel
theorem dM_fill_53 : decode cM_fill 53 = .ok (.iload_n 2, 1) := by decide +kernel
theorem dM_fill_54 : decode cM_fill 54 = .ok (.iconst (-1), 1) := by decide +kernel
theorem dM_fill_55 : decode cM_fill 55 = .ok (.if_icmp .eq (28), 3) := by decide +kernel
theorem dM_fill_58 : decode cM_fill 58 = .ok (.aload_n 0, 1) := by decide +kernel
theorem dM_fill_59 : decode cM_fill 59 = .ok (.aload_n 0, 1) := by decide +kernel
theorem dM_fill_60 : decode cM_fill 60 = .ok (.getfield 17, 3) := by decide +kernel
theorem dM_fill_63 : decode cM_fill 63 = .ok (.iload_n 1, 1) := by decide +kernel
theorem dM_fill_64 : decode cM_fill 64 = .ok (.iaload, 1) := by decide +kernel
theorem dM_fill_65 : decode cM_fill 65 = .ok (.iload_n 3, 1) := by decide +kernel
theorem dM_fill_66 : decode cM_fill 66 = .ok (.invokevirtual 81, 3) := by decide +kernel
theorem dM_fill_69 : decode cM_fill 69 = .ok (.aload_n 0, 1) := by decide +kernel
theorem dM_fill_70 : decode cM_fill 70 = .ok (.aload_n 0, 1) := by decide +kernel
theorem dM_fill_71 : decode cM_fill 71 = .ok (.getfield 17, 3) := by decide +kernel
theorem dM_fill_74 : decode cM_fill 74 = .ok (.iload_n 1, 1) := by decide +kernel
theorem dM_fill_75 : decode cM_fill 75 = .ok (.iaload, 1) := by decide +kernel
theorem dM_fill_76 : decode cM_fill 76 = .ok (.iload_n 2, 1) := by decide +kernel
theorem dM_fill_77 : decode cM_fill 77 = .ok (.invokevirtual 81, 3) := by decide +kernel
theorem dM_fill_80 : decode cM_fill 80 = .ok (.if_icmp .ge (5), 3) := by decide +kernel
theorem dM_fill_83 : decode cM_fill 83 = .ok (.iload_n 3, 1) := by decide +kernel
theorem dM_fill_84 : decode cM_fill 84 = .ok (.istore_n 2, 1) := by decide +kernel
theorem dM_fill_85 : decode cM_fill 85 = .ok (.iinc 3 (1), 3) := by decide +kernel
theorem dM_fill_88 : decode cM_fill 88 = .ok (.goto (-61), 3) := by decide +kernel
theorem dM_fill_91 : decode cM_fill 91 = .ok (.iload_n 2, 1) := by decide +kernel
theorem dM_fill_92 : decode cM_fill 92 = .ok (.iconst (-1), 1) := by decide +kernel
theorem dM_fill_93 : decode cM_fill 93 = .ok (.if_icmp .eq (15), 3) := by decide +kernel
theorem dM_fill_96 : decode cM_fill 96 = .ok (.aload_n 0, 1) := by decide +kernel
theorem dM_fill_97 : decode cM_fill 97 = .ok (.getfield 20, 3) := by decide +kernel
theorem dM_fill_100 : decode cM_fill 100 = .ok (.aload_n 0, 1) := by decide +kernel
theorem dM_fill_101 : decode cM_fill 101 = .ok (.getfield 17, 3) := by decide +kernel
theorem dM_fill_104 : decode cM_fill 104 = .ok (.iload_n 1, 1) := by decide +kernel
theorem dM_fill_105 : decode cM_fill 105 = .ok (.iaload, 1) := by decide +kernel
theorem dM_fill_106 : decode cM_fill 106 = .ok (.iload_n 2, 1) := by decide +kernel
theorem dM_fill_107 : decode cM_fill 107 = .ok (.iastore, 1) := by decide +kernel
theorem dM_fill_108 : decode cM_fill 108 = .ok (.iload_n 2, 1) := by decide +kernel
theorem dM_fill_109 : decode cM_fill 109 = .ok (.ireturn, 1) := by decide +kernel
set_option maxHeartbeats 400000 in
set_option maxRecDepth 100000 in
theorem tM_fill_83 {p : Program} {l : Launch} {e : Env} {s : State} {m : MethodId} {args : Array Value} {below : List Frame} {meth : Method} {c : Code} {D : va_G} {A : Nat → Prop} {q : Nat → Nat} {k : kM} {cI cJ : ClassId} {r : Int32} {σ' : sM} {fu : Nat} {h27 : sM → Int32 → Int32 → Int32 → Option (Int32 × sM)} (C0 : Cx p s m args meth c cM_fill 4 (some .int) RM TM) (hK : va_K D cl0 [(cI, .int), (cJ, .long)] s) (hA : ∀ z, s.heap.size ≤ z → A z) (ih27 : ∀ (σ : sM) (x1 : Int32) (x2 : Int32) (x3 : Int32)(H : Heap) (locs : List Loc) (ls : Array Slot), h27 σ x1 x2 x3 = some (r, σ') → lv_has ls 4 [(0, .ref (q 0)), (1, .int x1), (2, .int x2), (3, .int x3)] → va_P D cl0 (wdM q k cI cJ σ) H → va_D A (wdM q k cI cJ σ) → va_S A s.heap H locs → W p l e ({ frames := 4, cells := 0, slots := 0, locals := 94 }) s m args below meth c H locs 0 0 (MQ below (kQi D cl0 [(cI, .int), (cJ, .long)] (wdM q k cI cJ) A r σ') args s 0 0 A) (F0 m 27 ls [])) : ∀ (σ : sM) (x1 : Int32) (x3 : Int32)(H : Heap) (locs : List Loc) (ls : Array Slot), fM_fill_83 fu k h27 σ x1 x3 = some (r, σ') → lv_has ls 4 [(0, .ref (q 0)), (1, .int x1), (3, .int x3)] → va_P D cl0 (wdM q k cI cJ σ) H → va_D A (wdM q k cI cJ σ) → va_S A s.heap H locs → W p l e ({ frames := 4, cells := 0, slots := 0, locals := 94 }) s m args below meth c H locs 0 0 (MQ below (kQi D cl0 [(cI, .int), (cJ, .long)] (wdM q k cI cJ) A r σ') args s 0 0 A) (F0 m 83 ls []) := by
  obtain ⟨hx, hb, hr, hml, hown, hts, hlocks⟩ := id C0
  intro σ x1 x3 H locs ls hf hl hP hD hS
  unfold fM_fill_83 at hf
  refine lv_iload_n hx hb dM_fill_83 rfl (lv_at hl 2 rfl) ?_
  refine lv_istore_n (lv' := [(2, .int x3), (0, .ref (q 0)), (1, .int x1), (3, .int x3)]) hx hb dM_fill_84 rfl hl (by decide) rfl (fun ls hl => ?_)
  refine lv_iinc (v := (x3 + 1)) (lv' := [(3, .int (x3 + 1)), (2, .int x3), (0, .ref (q 0)), (1, .int x1)]) hx hb dM_fill_85 hl (k := 3) rfl rfl (by decide) rfl (fun ls hl => ?_)
  refine lv_goto (tgt := 27) hx hb dM_fill_88 (by decide) ?_
  exact ih27 σ x1 x3 (x3 + 1) _ _ ls hf (lv_sub hl [2, 3, 1, 0] rfl) hP hD hS
set_option maxHeartbeats 400000 in
set_option maxRecDepth 100000 in
theorem tM_fill_27 {p : Program} {l : Launch} {e : Env} {s : State} {m : MethodId} {args : Array Value} {below : List Frame} {meth : Method} {c : Code} {D : va_G} {A : Nat → Prop} {q : Nat → Nat} {k : kM} {cI cJ : ClassId} {r : Int32} {σ' : sM} {fu : Nat} (C0 : Cx p s m args meth c cM_fill 4 (some .int) RM TM) (hK : va_K D cl0 [(cI, .int), (cJ, .long)] s) (hA : ∀ z, s.heap.size ≤ z → A z) : ∀ n : Nat, ∀ (σ : sM) (x1 : Int32) (x2 : Int32) (x3 : Int32)(H : Heap) (locs : List Loc) (ls : Array Slot), fM_fill_27 fu k n σ x1 x2 x3 = some (r, σ') → lv_has ls 4 [(0, .ref (q 0)), (1, .int x1), (2, .int x2), (3, .int x3)] → va_P D cl0 (wdM q k cI cJ σ) H → va_D A (wdM q k cI cJ σ) → va_S A s.heap H locs → W p l e ({ frames := 4, cells := 0, slots := 0, locals := 94 }) s m args below meth c H locs 0 0 (MQ below (kQi D cl0 [(cI, .int), (cJ, .long)] (wdM q k cI cJ) A r σ') args s 0 0 A) (F0 m 27 ls []) := by
  obtain ⟨hx, hb, hr, hml, hown, hts, hlocks⟩ := id C0
  intro n
  induction n with
  | zero =>
    intro σ x1 x2 x3 H locs ls hf hl hP hD hS
    cases hf
  | succ n ih =>
    intro σ x1 x2 x3 H locs ls hf hl hP hD hS
    rw [fM_fill_27] at hf
    refine lv_iload_n hx hb dM_fill_27 rfl (lv_at hl 3 rfl) ?_
    refine lv_aload_n hx hb dM_fill_28 rfl (lv_at hl 0 rfl) ?_
    refine gM_classes hx hb hown hts hK hP dM_fill_29 ?_
    refine lv_icmp_ge (tgt := 91) hx hb dM_fill_32 (by decide) (fun c32 => ?_) (fun c32 => ?_)
    · have hf := (if_pos c32).symm.trans hf
      refine lv_iload_n hx hb dM_fill_91 rfl (lv_at hl 2 rfl) ?_
      refine lv_iconst (v := (-1)) hx hb dM_fill_92 (by decide) ?_
      refine lv_icmp_eq (tgt := 108) hx hb dM_fill_93 (by decide) (fun c93 => ?_) (fun c93 => ?_)
      · have hf := (if_pos c93).symm.trans hf
        refine lv_iload_n hx hb dM_fill_108 rfl (lv_at hl 2 rfl) ?_
        exact kr_iret C0 hK hP hD hS (congrArg Prod.fst (Option.some.inj hf)) (congrArg Prod.snd (Option.some.inj hf)) dM_fill_109
      · have hf := (if_neg c93).symm.trans hf
        refine lv_aload_n hx hb dM_fill_96 rfl (lv_at hl 0 rfl) ?_
        refine gM_filler hx hb hown hts hK hP dM_fill_97 ?_
        refine lv_aload_n hx hb dM_fill_100 rfl (lv_at hl 0 rfl) ?_
        refine gM_group hx hb hown hts hK hP dM_fill_101 ?_
        refine lv_iload_n hx hb dM_fill_104 rfl (lv_at hl 1 rfl) ?_
        obtain ⟨v105, ev105, hf⟩ := kb1 hf
        refine kr_iaload hx hb hK hP 2 0 rfl rfl ev105 dM_fill_105 ?_
        refine lv_iload_n hx hb dM_fill_106 rfl (lv_at hl 2 rfl) ?_
        obtain ⟨a107, ea107, hf⟩ := kb1 hf
        refine kr_iastore (σ' := (uM_filler σ a107)) hx hb hK hP hD hS 3 0 rfl rfl ea107 (wM_filler q k cI cJ _ _) dM_fill_107 (fun H locs hP hD hS => ?_)
        generalize (uM_filler σ a107) = s107 at hf hP hD
        refine lv_iload_n hx hb dM_fill_108 rfl (lv_at hl 2 rfl) ?_
        exact kr_iret C0 hK hP hD hS (congrArg Prod.fst (Option.some.inj hf)) (congrArg Prod.snd (Option.some.inj hf)) dM_fill_109
    · have hf := (if_neg c32).symm.trans hf
      refine lv_aload_n hx hb dM_fill_35 rfl (lv_at hl 0 rfl) ?_
      refine gM_group hx hb hown hts hK hP dM_fill_36 ?_
      refine lv_iload_n hx hb dM_fill_39 rfl (lv_at hl 3 rfl) ?_
      obtain ⟨v40, ev40, hf⟩ := kb1 hf
      refine kr_iaload hx hb hK hP 2 0 rfl rfl ev40 dM_fill_40 ?_
      refine lv_iload_n hx hb dM_fill_41 rfl (lv_at hl 3 rfl) ?_
      refine lv_icmp_ne (tgt := 85) hx hb dM_fill_42 (by decide) (fun c42 => ?_) (fun c42 => ?_)
      · have hf := (if_neg c42).symm.trans hf
        refine lv_iinc (v := (x3 + 1)) (lv' := [(3, .int (x3 + 1)), (0, .ref (q 0)), (1, .int x1), (2, .int x2)]) hx hb dM_fill_85 hl (k := 3) rfl rfl (by decide) rfl (fun ls hl => ?_)
        refine lv_goto (tgt := 27) hx hb dM_fill_88 (by decide) ?_
        exact ih σ x1 x2 (x3 + 1) _ _ ls hf (lv_sub hl [1, 2, 3, 0] rfl) hP hD hS
      · have hf := (if_pos c42).symm.trans hf
        refine lv_aload_n hx hb dM_fill_45 rfl (lv_at hl 0 rfl) ?_
        refine lv_iload_n hx hb dM_fill_46 rfl (lv_at hl 3 rfl) ?_
        obtain ⟨v47, ev47, hf⟩ := kb1 hf
        refine kr_callVi (av := [.int x3]) ⟨hx, hb, hml, hown, hts⟩ (mM_own l D q k cI cJ _ fu σ x3 v47 ev47) (cwV 1 hts (kgood_V TM_good (by decide +kernel)) rfl rfl rfl (by decide +kernel) ⟨Nat.le_of_ble_eq_true rfl, Nat.le_of_ble_eq_true rfl⟩) hK hP hD hS hA (ci := 1) (q0 := 0) rfl rfl rfl hl.1 rfl (Nat.le_of_ble_eq_true rfl) dM_fill_47 ⟨Nat.le_of_ble_eq_true rfl, Nat.le_of_ble_eq_true rfl⟩ (fun H locs hP hD hS => ?_)
        refine lv_if_le (tgt := 85) hx hb dM_fill_50 (by decide) (fun c50 => ?_) (fun c50 => ?_)
        · have hf := (if_pos c50).symm.trans hf
          refine lv_iinc (v := (x3 + 1)) (lv' := [(3, .int (x3 + 1)), (0, .ref (q 0)), (1, .int x1), (2, .int x2)]) hx hb dM_fill_85 hl (k := 3) rfl rfl (by decide) rfl (fun ls hl => ?_)
          refine lv_goto (tgt := 27) hx hb dM_fill_88 (by decide) ?_
          exact ih σ x1 x2 (x3 + 1) _ _ ls hf (lv_sub hl [1, 2, 3, 0] rfl) hP hD hS
        · have hf := (if_neg c50).symm.trans hf
          refine lv_iload_n hx hb dM_fill_53 rfl (lv_at hl 2 rfl) ?_
          refine lv_iconst (v := (-1)) hx hb dM_fill_54 (by decide) ?_
          refine lv_icmp_eq (tgt := 83) hx hb dM_fill_55 (by decide) (fun c55 => ?_) (fun c55 => ?_)
          · have hf := (if_pos c55).symm.trans hf
            exact tM_fill_83 C0 hK hA ih σ x1 x3 _ _ ls hf (lv_sub hl [0, 1, 3] rfl) hP hD hS
          · have hf := (if_neg c55).symm.trans hf
            refine lv_aload_n hx hb dM_fill_58 rfl (lv_at hl 0 rfl) ?_
            refine lv_aload_n hx hb dM_fill_59 rfl (lv_at hl 0 rfl) ?_
            refine gM_group hx hb hown hts hK hP dM_fill_60 ?_
            refine lv_iload_n hx hb dM_fill_63 rfl (lv_at hl 1 rfl) ?_
            obtain ⟨v64, ev64, hf⟩ := kb1 hf
            refine kr_iaload hx hb hK hP 2 0 rfl rfl ev64 dM_fill_64 ?_
            refine lv_iload_n hx hb dM_fill_65 rfl (lv_at hl 3 rfl) ?_
            obtain ⟨v66, ev66, hf⟩ := kb1 hf
            refine kr_callVi (av := [.int v64, .int x3]) ⟨hx, hb, hml, hown, hts⟩ (mM_distance l D q k cI cJ _ fu σ v64 x3 v66 ev66) (cwV 2 hts (kgood_V TM_good (by decide +kernel)) rfl rfl rfl (by decide +kernel) ⟨Nat.le_of_ble_eq_true rfl, Nat.le_of_ble_eq_true rfl⟩) hK hP hD hS hA (ci := 1) (q0 := 0) rfl rfl rfl hl.1 rfl (Nat.le_of_ble_eq_true rfl) dM_fill_66 ⟨Nat.le_of_ble_eq_true rfl, Nat.le_of_ble_eq_true rfl⟩ (fun H locs hP hD hS => ?_)
            refine lv_aload_n hx hb dM_fill_69 rfl (lv_at hl 0 rfl) ?_
            refine lv_aload_n hx hb dM_fill_70 rfl (lv_at hl 0 rfl) ?_
            refine gM_group hx hb hown hts hK hP dM_fill_71 ?_
            refine lv_iload_n hx hb dM_fill_74 rfl (lv_at hl 1 rfl) ?_
            obtain ⟨v75, ev75, hf⟩ := kb1 hf
            refine kr_iaload hx hb hK hP 2 0 rfl rfl ev75 dM_fill_75 ?_
            refine lv_iload_n hx hb dM_fill_76 rfl (lv_at hl 2 rfl) ?_
            obtain ⟨v77, ev77, hf⟩ := kb1 hf
            refine kr_callVi (av := [.int v75, .int x2]) ⟨hx, hb, hml, hown, hts⟩ (mM_distance l D q k cI cJ _ fu σ v75 x2 v77 ev77) (cwV 2 hts (kgood_V TM_good (by decide +kernel)) rfl rfl rfl (by decide +kernel) ⟨Nat.le_of_ble_eq_true rfl, Nat.le_of_ble_eq_true rfl⟩) hK hP hD hS hA (ci := 1) (q0 := 0) rfl rfl rfl hl.1 rfl (Nat.le_of_ble_eq_true rfl) dM_fill_77 ⟨Nat.le_of_ble_eq_true rfl, Nat.le_of_ble_eq_true rfl⟩ (fun H locs hP hD hS => ?_)
            refine lv_icmp_ge (tgt := 85) hx hb dM_fill_80 (by decide) (fun c80 => ?_) (fun c80 => ?_)
            · have hf := (if_pos c80).symm.trans hf
              refine lv_iinc (v := (x3 + 1)) (lv' := [(3, .int (x3 + 1)), (0, .ref (q 0)), (1, .int x1), (2, .int x2)]) hx hb dM_fill_85 hl (k := 3) rfl rfl (by decide) rfl (fun ls hl => ?_)
              refine lv_goto (tgt := 27) hx hb dM_fill_88 (by decide) ?_
              exact ih σ x1 x2 (x3 + 1) _ _ ls hf (lv_sub hl [1, 2, 3, 0] rfl) hP hD hS
            · have hf := (if_neg c80).symm.trans hf
              exact tM_fill_83 C0 hK hA ih σ x1 x3 _ _ ls hf (lv_sub hl [0, 1, 3] rfl) hP hD hS
set_option maxHeartbeats 400000 in
set_option maxRecDepth 100000 in
theorem mM_fill (l : Launch) (D : va_G) (q : Nat → Nat) (k : kM) (cI cJ : ClassId) (sz : Nat) (fu : Nat) (σ : sM) (σ' : sM) (x1 : Int32) (r : Int32) (hf : fM_fill fu k σ x1 = some (r, σ')) : Met l yM_fill (.code yM_fill cM_fill 4 (some .int) :: TM) ({ frames := 4, cells := 0, slots := 0, locals := 94 }) (kPre D cl0 [(cI, .int), (cJ, .long)] (wdM q k cI cJ) sz σ [.ref (q 0), .int x1]) (kQi D cl0 [(cI, .int), (cJ, .long)] (wdM q k cI cJ) (va_A (wdM q k cI cJ σ) sz) r σ') 0 0 (va_A (wdM q k cI cJ σ) sz) := by
  refine kr_start (own := RM) (by decide) rfl (Nat.le_of_ble_eq_true rfl) ?_
  intro p e s m args below meth c ls C0 hsz hK hP hD hl
  subst hsz
  obtain ⟨hx, hb, hr, hml, hown, hts, hlocks⟩ := id C0
  have hA : ∀ z : Nat, s.heap.size ≤ z → va_A (wdM q k cI cJ σ) s.heap.size z := fun z h => Or.inr h
  generalize va_A (wdM q k cI cJ σ) s.heap.size = A at hD hA ⊢
  have hS : va_S A s.heap s.heap [] := va_S.rf
  have hl : lv_has ls 4 [(0, .ref (q 0)), (1, .int x1)] := hl
  unfold fM_fill at hf
  refine lv_aload_n hx hb dM_fill_0 rfl (lv_at hl 0 rfl) ?_
  refine lv_iload_n hx hb dM_fill_1 rfl (lv_at hl 1 rfl) ?_
  refine kr_callVi (av := [.int x1]) ⟨hx, hb, hml, hown, hts⟩ (mM_isClass l D q k cI cJ _ σ x1 _ rfl) (cwV 1 hts (kgood_V TM_good (by decide +kernel)) rfl rfl rfl (by decide +kernel) ⟨Nat.le_of_ble_eq_true rfl, Nat.le_of_ble_eq_true rfl⟩) hK hP hD hS hA (ci := 1) (q0 := 0) rfl rfl rfl hl.1 rfl (Nat.le_of_ble_eq_true rfl) dM_fill_2 ⟨Nat.le_of_ble_eq_true rfl, Nat.le_of_ble_eq_true rfl⟩ (fun H locs hP hD hS => ?_)
  refine lv_if_eq (tgt := 21) hx hb dM_fill_5 (by decide) (fun c5 => ?_) (fun c5 => ?_)
  · have hf := (if_pos c5).symm.trans hf
    refine lv_iconst (v := (-1)) hx hb dM_fill_21 (by decide) ?_
    exact kr_iret C0 hK hP hD hS (congrArg Prod.fst (Option.some.inj hf)) (congrArg Prod.snd (Option.some.inj hf)) dM_fill_22
  · have hf := (if_neg c5).symm.trans hf
    refine lv_aload_n hx hb dM_fill_8 rfl (lv_at hl 0 rfl) ?_
    refine lv_aload_n hx hb dM_fill_9 rfl (lv_at hl 0 rfl) ?_
    refine gM_group hx hb hown hts hK hP dM_fill_10 ?_
    refine lv_iload_n hx hb dM_fill_13 rfl (lv_at hl 1 rfl) ?_
    obtain ⟨v14, ev14, hf⟩ := kb1 hf
    refine kr_iaload hx hb hK hP 2 0 rfl rfl ev14 dM_fill_14 ?_
    obtain ⟨v15, ev15, hf⟩ := kb1 hf
    refine kr_callVi (av := [.int v14]) ⟨hx, hb, hml, hown, hts⟩ (mM_own l D q k cI cJ _ fu σ v14 v15 ev15) (cwV 1 hts (kgood_V TM_good (by decide +kernel)) rfl rfl rfl (by decide +kernel) ⟨Nat.le_of_ble_eq_true rfl, Nat.le_of_ble_eq_true rfl⟩) hK hP hD hS hA (ci := 1) (q0 := 0) rfl rfl rfl hl.1 rfl (Nat.le_of_ble_eq_true rfl) dM_fill_15 ⟨Nat.le_of_ble_eq_true rfl, Nat.le_of_ble_eq_true rfl⟩ (fun H locs hP hD hS => ?_)
    refine lv_if_le (tgt := 23) hx hb dM_fill_18 (by decide) (fun c18 => ?_) (fun c18 => ?_)
    · have hf := (if_pos c18).symm.trans hf
      refine lv_iconst (v := (-1)) hx hb dM_fill_23 (by decide) ?_
      refine lv_istore_n (lv' := [(2, .int (-1)), (0, .ref (q 0)), (1, .int x1)]) hx hb dM_fill_24 rfl hl (by decide) rfl (fun ls hl => ?_)
      refine lv_iconst (v := 0) hx hb dM_fill_25 (by decide) ?_
      refine lv_istore_n (lv' := [(3, .int 0), (2, .int (-1)), (0, .ref (q 0)), (1, .int x1)]) hx hb dM_fill_26 rfl hl (by decide) rfl (fun ls hl => ?_)
      exact tM_fill_27 C0 hK hA fu σ x1 (-1) 0 _ _ ls hf (lv_sub hl [2, 3, 1, 0] rfl) hP hD hS
    · have hf := (if_neg c18).symm.trans hf
      refine lv_iconst (v := (-1)) hx hb dM_fill_21 (by decide) ?_
      exact kr_iret C0 hK hP hD hS (congrArg Prod.fst (Option.some.inj hf)) (congrArg Prod.snd (Option.some.inj hf)) dM_fill_22
theorem dM_marked_0 : decode cM_marked 0 = .ok (.aload_n 0, 1) := by decide +kernel
theorem dM_marked_1 : decode cM_marked 1 = .ok (.iload_n 1, 1) := by decide +kernel
theorem dM_marked_2 : decode cM_marked 2 = .ok (.invokevirtual 54, 3) := by decide +kernel
theorem dM_marked_5 : decode cM_marked 5 = .ok (.ifCond .eq (35), 3) := by decide +kernel
theorem dM_marked_8 : decode cM_marked 8 = .ok (.aload_n 0, 1) := by decide +kernel
theorem dM_marked_9 : decode cM_marked 9 = .ok (.getfield 20, 3) := by decide +kernel
theorem dM_marked_12 : decode cM_marked 12 = .ok (.aload_n 0, 1) := by decide +kernel
theorem dM_marked_13 : decode cM_marked 13 = .ok (.getfield 17, 3) := by decide +kernel
theorem dM_marked_16 : decode cM_marked 16 = .ok (.iload_n 1, 1) := by decide +kernel
theorem dM_marked_17 : decode cM_marked 17 = .ok (.iaload, 1) := by decide +kernel
theorem dM_marked_18 : decode cM_marked 18 = .ok (.iaload, 1) := by decide +kernel
theorem dM_marked_19 : decode cM_marked 19 = .ok (.iconst (-1), 1) := by decide +kernel
theorem dM_marked_20 : decode cM_marked 20 = .ok (.if_icmp .eq (20), 3) := by decide +kernel
theorem dM_marked_23 : decode cM_marked 23 = .ok (.aload_n 0, 1) := by decide +kernel
theorem dM_marked_24 : decode cM_marked 24 = .ok (.aload_n 0, 1) := by decide +kernel
theorem dM_marked_25 : decode cM_marked 25 = .ok (.getfield 17, 3) := by decide +kernel
theorem dM_marked_28 : decode cM_marked 28 = .ok (.iload_n 1, 1) := by decide +kernel
theorem dM_marked_29 : decode cM_marked 29 = .ok (.iaload, 1) := by decide +kernel
theorem dM_marked_30 : decode cM_marked 30 = .ok (.invokevirtual 68, 3) := by decide +kernel
theorem dM_marked_33 : decode cM_marked 33 = .ok (.ifCond .ne (7), 3) := by decide +kernel
theorem dM_marked_36 : decode cM_marked 36 = .ok (.iconst 1, 1) := by decide +kernel
theorem dM_marked_37 : decode cM_marked 37 = .ok (.goto (4), 3) := by decide +kernel
theorem dM_marked_40 : decode cM_marked 40 = .ok (.iconst 0, 1) := by decide +kernel
theorem dM_marked_41 : decode cM_marked 41 = .ok (.ireturn, 1) := by decide +kernel
set_option maxHeartbeats 400000 in
set_option maxRecDepth 100000 in
theorem mM_marked (l : Launch) (D : va_G) (q : Nat → Nat) (k : kM) (cI cJ : ClassId) (sz : Nat) (fu : Nat) (σ : sM) (x1 : Int32) (r : Int32) (hf : fM_marked fu k σ x1 = some r) : Met l yM_marked (.code yM_marked cM_marked 2 (some .boolean) :: TM) ({ frames := 4, cells := 0, slots := 0, locals := 94 }) (kPre D cl0 [(cI, .int), (cJ, .long)] (wdM q k cI cJ) sz σ [.ref (q 0), .int x1]) (kQi D cl0 [(cI, .int), (cJ, .long)] (wdM q k cI cJ) (va_A (wdM q k cI cJ σ) sz) r σ) 0 0 (va_A (wdM q k cI cJ σ) sz) := by
  refine kr_start (own := RM) (by decide) rfl (Nat.le_of_ble_eq_true rfl) ?_
  intro p e s m args below meth c ls C0 hsz hK hP hD hl
  subst hsz
  obtain ⟨hx, hb, hr, hml, hown, hts, hlocks⟩ := id C0
  have hA : ∀ z : Nat, s.heap.size ≤ z → va_A (wdM q k cI cJ σ) s.heap.size z := fun z h => Or.inr h
  generalize va_A (wdM q k cI cJ σ) s.heap.size = A at hD hA ⊢
  have hS : va_S A s.heap s.heap [] := va_S.rf
  have hl : lv_has ls 2 [(0, .ref (q 0)), (1, .int x1)] := hl
  unfold fM_marked at hf
  refine lv_aload_n hx hb dM_marked_0 rfl (lv_at hl 0 rfl) ?_
  refine lv_iload_n hx hb dM_marked_1 rfl (lv_at hl 1 rfl) ?_
  refine kr_callVi (av := [.int x1]) ⟨hx, hb, hml, hown, hts⟩ (mM_isClass l D q k cI cJ _ σ x1 _ rfl) (cwV 1 hts (kgood_V TM_good (by decide +kernel)) rfl rfl rfl (by decide +kernel) ⟨Nat.le_of_ble_eq_true rfl, Nat.le_of_ble_eq_true rfl⟩) hK hP hD hS hA (ci := 1) (q0 := 0) rfl rfl rfl hl.1 rfl (Nat.le_of_ble_eq_true rfl) dM_marked_2 ⟨Nat.le_of_ble_eq_true rfl, Nat.le_of_ble_eq_true rfl⟩ (fun H locs hP hD hS => ?_)
  refine lv_if_eq (tgt := 40) hx hb dM_marked_5 (by decide) (fun c5 => ?_) (fun c5 => ?_)
  · have hf := (if_pos c5).symm.trans hf
    refine lv_iconst (v := 0) hx hb dM_marked_40 (by decide) ?_
    exact kr_zret C0 hK hP hD hS rfl (Option.some.inj hf) rfl dM_marked_41
  · have hf := (if_neg c5).symm.trans hf
    refine lv_aload_n hx hb dM_marked_8 rfl (lv_at hl 0 rfl) ?_
    refine gM_filler hx hb hown hts hK hP dM_marked_9 ?_
    refine lv_aload_n hx hb dM_marked_12 rfl (lv_at hl 0 rfl) ?_
    refine gM_group hx hb hown hts hK hP dM_marked_13 ?_
    refine lv_iload_n hx hb dM_marked_16 rfl (lv_at hl 1 rfl) ?_
    obtain ⟨v17, ev17, hf⟩ := kb1 hf
    refine kr_iaload hx hb hK hP 2 0 rfl rfl ev17 dM_marked_17 ?_
    obtain ⟨v18, ev18, hf⟩ := kb1 hf
    refine kr_iaload hx hb hK hP 3 0 rfl rfl ev18 dM_marked_18 ?_
    refine lv_iconst (v := (-1)) hx hb dM_marked_19 (by decide) ?_
    refine lv_icmp_eq (tgt := 40) hx hb dM_marked_20 (by decide) (fun c20 => ?_) (fun c20 => ?_)
    · have hf := (if_pos c20).symm.trans hf
      refine lv_iconst (v := 0) hx hb dM_marked_40 (by decide) ?_
      exact kr_zret C0 hK hP hD hS rfl (Option.some.inj hf) rfl dM_marked_41
    · have hf := (if_neg c20).symm.trans hf
      refine lv_aload_n hx hb dM_marked_23 rfl (lv_at hl 0 rfl) ?_
      refine lv_aload_n hx hb dM_marked_24 rfl (lv_at hl 0 rfl) ?_
      refine gM_group hx hb hown hts hK hP dM_marked_25 ?_
      refine lv_iload_n hx hb dM_marked_28 rfl (lv_at hl 1 rfl) ?_
      obtain ⟨v29, ev29, hf⟩ := kb1 hf
      refine kr_iaload hx hb hK hP 2 0 rfl rfl ev29 dM_marked_29 ?_
      obtain ⟨v30, ev30, hf⟩ := kb1 hf
      refine kr_callVi (av := [.int v29]) ⟨hx, hb, hml, hown, hts⟩ (mM_own l D q k cI cJ _ fu σ v29 v30 ev30) (cwV 1 hts (kgood_V TM_good (by decide +kernel)) rfl rfl rfl (by decide +kernel) ⟨Nat.le_of_ble_eq_true rfl, Nat.le_of_ble_eq_true rfl⟩) hK hP hD hS hA (ci := 1) (q0 := 0) rfl rfl rfl hl.1 rfl (Nat.le_of_ble_eq_true rfl) dM_marked_30 ⟨Nat.le_of_ble_eq_true rfl, Nat.le_of_ble_eq_true rfl⟩ (fun H locs hP hD hS => ?_)
      refine lv_if_ne (tgt := 40) hx hb dM_marked_33 (by decide) (fun c33 => ?_) (fun c33 => ?_)
      · have hf := (if_neg c33).symm.trans hf
        refine lv_iconst (v := 0) hx hb dM_marked_40 (by decide) ?_
        exact kr_zret C0 hK hP hD hS rfl (Option.some.inj hf) rfl dM_marked_41
      · have hf := (if_pos c33).symm.trans hf
        refine lv_iconst (v := 1) hx hb dM_marked_36 (by decide) ?_
        refine lv_goto (tgt := 41) hx hb dM_marked_37 (by decide) ?_
        exact kr_zret C0 hK hP hD hS rfl (Option.some.inj hf) rfl dM_marked_41
theorem dM_joined_0 : decode cM_joined 0 = .ok (.aload_n 0, 1) := by decide +kernel
theorem dM_joined_1 : decode cM_joined 1 = .ok (.iload_n 1, 1) := by decide +kernel
theorem dM_joined_2 : decode cM_joined 2 = .ok (.invokevirtual 54, 3) := by decide +kernel
theorem dM_joined_5 : decode cM_joined 5 = .ok (.ifCond .eq (56), 3) := by decide +kernel
theorem dM_joined_8 : decode cM_joined 8 = .ok (.aload_n 0, 1) := by decide +kernel
theorem dM_joined_9 : decode cM_joined 9 = .ok (.iload_n 2, 1) := by decide +kernel
theorem dM_joined_10 : decode cM_joined 10 = .ok (.invokevirtual 54, 3) := by decide +kernel
theorem dM_joined_13 : decode cM_joined 13 = .ok (.ifCond .eq (48), 3) := by decide +kernel
theorem dM_joined_16 : decode cM_joined 16 = .ok (.aload_n 0, 1) := by decide +kernel
theorem dM_joined_17 : decode cM_joined 17 = .ok (.getfield 17, 3) := by decide +kernel
theorem dM_joined_20 : decode cM_joined 20 = .ok (.iload_n 1, 1) := by decide +kernel
theorem dM_joined_21 : decode cM_joined 21 = .ok (.iaload, 1) := by decide +kernel
theorem dM_joined_22 : decode cM_joined 22 = .ok (.aload_n 0, 1) := by decide +kernel
theorem dM_joined_23 : decode cM_joined 23 = .ok (.getfield 17, 3) := by decide +kernel
theorem dM_joined_26 : decode cM_joined 26 = .ok (.iload_n 2, 1) := by decide +kernel
theorem dM_joined_27 : decode cM_joined 27 = .ok (.iaload, 1) := by decide +kernel
theorem dM_joined_28 : decode cM_joined 28 = .ok (.if_icmp .eq (33), 3) := by decide +kernel
theorem dM_joined_31 : decode cM_joined 31 = .ok (.aload_n 0, 1) := by decide +kernel
theorem dM_joined_32 : decode cM_joined 32 = .ok (.aload_n 0, 1) := by decide +kernel
theorem dM_joined_33 : decode cM_joined 33 = .ok (.getfield 17, 3) := by decide +kernel
theorem dM_joined_36 : decode cM_joined 36 = .ok (.iload_n 1, 1) := by decide +kernel
theorem dM_joined_37 : decode cM_joined 37 = .ok (.iaload, 1) := by decide +kernel
theorem dM_joined_38 : decode cM_joined 38 = .ok (.iconst (-1), 1) := by decide +kernel
theorem dM_joined_39 : decode cM_joined 39 = .ok (.iconst (-1), 1) := by decide +kernel
theorem dM_joined_40 : decode cM_joined 40 = .ok (.invokevirtual 61, 3) := by decide +kernel
theorem dM_joined_43 : decode cM_joined 43 = .ok (.aload_n 0, 1) := by decide +kernel
theorem dM_joined_44 : decode cM_joined 44 = .ok (.aload_n 0, 1) := by decide +kernel
theorem dM_joined_45 : decode cM_joined 45 = .ok (.getfield 17, 3) := by decide +kernel
theorem dM_joined_48 : decode cM_joined 48 = .ok (.iload_n 2, 1) := by decide +kernel
theorem dM_joined_49 : decode cM_joined 49 = .ok (.iaload, 1) := by decide +kernel
theorem dM_joined_50 : decode cM_joined 50 = .ok (.iconst (-1), 1) := by decide +kernel
theorem dM_joined_51 : decode cM_joined 51 = .ok (.iconst (-1), 1) := by decide +kernel
theorem dM_joined_52 : decode cM_joined 52 = .ok (.invokevirtual 61, 3) := by decide +kernel
theorem dM_joined_55 : decode cM_joined 55 = .ok (.iadd, 1) := by decide +kernel
theorem dM_joined_56 : decode cM_joined 56 = .ok (.bipush (20), 2) := by decide +kernel
theorem dM_joined_58 : decode cM_joined 58 = .ok (.if_icmp .le (5), 3) := by decide +kernel
theorem dM_joined_61 : decode cM_joined 61 = .ok (.iconst (-1), 1) := by decide +kernel
theorem dM_joined_62 : decode cM_joined 62 = .ok (.ireturn, 1) := by decide +kernel
theorem dM_joined_63 : decode cM_joined 63 = .ok (.aload_n 0, 1) := by decide +kernel
theorem dM_joined_64 : decode cM_joined 64 = .ok (.getfield 17, 3) := by decide +kernel
theorem dM_joined_67 : decode cM_joined 67 = .ok (.iload_n 1, 1) := by decide +kernel
theorem dM_joined_68 : decode cM_joined 68 = .ok (.iaload, 1) := by decide +kernel
theorem dM_joined_69 : decode cM_joined 69 = .ok (.aload_n 0, 1) := by decide +kernel
theorem dM_joined_70 : decode cM_joined 70 = .ok (.getfield 17, 3) := by decide +kernel
theorem dM_joined_73 : decode cM_joined 73 = .ok (.iload_n 2, 1) := by decide +kernel
theorem dM_joined_74 : decode cM_joined 74 = .ok (.iaload, 1) := by decide +kernel
theorem dM_joined_75 : decode cM_joined 75 = .ok (.if_icmp .ge (12), 3) := by decide +kernel
theorem dM_joined_78 : decode cM_joined 78 = .ok (.aload_n 0, 1) := by decide +kernel
theorem dM_joined_79 : decode cM_joined 79 = .ok (.getfield 17, 3) := by decide +kernel
theorem dM_joined_82 : decode cM_joined 82 = .ok (.iload_n 1, 1) := by decide +kernel
theorem dM_joined_83 : decode cM_joined 83 = .ok (.iaload, 1) := by decide +kernel
theorem dM_joined_84 : decode cM_joined 84 = .ok (.goto (9), 3) := by decide +kernel
theorem dM_joined_87 : decode cM_joined 87 = .ok (.aload_n 0, 1) := by decide +kernel
theorem dM_joined_88 : decode cM_joined 88 = .ok (.getfield 17, 3) := by decide +kernel
theorem dM_joined_91 : decode cM_joined 91 = .ok (.iload_n 2, 1) := by decide +kernel
theorem dM_joined_92 : decode cM_joined 92 = .ok (.iaload, 1) := by decide +kernel
theorem dM_joined_93 : decode cM_joined 93 = .ok (.istore_n 3, 1) := by decide +kernel
theorem dM_joined_94 : decode cM_joined 94 = .ok (.aload_n 0, 1) := by decide +kernel
theorem dM_joined_95 : decode cM_joined 95 = .ok (.getfield 17, 3) := by decide +kernel
theorem dM_joined_98 : decode cM_joined 98 = .ok (.iload_n 1, 1) := by decide +kernel
theorem dM_joined_99 : decode cM_joined 99 = .ok (.iaload, 1) := by decide +kernel
theorem dM_joined_100 : decode cM_joined 100 = .ok (.aload_n 0, 1) := by decide +kernel
theorem dM_joined_101 : decode cM_joined 101 = .ok (.getfield 17, 3) := by decide +kernel
theorem dM_joined_104 : decode cM_joined 104 = .ok (.iload_n 2, 1) := by decide +kernel
theorem dM_joined_105 : decode cM_joined 105 = .ok (.iaload, 1) := by decide +kernel
theorem dM_joined_106 : decode cM_joined 106 = .ok (.if_icmp .ge (12), 3) := by decide +kernel
theorem dM_joined_109 : decode cM_joined 109 = .ok (.aload_n 0, 1) := by decide +kernel
theorem dM_joined_110 : decode cM_joined 110 = .ok (.getfield 17, 3) := by decide +kernel
theorem dM_joined_113 : decode cM_joined 113 = .ok (.iload_n 2, 1) := by decide +kernel
theorem dM_joined_114 : decode cM_joined 114 = .ok (.iaload, 1) := by decide +kernel
theorem dM_joined_115 : decode cM_joined 115 = .ok (.goto (9), 3) := by decide +kernel
theorem dM_joined_118 : decode cM_joined 118 = .ok (.aload_n 0, 1) := by decide +kernel
theorem dM_joined_119 : decode cM_joined 119 = .ok (.getfield 17, 3) := by decide +kernel
theorem dM_joined_122 : decode cM_joined 122 = .ok (.iload_n 1, 1) := by decide +kernel
theorem dM_joined_123 : decode cM_joined 123 = .ok (.iaload, 1) := by decide +kernel
theorem dM_joined_124 : decode cM_joined 124 = .ok (.istore 4, 2) := by decide +kernel
theorem dM_joined_126 : decode cM_joined 126 = .ok (.iconst 0, 1) := by decide +kernel
theorem dM_joined_127 : decode cM_joined 127 = .ok (.istore 5, 2) := by decide +kernel
theorem dM_joined_129 : decode cM_joined 129 = .ok (.iload 5, 2) := by decide +kernel
theorem dM_joined_131 : decode cM_joined 131 = .ok (.aload_n 0, 1) := by decide +kernel
theorem dM_joined_132 : decode cM_joined 132 = .ok (.getfield 39, 3) := by decide +kernel
theorem dM_joined_135 : decode cM_joined 135 = .ok (.if_icmp .ge (80), 3) := by decide +kernel
theorem dM_joined_138 : decode cM_joined 138 = .ok (.aload_n 0, 1) := by decide +kernel
theorem dM_joined_139 : decode cM_joined 139 = .ok (.getfield 20, 3) := by decide +kernel
theorem dM_joined_142 : decode cM_joined 142 = .ok (.iload 5, 2) := by decide +kernel
theorem dM_joined_144 : decode cM_joined 144 = .ok (.aload_n 0, 1) := by decide +kernel
theorem dM_joined_145 : decode cM_joined 145 = .ok (.getfield 20, 3) := by decide +kernel
theorem dM_joined_148 : decode cM_joined 148 = .ok (.iload 5, 2) := by decide +kernel
theorem dM_joined_150 : decode cM_joined 150 = .ok (.iaload, 1) := by decide +kernel
theorem dM_joined_151 : decode cM_joined 151 = .ok (.iload_n 3, 1) := by decide +kernel
theorem dM_joined_152 : decode cM_joined 152 = .ok (.if_icmp .eq (15), 3) := by decide +kernel
theorem dM_joined_155 : decode cM_joined 155 = .ok (.aload_n 0, 1) := by decide +kernel
theorem dM_joined_156 : decode cM_joined 156 = .ok (.getfield 20, 3) := by decide +kernel
theorem dM_joined_159 : decode cM_joined 159 = .ok (.iload 5, 2) := by decide +kernel
theorem dM_joined_161 : decode cM_joined 161 = .ok (.iaload, 1) := by decide +kernel
theorem dM_joined_162 : decode cM_joined 162 = .ok (.iload 4, 2) := by decide +kernel
theorem dM_joined_164 : decode cM_joined 164 = .ok (.if_icmp .ne (7), 3) := by decide +kernel
theorem dM_joined_167 : decode cM_joined 167 = .ok (.iconst (-1), 1) := by decide +kernel
theorem dM_joined_168 : decode cM_joined 168 = .ok (.goto (10), 3) := by decide +kernel
theorem dM_joined_171 : decode cM_joined 171 = .ok (.aload_n 0, 1) := by decide +kernel
theorem dM_joined_172 : decode cM_joined 172 = .ok (.getfield 20, 3) := by decide +kernel
theorem dM_joined_175 : decode cM_joined 175 = .ok (.iload 5, 2) := by decide +kernel
theorem dM_joined_177 : decode cM_joined 177 = .ok (.iaload, 1) := by decide +kernel
theorem dM_joined_178 : decode cM_joined 178 = .ok (.iastore, 1) := by decide +kernel
theorem dM_joined_179 : decode cM_joined 179 = .ok (.aload_n 0, 1) := by decide +kernel
theorem dM_joined_180 : decode cM_joined 180 = .ok (.getfield 17, 3) := by decide +kernel
theorem dM_joined_183 : decode cM_joined 183 = .ok (.iload 5, 2) := by decide +kernel
theorem dM_joined_185 : decode cM_joined 185 = .ok (.aload_n 0, 1) := by decide +kernel
theorem dM_joined_186 : decode cM_joined 186 = .ok (.getfield 17, 3) := by decide +kernel
theorem dM_joined_189 : decode cM_joined 189 = .ok (.iload 5, 2) := by decide +kernel
theorem dM_joined_191 : decode cM_joined 191 = .ok (.iaload, 1) := by decide +kernel
theorem dM_joined_192 : decode cM_joined 192 = .ok (.iload 4, 2) := by decide +kernel
theorem dM_joined_194 : decode cM_joined 194 = .ok (.if_icmp .ne (7), 3) := by decide +kernel
theorem dM_joined_197 : decode cM_joined 197 = .ok (.iload_n 3, 1) := by decide +kernel
theorem dM_joined_198 : decode cM_joined 198 = .ok (.goto (10), 3) := by decide +kernel
theorem dM_joined_201 : decode cM_joined 201 = .ok (.aload_n 0, 1) := by decide +kernel
theorem dM_joined_202 : decode cM_joined 202 = .ok (.getfield 17, 3) := by decide +kernel
theorem dM_joined_205 : decode cM_joined 205 = .ok (.iload 5, 2) := by decide +kernel
theorem dM_joined_207 : decode cM_joined 207 = .ok (.iaload, 1) := by decide +kernel
theorem dM_joined_208 : decode cM_joined 208 = .ok (.iastore, 1) := by decide +kernel
theorem dM_joined_209 : decode cM_joined 209 = .ok (.iinc 5 (1), 3) := by decide +kernel
theorem dM_joined_212 : decode cM_joined 212 = .ok (.goto (-83), 3) := by decide +kernel
theorem dM_joined_215 : decode cM_joined 215 = .ok (.aload_n 0, 1) := by decide +kernel
theorem dM_joined_216 : decode cM_joined 216 = .ok (.getfield 20, 3) := by decide +kernel
theorem dM_joined_219 : decode cM_joined 219 = .ok (.iload_n 3, 1) := by decide +kernel
theorem dM_joined_220 : decode cM_joined 220 = .ok (.iconst (-1), 1) := by decide +kernel
theorem dM_joined_221 : decode cM_joined 221 = .ok (.iastore, 1) := by decide +kernel
theorem dM_joined_222 : decode cM_joined 222 = .ok (.aload_n 0, 1) := by decide +kernel
theorem dM_joined_223 : decode cM_joined 223 = .ok (.getfield 20, 3) := by decide +kernel
theorem dM_joined_226 : decode cM_joined 226 = .ok (.iload 4, 2) := by decide +kernel
theorem dM_joined_228 : decode cM_joined 228 = .ok (.iconst (-1), 1) := by decide +kernel
theorem dM_joined_229 : decode cM_joined 229 = .ok (.iastore, 1) := by decide +kernel
theorem dM_joined_230 : decode cM_joined 230 = .ok (.iload_n 3, 1) := by decide +kernel
theorem dM_joined_231 : decode cM_joined 231 = .ok (.ireturn, 1) := by decide +kernel
set_option maxHeartbeats 400000 in
set_option maxRecDepth 100000 in
theorem tM_joined_208 {p : Program} {l : Launch} {e : Env} {s : State} {m : MethodId} {args : Array Value} {below : List Frame} {meth : Method} {c : Code} {D : va_G} {A : Nat → Prop} {q : Nat → Nat} {k : kM} {cI cJ : ClassId} {r : Int32} {σ' : sM} {fu : Nat} {h129 : sM → Int32 → Int32 → Int32 → Option (Int32 × sM)} (C0 : Cx p s m args meth c cM_joined 6 (some .int) RM TM) (hK : va_K D cl0 [(cI, .int), (cJ, .long)] s) (hA : ∀ z, s.heap.size ≤ z → A z) (ih129 : ∀ (σ : sM) (x3 : Int32) (x4 : Int32) (x5 : Int32)(H : Heap) (locs : List Loc) (ls : Array Slot), h129 σ x3 x4 x5 = some (r, σ') → lv_has ls 6 [(0, .ref (q 0)), (3, .int x3), (4, .int x4), (5, .int x5)] → va_P D cl0 (wdM q k cI cJ σ) H → va_D A (wdM q k cI cJ σ) → va_S A s.heap H locs → W p l e ({ frames := 3, cells := 0, slots := 0, locals := 73 }) s m args below meth c H locs 0 0 (MQ below (kQi D cl0 [(cI, .int), (cJ, .long)] (wdM q k cI cJ) A r σ') args s 0 0 A) (F0 m 129 ls [])) : ∀ (σ : sM) (y1 : Int32) (y2 : Int32) (x3 : Int32) (x4 : Int32) (x5 : Int32)(H : Heap) (locs : List Loc) (ls : Array Slot), fM_joined_208 fu k h129 σ y1 y2 x3 x4 x5 = some (r, σ') → lv_has ls 6 [(0, .ref (q 0)), (3, .int x3), (4, .int x4), (5, .int x5)] → va_P D cl0 (wdM q k cI cJ σ) H → va_D A (wdM q k cI cJ σ) → va_S A s.heap H locs → W p l e ({ frames := 3, cells := 0, slots := 0, locals := 73 }) s m args below meth c H locs 0 0 (MQ below (kQi D cl0 [(cI, .int), (cJ, .long)] (wdM q k cI cJ) A r σ') args s 0 0 A) (F0 m 208 ls [.int y2, .int y1, .ref (q 2)]) := by
  obtain ⟨hx, hb, hr, hml, hown, hts, hlocks⟩ := id C0
  intro σ y1 y2 x3 x4 x5 H locs ls hf hl hP hD hS
  unfold fM_joined_208 at hf
  obtain ⟨a208, ea208, hf⟩ := kb1 hf
  refine kr_iastore (σ' := (uM_group σ a208)) hx hb hK hP hD hS 2 0 rfl rfl ea208 (wM_group q k cI cJ _ _) dM_joined_208 (fun H locs hP hD hS => ?_)
  generalize (uM_group σ a208) = s208 at hf hP hD
  refine lv_iinc (v := (x5 + 1)) (lv' := [(5, .int (x5 + 1)), (0, .ref (q 0)), (3, .int x3), (4, .int x4)]) hx hb dM_joined_209 hl (k := 3) rfl rfl (by decide) rfl (fun ls hl => ?_)
  refine lv_goto (tgt := 129) hx hb dM_joined_212 (by decide) ?_
  exact ih129 s208 x3 x4 (x5 + 1) _ _ ls hf (lv_sub hl [1, 2, 3, 0] rfl) hP hD hS
set_option maxHeartbeats 400000 in
set_option maxRecDepth 100000 in
theorem tM_joined_178 {p : Program} {l : Launch} {e : Env} {s : State} {m : MethodId} {args : Array Value} {below : List Frame} {meth : Method} {c : Code} {D : va_G} {A : Nat → Prop} {q : Nat → Nat} {k : kM} {cI cJ : ClassId} {r : Int32} {σ' : sM} {fu : Nat} {h129 : sM → Int32 → Int32 → Int32 → Option (Int32 × sM)} (C0 : Cx p s m args meth c cM_joined 6 (some .int) RM TM) (hK : va_K D cl0 [(cI, .int), (cJ, .long)] s) (hA : ∀ z, s.heap.size ≤ z → A z) (ih129 : ∀ (σ : sM) (x3 : Int32) (x4 : Int32) (x5 : Int32)(H : Heap) (locs : List Loc) (ls : Array Slot), h129 σ x3 x4 x5 = some (r, σ') → lv_has ls 6 [(0, .ref (q 0)), (3, .int x3), (4, .int x4), (5, .int x5)] → va_P D cl0 (wdM q k cI cJ σ) H → va_D A (wdM q k cI cJ σ) → va_S A s.heap H locs → W p l e ({ frames := 3, cells := 0, slots := 0, locals := 73 }) s m args below meth c H locs 0 0 (MQ below (kQi D cl0 [(cI, .int), (cJ, .long)] (wdM q k cI cJ) A r σ') args s 0 0 A) (F0 m 129 ls [])) : ∀ (σ : sM) (y1 : Int32) (y2 : Int32) (x3 : Int32) (x4 : Int32) (x5 : Int32)(H : Heap) (locs : List Loc) (ls : Array Slot), fM_joined_178 fu k h129 σ y1 y2 x3 x4 x5 = some (r, σ') → lv_has ls 6 [(0, .ref (q 0)), (3, .int x3), (4, .int x4), (5, .int x5)] → va_P D cl0 (wdM q k cI cJ σ) H → va_D A (wdM q k cI cJ σ) → va_S A s.heap H locs → W p l e ({ frames := 3, cells := 0, slots := 0, locals := 73 }) s m args below meth c H locs 0 0 (MQ below (kQi D cl0 [(cI, .int), (cJ, .long)] (wdM q k cI cJ) A r σ') args s 0 0 A) (F0 m 178 ls [.int y2, .int y1, .ref (q 3)]) := by
  obtain ⟨hx, hb, hr, hml, hown, hts, hlocks⟩ := id C0
  intro σ y1 y2 x3 x4 x5 H locs ls hf hl hP hD hS
  unfold fM_joined_178 at hf
  obtain ⟨a178, ea178, hf⟩ := kb1 hf
  refine kr_iastore (σ' := (uM_filler σ a178)) hx hb hK hP hD hS 3 0 rfl rfl ea178 (wM_filler q k cI cJ _ _) dM_joined_178 (fun H locs hP hD hS => ?_)
  generalize (uM_filler σ a178) = s178 at hf hP hD
  refine lv_aload_n hx hb dM_joined_179 rfl (lv_at hl 0 rfl) ?_
  refine gM_group hx hb hown hts hK hP dM_joined_180 ?_
  refine lv_iload hx hb dM_joined_183 (lv_at hl 3 rfl) ?_
  refine lv_aload_n hx hb dM_joined_185 rfl (lv_at hl 0 rfl) ?_
  refine gM_group hx hb hown hts hK hP dM_joined_186 ?_
  refine lv_iload hx hb dM_joined_189 (lv_at hl 3 rfl) ?_
  obtain ⟨v191, ev191, hf⟩ := kb1 hf
  refine kr_iaload hx hb hK hP 2 0 rfl rfl ev191 dM_joined_191 ?_
  refine lv_iload hx hb dM_joined_192 (lv_at hl 2 rfl) ?_
  refine lv_icmp_ne (tgt := 201) hx hb dM_joined_194 (by decide) (fun c194 => ?_) (fun c194 => ?_)
  · have hf := (if_neg c194).symm.trans hf
    refine lv_aload_n hx hb dM_joined_201 rfl (lv_at hl 0 rfl) ?_
    refine gM_group hx hb hown hts hK hP dM_joined_202 ?_
    refine lv_iload hx hb dM_joined_205 (lv_at hl 3 rfl) ?_
    obtain ⟨v207, ev207, hf⟩ := kb1 hf
    refine kr_iaload hx hb hK hP 2 0 rfl rfl ev207 dM_joined_207 ?_
    exact tM_joined_208 C0 hK hA ih129 s178 x5 v207 x3 x4 x5 _ _ ls hf (lv_sub hl [0, 1, 2, 3] rfl) hP hD hS
  · have hf := (if_pos c194).symm.trans hf
    refine lv_iload_n hx hb dM_joined_197 rfl (lv_at hl 1 rfl) ?_
    refine lv_goto (tgt := 208) hx hb dM_joined_198 (by decide) ?_
    exact tM_joined_208 C0 hK hA ih129 s178 x5 x3 x3 x4 x5 _ _ ls hf (lv_sub hl [0, 1, 2, 3] rfl) hP hD hS
set_option maxHeartbeats 400000 in
set_option maxRecDepth 100000 in
theorem tM_joined_167 {p : Program} {l : Launch} {e : Env} {s : State} {m : MethodId} {args : Array Value} {below : List Frame} {meth : Method} {c : Code} {D : va_G} {A : Nat → Prop} {q : Nat → Nat} {k : kM} {cI cJ : ClassId} {r : Int32} {σ' : sM} {fu : Nat} {h129 : sM → Int32 → Int32 → Int32 → Option (Int32 × sM)} (C0 : Cx p s m args meth c cM_joined 6 (some .int) RM TM) (hK : va_K D cl0 [(cI, .int), (cJ, .long)] s) (hA : ∀ z, s.heap.size ≤ z → A z) (ih129 : ∀ (σ : sM) (x3 : Int32) (x4 : Int32) (x5 : Int32)(H : Heap) (locs : List Loc) (ls : Array Slot), h129 σ x3 x4 x5 = some (r, σ') → lv_has ls 6 [(0, .ref (q 0)), (3, .int x3), (4, .int x4), (5, .int x5)] → va_P D cl0 (wdM q k cI cJ σ) H → va_D A (wdM q k cI cJ σ) → va_S A s.heap H locs → W p l e ({ frames := 3, cells := 0, slots := 0, locals := 73 }) s m args below meth c H locs 0 0 (MQ below (kQi D cl0 [(cI, .int), (cJ, .long)] (wdM q k cI cJ) A r σ') args s 0 0 A) (F0 m 129 ls [])) : ∀ (σ : sM) (y1 : Int32) (x3 : Int32) (x4 : Int32) (x5 : Int32)(H : Heap) (locs : List Loc) (ls : Array Slot), fM_joined_167 fu k h129 σ y1 x3 x4 x5 = some (r, σ') → lv_has ls 6 [(0, .ref (q 0)), (3, .int x3), (4, .int x4), (5, .int x5)] → va_P D cl0 (wdM q k cI cJ σ) H → va_D A (wdM q k cI cJ σ) → va_S A s.heap H locs → W p l e ({ frames := 3, cells := 0, slots := 0, locals := 73 }) s m args below meth c H locs 0 0 (MQ below (kQi D cl0 [(cI, .int), (cJ, .long)] (wdM q k cI cJ) A r σ') args s 0 0 A) (F0 m 167 ls [.int y1, .ref (q 3)]) := by
  obtain ⟨hx, hb, hr, hml, hown, hts, hlocks⟩ := id C0
  intro σ y1 x3 x4 x5 H locs ls hf hl hP hD hS
  unfold fM_joined_167 at hf
  refine lv_iconst (v := (-1)) hx hb dM_joined_167 (by decide) ?_
  refine lv_goto (tgt := 178) hx hb dM_joined_168 (by decide) ?_
  exact tM_joined_178 C0 hK hA ih129 σ y1 (-1) x3 x4 x5 _ _ ls hf (lv_sub hl [0, 1, 2, 3] rfl) hP hD hS
set_option maxHeartbeats 400000 in
set_option maxRecDepth 100000 in
theorem tM_joined_129 {p : Program} {l : Launch} {e : Env} {s : State} {m : MethodId} {args : Array Value} {below : List Frame} {meth : Method} {c : Code} {D : va_G} {A : Nat → Prop} {q : Nat → Nat} {k : kM} {cI cJ : ClassId} {r : Int32} {σ' : sM} {fu : Nat} (C0 : Cx p s m args meth c cM_joined 6 (some .int) RM TM) (hK : va_K D cl0 [(cI, .int), (cJ, .long)] s) (hA : ∀ z, s.heap.size ≤ z → A z) : ∀ n : Nat, ∀ (σ : sM) (x3 : Int32) (x4 : Int32) (x5 : Int32)(H : Heap) (locs : List Loc) (ls : Array Slot), fM_joined_129 fu k n σ x3 x4 x5 = some (r, σ') → lv_has ls 6 [(0, .ref (q 0)), (3, .int x3), (4, .int x4), (5, .int x5)] → va_P D cl0 (wdM q k cI cJ σ) H → va_D A (wdM q k cI cJ σ) → va_S A s.heap H locs → W p l e ({ frames := 3, cells := 0, slots := 0, locals := 73 }) s m args below meth c H locs 0 0 (MQ below (kQi D cl0 [(cI, .int), (cJ, .long)] (wdM q k cI cJ) A r σ') args s 0 0 A) (F0 m 129 ls []) := by
  obtain ⟨hx, hb, hr, hml, hown, hts, hlocks⟩ := id C0
  intro n
  induction n with
  | zero =>
    intro σ x3 x4 x5 H locs ls hf hl hP hD hS
    cases hf
  | succ n ih =>
    intro σ x3 x4 x5 H locs ls hf hl hP hD hS
    rw [fM_joined_129] at hf
    refine lv_iload hx hb dM_joined_129 (lv_at hl 3 rfl) ?_
    refine lv_aload_n hx hb dM_joined_131 rfl (lv_at hl 0 rfl) ?_
    refine gM_classes hx hb hown hts hK hP dM_joined_132 ?_
    refine lv_icmp_ge (tgt := 215) hx hb dM_joined_135 (by decide) (fun c135 => ?_) (fun c135 => ?_)
    · have hf := (if_pos c135).symm.trans hf
      refine lv_aload_n hx hb dM_joined_215 rfl (lv_at hl 0 rfl) ?_
      refine gM_filler hx hb hown hts hK hP dM_joined_216 ?_
      refine lv_iload_n hx hb dM_joined_219 rfl (lv_at hl 1 rfl) ?_
      refine lv_iconst (v := (-1)) hx hb dM_joined_220 (by decide) ?_
      obtain ⟨a221, ea221, hf⟩ := kb1 hf
      refine kr_iastore (σ' := (uM_filler σ a221)) hx hb hK hP hD hS 3 0 rfl rfl ea221 (wM_filler q k cI cJ _ _) dM_joined_221 (fun H locs hP hD hS => ?_)
      generalize (uM_filler σ a221) = s221 at hf hP hD
      refine lv_aload_n hx hb dM_joined_222 rfl (lv_at hl 0 rfl) ?_
      refine gM_filler hx hb hown hts hK hP dM_joined_223 ?_
      refine lv_iload hx hb dM_joined_226 (lv_at hl 2 rfl) ?_
      refine lv_iconst (v := (-1)) hx hb dM_joined_228 (by decide) ?_
      obtain ⟨a229, ea229, hf⟩ := kb1 hf
      refine kr_iastore (σ' := (uM_filler s221 a229)) hx hb hK hP hD hS 3 0 rfl rfl ea229 (wM_filler q k cI cJ _ _) dM_joined_229 (fun H locs hP hD hS => ?_)
      generalize (uM_filler s221 a229) = s229 at hf hP hD
      refine lv_iload_n hx hb dM_joined_230 rfl (lv_at hl 1 rfl) ?_
      exact kr_iret C0 hK hP hD hS (congrArg Prod.fst (Option.some.inj hf)) (congrArg Prod.snd (Option.some.inj hf)) dM_joined_231
    · have hf := (if_neg c135).symm.trans hf
      refine lv_aload_n hx hb dM_joined_138 rfl (lv_at hl 0 rfl) ?_
      refine gM_filler hx hb hown hts hK hP dM_joined_139 ?_
      refine lv_iload hx hb dM_joined_142 (lv_at hl 3 rfl) ?_
      refine lv_aload_n hx hb dM_joined_144 rfl (lv_at hl 0 rfl) ?_
      refine gM_filler hx hb hown hts hK hP dM_joined_145 ?_
      refine lv_iload hx hb dM_joined_148 (lv_at hl 3 rfl) ?_
      obtain ⟨v150, ev150, hf⟩ := kb1 hf
      refine kr_iaload hx hb hK hP 3 0 rfl rfl ev150 dM_joined_150 ?_
      refine lv_iload_n hx hb dM_joined_151 rfl (lv_at hl 1 rfl) ?_
      refine lv_icmp_eq (tgt := 167) hx hb dM_joined_152 (by decide) (fun c152 => ?_) (fun c152 => ?_)
      · have hf := (if_pos c152).symm.trans hf
        exact tM_joined_167 C0 hK hA ih σ x5 x3 x4 x5 _ _ ls hf (lv_sub hl [0, 1, 2, 3] rfl) hP hD hS
      · have hf := (if_neg c152).symm.trans hf
        refine lv_aload_n hx hb dM_joined_155 rfl (lv_at hl 0 rfl) ?_
        refine gM_filler hx hb hown hts hK hP dM_joined_156 ?_
        refine lv_iload hx hb dM_joined_159 (lv_at hl 3 rfl) ?_
        obtain ⟨v161, ev161, hf⟩ := kb1 hf
        refine kr_iaload hx hb hK hP 3 0 rfl rfl ev161 dM_joined_161 ?_
        refine lv_iload hx hb dM_joined_162 (lv_at hl 2 rfl) ?_
        refine lv_icmp_ne (tgt := 171) hx hb dM_joined_164 (by decide) (fun c164 => ?_) (fun c164 => ?_)
        · have hf := (if_neg c164).symm.trans hf
          refine lv_aload_n hx hb dM_joined_171 rfl (lv_at hl 0 rfl) ?_
          refine gM_filler hx hb hown hts hK hP dM_joined_172 ?_
          refine lv_iload hx hb dM_joined_175 (lv_at hl 3 rfl) ?_
          obtain ⟨v177, ev177, hf⟩ := kb1 hf
          refine kr_iaload hx hb hK hP 3 0 rfl rfl ev177 dM_joined_177 ?_
          exact tM_joined_178 C0 hK hA ih σ x5 v177 x3 x4 x5 _ _ ls hf (lv_sub hl [0, 1, 2, 3] rfl) hP hD hS
        · have hf := (if_pos c164).symm.trans hf
          exact tM_joined_167 C0 hK hA ih σ x5 x3 x4 x5 _ _ ls hf (lv_sub hl [0, 1, 2, 3] rfl) hP hD hS
set_option maxHeartbeats 400000 in
set_option maxRecDepth 100000 in
theorem tM_joined_124 {p : Program} {l : Launch} {e : Env} {s : State} {m : MethodId} {args : Array Value} {below : List Frame} {meth : Method} {c : Code} {D : va_G} {A : Nat → Prop} {q : Nat → Nat} {k : kM} {cI cJ : ClassId} {r : Int32} {σ' : sM} {fu : Nat} (C0 : Cx p s m args meth c cM_joined 6 (some .int) RM TM) (hK : va_K D cl0 [(cI, .int), (cJ, .long)] s) (hA : ∀ z, s.heap.size ≤ z → A z) : ∀ (σ : sM) (y0 : Int32) (x3 : Int32)(H : Heap) (locs : List Loc) (ls : Array Slot), fM_joined_124 fu k σ y0 x3 = some (r, σ') → lv_has ls 6 [(0, .ref (q 0)), (3, .int x3)] → va_P D cl0 (wdM q k cI cJ σ) H → va_D A (wdM q k cI cJ σ) → va_S A s.heap H locs → W p l e ({ frames := 3, cells := 0, slots := 0, locals := 73 }) s m args below meth c H locs 0 0 (MQ below (kQi D cl0 [(cI, .int), (cJ, .long)] (wdM q k cI cJ) A r σ') args s 0 0 A) (F0 m 124 ls [.int y0]) := by
  obtain ⟨hx, hb, hr, hml, hown, hts, hlocks⟩ := id C0
  intro σ y0 x3 H locs ls hf hl hP hD hS
  unfold fM_joined_124 at hf
  refine lv_istore (lv' := [(4, .int y0), (0, .ref (q 0)), (3, .int x3)]) hx hb dM_joined_124 hl (by decide) rfl (fun ls hl => ?_)
  refine lv_iconst (v := 0) hx hb dM_joined_126 (by decide) ?_
  refine lv_istore (lv' := [(5, .int 0), (4, .int y0), (0, .ref (q 0)), (3, .int x3)]) hx hb dM_joined_127 hl (by decide) rfl (fun ls hl => ?_)
  exact tM_joined_129 C0 hK hA fu σ x3 y0 0 _ _ ls hf (lv_sub hl [2, 3, 1, 0] rfl) hP hD hS
set_option maxHeartbeats 400000 in
set_option maxRecDepth 100000 in
theorem tM_joined_93 {p : Program} {l : Launch} {e : Env} {s : State} {m : MethodId} {args : Array Value} {below : List Frame} {meth : Method} {c : Code} {D : va_G} {A : Nat → Prop} {q : Nat → Nat} {k : kM} {cI cJ : ClassId} {r : Int32} {σ' : sM} {fu : Nat} (C0 : Cx p s m args meth c cM_joined 6 (some .int) RM TM) (hK : va_K D cl0 [(cI, .int), (cJ, .long)] s) (hA : ∀ z, s.heap.size ≤ z → A z) : ∀ (σ : sM) (y0 : Int32) (x1 : Int32) (x2 : Int32)(H : Heap) (locs : List Loc) (ls : Array Slot), fM_joined_93 fu k σ y0 x1 x2 = some (r, σ') → lv_has ls 6 [(0, .ref (q 0)), (1, .int x1), (2, .int x2)] → va_P D cl0 (wdM q k cI cJ σ) H → va_D A (wdM q k cI cJ σ) → va_S A s.heap H locs → W p l e ({ frames := 3, cells := 0, slots := 0, locals := 73 }) s m args below meth c H locs 0 0 (MQ below (kQi D cl0 [(cI, .int), (cJ, .long)] (wdM q k cI cJ) A r σ') args s 0 0 A) (F0 m 93 ls [.int y0]) := by
  obtain ⟨hx, hb, hr, hml, hown, hts, hlocks⟩ := id C0
  intro σ y0 x1 x2 H locs ls hf hl hP hD hS
  unfold fM_joined_93 at hf
  refine lv_istore_n (lv' := [(3, .int y0), (0, .ref (q 0)), (1, .int x1), (2, .int x2)]) hx hb dM_joined_93 rfl hl (by decide) rfl (fun ls hl => ?_)
  refine lv_aload_n hx hb dM_joined_94 rfl (lv_at hl 1 rfl) ?_
  refine gM_group hx hb hown hts hK hP dM_joined_95 ?_
  refine lv_iload_n hx hb dM_joined_98 rfl (lv_at hl 2 rfl) ?_
  obtain ⟨v99, ev99, hf⟩ := kb1 hf
  refine kr_iaload hx hb hK hP 2 0 rfl rfl ev99 dM_joined_99 ?_
  refine lv_aload_n hx hb dM_joined_100 rfl (lv_at hl 1 rfl) ?_
  refine gM_group hx hb hown hts hK hP dM_joined_101 ?_
  refine lv_iload_n hx hb dM_joined_104 rfl (lv_at hl 3 rfl) ?_
  obtain ⟨v105, ev105, hf⟩ := kb1 hf
  refine kr_iaload hx hb hK hP 2 0 rfl rfl ev105 dM_joined_105 ?_
  refine lv_icmp_ge (tgt := 118) hx hb dM_joined_106 (by decide) (fun c106 => ?_) (fun c106 => ?_)
  · have hf := (if_pos c106).symm.trans hf
    refine lv_aload_n hx hb dM_joined_118 rfl (lv_at hl 1 rfl) ?_
    refine gM_group hx hb hown hts hK hP dM_joined_119 ?_
    refine lv_iload_n hx hb dM_joined_122 rfl (lv_at hl 2 rfl) ?_
    obtain ⟨v123, ev123, hf⟩ := kb1 hf
    refine kr_iaload hx hb hK hP 2 0 rfl rfl ev123 dM_joined_123 ?_
    exact tM_joined_124 C0 hK hA σ v123 y0 _ _ ls hf (lv_sub hl [1, 0] rfl) hP hD hS
  · have hf := (if_neg c106).symm.trans hf
    refine lv_aload_n hx hb dM_joined_109 rfl (lv_at hl 1 rfl) ?_
    refine gM_group hx hb hown hts hK hP dM_joined_110 ?_
    refine lv_iload_n hx hb dM_joined_113 rfl (lv_at hl 3 rfl) ?_
    obtain ⟨v114, ev114, hf⟩ := kb1 hf
    refine kr_iaload hx hb hK hP 2 0 rfl rfl ev114 dM_joined_114 ?_
    refine lv_goto (tgt := 124) hx hb dM_joined_115 (by decide) ?_
    exact tM_joined_124 C0 hK hA σ v114 y0 _ _ ls hf (lv_sub hl [1, 0] rfl) hP hD hS
set_option maxHeartbeats 400000 in
set_option maxRecDepth 100000 in
theorem mM_joined (l : Launch) (D : va_G) (q : Nat → Nat) (k : kM) (cI cJ : ClassId) (sz : Nat) (fu : Nat) (σ : sM) (σ' : sM) (x1 : Int32) (x2 : Int32) (r : Int32) (hf : fM_joined fu k σ x1 x2 = some (r, σ')) : Met l yM_joined (.code yM_joined cM_joined 6 (some .int) :: TM) ({ frames := 3, cells := 0, slots := 0, locals := 73 }) (kPre D cl0 [(cI, .int), (cJ, .long)] (wdM q k cI cJ) sz σ [.ref (q 0), .int x1, .int x2]) (kQi D cl0 [(cI, .int), (cJ, .long)] (wdM q k cI cJ) (va_A (wdM q k cI cJ σ) sz) r σ') 0 0 (va_A (wdM q k cI cJ σ) sz) := by
  refine kr_start (own := RM) (by decide) rfl (Nat.le_of_ble_eq_true rfl) ?_
  intro p e s m args below meth c ls C0 hsz hK hP hD hl
  subst hsz
  obtain ⟨hx, hb, hr, hml, hown, hts, hlocks⟩ := id C0
  have hA : ∀ z : Nat, s.heap.size ≤ z → va_A (wdM q k cI cJ σ) s.heap.size z := fun z h => Or.inr h
  generalize va_A (wdM q k cI cJ σ) s.heap.size = A at hD hA ⊢
  have hS : va_S A s.heap s.heap [] := va_S.rf
  have hl : lv_has ls 6 [(0, .ref (q 0)), (1, .int x1), (2, .int x2)] := hl
  unfold fM_joined at hf
  refine lv_aload_n hx hb dM_joined_0 rfl (lv_at hl 0 rfl) ?_
  refine lv_iload_n hx hb dM_joined_1 rfl (lv_at hl 1 rfl) ?_
  refine kr_callVi (av := [.int x1]) ⟨hx, hb, hml, hown, hts⟩ (mM_isClass l D q k cI cJ _ σ x1 _ rfl) (cwV 1 hts (kgood_V TM_good (by decide +kernel)) rfl rfl rfl (by decide +kernel) ⟨Nat.le_of_ble_eq_true rfl, Nat.le_of_ble_eq_true rfl⟩) hK hP hD hS hA (ci := 1) (q0 := 0) rfl rfl rfl hl.1 rfl (Nat.le_of_ble_eq_true rfl) dM_joined_2 ⟨Nat.le_of_ble_eq_true rfl, Nat.le_of_ble_eq_true rfl⟩ (fun H locs hP hD hS => ?_)
  refine lv_if_eq (tgt := 61) hx hb dM_joined_5 (by decide) (fun c5 => ?_) (fun c5 => ?_)
  · have hf := (if_pos c5).symm.trans hf
    refine lv_iconst (v := (-1)) hx hb dM_joined_61 (by decide) ?_
    exact kr_iret C0 hK hP hD hS (congrArg Prod.fst (Option.some.inj hf)) (congrArg Prod.snd (Option.some.inj hf)) dM_joined_62
  · have hf := (if_neg c5).symm.trans hf
    refine lv_aload_n hx hb dM_joined_8 rfl (lv_at hl 0 rfl) ?_
    refine lv_iload_n hx hb dM_joined_9 rfl (lv_at hl 2 rfl) ?_
    refine kr_callVi (av := [.int x2]) ⟨hx, hb, hml, hown, hts⟩ (mM_isClass l D q k cI cJ _ σ x2 _ rfl) (cwV 1 hts (kgood_V TM_good (by decide +kernel)) rfl rfl rfl (by decide +kernel) ⟨Nat.le_of_ble_eq_true rfl, Nat.le_of_ble_eq_true rfl⟩) hK hP hD hS hA (ci := 1) (q0 := 0) rfl rfl rfl hl.1 rfl (Nat.le_of_ble_eq_true rfl) dM_joined_10 ⟨Nat.le_of_ble_eq_true rfl, Nat.le_of_ble_eq_true rfl⟩ (fun H locs hP hD hS => ?_)
    refine lv_if_eq (tgt := 61) hx hb dM_joined_13 (by decide) (fun c13 => ?_) (fun c13 => ?_)
    · have hf := (if_pos c13).symm.trans hf
      refine lv_iconst (v := (-1)) hx hb dM_joined_61 (by decide) ?_
      exact kr_iret C0 hK hP hD hS (congrArg Prod.fst (Option.some.inj hf)) (congrArg Prod.snd (Option.some.inj hf)) dM_joined_62
    · have hf := (if_neg c13).symm.trans hf
      refine lv_aload_n hx hb dM_joined_16 rfl (lv_at hl 0 rfl) ?_
      refine gM_group hx hb hown hts hK hP dM_joined_17 ?_
      refine lv_iload_n hx hb dM_joined_20 rfl (lv_at hl 1 rfl) ?_
      obtain ⟨v21, ev21, hf⟩ := kb1 hf
      refine kr_iaload hx hb hK hP 2 0 rfl rfl ev21 dM_joined_21 ?_
      refine lv_aload_n hx hb dM_joined_22 rfl (lv_at hl 0 rfl) ?_
      refine gM_group hx hb hown hts hK hP dM_joined_23 ?_
      refine lv_iload_n hx hb dM_joined_26 rfl (lv_at hl 2 rfl) ?_
      obtain ⟨v27, ev27, hf⟩ := kb1 hf
      refine kr_iaload hx hb hK hP 2 0 rfl rfl ev27 dM_joined_27 ?_
      refine lv_icmp_eq (tgt := 61) hx hb dM_joined_28 (by decide) (fun c28 => ?_) (fun c28 => ?_)
      · have hf := (if_pos c28).symm.trans hf
        refine lv_iconst (v := (-1)) hx hb dM_joined_61 (by decide) ?_
        exact kr_iret C0 hK hP hD hS (congrArg Prod.fst (Option.some.inj hf)) (congrArg Prod.snd (Option.some.inj hf)) dM_joined_62
      · have hf := (if_neg c28).symm.trans hf
        refine lv_aload_n hx hb dM_joined_31 rfl (lv_at hl 0 rfl) ?_
        refine lv_aload_n hx hb dM_joined_32 rfl (lv_at hl 0 rfl) ?_
        refine gM_group hx hb hown hts hK hP dM_joined_33 ?_
        refine lv_iload_n hx hb dM_joined_36 rfl (lv_at hl 1 rfl) ?_
        obtain ⟨v37, ev37, hf⟩ := kb1 hf
        refine kr_iaload hx hb hK hP 2 0 rfl rfl ev37 dM_joined_37 ?_
        refine lv_iconst (v := (-1)) hx hb dM_joined_38 (by decide) ?_
        refine lv_iconst (v := (-1)) hx hb dM_joined_39 (by decide) ?_
        obtain ⟨v40, ev40, hf⟩ := kb1 hf
        refine kr_callVi (av := [.int v37, .int (-1), .int (-1)]) ⟨hx, hb, hml, hown, hts⟩ (mM_inGroup l D q k cI cJ _ fu σ v37 (-1) (-1) v40 ev40) (cwV 3 hts (kgood_V TM_good (by decide +kernel)) rfl rfl rfl (by decide +kernel) ⟨Nat.le_of_ble_eq_true rfl, Nat.le_of_ble_eq_true rfl⟩) hK hP hD hS hA (ci := 1) (q0 := 0) rfl rfl rfl hl.1 rfl (Nat.le_of_ble_eq_true rfl) dM_joined_40 ⟨Nat.le_of_ble_eq_true rfl, Nat.le_of_ble_eq_true rfl⟩ (fun H locs hP hD hS => ?_)
        refine lv_aload_n hx hb dM_joined_43 rfl (lv_at hl 0 rfl) ?_
        refine lv_aload_n hx hb dM_joined_44 rfl (lv_at hl 0 rfl) ?_
        refine gM_group hx hb hown hts hK hP dM_joined_45 ?_
        refine lv_iload_n hx hb dM_joined_48 rfl (lv_at hl 2 rfl) ?_
        obtain ⟨v49, ev49, hf⟩ := kb1 hf
        refine kr_iaload hx hb hK hP 2 0 rfl rfl ev49 dM_joined_49 ?_
        refine lv_iconst (v := (-1)) hx hb dM_joined_50 (by decide) ?_
        refine lv_iconst (v := (-1)) hx hb dM_joined_51 (by decide) ?_
        obtain ⟨v52, ev52, hf⟩ := kb1 hf
        refine kr_callVi (av := [.int v49, .int (-1), .int (-1)]) ⟨hx, hb, hml, hown, hts⟩ (mM_inGroup l D q k cI cJ _ fu σ v49 (-1) (-1) v52 ev52) (cwV 3 hts (kgood_V TM_good (by decide +kernel)) rfl rfl rfl (by decide +kernel) ⟨Nat.le_of_ble_eq_true rfl, Nat.le_of_ble_eq_true rfl⟩) hK hP hD hS hA (ci := 1) (q0 := 0) rfl rfl rfl hl.1 rfl (Nat.le_of_ble_eq_true rfl) dM_joined_52 ⟨Nat.le_of_ble_eq_true rfl, Nat.le_of_ble_eq_true rfl⟩ (fun H locs hP hD hS => ?_)
        refine lv_iadd hx hb dM_joined_55 ?_
        refine lv_bipush (v := 20) hx hb dM_joined_56 (by decide) ?_
        refine lv_icmp_le (tgt := 63) hx hb dM_joined_58 (by decide) (fun c58 => ?_) (fun c58 => ?_)
        · have hf := (if_pos c58).symm.trans hf
          refine lv_aload_n hx hb dM_joined_63 rfl (lv_at hl 0 rfl) ?_
          refine gM_group hx hb hown hts hK hP dM_joined_64 ?_
          refine lv_iload_n hx hb dM_joined_67 rfl (lv_at hl 1 rfl) ?_
          obtain ⟨v68, ev68, hf⟩ := kb1 hf
          refine kr_iaload hx hb hK hP 2 0 rfl rfl ev68 dM_joined_68 ?_
          refine lv_aload_n hx hb dM_joined_69 rfl (lv_at hl 0 rfl) ?_
          refine gM_group hx hb hown hts hK hP dM_joined_70 ?_
          refine lv_iload_n hx hb dM_joined_73 rfl (lv_at hl 2 rfl) ?_
          obtain ⟨v74, ev74, hf⟩ := kb1 hf
          refine kr_iaload hx hb hK hP 2 0 rfl rfl ev74 dM_joined_74 ?_
          refine lv_icmp_ge (tgt := 87) hx hb dM_joined_75 (by decide) (fun c75 => ?_) (fun c75 => ?_)
          · have hf := (if_pos c75).symm.trans hf
            refine lv_aload_n hx hb dM_joined_87 rfl (lv_at hl 0 rfl) ?_
            refine gM_group hx hb hown hts hK hP dM_joined_88 ?_
            refine lv_iload_n hx hb dM_joined_91 rfl (lv_at hl 2 rfl) ?_
            obtain ⟨v92, ev92, hf⟩ := kb1 hf
            refine kr_iaload hx hb hK hP 2 0 rfl rfl ev92 dM_joined_92 ?_
            exact tM_joined_93 C0 hK hA σ v92 x1 x2 _ _ ls hf (lv_sub hl [0, 1, 2] rfl) hP hD hS
          · have hf := (if_neg c75).symm.trans hf
            refine lv_aload_n hx hb dM_joined_78 rfl (lv_at hl 0 rfl) ?_
            refine gM_group hx hb hown hts hK hP dM_joined_79 ?_
            refine lv_iload_n hx hb dM_joined_82 rfl (lv_at hl 1 rfl) ?_
            obtain ⟨v83, ev83, hf⟩ := kb1 hf
            refine kr_iaload hx hb hK hP 2 0 rfl rfl ev83 dM_joined_83 ?_
            refine lv_goto (tgt := 93) hx hb dM_joined_84 (by decide) ?_
            exact tM_joined_93 C0 hK hA σ v83 x1 x2 _ _ ls hf (lv_sub hl [0, 1, 2] rfl) hP hD hS
        · have hf := (if_neg c58).symm.trans hf
          refine lv_iconst (v := (-1)) hx hb dM_joined_61 (by decide) ?_
          exact kr_iret C0 hK hP hD hS (congrArg Prod.fst (Option.some.inj hf)) (congrArg Prod.snd (Option.some.inj hf)) dM_joined_62
