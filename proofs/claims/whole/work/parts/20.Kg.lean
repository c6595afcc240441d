theorem dK_determinant_0 : decode cK_determinant 0 = .ok (.lconst 1, 1) := by decide +kernel
theorem dK_determinant_1 : decode cK_determinant 1 = .ok (.lstore_n 1, 1) := by decide +kernel
theorem dK_determinant_2 : decode cK_determinant 2 = .ok (.lconst 1, 1) := by decide +kernel
theorem dK_determinant_3 : decode cK_determinant 3 = .ok (.lstore_n 3, 1) := by decide +kernel
theorem dK_determinant_4 : decode cK_determinant 4 = .ok (.iconst 0, 1) := by decide +kernel
theorem dK_determinant_5 : decode cK_determinant 5 = .ok (.istore 5, 2) := by decide +kernel
theorem dK_determinant_7 : decode cK_determinant 7 = .ok (.iload 5, 2) := by decide +kernel
theorem dK_determinant_9 : decode cK_determinant 9 = .ok (.aload_n 0, 1) := by decide +kernel
theorem dK_determinant_10 : decode cK_determinant 10 = .ok (.getfield 29, 3) := by decide +kernel
theorem dK_determinant_13 : decode cK_determinant 13 = .ok (.if_icmp .ge (66), 3) := by decide +kernel
theorem dK_determinant_16 : decode cK_determinant 16 = .ok (.aload_n 0, 1) := by decide +kernel
theorem dK_determinant_17 : decode cK_determinant 17 = .ok (.iload 5, 2) := by decide +kernel
theorem dK_determinant_19 : decode cK_determinant 19 = .ok (.invokevirtual 170, 3) := by decide +kernel
theorem dK_determinant_22 : decode cK_determinant 22 = .ok (.istore 6, 2) := by decide +kernel
theorem dK_determinant_24 : decode cK_determinant 24 = .ok (.iload 6, 2) := by decide +kernel
theorem dK_determinant_26 : decode cK_determinant 26 = .ok (.iconst (-1), 1) := by decide +kernel
theorem dK_determinant_27 : decode cK_determinant 27 = .ok (.if_icmp .ne (5), 3) := by decide +kernel
theorem dK_determinant_30 : decode cK_determinant 30 = .ok (.lconst 0, 1) := by decide +kernel
theorem dK_determinant_31 : decode cK_determinant 31 = .ok (.lreturn, 1) := by decide +kernel
theorem dK_determinant_32 : decode cK_determinant 32 = .ok (.iload 6, 2) := by decide +kernel
theorem dK_determinant_34 : decode cK_determinant 34 = .ok (.iload 5, 2) := by decide +kernel
theorem dK_determinant_36 : decode cK_determinant 36 = .ok (.if_icmp .eq (14), 3) := by decide +kernel
theorem dK_determinant_39 : decode cK_determinant 39 = .ok (.aload_n 0, 1) := by decide +kernel
theorem dK_determinant_40 : decode cK_determinant 40 = .ok (.iload 6, 2) := by decide +kernel
theorem dK_determinant_42 : decode cK_determinant 42 = .ok (.iload 5, 2) := by decide +kernel
theorem dK_determinant_44 : decode cK_determinant 44 = .ok (.invokevirtual 173, 3) := by decide +kernel
theorem dK_determinant_47 : decode cK_determinant 47 = .ok (.lload_n 1, 1) := by decide +kernel
theorem dK_determinant_48 : decode cK_determinant 48 = .ok (.lneg, 1) := by decide +kernel
theorem dK_determinant_49 : decode cK_determinant 49 = .ok (.lstore_n 1, 1) := by decide +kernel
theorem dK_determinant_50 : decode cK_determinant 50 = .ok (.aload_n 0, 1) := by decide +kernel
theorem dK_determinant_51 : decode cK_determinant 51 = .ok (.iload 5, 2) := by decide +kernel
theorem dK_determinant_53 : decode cK_determinant 53 = .ok (.lload_n 3, 1) := by decide +kernel
theorem dK_determinant_54 : decode cK_determinant 54 = .ok (.invokevirtual 176, 3) := by decide +kernel
theorem dK_determinant_57 : decode cK_determinant 57 = .ok (.aload_n 0, 1) := by decide +kernel
theorem dK_determinant_58 : decode cK_determinant 58 = .ok (.getfield 58, 3) := by decide +kernel
theorem dK_determinant_61 : decode cK_determinant 61 = .ok (.iload 5, 2) := by decide +kernel
theorem dK_determinant_63 : decode cK_determinant 63 = .ok (.aload_n 0, 1) := by decide +kernel
theorem dK_determinant_64 : decode cK_determinant 64 = .ok (.getfield 29, 3) := by decide +kernel
theorem dK_determinant_67 : decode cK_determinant 67 = .ok (.imul, 1) := by decide +kernel
theorem dK_determinant_68 : decode cK_determinant 68 = .ok (.iload 5, 2) := by decide +kernel
theorem dK_determinant_70 : decode cK_determinant 70 = .ok (.iadd, 1) := by decide +kernel
theorem dK_determinant_71 : decode cK_determinant 71 = .ok (.laload, 1) := by decide +kernel
theorem dK_determinant_72 : decode cK_determinant 72 = .ok (.lstore_n 3, 1) := by decide +kernel
theorem dK_determinant_73 : decode cK_determinant 73 = .ok (.iinc 5 (1), 3) := by decide +kernel
theorem dK_determinant_76 : decode cK_determinant 76 = .ok (.goto (-69), 3) := by decide +kernel
theorem dK_determinant_79 : decode cK_determinant 79 = .ok (.lload_n 1, 1) := by decide +kernel
theorem dK_determinant_80 : decode cK_determinant 80 = .ok (.lload_n 3, 1) := by decide +kernel
theorem dK_determinant_81 : decode cK_determinant 81 = .ok (.lmul, 1) := by decide +kernel
theorem dK_determinant_82 : decode cK_determinant 82 = .ok (.lreturn, 1) := by decide +kernel
set_option maxHeartbeats 400000 in
set_option maxRecDepth 100000 in
theorem tK_determinant_50 {p : Program} {l : Launch} {e : Env} {s : State} {m : MethodId} {args : Array Value} {below : List Frame} {meth : Method} {c : Code} {D : va_G} {A : Nat → Prop} {q : Nat → Nat} {k : kK} {cI cJ : ClassId} {r : Int64} {σ' : sK} {fu : Nat} {h7 : sK → Int64 → Int64 → Int32 → Option (Int64 × sK)} (C0 : Cx p s m args meth c cK_determinant 7 (some .long) RK TK) (hK : va_K D cl0 [(cI, .int), (cJ, .long)] s) (hA : ∀ z, s.heap.size ≤ z → A z) (ih7 : ∀ (σ : sK) (x1 : Int64) (x3 : Int64) (x5 : Int32)(H : Heap) (locs : List Loc) (ls : Array Slot), h7 σ x1 x3 x5 = some (r, σ') → lv_has ls 7 [(0, .ref (q 0)), (1, .long x1), (3, .long x3), (5, .int x5)] → va_P D cl0 (wdK q k cI cJ σ) H → va_D A (wdK q k cI cJ σ) → va_S A s.heap H locs → W p l e ({ frames := 1, cells := 0, slots := 0, locals := 31 }) s m args below meth c H locs 0 0 (MQ below (kQl D cl0 [(cI, .int), (cJ, .long)] (wdK q k cI cJ) A r σ') args s 0 0 A) (F0 m 7 ls [])) : ∀ (σ : sK) (x1 : Int64) (x3 : Int64) (x5 : Int32)(H : Heap) (locs : List Loc) (ls : Array Slot), fK_determinant_50 fu k h7 σ x1 x3 x5 = some (r, σ') → lv_has ls 7 [(0, .ref (q 0)), (1, .long x1), (3, .long x3), (5, .int x5)] → va_P D cl0 (wdK q k cI cJ σ) H → va_D A (wdK q k cI cJ σ) → va_S A s.heap H locs → W p l e ({ frames := 1, cells := 0, slots := 0, locals := 31 }) s m args below meth c H locs 0 0 (MQ below (kQl D cl0 [(cI, .int), (cJ, .long)] (wdK q k cI cJ) A r σ') args s 0 0 A) (F0 m 50 ls []) := by
  obtain ⟨hx, hb, hr, hml, hown, hts, hlocks⟩ := id C0
  intro σ x1 x3 x5 H locs ls hf hl hP hD hS
  unfold fK_determinant_50 at hf
  refine lv_aload_n hx hb dK_determinant_50 rfl (lv_at hl 0 rfl) ?_
  refine lv_iload hx hb dK_determinant_51 (lv_at hl 3 rfl) ?_
  refine lv_lload_n hx hb dK_determinant_53 rfl (lv_at hl 2 rfl) ?_
  obtain ⟨s54, es54, hf⟩ := kb1 hf
  refine kr_callVv (av := [.int x5, .long x3]) ⟨hx, hb, hml, hown, hts⟩ (mK_clearBelow l D q k cI cJ _ fu σ s54 x5 x3 es54) (cwV 2 hts (kgood_V TK_good (by decide +kernel)) rfl rfl rfl (by decide +kernel) ⟨Nat.le_of_ble_eq_true rfl, Nat.le_of_ble_eq_true rfl⟩) hK hP hD hS hA (ci := 0) (q0 := 0) rfl rfl rfl hl.1 rfl (Nat.le_of_ble_eq_true rfl) dK_determinant_54 ⟨Nat.le_of_ble_eq_true rfl, Nat.le_of_ble_eq_true rfl⟩ (fun H locs hP hD hS => ?_)
  refine lv_aload_n hx hb dK_determinant_57 rfl (lv_at hl 0 rfl) ?_
  refine gK_square hx hb hown hts hK hP dK_determinant_58 ?_
  refine lv_iload hx hb dK_determinant_61 (lv_at hl 3 rfl) ?_
  refine lv_aload_n hx hb dK_determinant_63 rfl (lv_at hl 0 rfl) ?_
  refine gK_ages hx hb hown hts hK hP dK_determinant_64 ?_
  refine lv_imul hx hb dK_determinant_67 ?_
  refine lv_iload hx hb dK_determinant_68 (lv_at hl 3 rfl) ?_
  refine lv_iadd hx hb dK_determinant_70 ?_
  obtain ⟨v71, ev71, hf⟩ := kb1 hf
  refine kr_laload hx hb hK hP 9 1 rfl rfl ev71 dK_determinant_71 ?_
  refine lv_lstore_n (lv' := [(3, .long v71), (0, .ref (q 0)), (1, .long x1), (5, .int x5)]) hx hb dK_determinant_72 rfl hl (by decide) rfl (fun ls hl => ?_)
  refine lv_iinc (v := (x5 + 1)) (lv' := [(5, .int (x5 + 1)), (3, .long v71), (0, .ref (q 0)), (1, .long x1)]) hx hb dK_determinant_73 hl (k := 3) rfl rfl (by decide) rfl (fun ls hl => ?_)
  refine lv_goto (tgt := 7) hx hb dK_determinant_76 (by decide) ?_
  exact ih7 s54 x1 v71 (x5 + 1) _ _ ls hf (lv_sub hl [2, 3, 1, 0] rfl) hP hD hS
set_option maxHeartbeats 400000 in
set_option maxRecDepth 100000 in
theorem tK_determinant_7 {p : Program} {l : Launch} {e : Env} {s : State} {m : MethodId} {args : Array Value} {below : List Frame} {meth : Method} {c : Code} {D : va_G} {A : Nat → Prop} {q : Nat → Nat} {k : kK} {cI cJ : ClassId} {r : Int64} {σ' : sK} {fu : Nat} (C0 : Cx p s m args meth c cK_determinant 7 (some .long) RK TK) (hK : va_K D cl0 [(cI, .int), (cJ, .long)] s) (hA : ∀ z, s.heap.size ≤ z → A z) : ∀ n : Nat, ∀ (σ : sK) (x1 : Int64) (x3 : Int64) (x5 : Int32)(H : Heap) (locs : List Loc) (ls : Array Slot), fK_determinant_7 fu k n σ x1 x3 x5 = some (r, σ') → lv_has ls 7 [(0, .ref (q 0)), (1, .long x1), (3, .long x3), (5, .int x5)] → va_P D cl0 (wdK q k cI cJ σ) H → va_D A (wdK q k cI cJ σ) → va_S A s.heap H locs → W p l e ({ frames := 1, cells := 0, slots := 0, locals := 31 }) s m args below meth c H locs 0 0 (MQ below (kQl D cl0 [(cI, .int), (cJ, .long)] (wdK q k cI cJ) A r σ') args s 0 0 A) (F0 m 7 ls []) := by
  obtain ⟨hx, hb, hr, hml, hown, hts, hlocks⟩ := id C0
  intro n
  induction n with
  | zero =>
    intro σ x1 x3 x5 H locs ls hf hl hP hD hS
    cases hf
  | succ n ih =>
    intro σ x1 x3 x5 H locs ls hf hl hP hD hS
    rw [fK_determinant_7] at hf
    refine lv_iload hx hb dK_determinant_7 (lv_at hl 3 rfl) ?_
    refine lv_aload_n hx hb dK_determinant_9 rfl (lv_at hl 0 rfl) ?_
    refine gK_ages hx hb hown hts hK hP dK_determinant_10 ?_
    refine lv_icmp_ge (tgt := 79) hx hb dK_determinant_13 (by decide) (fun c13 => ?_) (fun c13 => ?_)
    · have hf := (if_pos c13).symm.trans hf
      refine lv_lload_n hx hb dK_determinant_79 rfl (lv_at hl 1 rfl) ?_
      refine lv_lload_n hx hb dK_determinant_80 rfl (lv_at hl 2 rfl) ?_
      refine lv_lmul hx hb dK_determinant_81 ?_
      exact kr_lret C0 hK hP hD hS (congrArg Prod.fst (Option.some.inj hf)) (congrArg Prod.snd (Option.some.inj hf)) dK_determinant_82
    · have hf := (if_neg c13).symm.trans hf
      refine lv_aload_n hx hb dK_determinant_16 rfl (lv_at hl 0 rfl) ?_
      refine lv_iload hx hb dK_determinant_17 (lv_at hl 3 rfl) ?_
      obtain ⟨v19, ev19, hf⟩ := kb1 hf
      refine kr_callVi (av := [.int x5]) ⟨hx, hb, hml, hown, hts⟩ (mK_pivotRow l D q k cI cJ _ fu σ x5 v19 ev19) (cwV 1 hts (kgood_V TK_good (by decide +kernel)) rfl rfl rfl (by decide +kernel) ⟨Nat.le_of_ble_eq_true rfl, Nat.le_of_ble_eq_true rfl⟩) hK hP hD hS hA (ci := 0) (q0 := 0) rfl rfl rfl hl.1 rfl (Nat.le_of_ble_eq_true rfl) dK_determinant_19 ⟨Nat.le_of_ble_eq_true rfl, Nat.le_of_ble_eq_true rfl⟩ (fun H locs hP hD hS => ?_)
      refine lv_istore (lv' := [(6, .int v19), (0, .ref (q 0)), (1, .long x1), (3, .long x3), (5, .int x5)]) hx hb dK_determinant_22 hl (by decide) rfl (fun ls hl => ?_)
      refine lv_iload hx hb dK_determinant_24 (lv_at hl 0 rfl) ?_
      refine lv_iconst (v := (-1)) hx hb dK_determinant_26 (by decide) ?_
      refine lv_icmp_ne (tgt := 32) hx hb dK_determinant_27 (by decide) (fun c27 => ?_) (fun c27 => ?_)
      · have hf := (if_neg c27).symm.trans hf
        refine lv_iload hx hb dK_determinant_32 (lv_at hl 0 rfl) ?_
        refine lv_iload hx hb dK_determinant_34 (lv_at hl 4 rfl) ?_
        refine lv_icmp_eq (tgt := 50) hx hb dK_determinant_36 (by decide) (fun c36 => ?_) (fun c36 => ?_)
        · have hf := (if_pos c36).symm.trans hf
          exact tK_determinant_50 C0 hK hA ih σ x1 x3 x5 _ _ ls hf (lv_sub hl [1, 2, 3, 4] rfl) hP hD hS
        · have hf := (if_neg c36).symm.trans hf
          refine lv_aload_n hx hb dK_determinant_39 rfl (lv_at hl 1 rfl) ?_
          refine lv_iload hx hb dK_determinant_40 (lv_at hl 0 rfl) ?_
          refine lv_iload hx hb dK_determinant_42 (lv_at hl 4 rfl) ?_
          obtain ⟨s44, es44, hf⟩ := kb1 hf
          refine kr_callVv (av := [.int v19, .int x5]) ⟨hx, hb, hml, hown, hts⟩ (mK_swapRows l D q k cI cJ _ fu σ s44 v19 x5 es44) (cwV 2 hts (kgood_V TK_good (by decide +kernel)) rfl rfl rfl (by decide +kernel) ⟨Nat.le_of_ble_eq_true rfl, Nat.le_of_ble_eq_true rfl⟩) hK hP hD hS hA (ci := 0) (q0 := 0) rfl rfl rfl hl.1 rfl (Nat.le_of_ble_eq_true rfl) dK_determinant_44 ⟨Nat.le_of_ble_eq_true rfl, Nat.le_of_ble_eq_true rfl⟩ (fun H locs hP hD hS => ?_)
          refine lv_lload_n hx hb dK_determinant_47 rfl (lv_at hl 2 rfl) ?_
          refine lv_lneg hx hb dK_determinant_48 ?_
          refine lv_lstore_n (lv' := [(1, .long (-x1)), (6, .int v19), (0, .ref (q 0)), (3, .long x3), (5, .int x5)]) hx hb dK_determinant_49 rfl hl (by decide) rfl (fun ls hl => ?_)
          exact tK_determinant_50 C0 hK hA ih s44 (-x1) x3 x5 _ _ ls hf (lv_sub hl [2, 0, 3, 4] rfl) hP hD hS
      · have hf := (if_pos c27).symm.trans hf
        refine lv_lconst (v := 0) hx hb dK_determinant_30 (by decide) ?_
        exact kr_lret C0 hK hP hD hS (congrArg Prod.fst (Option.some.inj hf)) (congrArg Prod.snd (Option.some.inj hf)) dK_determinant_31
set_option maxHeartbeats 400000 in
set_option maxRecDepth 100000 in
theorem mK_determinant (l : Launch) (D : va_G) (q : Nat → Nat) (k : kK) (cI cJ : ClassId) (sz : Nat) (fu : Nat) (σ : sK) (σ' : sK) (r : Int64) (hf : fK_determinant fu k σ = some (r, σ')) : Met l yK_determinant (.code yK_determinant cK_determinant 7 (some .long) :: TK) ({ frames := 1, cells := 0, slots := 0, locals := 31 }) (kPre D cl0 [(cI, .int), (cJ, .long)] (wdK q k cI cJ) sz σ [.ref (q 0)]) (kQl D cl0 [(cI, .int), (cJ, .long)] (wdK q k cI cJ) (va_A (wdK q k cI cJ σ) sz) r σ') 0 0 (va_A (wdK q k cI cJ σ) sz) := by
  refine kr_start (own := RK) (by decide) rfl (Nat.le_of_ble_eq_true rfl) ?_
  intro p e s m args below meth c ls C0 hsz hK hP hD hl
  subst hsz
  obtain ⟨hx, hb, hr, hml, hown, hts, hlocks⟩ := id C0
  have hA : ∀ z : Nat, s.heap.size ≤ z → va_A (wdK q k cI cJ σ) s.heap.size z := fun z h => Or.inr h
  generalize va_A (wdK q k cI cJ σ) s.heap.size = A at hD hA ⊢
  have hS : va_S A s.heap s.heap [] := va_S.rf
  have hl : lv_has ls 7 [(0, .ref (q 0))] := hl
  unfold fK_determinant at hf
  refine lv_lconst (v := 1) hx hb dK_determinant_0 (by decide) ?_
  refine lv_lstore_n (lv' := [(1, .long (1 : Int64)), (0, .ref (q 0))]) hx hb dK_determinant_1 rfl hl (by decide) rfl (fun ls hl => ?_)
  refine lv_lconst (v := 1) hx hb dK_determinant_2 (by decide) ?_
  refine lv_lstore_n (lv' := [(3, .long (1 : Int64)), (1, .long (1 : Int64)), (0, .ref (q 0))]) hx hb dK_determinant_3 rfl hl (by decide) rfl (fun ls hl => ?_)
  refine lv_iconst (v := 0) hx hb dK_determinant_4 (by decide) ?_
  refine lv_istore (lv' := [(5, .int 0), (3, .long (1 : Int64)), (1, .long (1 : Int64)), (0, .ref (q 0))]) hx hb dK_determinant_5 hl (by decide) rfl (fun ls hl => ?_)
  exact tK_determinant_7 C0 hK hA fu σ (1 : Int64) (1 : Int64) 0 _ _ ls hf (lv_sub hl [3, 2, 1, 0] rfl) hP hD hS
theorem dK_undo_0 : decode cK_undo 0 = .ok (.iconst 0, 1) := by decide +kernel
theorem dK_undo_1 : decode cK_undo 1 = .ok (.istore_n 1, 1) := by decide +kernel
theorem dK_undo_2 : decode cK_undo 2 = .ok (.iload_n 1, 1) := by decide +kernel
theorem dK_undo_3 : decode cK_undo 3 = .ok (.aload_n 0, 1) := by decide +kernel
theorem dK_undo_4 : decode cK_undo 4 = .ok (.getfield 29, 3) := by decide +kernel
theorem dK_undo_7 : decode cK_undo 7 = .ok (.if_icmp .ge (21), 3) := by decide +kernel
theorem dK_undo_10 : decode cK_undo 10 = .ok (.aload_n 0, 1) := by decide +kernel
theorem dK_undo_11 : decode cK_undo 11 = .ok (.iload_n 1, 1) := by decide +kernel
theorem dK_undo_12 : decode cK_undo 12 = .ok (.invokevirtual 154, 3) := by decide +kernel
theorem dK_undo_15 : decode cK_undo 15 = .ok (.bipush (20), 2) := by decide +kernel
theorem dK_undo_17 : decode cK_undo 17 = .ok (.if_icmp .eq (5), 3) := by decide +kernel
theorem dK_undo_20 : decode cK_undo 20 = .ok (.iconst 2, 1) := by decide +kernel
theorem dK_undo_21 : decode cK_undo 21 = .ok (.ireturn, 1) := by decide +kernel
theorem dK_undo_22 : decode cK_undo 22 = .ok (.iinc 1 (1), 3) := by decide +kernel
theorem dK_undo_25 : decode cK_undo 25 = .ok (.goto (-23), 3) := by decide +kernel
theorem dK_undo_28 : decode cK_undo 28 = .ok (.aload_n 0, 1) := by decide +kernel
theorem dK_undo_29 : decode cK_undo 29 = .ok (.invokevirtual 157, 3) := by decide +kernel
theorem dK_undo_32 : decode cK_undo 32 = .ok (.aload_n 0, 1) := by decide +kernel
theorem dK_undo_33 : decode cK_undo 33 = .ok (.invokevirtual 160, 3) := by decide +kernel
theorem dK_undo_36 : decode cK_undo 36 = .ok (.lconst 0, 1) := by decide +kernel
theorem dK_undo_37 : decode cK_undo 37 = .ok (.lcmp, 1) := by decide +kernel
theorem dK_undo_38 : decode cK_undo 38 = .ok (.ifCond .ne (7), 3) := by decide +kernel
theorem dK_undo_41 : decode cK_undo 41 = .ok (.iconst 1, 1) := by decide +kernel
theorem dK_undo_42 : decode cK_undo 42 = .ok (.goto (4), 3) := by decide +kernel
theorem dK_undo_45 : decode cK_undo 45 = .ok (.iconst 0, 1) := by decide +kernel
theorem dK_undo_46 : decode cK_undo 46 = .ok (.ireturn, 1) := by decide +kernel
set_option maxHeartbeats 400000 in
set_option maxRecDepth 100000 in
theorem tK_undo_2 {p : Program} {l : Launch} {e : Env} {s : State} {m : MethodId} {args : Array Value} {below : List Frame} {meth : Method} {c : Code} {D : va_G} {A : Nat → Prop} {q : Nat → Nat} {k : kK} {cI cJ : ClassId} {r : Int32} {σ' : sK} {fu : Nat} (C0 : Cx p s m args meth c cK_undo 2 (some .int) RK TK) (hK : va_K D cl0 [(cI, .int), (cJ, .long)] s) (hA : ∀ z, s.heap.size ≤ z → A z) : ∀ n : Nat, ∀ (σ : sK) (x1 : Int32)(H : Heap) (locs : List Loc) (ls : Array Slot), fK_undo_2 fu k n σ x1 = some (r, σ') → lv_has ls 2 [(0, .ref (q 0)), (1, .int x1)] → va_P D cl0 (wdK q k cI cJ σ) H → va_D A (wdK q k cI cJ σ) → va_S A s.heap H locs → W p l e ({ frames := 2, cells := 0, slots := 0, locals := 57 }) s m args below meth c H locs 0 0 (MQ below (kQi D cl0 [(cI, .int), (cJ, .long)] (wdK q k cI cJ) A r σ') args s 0 0 A) (F0 m 2 ls []) := by
  obtain ⟨hx, hb, hr, hml, hown, hts, hlocks⟩ := id C0
  intro n
  induction n with
  | zero =>
    intro σ x1 H locs ls hf hl hP hD hS
    cases hf
  | succ n ih =>
    intro σ x1 H locs ls hf hl hP hD hS
    rw [fK_undo_2] at hf
    refine lv_iload_n hx hb dK_undo_2 rfl (lv_at hl 1 rfl) ?_
    refine lv_aload_n hx hb dK_undo_3 rfl (lv_at hl 0 rfl) ?_
    refine gK_ages hx hb hown hts hK hP dK_undo_4 ?_
    refine lv_icmp_ge (tgt := 28) hx hb dK_undo_7 (by decide) (fun c7 => ?_) (fun c7 => ?_)
    · have hf := (if_pos c7).symm.trans hf
      refine lv_aload_n hx hb dK_undo_28 rfl (lv_at hl 0 rfl) ?_
      obtain ⟨s29, es29, hf⟩ := kb1 hf
      refine kr_callVv (av := []) ⟨hx, hb, hml, hown, hts⟩ (mK_loadErrors l D q k cI cJ _ fu σ s29 es29) (cwV 0 hts (kgood_V TK_good (by decide +kernel)) rfl rfl rfl (by decide +kernel) ⟨Nat.le_of_ble_eq_true rfl, Nat.le_of_ble_eq_true rfl⟩) hK hP hD hS hA (ci := 0) (q0 := 0) rfl rfl rfl hl.1 rfl (Nat.le_of_ble_eq_true rfl) dK_undo_29 ⟨Nat.le_of_ble_eq_true rfl, Nat.le_of_ble_eq_true rfl⟩ (fun H locs hP hD hS => ?_)
      refine lv_aload_n hx hb dK_undo_32 rfl (lv_at hl 0 rfl) ?_
      obtain ⟨v33, s33, es33, hf⟩ := kb2 hf
      refine kr_callVl (av := []) ⟨hx, hb, hml, hown, hts⟩ (mK_determinant l D q k cI cJ _ fu s29 s33 v33 es33) (cwV 0 hts (kgood_V TK_good (by decide +kernel)) rfl rfl rfl (by decide +kernel) ⟨Nat.le_of_ble_eq_true rfl, Nat.le_of_ble_eq_true rfl⟩) hK hP hD hS hA (ci := 0) (q0 := 0) rfl rfl rfl hl.1 rfl (Nat.le_of_ble_eq_true rfl) dK_undo_33 ⟨Nat.le_of_ble_eq_true rfl, Nat.le_of_ble_eq_true rfl⟩ (fun H locs hP hD hS => ?_)
      refine lv_lconst (v := 0) hx hb dK_undo_36 (by decide) ?_
      refine W.lcmp hx hb dK_undo_37 ?_
      refine lv_if_ne (tgt := 45) hx hb dK_undo_38 (by decide) (fun c37 => ?_) (fun c37 => ?_)
      · rw [lg_cmp_eq] at c37
        have hf := (if_neg c37).symm.trans hf
        refine lv_iconst (v := 0) hx hb dK_undo_45 (by decide) ?_
        exact kr_iret C0 hK hP hD hS (congrArg Prod.fst (Option.some.inj hf)) (congrArg Prod.snd (Option.some.inj hf)) dK_undo_46
      · rw [lg_cmp_eq] at c37
        have hf := (if_pos c37).symm.trans hf
        refine lv_iconst (v := 1) hx hb dK_undo_41 (by decide) ?_
        refine lv_goto (tgt := 46) hx hb dK_undo_42 (by decide) ?_
        exact kr_iret C0 hK hP hD hS (congrArg Prod.fst (Option.some.inj hf)) (congrArg Prod.snd (Option.some.inj hf)) dK_undo_46
    · have hf := (if_neg c7).symm.trans hf
      refine lv_aload_n hx hb dK_undo_10 rfl (lv_at hl 0 rfl) ?_
      refine lv_iload_n hx hb dK_undo_11 rfl (lv_at hl 1 rfl) ?_
      obtain ⟨v12, ev12, hf⟩ := kb1 hf
      refine kr_callVi (av := [.int x1]) ⟨hx, hb, hml, hown, hts⟩ (mK_errorSum l D q k cI cJ _ fu σ x1 v12 ev12) (cwV 1 hts (kgood_V TK_good (by decide +kernel)) rfl rfl rfl (by decide +kernel) ⟨Nat.le_of_ble_eq_true rfl, Nat.le_of_ble_eq_true rfl⟩) hK hP hD hS hA (ci := 0) (q0 := 0) rfl rfl rfl hl.1 rfl (Nat.le_of_ble_eq_true rfl) dK_undo_12 ⟨Nat.le_of_ble_eq_true rfl, Nat.le_of_ble_eq_true rfl⟩ (fun H locs hP hD hS => ?_)
      refine lv_bipush (v := 20) hx hb dK_undo_15 (by decide) ?_
      refine lv_icmp_eq (tgt := 22) hx hb dK_undo_17 (by decide) (fun c17 => ?_) (fun c17 => ?_)
      · have hf := (if_pos c17).symm.trans hf
        refine lv_iinc (v := (x1 + 1)) (lv' := [(1, .int (x1 + 1)), (0, .ref (q 0))]) hx hb dK_undo_22 hl (k := 1) rfl rfl (by decide) rfl (fun ls hl => ?_)
        refine lv_goto (tgt := 2) hx hb dK_undo_25 (by decide) ?_
        exact ih σ (x1 + 1) _ _ ls hf (lv_sub hl [1, 0] rfl) hP hD hS
      · have hf := (if_neg c17).symm.trans hf
        refine lv_iconst (v := 2) hx hb dK_undo_20 (by decide) ?_
        exact kr_iret C0 hK hP hD hS (congrArg Prod.fst (Option.some.inj hf)) (congrArg Prod.snd (Option.some.inj hf)) dK_undo_21
set_option maxHeartbeats 400000 in
set_option maxRecDepth 100000 in
theorem mK_undo (l : Launch) (D : va_G) (q : Nat → Nat) (k : kK) (cI cJ : ClassId) (sz : Nat) (fu : Nat) (σ : sK) (σ' : sK) (r : Int32) (hf : fK_undo fu k σ = some (r, σ')) : Met l yK_undo (.code yK_undo cK_undo 2 (some .int) :: TK) ({ frames := 2, cells := 0, slots := 0, locals := 57 }) (kPre D cl0 [(cI, .int), (cJ, .long)] (wdK q k cI cJ) sz σ [.ref (q 0)]) (kQi D cl0 [(cI, .int), (cJ, .long)] (wdK q k cI cJ) (va_A (wdK q k cI cJ σ) sz) r σ') 0 0 (va_A (wdK q k cI cJ σ) sz) := by
  refine kr_start (own := RK) (by decide) rfl (Nat.le_of_ble_eq_true rfl) ?_
  intro p e s m args below meth c ls C0 hsz hK hP hD hl
  subst hsz
  obtain ⟨hx, hb, hr, hml, hown, hts, hlocks⟩ := id C0
  have hA : ∀ z : Nat, s.heap.size ≤ z → va_A (wdK q k cI cJ σ) s.heap.size z := fun z h => Or.inr h
  generalize va_A (wdK q k cI cJ σ) s.heap.size = A at hD hA ⊢
  have hS : va_S A s.heap s.heap [] := va_S.rf
  have hl : lv_has ls 2 [(0, .ref (q 0))] := hl
  unfold fK_undo at hf
  refine lv_iconst (v := 0) hx hb dK_undo_0 (by decide) ?_
  refine lv_istore_n (lv' := [(1, .int 0), (0, .ref (q 0))]) hx hb dK_undo_1 rfl hl (by decide) rfl (fun ls hl => ?_)
  exact tK_undo_2 C0 hK hA fu σ 0 _ _ ls hf (lv_sub hl [1, 0] rfl) hP hD hS
theorem dK_undone_0 : decode cK_undone 0 = .ok (.aload_n 0, 1) := by decide +kernel
theorem dK_undone_1 : decode cK_undone 1 = .ok (.iload_n 1, 1) := by decide +kernel
theorem dK_undone_2 : decode cK_undone 2 = .ok (.invokevirtual 79, 3) := by decide +kernel
theorem dK_undone_5 : decode cK_undone 5 = .ok (.ifCond .eq (25), 3) := by decide +kernel
theorem dK_undone_8 : decode cK_undone 8 = .ok (.aload_n 0, 1) := by decide +kernel
theorem dK_undone_9 : decode cK_undone 9 = .ok (.iload_n 2, 1) := by decide +kernel
theorem dK_undone_10 : decode cK_undone 10 = .ok (.invokevirtual 83, 3) := by decide +kernel
theorem dK_undone_13 : decode cK_undone 13 = .ok (.ifCond .eq (17), 3) := by decide +kernel
theorem dK_undone_16 : decode cK_undone 16 = .ok (.iload_n 3, 1) := by decide +kernel
theorem dK_undone_17 : decode cK_undone 17 = .ok (.invokestatic 100, 3) := by decide +kernel
theorem dK_undone_20 : decode cK_undone 20 = .ok (.ifCond .eq (10), 3) := by decide +kernel
theorem dK_undone_23 : decode cK_undone 23 = .ok (.aload_n 0, 1) := by decide +kernel
theorem dK_undone_24 : decode cK_undone 24 = .ok (.invokevirtual 164, 3) := by decide +kernel
theorem dK_undone_27 : decode cK_undone 27 = .ok (.ifCond .eq (7), 3) := by decide +kernel
theorem dK_undone_30 : decode cK_undone 30 = .ok (.ldc2_w 103, 3) := by decide +kernel
theorem dK_undone_33 : decode cK_undone 33 = .ok (.lreturn, 1) := by decide +kernel
theorem dK_undone_34 : decode cK_undone 34 = .ok (.aload_n 0, 1) := by decide +kernel
theorem dK_undone_35 : decode cK_undone 35 = .ok (.invokevirtual 157, 3) := by decide +kernel
theorem dK_undone_38 : decode cK_undone 38 = .ok (.aload_n 0, 1) := by decide +kernel
theorem dK_undone_39 : decode cK_undone 39 = .ok (.invokevirtual 160, 3) := by decide +kernel
theorem dK_undone_42 : decode cK_undone 42 = .ok (.lstore 4, 2) := by decide +kernel
theorem dK_undone_44 : decode cK_undone 44 = .ok (.aload_n 0, 1) := by decide +kernel
theorem dK_undone_45 : decode cK_undone 45 = .ok (.invokevirtual 157, 3) := by decide +kernel
theorem dK_undone_48 : decode cK_undone 48 = .ok (.iconst 0, 1) := by decide +kernel
theorem dK_undone_49 : decode cK_undone 49 = .ok (.istore 6, 2) := by decide +kernel
theorem dK_undone_51 : decode cK_undone 51 = .ok (.iload 6, 2) := by decide +kernel
theorem dK_undone_53 : decode cK_undone 53 = .ok (.aload_n 0, 1) := by decide +kernel
theorem dK_undone_54 : decode cK_undone 54 = .ok (.getfield 29, 3) := by decide +kernel
theorem dK_undone_57 : decode cK_undone 57 = .ok (.if_icmp .ge (40), 3) := by decide +kernel
theorem dK_undone_60 : decode cK_undone 60 = .ok (.aload_n 0, 1) := by decide +kernel
theorem dK_undone_61 : decode cK_undone 61 = .ok (.getfield 58, 3) := by decide +kernel
theorem dK_undone_64 : decode cK_undone 64 = .ok (.iload_n 2, 1) := by decide +kernel
theorem dK_undone_65 : decode cK_undone 65 = .ok (.aload_n 0, 1) := by decide +kernel
theorem dK_undone_66 : decode cK_undone 66 = .ok (.getfield 29, 3) := by decide +kernel
theorem dK_undone_69 : decode cK_undone 69 = .ok (.imul, 1) := by decide +kernel
theorem dK_undone_70 : decode cK_undone 70 = .ok (.iload 6, 2) := by decide +kernel
theorem dK_undone_72 : decode cK_undone 72 = .ok (.iadd, 1) := by decide +kernel
theorem dK_undone_73 : decode cK_undone 73 = .ok (.ldc2_w 168, 3) := by decide +kernel
theorem dK_undone_76 : decode cK_undone 76 = .ok (.aload_n 0, 1) := by decide +kernel
theorem dK_undone_77 : decode cK_undone 77 = .ok (.aload_n 0, 1) := by decide +kernel
theorem dK_undone_78 : decode cK_undone 78 = .ok (.getfield 45, 3) := by decide +kernel
theorem dK_undone_81 : decode cK_undone 81 = .ok (.iload_n 1, 1) := by decide +kernel
theorem dK_undone_82 : decode cK_undone 82 = .ok (.iaload, 1) := by decide +kernel
theorem dK_undone_83 : decode cK_undone 83 = .ok (.iload 6, 2) := by decide +kernel
theorem dK_undone_85 : decode cK_undone 85 = .ok (.invokevirtual 109, 3) := by decide +kernel
theorem dK_undone_88 : decode cK_undone 88 = .ok (.i2l, 1) := by decide +kernel
theorem dK_undone_89 : decode cK_undone 89 = .ok (.lmul, 1) := by decide +kernel
theorem dK_undone_90 : decode cK_undone 90 = .ok (.lastore, 1) := by decide +kernel
theorem dK_undone_91 : decode cK_undone 91 = .ok (.iinc 6 (1), 3) := by decide +kernel
theorem dK_undone_94 : decode cK_undone 94 = .ok (.goto (-43), 3) := by decide +kernel
theorem dK_undone_97 : decode cK_undone 97 = .ok (.aload_n 0, 1) := by decide +kernel
theorem dK_undone_98 : decode cK_undone 98 = .ok (.invokevirtual 160, 3) := by decide +kernel
theorem dK_undone_101 : decode cK_undone 101 = .ok (.lstore 6, 2) := by decide +kernel
theorem dK_undone_103 : decode cK_undone 103 = .ok (.lload 4, 2) := by decide +kernel
theorem dK_undone_105 : decode cK_undone 105 = .ok (.lconst 0, 1) := by decide +kernel
theorem dK_undone_106 : decode cK_undone 106 = .ok (.lcmp, 1) := by decide +kernel
theorem dK_undone_107 : decode cK_undone 107 = .ok (.ifCond .ge (16), 3) := by decide +kernel
theorem dK_undone_110 : decode cK_undone 110 = .ok (.lload 6, 2) := by decide +kernel
theorem dK_undone_112 : decode cK_undone 112 = .ok (.lneg, 1) := by decide +kernel
theorem dK_undone_113 : decode cK_undone 113 = .ok (.lload 4, 2) := by decide +kernel
theorem dK_undone_115 : decode cK_undone 115 = .ok (.lneg, 1) := by decide +kernel
theorem dK_undone_116 : decode cK_undone 116 = .ok (.iload_n 3, 1) := by decide +kernel
theorem dK_undone_117 : decode cK_undone 117 = .ok (.invokestatic 115, 3) := by decide +kernel
theorem dK_undone_120 : decode cK_undone 120 = .ok (.goto (11), 3) := by decide +kernel
theorem dK_undone_123 : decode cK_undone 123 = .ok (.lload 6, 2) := by decide +kernel
theorem dK_undone_125 : decode cK_undone 125 = .ok (.lload 4, 2) := by decide +kernel
theorem dK_undone_127 : decode cK_undone 127 = .ok (.iload_n 3, 1) := by decide +kernel
theorem dK_undone_128 : decode cK_undone 128 = .ok (.invokestatic 115, 3) := by decide +kernel
theorem dK_undone_131 : decode cK_undone 131 = .ok (.lreturn, 1) := by decide +kernel
set_option maxHeartbeats 400000 in
set_option maxRecDepth 100000 in
theorem tK_undone_51 {p : Program} {l : Launch} {e : Env} {s : State} {m : MethodId} {args : Array Value} {below : List Frame} {meth : Method} {c : Code} {D : va_G} {A : Nat → Prop} {q : Nat → Nat} {k : kK} {cI cJ : ClassId} {r : Int64} {σ' : sK} {fu : Nat} (C0 : Cx p s m args meth c cK_undone 8 (some .long) RK TK) (hK : va_K D cl0 [(cI, .int), (cJ, .long)] s) (hA : ∀ z, s.heap.size ≤ z → A z) : ∀ n : Nat, ∀ (σ : sK) (x1 : Int32) (x2 : Int32) (x3 : Int32) (x4 : Int64) (x6 : Int32)(H : Heap) (locs : List Loc) (ls : Array Slot), fK_undone_51 fu k n σ x1 x2 x3 x4 x6 = some (r, σ') → lv_has ls 8 [(0, .ref (q 0)), (1, .int x1), (2, .int x2), (3, .int x3), (4, .long x4), (6, .int x6)] → va_P D cl0 (wdK q k cI cJ σ) H → va_D A (wdK q k cI cJ σ) → va_S A s.heap H locs → W p l e ({ frames := 3, cells := 0, slots := 0, locals := 78 }) s m args below meth c H locs 0 0 (MQ below (kQl D cl0 [(cI, .int), (cJ, .long)] (wdK q k cI cJ) A r σ') args s 0 0 A) (F0 m 51 ls []) := by
  obtain ⟨hx, hb, hr, hml, hown, hts, hlocks⟩ := id C0
  intro n
  induction n with
  | zero =>
    intro σ x1 x2 x3 x4 x6 H locs ls hf hl hP hD hS
    cases hf
  | succ n ih =>
    intro σ x1 x2 x3 x4 x6 H locs ls hf hl hP hD hS
    rw [fK_undone_51] at hf
    refine lv_iload hx hb dK_undone_51 (lv_at hl 5 rfl) ?_
    refine lv_aload_n hx hb dK_undone_53 rfl (lv_at hl 0 rfl) ?_
    refine gK_ages hx hb hown hts hK hP dK_undone_54 ?_
    refine lv_icmp_ge (tgt := 97) hx hb dK_undone_57 (by decide) (fun c57 => ?_) (fun c57 => ?_)
    · have hf := (if_pos c57).symm.trans hf
      refine lv_aload_n hx hb dK_undone_97 rfl (lv_at hl 0 rfl) ?_
      obtain ⟨v98, s98, es98, hf⟩ := kb2 hf
      refine kr_callVl (av := []) ⟨hx, hb, hml, hown, hts⟩ (mK_determinant l D q k cI cJ _ fu σ s98 v98 es98) (cwV 0 hts (kgood_V TK_good (by decide +kernel)) rfl rfl rfl (by decide +kernel) ⟨Nat.le_of_ble_eq_true rfl, Nat.le_of_ble_eq_true rfl⟩) hK hP hD hS hA (ci := 0) (q0 := 0) rfl rfl rfl hl.1 rfl (Nat.le_of_ble_eq_true rfl) dK_undone_98 ⟨Nat.le_of_ble_eq_true rfl, Nat.le_of_ble_eq_true rfl⟩ (fun H locs hP hD hS => ?_)
      refine lv_lstore (lv' := [(6, .long v98), (0, .ref (q 0)), (1, .int x1), (2, .int x2), (3, .int x3), (4, .long x4)]) hx hb dK_undone_101 hl (by decide) rfl (fun ls hl => ?_)
      refine lv_lload hx hb dK_undone_103 (lv_at hl 5 rfl) ?_
      refine lv_lconst (v := 0) hx hb dK_undone_105 (by decide) ?_
      refine W.lcmp hx hb dK_undone_106 ?_
      refine lv_if_ge (tgt := 123) hx hb dK_undone_107 (by decide) (fun c106 => ?_) (fun c106 => ?_)
      · rw [lg_cmp_ge] at c106
        have hf := (if_pos c106).symm.trans hf
        refine lv_lload hx hb dK_undone_123 (lv_at hl 0 rfl) ?_
        refine lv_lload hx hb dK_undone_125 (lv_at hl 5 rfl) ?_
        refine lv_iload_n hx hb dK_undone_127 rfl (lv_at hl 4 rfl) ?_
        obtain ⟨v128, ev128, hf⟩ := kb1 hf
        refine kr_callSl (av := [.long v98, .long x4, .int x3]) ⟨hx, hb, hml, hown, hts⟩ (mK_fractionPart l D _ (wdK q k cI cJ) [(cI, .int), (cJ, .long)] cl0 _ fu s98 v98 x4 x3 v128 ev128) (cwS 3 hts (kgood_S TK_good (by decide +kernel)) rfl rfl rfl (by decide +kernel) ⟨Nat.le_of_ble_eq_true rfl, Nat.le_of_ble_eq_true rfl⟩) hK hP hD hS hA rfl hl.1 rfl (Nat.le_of_ble_eq_true rfl) dK_undone_128 ⟨Nat.le_of_ble_eq_true rfl, Nat.le_of_ble_eq_true rfl⟩ (fun H locs hP hD hS => ?_)
        exact kr_lret C0 hK hP hD hS (congrArg Prod.fst (Option.some.inj hf)) (congrArg Prod.snd (Option.some.inj hf)) dK_undone_131
      · rw [lg_cmp_ge] at c106
        have hf := (if_neg c106).symm.trans hf
        refine lv_lload hx hb dK_undone_110 (lv_at hl 0 rfl) ?_
        refine lv_lneg hx hb dK_undone_112 ?_
        refine lv_lload hx hb dK_undone_113 (lv_at hl 5 rfl) ?_
        refine lv_lneg hx hb dK_undone_115 ?_
        refine lv_iload_n hx hb dK_undone_116 rfl (lv_at hl 4 rfl) ?_
        obtain ⟨v117, ev117, hf⟩ := kb1 hf
        refine kr_callSl (av := [.long (-v98), .long (-x4), .int x3]) ⟨hx, hb, hml, hown, hts⟩ (mK_fractionPart l D _ (wdK q k cI cJ) [(cI, .int), (cJ, .long)] cl0 _ fu s98 (-v98) (-x4) x3 v117 ev117) (cwS 3 hts (kgood_S TK_good (by decide +kernel)) rfl rfl rfl (by decide +kernel) ⟨Nat.le_of_ble_eq_true rfl, Nat.le_of_ble_eq_true rfl⟩) hK hP hD hS hA rfl hl.1 rfl (Nat.le_of_ble_eq_true rfl) dK_undone_117 ⟨Nat.le_of_ble_eq_true rfl, Nat.le_of_ble_eq_true rfl⟩ (fun H locs hP hD hS => ?_)
        refine lv_goto (tgt := 131) hx hb dK_undone_120 (by decide) ?_
        exact kr_lret C0 hK hP hD hS (congrArg Prod.fst (Option.some.inj hf)) (congrArg Prod.snd (Option.some.inj hf)) dK_undone_131
    · have hf := (if_neg c57).symm.trans hf
      refine lv_aload_n hx hb dK_undone_60 rfl (lv_at hl 0 rfl) ?_
      refine gK_square hx hb hown hts hK hP dK_undone_61 ?_
      refine lv_iload_n hx hb dK_undone_64 rfl (lv_at hl 2 rfl) ?_
      refine lv_aload_n hx hb dK_undone_65 rfl (lv_at hl 0 rfl) ?_
      refine gK_ages hx hb hown hts hK hP dK_undone_66 ?_
      refine lv_imul hx hb dK_undone_69 ?_
      refine lv_iload hx hb dK_undone_70 (lv_at hl 5 rfl) ?_
      refine lv_iadd hx hb dK_undone_72 ?_
      refine lv_ldc2 (v := 20) hx hb hown (hts (.constantLong RK 168 (20)) (by decide +kernel)) dK_undone_73 ?_
      refine lv_aload_n hx hb dK_undone_76 rfl (lv_at hl 0 rfl) ?_
      refine lv_aload_n hx hb dK_undone_77 rfl (lv_at hl 0 rfl) ?_
      refine gK_groupOf hx hb hown hts hK hP dK_undone_78 ?_
      refine lv_iload_n hx hb dK_undone_81 rfl (lv_at hl 1 rfl) ?_
      obtain ⟨v82, ev82, hf⟩ := kb1 hf
      refine kr_iaload hx hb hK hP 5 0 rfl rfl ev82 dK_undone_82 ?_
      refine lv_iload hx hb dK_undone_83 (lv_at hl 5 rfl) ?_
      obtain ⟨v85, ev85, hf⟩ := kb1 hf
      refine kr_callVi (av := [.int v82, .int x6]) ⟨hx, hb, hml, hown, hts⟩ (mK_ownOfAge l D q k cI cJ _ σ v82 x6 v85 ev85) (cwV 2 hts (kgood_V TK_good (by decide +kernel)) rfl rfl rfl (by decide +kernel) ⟨Nat.le_of_ble_eq_true rfl, Nat.le_of_ble_eq_true rfl⟩) hK hP hD hS hA (ci := 0) (q0 := 0) rfl rfl rfl hl.1 rfl (Nat.le_of_ble_eq_true rfl) dK_undone_85 ⟨Nat.le_of_ble_eq_true rfl, Nat.le_of_ble_eq_true rfl⟩ (fun H locs hP hD hS => ?_)
      refine lv_i2l (v := v85.toInt64) hx hb dK_undone_88 rfl ?_
      refine lv_lmul hx hb dK_undone_89 ?_
      obtain ⟨a90, ea90, hf⟩ := kb1 hf
      refine kr_lastore (σ' := (uK_square σ a90)) hx hb hK hP hD hS 9 1 rfl rfl ea90 (wK_square q k cI cJ _ _) dK_undone_90 (fun H locs hP hD hS => ?_)
      generalize (uK_square σ a90) = s90 at hf hP hD
      refine lv_iinc (v := (x6 + 1)) (lv' := [(6, .int (x6 + 1)), (0, .ref (q 0)), (1, .int x1), (2, .int x2), (3, .int x3), (4, .long x4)]) hx hb dK_undone_91 hl (k := 5) rfl rfl (by decide) rfl (fun ls hl => ?_)
      refine lv_goto (tgt := 51) hx hb dK_undone_94 (by decide) ?_
      exact ih s90 x1 x2 x3 x4 (x6 + 1) _ _ ls hf (lv_sub hl [1, 2, 3, 4, 5, 0] rfl) hP hD hS
set_option maxHeartbeats 400000 in
set_option maxRecDepth 100000 in
theorem mK_undone (l : Launch) (D : va_G) (q : Nat → Nat) (k : kK) (cI cJ : ClassId) (sz : Nat) (fu : Nat) (σ : sK) (σ' : sK) (x1 : Int32) (x2 : Int32) (x3 : Int32) (r : Int64) (hf : fK_undone fu k σ x1 x2 x3 = some (r, σ')) : Met l yK_undone (.code yK_undone cK_undone 8 (some .long) :: TK) ({ frames := 3, cells := 0, slots := 0, locals := 78 }) (kPre D cl0 [(cI, .int), (cJ, .long)] (wdK q k cI cJ) sz σ [.ref (q 0), .int x1, .int x2, .int x3]) (kQl D cl0 [(cI, .int), (cJ, .long)] (wdK q k cI cJ) (va_A (wdK q k cI cJ σ) sz) r σ') 0 0 (va_A (wdK q k cI cJ σ) sz) := by
  refine kr_start (own := RK) (by decide) rfl (Nat.le_of_ble_eq_true rfl) ?_
  intro p e s m args below meth c ls C0 hsz hK hP hD hl
  subst hsz
  obtain ⟨hx, hb, hr, hml, hown, hts, hlocks⟩ := id C0
  have hA : ∀ z : Nat, s.heap.size ≤ z → va_A (wdK q k cI cJ σ) s.heap.size z := fun z h => Or.inr h
  generalize va_A (wdK q k cI cJ σ) s.heap.size = A at hD hA ⊢
  have hS : va_S A s.heap s.heap [] := va_S.rf
  have hl : lv_has ls 8 [(0, .ref (q 0)), (1, .int x1), (2, .int x2), (3, .int x3)] := hl
  unfold fK_undone at hf
  refine lv_aload_n hx hb dK_undone_0 rfl (lv_at hl 0 rfl) ?_
  refine lv_iload_n hx hb dK_undone_1 rfl (lv_at hl 1 rfl) ?_
  refine kr_callVi (av := [.int x1]) ⟨hx, hb, hml, hown, hts⟩ (mK_isClass l D q k cI cJ _ σ x1 _ rfl) (cwV 1 hts (kgood_V TK_good (by decide +kernel)) rfl rfl rfl (by decide +kernel) ⟨Nat.le_of_ble_eq_true rfl, Nat.le_of_ble_eq_true rfl⟩) hK hP hD hS hA (ci := 0) (q0 := 0) rfl rfl rfl hl.1 rfl (Nat.le_of_ble_eq_true rfl) dK_undone_2 ⟨Nat.le_of_ble_eq_true rfl, Nat.le_of_ble_eq_true rfl⟩ (fun H locs hP hD hS => ?_)
  refine lv_if_eq (tgt := 30) hx hb dK_undone_5 (by decide) (fun c5 => ?_) (fun c5 => ?_)
  · have hf := (if_pos c5).symm.trans hf
    refine lv_ldc2 (v := -1) hx hb hown (hts (.constantLong RK 103 (-1)) (by decide +kernel)) dK_undone_30 ?_
    exact kr_lret C0 hK hP hD hS (congrArg Prod.fst (Option.some.inj hf)) (congrArg Prod.snd (Option.some.inj hf)) dK_undone_33
  · have hf := (if_neg c5).symm.trans hf
    refine lv_aload_n hx hb dK_undone_8 rfl (lv_at hl 0 rfl) ?_
    refine lv_iload_n hx hb dK_undone_9 rfl (lv_at hl 2 rfl) ?_
    refine kr_callVi (av := [.int x2]) ⟨hx, hb, hml, hown, hts⟩ (mK_isAge l D q k cI cJ _ σ x2 _ rfl) (cwV 1 hts (kgood_V TK_good (by decide +kernel)) rfl rfl rfl (by decide +kernel) ⟨Nat.le_of_ble_eq_true rfl, Nat.le_of_ble_eq_true rfl⟩) hK hP hD hS hA (ci := 0) (q0 := 0) rfl rfl rfl hl.1 rfl (Nat.le_of_ble_eq_true rfl) dK_undone_10 ⟨Nat.le_of_ble_eq_true rfl, Nat.le_of_ble_eq_true rfl⟩ (fun H locs hP hD hS => ?_)
    refine lv_if_eq (tgt := 30) hx hb dK_undone_13 (by decide) (fun c13 => ?_) (fun c13 => ?_)
    · have hf := (if_pos c13).symm.trans hf
      refine lv_ldc2 (v := -1) hx hb hown (hts (.constantLong RK 103 (-1)) (by decide +kernel)) dK_undone_30 ?_
      exact kr_lret C0 hK hP hD hS (congrArg Prod.fst (Option.some.inj hf)) (congrArg Prod.snd (Option.some.inj hf)) dK_undone_33
    · have hf := (if_neg c13).symm.trans hf
      refine lv_iload_n hx hb dK_undone_16 rfl (lv_at hl 3 rfl) ?_
      refine kr_callSi (av := [.int x3]) ⟨hx, hb, hml, hown, hts⟩ (mK_isZeroOrOne l D _ (wdK q k cI cJ) [(cI, .int), (cJ, .long)] cl0 _ σ x3 _ rfl) (cwS 1 hts (kgood_S TK_good (by decide +kernel)) rfl rfl rfl (by decide +kernel) ⟨Nat.le_of_ble_eq_true rfl, Nat.le_of_ble_eq_true rfl⟩) hK hP hD hS hA rfl hl.1 rfl (Nat.le_of_ble_eq_true rfl) dK_undone_17 ⟨Nat.le_of_ble_eq_true rfl, Nat.le_of_ble_eq_true rfl⟩ (fun H locs hP hD hS => ?_)
      refine lv_if_eq (tgt := 30) hx hb dK_undone_20 (by decide) (fun c20 => ?_) (fun c20 => ?_)
      · have hf := (if_pos c20).symm.trans hf
        refine lv_ldc2 (v := -1) hx hb hown (hts (.constantLong RK 103 (-1)) (by decide +kernel)) dK_undone_30 ?_
        exact kr_lret C0 hK hP hD hS (congrArg Prod.fst (Option.some.inj hf)) (congrArg Prod.snd (Option.some.inj hf)) dK_undone_33
      · have hf := (if_neg c20).symm.trans hf
        refine lv_aload_n hx hb dK_undone_23 rfl (lv_at hl 0 rfl) ?_
        obtain ⟨v24, s24, es24, hf⟩ := kb2 hf
        refine kr_callVi (av := []) ⟨hx, hb, hml, hown, hts⟩ (mK_undo l D q k cI cJ _ fu σ s24 v24 es24) (cwV 0 hts (kgood_V TK_good (by decide +kernel)) rfl rfl rfl (by decide +kernel) ⟨Nat.le_of_ble_eq_true rfl, Nat.le_of_ble_eq_true rfl⟩) hK hP hD hS hA (ci := 0) (q0 := 0) rfl rfl rfl hl.1 rfl (Nat.le_of_ble_eq_true rfl) dK_undone_24 ⟨Nat.le_of_ble_eq_true rfl, Nat.le_of_ble_eq_true rfl⟩ (fun H locs hP hD hS => ?_)
        refine lv_if_eq (tgt := 34) hx hb dK_undone_27 (by decide) (fun c27 => ?_) (fun c27 => ?_)
        · have hf := (if_pos c27).symm.trans hf
          refine lv_aload_n hx hb dK_undone_34 rfl (lv_at hl 0 rfl) ?_
          obtain ⟨s35, es35, hf⟩ := kb1 hf
          refine kr_callVv (av := []) ⟨hx, hb, hml, hown, hts⟩ (mK_loadErrors l D q k cI cJ _ fu s24 s35 es35) (cwV 0 hts (kgood_V TK_good (by decide +kernel)) rfl rfl rfl (by decide +kernel) ⟨Nat.le_of_ble_eq_true rfl, Nat.le_of_ble_eq_true rfl⟩) hK hP hD hS hA (ci := 0) (q0 := 0) rfl rfl rfl hl.1 rfl (Nat.le_of_ble_eq_true rfl) dK_undone_35 ⟨Nat.le_of_ble_eq_true rfl, Nat.le_of_ble_eq_true rfl⟩ (fun H locs hP hD hS => ?_)
          refine lv_aload_n hx hb dK_undone_38 rfl (lv_at hl 0 rfl) ?_
          obtain ⟨v39, s39, es39, hf⟩ := kb2 hf
          refine kr_callVl (av := []) ⟨hx, hb, hml, hown, hts⟩ (mK_determinant l D q k cI cJ _ fu s35 s39 v39 es39) (cwV 0 hts (kgood_V TK_good (by decide +kernel)) rfl rfl rfl (by decide +kernel) ⟨Nat.le_of_ble_eq_true rfl, Nat.le_of_ble_eq_true rfl⟩) hK hP hD hS hA (ci := 0) (q0 := 0) rfl rfl rfl hl.1 rfl (Nat.le_of_ble_eq_true rfl) dK_undone_39 ⟨Nat.le_of_ble_eq_true rfl, Nat.le_of_ble_eq_true rfl⟩ (fun H locs hP hD hS => ?_)
          refine lv_lstore (lv' := [(4, .long v39), (0, .ref (q 0)), (1, .int x1), (2, .int x2), (3, .int x3)]) hx hb dK_undone_42 hl (by decide) rfl (fun ls hl => ?_)
          refine lv_aload_n hx hb dK_undone_44 rfl (lv_at hl 1 rfl) ?_
          obtain ⟨s45, es45, hf⟩ := kb1 hf
          refine kr_callVv (av := []) ⟨hx, hb, hml, hown, hts⟩ (mK_loadErrors l D q k cI cJ _ fu s39 s45 es45) (cwV 0 hts (kgood_V TK_good (by decide +kernel)) rfl rfl rfl (by decide +kernel) ⟨Nat.le_of_ble_eq_true rfl, Nat.le_of_ble_eq_true rfl⟩) hK hP hD hS hA (ci := 0) (q0 := 0) rfl rfl rfl hl.1 rfl (Nat.le_of_ble_eq_true rfl) dK_undone_45 ⟨Nat.le_of_ble_eq_true rfl, Nat.le_of_ble_eq_true rfl⟩ (fun H locs hP hD hS => ?_)
          refine lv_iconst (v := 0) hx hb dK_undone_48 (by decide) ?_
          refine lv_istore (lv' := [(6, .int 0), (4, .long v39), (0, .ref (q 0)), (1, .int x1), (2, .int x2), (3, .int x3)]) hx hb dK_undone_49 hl (by decide) rfl (fun ls hl => ?_)
          exact tK_undone_51 C0 hK hA fu s45 x1 x2 x3 v39 0 _ _ ls hf (lv_sub hl [2, 3, 4, 5, 1, 0] rfl) hP hD hS
        · have hf := (if_neg c27).symm.trans hf
          refine lv_ldc2 (v := -1) hx hb hown (hts (.constantLong RK 103 (-1)) (by decide +kernel)) dK_undone_30 ?_
          exact kr_lret C0 hK hP hD hS (congrArg Prod.fst (Option.some.inj hf)) (congrArg Prod.snd (Option.some.inj hf)) dK_undone_33
theorem dK_apart_0 : decode cK_apart 0 = .ok (.iload_n 1, 1) := by decide +kernel
theorem dK_apart_1 : decode cK_apart 1 = .ok (.invokestatic 86, 3) := by decide +kernel
theorem dK_apart_4 : decode cK_apart 4 = .ok (.ifCond .eq (17), 3) := by decide +kernel
theorem dK_apart_7 : decode cK_apart 7 = .ok (.iload_n 2, 1) := by decide +kernel
theorem dK_apart_8 : decode cK_apart 8 = .ok (.invokestatic 86, 3) := by decide +kernel
theorem dK_apart_11 : decode cK_apart 11 = .ok (.ifCond .eq (10), 3) := by decide +kernel
theorem dK_apart_14 : decode cK_apart 14 = .ok (.iload_n 3, 1) := by decide +kernel
theorem dK_apart_15 : decode cK_apart 15 = .ok (.invokestatic 100, 3) := by decide +kernel
theorem dK_apart_18 : decode cK_apart 18 = .ok (.ifCond .ne (7), 3) := by decide +kernel
theorem dK_apart_21 : decode cK_apart 21 = .ok (.ldc2_w 103, 3) := by decide +kernel
theorem dK_apart_24 : decode cK_apart 24 = .ok (.lreturn, 1) := by decide +kernel
theorem dK_apart_25 : decode cK_apart 25 = .ok (.aload_n 0, 1) := by decide +kernel
theorem dK_apart_26 : decode cK_apart 26 = .ok (.getfield 36, 3) := by decide +kernel
theorem dK_apart_29 : decode cK_apart 29 = .ok (.iload_n 1, 1) := by decide +kernel
theorem dK_apart_30 : decode cK_apart 30 = .ok (.iaload, 1) := by decide +kernel
theorem dK_apart_31 : decode cK_apart 31 = .ok (.istore 4, 2) := by decide +kernel
theorem dK_apart_33 : decode cK_apart 33 = .ok (.aload_n 0, 1) := by decide +kernel
theorem dK_apart_34 : decode cK_apart 34 = .ok (.getfield 36, 3) := by decide +kernel
theorem dK_apart_37 : decode cK_apart 37 = .ok (.iload_n 2, 1) := by decide +kernel
theorem dK_apart_38 : decode cK_apart 38 = .ok (.iaload, 1) := by decide +kernel
theorem dK_apart_39 : decode cK_apart 39 = .ok (.istore 5, 2) := by decide +kernel
theorem dK_apart_41 : decode cK_apart 41 = .ok (.iload 4, 2) := by decide +kernel
theorem dK_apart_43 : decode cK_apart 43 = .ok (.ifCond .eq (8), 3) := by decide +kernel
theorem dK_apart_46 : decode cK_apart 46 = .ok (.iload 5, 2) := by decide +kernel
theorem dK_apart_48 : decode cK_apart 48 = .ok (.ifCond .ne (7), 3) := by decide +kernel
theorem dK_apart_51 : decode cK_apart 51 = .ok (.ldc2_w 103, 3) := by decide +kernel
theorem dK_apart_54 : decode cK_apart 54 = .ok (.lreturn, 1) := by decide +kernel
theorem dK_apart_55 : decode cK_apart 55 = .ok (.iconst 0, 1) := by decide +kernel
theorem dK_apart_56 : decode cK_apart 56 = .ok (.istore 6, 2) := by decide +kernel
theorem dK_apart_58 : decode cK_apart 58 = .ok (.iconst 0, 1) := by decide +kernel
theorem dK_apart_59 : decode cK_apart 59 = .ok (.istore 7, 2) := by decide +kernel
theorem dK_apart_61 : decode cK_apart 61 = .ok (.iload 7, 2) := by decide +kernel
theorem dK_apart_63 : decode cK_apart 63 = .ok (.aload_n 0, 1) := by decide +kernel
theorem dK_apart_64 : decode cK_apart 64 = .ok (.getfield 26, 3) := by decide +kernel
theorem dK_apart_67 : decode cK_apart 67 = .ok (.if_icmp .ge (70), 3) := by decide +kernel
theorem dK_apart_70 : decode cK_apart 70 = .ok (.iconst 0, 1) := by decide +kernel
theorem dK_apart_71 : decode cK_apart 71 = .ok (.istore 8, 2) := by decide +kernel
theorem dK_apart_73 : decode cK_apart 73 = .ok (.iload 8, 2) := by decide +kernel
theorem dK_apart_75 : decode cK_apart 75 = .ok (.aload_n 0, 1) := by decide +kernel
theorem dK_apart_76 : decode cK_apart 76 = .ok (.getfield 29, 3) := by decide +kernel
theorem dK_apart_79 : decode cK_apart 79 = .ok (.if_icmp .ge (52), 3) := by decide +kernel
theorem dK_apart_82 : decode cK_apart 82 = .ok (.iload 6, 2) := by decide +kernel
theorem dK_apart_84 : decode cK_apart 84 = .ok (.aload_n 0, 1) := by decide +kernel
theorem dK_apart_85 : decode cK_apart 85 = .ok (.getfield 32, 3) := by decide +kernel
theorem dK_apart_88 : decode cK_apart 88 = .ok (.aload_n 0, 1) := by decide +kernel
theorem dK_apart_89 : decode cK_apart 89 = .ok (.iload_n 1, 1) := by decide +kernel
theorem dK_apart_90 : decode cK_apart 90 = .ok (.iload 7, 2) := by decide +kernel
theorem dK_apart_92 : decode cK_apart 92 = .ok (.iload 8, 2) := by decide +kernel
theorem dK_apart_94 : decode cK_apart 94 = .ok (.invokevirtual 96, 3) := by decide +kernel
theorem dK_apart_97 : decode cK_apart 97 = .ok (.iaload, 1) := by decide +kernel
theorem dK_apart_98 : decode cK_apart 98 = .ok (.iload 5, 2) := by decide +kernel
theorem dK_apart_100 : decode cK_apart 100 = .ok (.imul, 1) := by decide +kernel
theorem dK_apart_101 : decode cK_apart 101 = .ok (.aload_n 0, 1) := by decide +kernel
theorem dK_apart_102 : decode cK_apart 102 = .ok (.getfield 32, 3) := by decide +kernel
theorem dK_apart_105 : decode cK_apart 105 = .ok (.aload_n 0, 1) := by decide +kernel
theorem dK_apart_106 : decode cK_apart 106 = .ok (.iload_n 2, 1) := by decide +kernel
theorem dK_apart_107 : decode cK_apart 107 = .ok (.iload 7, 2) := by decide +kernel
theorem dK_apart_109 : decode cK_apart 109 = .ok (.iload 8, 2) := by decide +kernel
theorem dK_apart_111 : decode cK_apart 111 = .ok (.invokevirtual 96, 3) := by decide +kernel
theorem dK_apart_114 : decode cK_apart 114 = .ok (.iaload, 1) := by decide +kernel
theorem dK_apart_115 : decode cK_apart 115 = .ok (.iload 4, 2) := by decide +kernel
theorem dK_apart_117 : decode cK_apart 117 = .ok (.imul, 1) := by decide +kernel
theorem dK_apart_118 : decode cK_apart 118 = .ok (.isub, 1) := by decide +kernel
theorem dK_apart_119 : decode cK_apart 119 = .ok (.invokestatic 135, 3) := by decide +kernel
theorem dK_apart_122 : decode cK_apart 122 = .ok (.iadd, 1) := by decide +kernel
theorem dK_apart_123 : decode cK_apart 123 = .ok (.istore 6, 2) := by decide +kernel
theorem dK_apart_125 : decode cK_apart 125 = .ok (.iinc 8 (1), 3) := by decide +kernel
theorem dK_apart_128 : decode cK_apart 128 = .ok (.goto (-55), 3) := by decide +kernel
theorem dK_apart_131 : decode cK_apart 131 = .ok (.iinc 7 (1), 3) := by decide +kernel
theorem dK_apart_134 : decode cK_apart 134 = .ok (.goto (-73), 3) := by decide +kernel
theorem dK_apart_137 : decode cK_apart 137 = .ok (.iload 6, 2) := by decide +kernel
theorem dK_apart_139 : decode cK_apart 139 = .ok (.i2l, 1) := by decide +kernel
theorem dK_apart_140 : decode cK_apart 140 = .ok (.iload 4, 2) := by decide +kernel
theorem dK_apart_142 : decode cK_apart 142 = .ok (.iload 5, 2) := by decide +kernel
theorem dK_apart_144 : decode cK_apart 144 = .ok (.imul, 1) := by decide +kernel
theorem dK_apart_145 : decode cK_apart 145 = .ok (.i2l, 1) := by decide +kernel
theorem dK_apart_146 : decode cK_apart 146 = .ok (.iload_n 3, 1) := by decide +kernel
theorem dK_apart_147 : decode cK_apart 147 = .ok (.invokestatic 115, 3) := by decide +kernel
theorem dK_apart_150 : decode cK_apart 150 = .ok (.lreturn, 1) := by decide +kernel
set_option maxHeartbeats 400000 in
set_option maxRecDepth 100000 in
theorem tK_apart_73 {p : Program} {l : Launch} {e : Env} {s : State} {m : MethodId} {args : Array Value} {below : List Frame} {meth : Method} {c : Code} {D : va_G} {A : Nat → Prop} {q : Nat → Nat} {k : kK} {cI cJ : ClassId} {r : Int64} {σ : sK} {fu : Nat} {h61 : Int32 → Int32 → Int32 → Int32 → Int32 → Int32 → Int32 → Option Int64} (C0 : Cx p s m args meth c cK_apart 9 (some .long) RK TK) (hK : va_K D cl0 [(cI, .int), (cJ, .long)] s) (hA : ∀ z, s.heap.size ≤ z → A z) (ih61 : ∀ (x1 : Int32) (x2 : Int32) (x3 : Int32) (x4 : Int32) (x5 : Int32) (x6 : Int32) (x7 : Int32)(H : Heap) (locs : List Loc) (ls : Array Slot), h61 x1 x2 x3 x4 x5 x6 x7 = some r → lv_has ls 9 [(0, .ref (q 0)), (1, .int x1), (2, .int x2), (3, .int x3), (4, .int x4), (5, .int x5), (6, .int x6), (7, .int x7)] → va_P D cl0 (wdK q k cI cJ σ) H → va_D A (wdK q k cI cJ σ) → va_S A s.heap H locs → W p l e ({ frames := 2, cells := 0, slots := 0, locals := 56 }) s m args below meth c H locs 0 0 (MQ below (kQl D cl0 [(cI, .int), (cJ, .long)] (wdK q k cI cJ) A r σ) args s 0 0 A) (F0 m 61 ls [])) : ∀ n : Nat, ∀ (x1 : Int32) (x2 : Int32) (x3 : Int32) (x4 : Int32) (x5 : Int32) (x6 : Int32) (x7 : Int32) (x8 : Int32)(H : Heap) (locs : List Loc) (ls : Array Slot), fK_apart_73 fu k σ h61 n x1 x2 x3 x4 x5 x6 x7 x8 = some r → lv_has ls 9 [(0, .ref (q 0)), (1, .int x1), (2, .int x2), (3, .int x3), (4, .int x4), (5, .int x5), (6, .int x6), (7, .int x7), (8, .int x8)] → va_P D cl0 (wdK q k cI cJ σ) H → va_D A (wdK q k cI cJ σ) → va_S A s.heap H locs → W p l e ({ frames := 2, cells := 0, slots := 0, locals := 56 }) s m args below meth c H locs 0 0 (MQ below (kQl D cl0 [(cI, .int), (cJ, .long)] (wdK q k cI cJ) A r σ) args s 0 0 A) (F0 m 73 ls []) := by
  obtain ⟨hx, hb, hr, hml, hown, hts, hlocks⟩ := id C0
  intro n
  induction n with
  | zero =>
    intro x1 x2 x3 x4 x5 x6 x7 x8 H locs ls hf hl hP hD hS
    cases hf
  | succ n ih =>
    intro x1 x2 x3 x4 x5 x6 x7 x8 H locs ls hf hl hP hD hS
    rw [fK_apart_73] at hf
    refine lv_iload hx hb dK_apart_73 (lv_at hl 8 rfl) ?_
    refine lv_aload_n hx hb dK_apart_75 rfl (lv_at hl 0 rfl) ?_
    refine gK_ages hx hb hown hts hK hP dK_apart_76 ?_
    refine lv_icmp_ge (tgt := 131) hx hb dK_apart_79 (by decide) (fun c79 => ?_) (fun c79 => ?_)
    · have hf := (if_pos c79).symm.trans hf
      refine lv_iinc (v := (x7 + 1)) (lv' := [(7, .int (x7 + 1)), (0, .ref (q 0)), (1, .int x1), (2, .int x2), (3, .int x3), (4, .int x4), (5, .int x5), (6, .int x6), (8, .int x8)]) hx hb dK_apart_131 hl (k := 7) rfl rfl (by decide) rfl (fun ls hl => ?_)
      refine lv_goto (tgt := 61) hx hb dK_apart_134 (by decide) ?_
      exact ih61 x1 x2 x3 x4 x5 x6 (x7 + 1) _ _ ls hf (lv_sub hl [1, 2, 3, 4, 5, 6, 7, 0] rfl) hP hD hS
    · have hf := (if_neg c79).symm.trans hf
      refine lv_iload hx hb dK_apart_82 (lv_at hl 6 rfl) ?_
      refine lv_aload_n hx hb dK_apart_84 rfl (lv_at hl 0 rfl) ?_
      refine gK_readings hx hb hown hts hK hP dK_apart_85 ?_
      refine lv_aload_n hx hb dK_apart_88 rfl (lv_at hl 0 rfl) ?_
      refine lv_iload_n hx hb dK_apart_89 rfl (lv_at hl 1 rfl) ?_
      refine lv_iload hx hb dK_apart_90 (lv_at hl 7 rfl) ?_
      refine lv_iload hx hb dK_apart_92 (lv_at hl 8 rfl) ?_
      refine kr_callVi (av := [.int x1, .int x7, .int x8]) ⟨hx, hb, hml, hown, hts⟩ (mK_cell l D q k cI cJ _ σ x1 x7 x8 _ rfl) (cwV 3 hts (kgood_V TK_good (by decide +kernel)) rfl rfl rfl (by decide +kernel) ⟨Nat.le_of_ble_eq_true rfl, Nat.le_of_ble_eq_true rfl⟩) hK hP hD hS hA (ci := 0) (q0 := 0) rfl rfl rfl hl.1 rfl (Nat.le_of_ble_eq_true rfl) dK_apart_94 ⟨Nat.le_of_ble_eq_true rfl, Nat.le_of_ble_eq_true rfl⟩ (fun H locs hP hD hS => ?_)
      obtain ⟨v97, ev97, hf⟩ := kb1 hf
      refine kr_iaload hx hb hK hP 1 0 rfl rfl ev97 dK_apart_97 ?_
      refine lv_iload hx hb dK_apart_98 (lv_at hl 5 rfl) ?_
      refine lv_imul hx hb dK_apart_100 ?_
      refine lv_aload_n hx hb dK_apart_101 rfl (lv_at hl 0 rfl) ?_
      refine gK_readings hx hb hown hts hK hP dK_apart_102 ?_
      refine lv_aload_n hx hb dK_apart_105 rfl (lv_at hl 0 rfl) ?_
      refine lv_iload_n hx hb dK_apart_106 rfl (lv_at hl 2 rfl) ?_
      refine lv_iload hx hb dK_apart_107 (lv_at hl 7 rfl) ?_
      refine lv_iload hx hb dK_apart_109 (lv_at hl 8 rfl) ?_
      refine kr_callVi (av := [.int x2, .int x7, .int x8]) ⟨hx, hb, hml, hown, hts⟩ (mK_cell l D q k cI cJ _ σ x2 x7 x8 _ rfl) (cwV 3 hts (kgood_V TK_good (by decide +kernel)) rfl rfl rfl (by decide +kernel) ⟨Nat.le_of_ble_eq_true rfl, Nat.le_of_ble_eq_true rfl⟩) hK hP hD hS hA (ci := 0) (q0 := 0) rfl rfl rfl hl.1 rfl (Nat.le_of_ble_eq_true rfl) dK_apart_111 ⟨Nat.le_of_ble_eq_true rfl, Nat.le_of_ble_eq_true rfl⟩ (fun H locs hP hD hS => ?_)
      obtain ⟨v114, ev114, hf⟩ := kb1 hf
      refine kr_iaload hx hb hK hP 1 0 rfl rfl ev114 dK_apart_114 ?_
      refine lv_iload hx hb dK_apart_115 (lv_at hl 4 rfl) ?_
      refine lv_imul hx hb dK_apart_117 ?_
      refine lv_isub hx hb dK_apart_118 ?_
      refine va_mabs hx hb (hml.trans hl.1.symm) hown (hts (.methodLink RK 135 Lib.Math.abs.name) (by decide +kernel)) (hts (.static Lib.Math.abs.name) (by decide +kernel)) (hts (.initialized "java/lang/Math") (by decide +kernel)) (hts (.code Lib.Math.abs.name Lib.Math.abs.code 1 (some .int)) (by decide +kernel)) (Nat.le_of_ble_eq_true rfl) (Nat.le_of_ble_eq_true rfl) (Nat.le_of_ble_eq_true rfl) (Nat.le_of_ble_eq_true rfl) dK_apart_119 ?_
      refine lv_iadd hx hb dK_apart_122 ?_
      refine lv_istore (lv' := [(6, .int (x6 + (if 0 ≤ ((v97 * x5) - (v114 * x4)) then ((v97 * x5) - (v114 * x4)) else 0 - ((v97 * x5) - (v114 * x4))))), (0, .ref (q 0)), (1, .int x1), (2, .int x2), (3, .int x3), (4, .int x4), (5, .int x5), (7, .int x7), (8, .int x8)]) hx hb dK_apart_123 hl (by decide) rfl (fun ls hl => ?_)
      refine lv_iinc (v := (x8 + 1)) (lv' := [(8, .int (x8 + 1)), (6, .int (x6 + (if 0 ≤ ((v97 * x5) - (v114 * x4)) then ((v97 * x5) - (v114 * x4)) else 0 - ((v97 * x5) - (v114 * x4))))), (0, .ref (q 0)), (1, .int x1), (2, .int x2), (3, .int x3), (4, .int x4), (5, .int x5), (7, .int x7)]) hx hb dK_apart_125 hl (k := 8) rfl rfl (by decide) rfl (fun ls hl => ?_)
      refine lv_goto (tgt := 73) hx hb dK_apart_128 (by decide) ?_
      exact ih x1 x2 x3 x4 x5 (x6 + (if 0 ≤ ((v97 * x5) - (v114 * x4)) then ((v97 * x5) - (v114 * x4)) else 0 - ((v97 * x5) - (v114 * x4)))) x7 (x8 + 1) _ _ ls hf (lv_sub hl [2, 3, 4, 5, 6, 7, 1, 8, 0] rfl) hP hD hS
set_option maxHeartbeats 400000 in
set_option maxRecDepth 100000 in
theorem tK_apart_61 {p : Program} {l : Launch} {e : Env} {s : State} {m : MethodId} {args : Array Value} {below : List Frame} {meth : Method} {c : Code} {D : va_G} {A : Nat → Prop} {q : Nat → Nat} {k : kK} {cI cJ : ClassId} {r : Int64} {σ : sK} {fu : Nat} (C0 : Cx p s m args meth c cK_apart 9 (some .long) RK TK) (hK : va_K D cl0 [(cI, .int), (cJ, .long)] s) (hA : ∀ z, s.heap.size ≤ z → A z) : ∀ n : Nat, ∀ (x1 : Int32) (x2 : Int32) (x3 : Int32) (x4 : Int32) (x5 : Int32) (x6 : Int32) (x7 : Int32)(H : Heap) (locs : List Loc) (ls : Array Slot), fK_apart_61 fu k σ n x1 x2 x3 x4 x5 x6 x7 = some r → lv_has ls 9 [(0, .ref (q 0)), (1, .int x1), (2, .int x2), (3, .int x3), (4, .int x4), (5, .int x5), (6, .int x6), (7, .int x7)] → va_P D cl0 (wdK q k cI cJ σ) H → va_D A (wdK q k cI cJ σ) → va_S A s.heap H locs → W p l e ({ frames := 2, cells := 0, slots := 0, locals := 56 }) s m args below meth c H locs 0 0 (MQ below (kQl D cl0 [(cI, .int), (cJ, .long)] (wdK q k cI cJ) A r σ) args s 0 0 A) (F0 m 61 ls []) := by
  obtain ⟨hx, hb, hr, hml, hown, hts, hlocks⟩ := id C0
  intro n
  induction n with
  | zero =>
    intro x1 x2 x3 x4 x5 x6 x7 H locs ls hf hl hP hD hS
    cases hf
  | succ n ih =>
    intro x1 x2 x3 x4 x5 x6 x7 H locs ls hf hl hP hD hS
    rw [fK_apart_61] at hf
    refine lv_iload hx hb dK_apart_61 (lv_at hl 7 rfl) ?_
    refine lv_aload_n hx hb dK_apart_63 rfl (lv_at hl 0 rfl) ?_
    refine gK_classes hx hb hown hts hK hP dK_apart_64 ?_
    refine lv_icmp_ge (tgt := 137) hx hb dK_apart_67 (by decide) (fun c67 => ?_) (fun c67 => ?_)
    · have hf := (if_pos c67).symm.trans hf
      refine lv_iload hx hb dK_apart_137 (lv_at hl 6 rfl) ?_
      refine lv_i2l (v := x6.toInt64) hx hb dK_apart_139 rfl ?_
      refine lv_iload hx hb dK_apart_140 (lv_at hl 4 rfl) ?_
      refine lv_iload hx hb dK_apart_142 (lv_at hl 5 rfl) ?_
      refine lv_imul hx hb dK_apart_144 ?_
      refine lv_i2l (v := (x4 * x5).toInt64) hx hb dK_apart_145 rfl ?_
      refine lv_iload_n hx hb dK_apart_146 rfl (lv_at hl 3 rfl) ?_
      obtain ⟨v147, ev147, hf⟩ := kb1 hf
      refine kr_callSl (av := [.long x6.toInt64, .long (x4 * x5).toInt64, .int x3]) ⟨hx, hb, hml, hown, hts⟩ (mK_fractionPart l D _ (wdK q k cI cJ) [(cI, .int), (cJ, .long)] cl0 _ fu σ x6.toInt64 ((x4 * x5).toInt64) x3 v147 ev147) (cwS 3 hts (kgood_S TK_good (by decide +kernel)) rfl rfl rfl (by decide +kernel) ⟨Nat.le_of_ble_eq_true rfl, Nat.le_of_ble_eq_true rfl⟩) hK hP hD hS hA rfl hl.1 rfl (Nat.le_of_ble_eq_true rfl) dK_apart_147 ⟨Nat.le_of_ble_eq_true rfl, Nat.le_of_ble_eq_true rfl⟩ (fun H locs hP hD hS => ?_)
      exact kr_lret C0 hK hP hD hS (Option.some.inj hf) rfl dK_apart_150
    · have hf := (if_neg c67).symm.trans hf
      refine lv_iconst (v := 0) hx hb dK_apart_70 (by decide) ?_
      refine lv_istore (lv' := [(8, .int 0), (0, .ref (q 0)), (1, .int x1), (2, .int x2), (3, .int x3), (4, .int x4), (5, .int x5), (6, .int x6), (7, .int x7)]) hx hb dK_apart_71 hl (by decide) rfl (fun ls hl => ?_)
      exact tK_apart_73 C0 hK hA ih fu x1 x2 x3 x4 x5 x6 x7 0 _ _ ls hf (lv_sub hl [1, 2, 3, 4, 5, 6, 7, 8, 0] rfl) hP hD hS
set_option maxHeartbeats 400000 in
set_option maxRecDepth 100000 in
theorem mK_apart (l : Launch) (D : va_G) (q : Nat → Nat) (k : kK) (cI cJ : ClassId) (sz : Nat) (fu : Nat) (σ : sK) (x1 : Int32) (x2 : Int32) (x3 : Int32) (r : Int64) (hf : fK_apart fu k σ x1 x2 x3 = some r) : Met l yK_apart (.code yK_apart cK_apart 9 (some .long) :: TK) ({ frames := 2, cells := 0, slots := 0, locals := 56 }) (kPre D cl0 [(cI, .int), (cJ, .long)] (wdK q k cI cJ) sz σ [.ref (q 0), .int x1, .int x2, .int x3]) (kQl D cl0 [(cI, .int), (cJ, .long)] (wdK q k cI cJ) (va_A (wdK q k cI cJ σ) sz) r σ) 0 0 (va_A (wdK q k cI cJ σ) sz) := by
  refine kr_start (own := RK) (by decide) rfl (Nat.le_of_ble_eq_true rfl) ?_
  intro p e s m args below meth c ls C0 hsz hK hP hD hl
  subst hsz
  obtain ⟨hx, hb, hr, hml, hown, hts, hlocks⟩ := id C0
  have hA : ∀ z : Nat, s.heap.size ≤ z → va_A (wdK q k cI cJ σ) s.heap.size z := fun z h => Or.inr h
  generalize va_A (wdK q k cI cJ σ) s.heap.size = A at hD hA ⊢
  have hS : va_S A s.heap s.heap [] := va_S.rf
  have hl : lv_has ls 9 [(0, .ref (q 0)), (1, .int x1), (2, .int x2), (3, .int x3)] := hl
  unfold fK_apart at hf
  refine lv_iload_n hx hb dK_apart_0 rfl (lv_at hl 1 rfl) ?_
  refine kr_callSi (av := [.int x1]) ⟨hx, hb, hml, hown, hts⟩ (mK_isPlace l D _ (wdK q k cI cJ) [(cI, .int), (cJ, .long)] cl0 _ σ x1 _ rfl) (cwS 1 hts (kgood_S TK_good (by decide +kernel)) rfl rfl rfl (by decide +kernel) ⟨Nat.le_of_ble_eq_true rfl, Nat.le_of_ble_eq_true rfl⟩) hK hP hD hS hA rfl hl.1 rfl (Nat.le_of_ble_eq_true rfl) dK_apart_1 ⟨Nat.le_of_ble_eq_true rfl, Nat.le_of_ble_eq_true rfl⟩ (fun H locs hP hD hS => ?_)
  refine lv_if_eq (tgt := 21) hx hb dK_apart_4 (by decide) (fun c4 => ?_) (fun c4 => ?_)
  · have hf := (if_pos c4).symm.trans hf
    refine lv_ldc2 (v := -1) hx hb hown (hts (.constantLong RK 103 (-1)) (by decide +kernel)) dK_apart_21 ?_
    exact kr_lret C0 hK hP hD hS (Option.some.inj hf) rfl dK_apart_24
  · have hf := (if_neg c4).symm.trans hf
    refine lv_iload_n hx hb dK_apart_7 rfl (lv_at hl 2 rfl) ?_
    refine kr_callSi (av := [.int x2]) ⟨hx, hb, hml, hown, hts⟩ (mK_isPlace l D _ (wdK q k cI cJ) [(cI, .int), (cJ, .long)] cl0 _ σ x2 _ rfl) (cwS 1 hts (kgood_S TK_good (by decide +kernel)) rfl rfl rfl (by decide +kernel) ⟨Nat.le_of_ble_eq_true rfl, Nat.le_of_ble_eq_true rfl⟩) hK hP hD hS hA rfl hl.1 rfl (Nat.le_of_ble_eq_true rfl) dK_apart_8 ⟨Nat.le_of_ble_eq_true rfl, Nat.le_of_ble_eq_true rfl⟩ (fun H locs hP hD hS => ?_)
    refine lv_if_eq (tgt := 21) hx hb dK_apart_11 (by decide) (fun c11 => ?_) (fun c11 => ?_)
    · have hf := (if_pos c11).symm.trans hf
      refine lv_ldc2 (v := -1) hx hb hown (hts (.constantLong RK 103 (-1)) (by decide +kernel)) dK_apart_21 ?_
      exact kr_lret C0 hK hP hD hS (Option.some.inj hf) rfl dK_apart_24
    · have hf := (if_neg c11).symm.trans hf
      refine lv_iload_n hx hb dK_apart_14 rfl (lv_at hl 3 rfl) ?_
      refine kr_callSi (av := [.int x3]) ⟨hx, hb, hml, hown, hts⟩ (mK_isZeroOrOne l D _ (wdK q k cI cJ) [(cI, .int), (cJ, .long)] cl0 _ σ x3 _ rfl) (cwS 1 hts (kgood_S TK_good (by decide +kernel)) rfl rfl rfl (by decide +kernel) ⟨Nat.le_of_ble_eq_true rfl, Nat.le_of_ble_eq_true rfl⟩) hK hP hD hS hA rfl hl.1 rfl (Nat.le_of_ble_eq_true rfl) dK_apart_15 ⟨Nat.le_of_ble_eq_true rfl, Nat.le_of_ble_eq_true rfl⟩ (fun H locs hP hD hS => ?_)
      refine lv_if_ne (tgt := 25) hx hb dK_apart_18 (by decide) (fun c18 => ?_) (fun c18 => ?_)
      · have hf := (if_neg c18).symm.trans hf
        refine lv_aload_n hx hb dK_apart_25 rfl (lv_at hl 0 rfl) ?_
        refine gK_rowSize hx hb hown hts hK hP dK_apart_26 ?_
        refine lv_iload_n hx hb dK_apart_29 rfl (lv_at hl 1 rfl) ?_
        obtain ⟨v30, ev30, hf⟩ := kb1 hf
        refine kr_iaload hx hb hK hP 2 0 rfl rfl ev30 dK_apart_30 ?_
        refine lv_istore (lv' := [(4, .int v30), (0, .ref (q 0)), (1, .int x1), (2, .int x2), (3, .int x3)]) hx hb dK_apart_31 hl (by decide) rfl (fun ls hl => ?_)
        refine lv_aload_n hx hb dK_apart_33 rfl (lv_at hl 1 rfl) ?_
        refine gK_rowSize hx hb hown hts hK hP dK_apart_34 ?_
        refine lv_iload_n hx hb dK_apart_37 rfl (lv_at hl 3 rfl) ?_
        obtain ⟨v38, ev38, hf⟩ := kb1 hf
        refine kr_iaload hx hb hK hP 2 0 rfl rfl ev38 dK_apart_38 ?_
        refine lv_istore (lv' := [(5, .int v38), (4, .int v30), (0, .ref (q 0)), (1, .int x1), (2, .int x2), (3, .int x3)]) hx hb dK_apart_39 hl (by decide) rfl (fun ls hl => ?_)
        refine lv_iload hx hb dK_apart_41 (lv_at hl 1 rfl) ?_
        refine lv_if_eq (tgt := 51) hx hb dK_apart_43 (by decide) (fun c43 => ?_) (fun c43 => ?_)
        · have hf := (if_pos c43).symm.trans hf
          refine lv_ldc2 (v := -1) hx hb hown (hts (.constantLong RK 103 (-1)) (by decide +kernel)) dK_apart_51 ?_
          exact kr_lret C0 hK hP hD hS (Option.some.inj hf) rfl dK_apart_54
        · have hf := (if_neg c43).symm.trans hf
          refine lv_iload hx hb dK_apart_46 (lv_at hl 0 rfl) ?_
          refine lv_if_ne (tgt := 55) hx hb dK_apart_48 (by decide) (fun c48 => ?_) (fun c48 => ?_)
          · have hf := (if_neg c48).symm.trans hf
            refine lv_iconst (v := 0) hx hb dK_apart_55 (by decide) ?_
            refine lv_istore (lv' := [(6, .int 0), (5, .int v38), (4, .int v30), (0, .ref (q 0)), (1, .int x1), (2, .int x2), (3, .int x3)]) hx hb dK_apart_56 hl (by decide) rfl (fun ls hl => ?_)
            refine lv_iconst (v := 0) hx hb dK_apart_58 (by decide) ?_
            refine lv_istore (lv' := [(7, .int 0), (6, .int 0), (5, .int v38), (4, .int v30), (0, .ref (q 0)), (1, .int x1), (2, .int x2), (3, .int x3)]) hx hb dK_apart_59 hl (by decide) rfl (fun ls hl => ?_)
            exact tK_apart_61 C0 hK hA fu x1 x2 x3 v30 v38 0 0 _ _ ls hf (lv_sub hl [4, 5, 6, 7, 3, 2, 1, 0] rfl) hP hD hS
          · have hf := (if_pos c48).symm.trans hf
            refine lv_ldc2 (v := -1) hx hb hown (hts (.constantLong RK 103 (-1)) (by decide +kernel)) dK_apart_51 ?_
            exact kr_lret C0 hK hP hD hS (Option.some.inj hf) rfl dK_apart_54
      · have hf := (if_pos c18).symm.trans hf
        refine lv_ldc2 (v := -1) hx hb hown (hts (.constantLong RK 103 (-1)) (by decide +kernel)) dK_apart_21 ?_
        exact kr_lret C0 hK hP hD hS (Option.some.inj hf) rfl dK_apart_24
