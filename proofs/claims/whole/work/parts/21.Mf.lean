theorem dM_lay_0 : decode cM_lay 0 = .ok (.iconst 0, 1) := by decide +kernel
theorem dM_lay_1 : decode cM_lay 1 = .ok (.istore_n 3, 1) := by decide +kernel
theorem dM_lay_2 : decode cM_lay 2 = .ok (.iload_n 3, 1) := by decide +kernel
theorem dM_lay_3 : decode cM_lay 3 = .ok (.aload_n 0, 1) := by decide +kernel
theorem dM_lay_4 : decode cM_lay 4 = .ok (.getfield 42, 3) := by decide +kernel
theorem dM_lay_7 : decode cM_lay 7 = .ok (.if_icmp .ge (76), 3) := by decide +kernel
theorem dM_lay_10 : decode cM_lay 10 = .ok (.iconst 0, 1) := by decide +kernel
theorem dM_lay_11 : decode cM_lay 11 = .ok (.istore 4, 2) := by decide +kernel
theorem dM_lay_13 : decode cM_lay 13 = .ok (.iload 4, 2) := by decide +kernel
theorem dM_lay_15 : decode cM_lay 15 = .ok (.aload_n 0, 1) := by decide +kernel
theorem dM_lay_16 : decode cM_lay 16 = .ok (.getfield 42, 3) := by decide +kernel
theorem dM_lay_19 : decode cM_lay 19 = .ok (.if_icmp .ge (58), 3) := by decide +kernel
theorem dM_lay_22 : decode cM_lay 22 = .ok (.aload_n 0, 1) := by decide +kernel
theorem dM_lay_23 : decode cM_lay 23 = .ok (.getfield 36, 3) := by decide +kernel
theorem dM_lay_26 : decode cM_lay 26 = .ok (.bipush (6), 2) := by decide +kernel
theorem dM_lay_28 : decode cM_lay 28 = .ok (.iload_n 3, 1) := by decide +kernel
theorem dM_lay_29 : decode cM_lay 29 = .ok (.imul, 1) := by decide +kernel
theorem dM_lay_30 : decode cM_lay 30 = .ok (.iload 4, 2) := by decide +kernel
theorem dM_lay_32 : decode cM_lay 32 = .ok (.iadd, 1) := by decide +kernel
theorem dM_lay_33 : decode cM_lay 33 = .ok (.iload 4, 2) := by decide +kernel
theorem dM_lay_35 : decode cM_lay 35 = .ok (.iload_n 2, 1) := by decide +kernel
theorem dM_lay_36 : decode cM_lay 36 = .ok (.if_icmp .ne (21), 3) := by decide +kernel
theorem dM_lay_39 : decode cM_lay 39 = .ok (.ldc2_w 104, 3) := by decide +kernel
theorem dM_lay_42 : decode cM_lay 42 = .ok (.aload_n 0, 1) := by decide +kernel
theorem dM_lay_43 : decode cM_lay 43 = .ok (.iload_n 1, 1) := by decide +kernel
theorem dM_lay_44 : decode cM_lay 44 = .ok (.aload_n 0, 1) := by decide +kernel
theorem dM_lay_45 : decode cM_lay 45 = .ok (.getfield 13, 3) := by decide +kernel
theorem dM_lay_48 : decode cM_lay 48 = .ok (.iload_n 3, 1) := by decide +kernel
theorem dM_lay_49 : decode cM_lay 49 = .ok (.invokevirtual 61, 3) := by decide +kernel
theorem dM_lay_52 : decode cM_lay 52 = .ok (.i2l, 1) := by decide +kernel
theorem dM_lay_53 : decode cM_lay 53 = .ok (.lmul, 1) := by decide +kernel
theorem dM_lay_54 : decode cM_lay 54 = .ok (.goto (16), 3) := by decide +kernel
theorem dM_lay_57 : decode cM_lay 57 = .ok (.aload_n 0, 1) := by decide +kernel
theorem dM_lay_58 : decode cM_lay 58 = .ok (.getfield 27, 3) := by decide +kernel
theorem dM_lay_61 : decode cM_lay 61 = .ok (.bipush (6), 2) := by decide +kernel
theorem dM_lay_63 : decode cM_lay 63 = .ok (.iload 4, 2) := by decide +kernel
theorem dM_lay_65 : decode cM_lay 65 = .ok (.imul, 1) := by decide +kernel
theorem dM_lay_66 : decode cM_lay 66 = .ok (.iload_n 3, 1) := by decide +kernel
theorem dM_lay_67 : decode cM_lay 67 = .ok (.iadd, 1) := by decide +kernel
theorem dM_lay_68 : decode cM_lay 68 = .ok (.iaload, 1) := by decide +kernel
theorem dM_lay_69 : decode cM_lay 69 = .ok (.i2l, 1) := by decide +kernel
theorem dM_lay_70 : decode cM_lay 70 = .ok (.lastore, 1) := by decide +kernel
theorem dM_lay_71 : decode cM_lay 71 = .ok (.iinc 4 (1), 3) := by decide +kernel
theorem dM_lay_74 : decode cM_lay 74 = .ok (.goto (-61), 3) := by decide +kernel
theorem dM_lay_77 : decode cM_lay 77 = .ok (.iinc 3 (1), 3) := by decide +kernel
theorem dM_lay_80 : decode cM_lay 80 = .ok (.goto (-78), 3) := by decide +kernel
theorem dM_lay_83 : decode cM_lay 83 = .ok (.return_, 1) := by decide +kernel
set_option maxHeartbeats 400000 in
set_option maxRecDepth 100000 in
theorem tM_lay_70 {p : Program} {l : Launch} {e : Env} {s : State} {m : MethodId} {args : Array Value} {below : List Frame} {meth : Method} {c : Code} {D : va_G} {A : Nat → Prop} {q : Nat → Nat} {k : kM} {cI cJ : ClassId} {σ' : sM} {fu : Nat} {h2 : sM → Int32 → Int32 → Int32 → Option sM} {h13 : sM → Int32 → Int32 → Int32 → Int32 → Option sM} (C0 : Cx p s m args meth c cM_lay 5 none RM TM) (hK : va_K D cl0 [(cI, .int), (cJ, .long)] s) (hA : ∀ z, s.heap.size ≤ z → A z) (ih2 : ∀ (σ : sM) (x1 : Int32) (x2 : Int32) (x3 : Int32)(H : Heap) (locs : List Loc) (ls : Array Slot), h2 σ x1 x2 x3 = some σ' → lv_has ls 5 [(0, .ref (q 0)), (1, .int x1), (2, .int x2), (3, .int x3)] → va_P D cl0 (wdM q k cI cJ σ) H → va_D A (wdM q k cI cJ σ) → va_S A s.heap H locs → W p l e ({ frames := 3, cells := 0, slots := 0, locals := 73 }) s m args below meth c H locs 0 0 (MQ below (kQv D cl0 [(cI, .int), (cJ, .long)] (wdM q k cI cJ) A σ') args s 0 0 A) (F0 m 2 ls [])) (ih13 : ∀ (σ : sM) (x1 : Int32) (x2 : Int32) (x3 : Int32) (x4 : Int32)(H : Heap) (locs : List Loc) (ls : Array Slot), h13 σ x1 x2 x3 x4 = some σ' → lv_has ls 5 [(0, .ref (q 0)), (1, .int x1), (2, .int x2), (3, .int x3), (4, .int x4)] → va_P D cl0 (wdM q k cI cJ σ) H → va_D A (wdM q k cI cJ σ) → va_S A s.heap H locs → W p l e ({ frames := 3, cells := 0, slots := 0, locals := 73 }) s m args below meth c H locs 0 0 (MQ below (kQv D cl0 [(cI, .int), (cJ, .long)] (wdM q k cI cJ) A σ') args s 0 0 A) (F0 m 13 ls [])) : ∀ (σ : sM) (y1 : Int32) (y2 : Int64) (x1 : Int32) (x2 : Int32) (x3 : Int32) (x4 : Int32)(H : Heap) (locs : List Loc) (ls : Array Slot), fM_lay_70 fu k h2 h13 σ y1 y2 x1 x2 x3 x4 = some σ' → lv_has ls 5 [(0, .ref (q 0)), (1, .int x1), (2, .int x2), (3, .int x3), (4, .int x4)] → va_P D cl0 (wdM q k cI cJ σ) H → va_D A (wdM q k cI cJ σ) → va_S A s.heap H locs → W p l e ({ frames := 3, cells := 0, slots := 0, locals := 73 }) s m args below meth c H locs 0 0 (MQ below (kQv D cl0 [(cI, .int), (cJ, .long)] (wdM q k cI cJ) A σ') args s 0 0 A) (F0 m 70 ls [.long y2, .int y1, .ref (q 8)]) := by
  obtain ⟨hx, hb, hr, hml, hown, hts, hlocks⟩ := id C0
  intro σ y1 y2 x1 x2 x3 x4 H locs ls hf hl hP hD hS
  unfold fM_lay_70 at hf
  obtain ⟨a70, ea70, hf⟩ := kb1 hf
  refine kr_lastore (σ' := (uM_cells σ a70)) hx hb hK hP hD hS 8 1 rfl rfl ea70 (wM_cells q k cI cJ _ _) dM_lay_70 (fun H locs hP hD hS => ?_)
  generalize (uM_cells σ a70) = s70 at hf hP hD
  refine lv_iinc (v := (x4 + 1)) (lv' := [(4, .int (x4 + 1)), (0, .ref (q 0)), (1, .int x1), (2, .int x2), (3, .int x3)]) hx hb dM_lay_71 hl (k := 4) rfl rfl (by decide) rfl (fun ls hl => ?_)
  refine lv_goto (tgt := 13) hx hb dM_lay_74 (by decide) ?_
  exact ih13 s70 x1 x2 x3 (x4 + 1) _ _ ls hf (lv_sub hl [1, 2, 3, 4, 0] rfl) hP hD hS
set_option maxHeartbeats 400000 in
set_option maxRecDepth 100000 in
theorem tM_lay_13 {p : Program} {l : Launch} {e : Env} {s : State} {m : MethodId} {args : Array Value} {below : List Frame} {meth : Method} {c : Code} {D : va_G} {A : Nat → Prop} {q : Nat → Nat} {k : kM} {cI cJ : ClassId} {σ' : sM} {fu : Nat} {h2 : sM → Int32 → Int32 → Int32 → Option sM} (C0 : Cx p s m args meth c cM_lay 5 none RM TM) (hK : va_K D cl0 [(cI, .int), (cJ, .long)] s) (hA : ∀ z, s.heap.size ≤ z → A z) (ih2 : ∀ (σ : sM) (x1 : Int32) (x2 : Int32) (x3 : Int32)(H : Heap) (locs : List Loc) (ls : Array Slot), h2 σ x1 x2 x3 = some σ' → lv_has ls 5 [(0, .ref (q 0)), (1, .int x1), (2, .int x2), (3, .int x3)] → va_P D cl0 (wdM q k cI cJ σ) H → va_D A (wdM q k cI cJ σ) → va_S A s.heap H locs → W p l e ({ frames := 3, cells := 0, slots := 0, locals := 73 }) s m args below meth c H locs 0 0 (MQ below (kQv D cl0 [(cI, .int), (cJ, .long)] (wdM q k cI cJ) A σ') args s 0 0 A) (F0 m 2 ls [])) : ∀ n : Nat, ∀ (σ : sM) (x1 : Int32) (x2 : Int32) (x3 : Int32) (x4 : Int32)(H : Heap) (locs : List Loc) (ls : Array Slot), fM_lay_13 fu k h2 n σ x1 x2 x3 x4 = some σ' → lv_has ls 5 [(0, .ref (q 0)), (1, .int x1), (2, .int x2), (3, .int x3), (4, .int x4)] → va_P D cl0 (wdM q k cI cJ σ) H → va_D A (wdM q k cI cJ σ) → va_S A s.heap H locs → W p l e ({ frames := 3, cells := 0, slots := 0, locals := 73 }) s m args below meth c H locs 0 0 (MQ below (kQv D cl0 [(cI, .int), (cJ, .long)] (wdM q k cI cJ) A σ') args s 0 0 A) (F0 m 13 ls []) := by
  obtain ⟨hx, hb, hr, hml, hown, hts, hlocks⟩ := id C0
  intro n
  induction n with
  | zero =>
    intro σ x1 x2 x3 x4 H locs ls hf hl hP hD hS
    cases hf
  | succ n ih =>
    intro σ x1 x2 x3 x4 H locs ls hf hl hP hD hS
    rw [fM_lay_13] at hf
    refine lv_iload hx hb dM_lay_13 (lv_at hl 4 rfl) ?_
    refine lv_aload_n hx hb dM_lay_15 rfl (lv_at hl 0 rfl) ?_
    refine gM_ages hx hb hown hts hK hP dM_lay_16 ?_
    refine lv_icmp_ge (tgt := 77) hx hb dM_lay_19 (by decide) (fun c19 => ?_) (fun c19 => ?_)
    · have hf := (if_pos c19).symm.trans hf
      refine lv_iinc (v := (x3 + 1)) (lv' := [(3, .int (x3 + 1)), (0, .ref (q 0)), (1, .int x1), (2, .int x2), (4, .int x4)]) hx hb dM_lay_77 hl (k := 3) rfl rfl (by decide) rfl (fun ls hl => ?_)
      refine lv_goto (tgt := 2) hx hb dM_lay_80 (by decide) ?_
      exact ih2 σ x1 x2 (x3 + 1) _ _ ls hf (lv_sub hl [1, 2, 3, 0] rfl) hP hD hS
    · have hf := (if_neg c19).symm.trans hf
      refine lv_aload_n hx hb dM_lay_22 rfl (lv_at hl 0 rfl) ?_
      refine gM_cells hx hb hown hts hK hP dM_lay_23 ?_
      refine lv_bipush (v := 6) hx hb dM_lay_26 (by decide) ?_
      refine lv_iload_n hx hb dM_lay_28 rfl (lv_at hl 3 rfl) ?_
      refine lv_imul hx hb dM_lay_29 ?_
      refine lv_iload hx hb dM_lay_30 (lv_at hl 4 rfl) ?_
      refine lv_iadd hx hb dM_lay_32 ?_
      refine lv_iload hx hb dM_lay_33 (lv_at hl 4 rfl) ?_
      refine lv_iload_n hx hb dM_lay_35 rfl (lv_at hl 2 rfl) ?_
      refine lv_icmp_ne (tgt := 57) hx hb dM_lay_36 (by decide) (fun c36 => ?_) (fun c36 => ?_)
      · have hf := (if_neg c36).symm.trans hf
        refine lv_aload_n hx hb dM_lay_57 rfl (lv_at hl 0 rfl) ?_
        refine gM_errors hx hb hown hts hK hP dM_lay_58 ?_
        refine lv_bipush (v := 6) hx hb dM_lay_61 (by decide) ?_
        refine lv_iload hx hb dM_lay_63 (lv_at hl 4 rfl) ?_
        refine lv_imul hx hb dM_lay_65 ?_
        refine lv_iload_n hx hb dM_lay_66 rfl (lv_at hl 3 rfl) ?_
        refine lv_iadd hx hb dM_lay_67 ?_
        obtain ⟨v68, ev68, hf⟩ := kb1 hf
        refine kr_iaload hx hb hK hP 5 0 rfl rfl ev68 dM_lay_68 ?_
        refine lv_i2l (v := v68.toInt64) hx hb dM_lay_69 rfl ?_
        exact tM_lay_70 C0 hK hA ih2 ih σ ((6 * x3) + x4) v68.toInt64 x1 x2 x3 x4 _ _ ls hf (lv_sub hl [0, 1, 2, 3, 4] rfl) hP hD hS
      · have hf := (if_pos c36).symm.trans hf
        refine lv_ldc2 (v := 20) hx hb hown (hts (.constantLong RM 104 (20)) (by decide +kernel)) dM_lay_39 ?_
        refine lv_aload_n hx hb dM_lay_42 rfl (lv_at hl 0 rfl) ?_
        refine lv_iload_n hx hb dM_lay_43 rfl (lv_at hl 1 rfl) ?_
        refine lv_aload_n hx hb dM_lay_44 rfl (lv_at hl 0 rfl) ?_
        refine gM_chosen hx hb hown hts hK hP dM_lay_45 ?_
        refine lv_iload_n hx hb dM_lay_48 rfl (lv_at hl 3 rfl) ?_
        obtain ⟨v49, ev49, hf⟩ := kb1 hf
        refine kr_callVi (av := [.int x1, .int (sM_chosen σ), .int x3]) ⟨hx, hb, hml, hown, hts⟩ (mM_inGroup l D q k cI cJ _ fu σ x1 (sM_chosen σ) x3 v49 ev49) (cwV 3 hts (kgood_V TM_good (by decide +kernel)) rfl rfl rfl (by decide +kernel) ⟨Nat.le_of_ble_eq_true rfl, Nat.le_of_ble_eq_true rfl⟩) hK hP hD hS hA (ci := 1) (q0 := 0) rfl rfl rfl hl.1 rfl (Nat.le_of_ble_eq_true rfl) dM_lay_49 ⟨Nat.le_of_ble_eq_true rfl, Nat.le_of_ble_eq_true rfl⟩ (fun H locs hP hD hS => ?_)
        refine lv_i2l (v := v49.toInt64) hx hb dM_lay_52 rfl ?_
        refine lv_lmul hx hb dM_lay_53 ?_
        refine lv_goto (tgt := 70) hx hb dM_lay_54 (by decide) ?_
        exact tM_lay_70 C0 hK hA ih2 ih σ ((6 * x3) + x4) ((20 : Int64) * v49.toInt64) x1 x2 x3 x4 _ _ ls hf (lv_sub hl [0, 1, 2, 3, 4] rfl) hP hD hS
set_option maxHeartbeats 400000 in
set_option maxRecDepth 100000 in
theorem tM_lay_2 {p : Program} {l : Launch} {e : Env} {s : State} {m : MethodId} {args : Array Value} {below : List Frame} {meth : Method} {c : Code} {D : va_G} {A : Nat → Prop} {q : Nat → Nat} {k : kM} {cI cJ : ClassId} {σ' : sM} {fu : Nat} (C0 : Cx p s m args meth c cM_lay 5 none RM TM) (hK : va_K D cl0 [(cI, .int), (cJ, .long)] s) (hA : ∀ z, s.heap.size ≤ z → A z) : ∀ n : Nat, ∀ (σ : sM) (x1 : Int32) (x2 : Int32) (x3 : Int32)(H : Heap) (locs : List Loc) (ls : Array Slot), fM_lay_2 fu k n σ x1 x2 x3 = some σ' → lv_has ls 5 [(0, .ref (q 0)), (1, .int x1), (2, .int x2), (3, .int x3)] → va_P D cl0 (wdM q k cI cJ σ) H → va_D A (wdM q k cI cJ σ) → va_S A s.heap H locs → W p l e ({ frames := 3, cells := 0, slots := 0, locals := 73 }) s m args below meth c H locs 0 0 (MQ below (kQv D cl0 [(cI, .int), (cJ, .long)] (wdM q k cI cJ) A σ') args s 0 0 A) (F0 m 2 ls []) := by
  obtain ⟨hx, hb, hr, hml, hown, hts, hlocks⟩ := id C0
  intro n
  induction n with
  | zero =>
    intro σ x1 x2 x3 H locs ls hf hl hP hD hS
    cases hf
  | succ n ih =>
    intro σ x1 x2 x3 H locs ls hf hl hP hD hS
    rw [fM_lay_2] at hf
    refine lv_iload_n hx hb dM_lay_2 rfl (lv_at hl 3 rfl) ?_
    refine lv_aload_n hx hb dM_lay_3 rfl (lv_at hl 0 rfl) ?_
    refine gM_ages hx hb hown hts hK hP dM_lay_4 ?_
    refine lv_icmp_ge (tgt := 83) hx hb dM_lay_7 (by decide) (fun c7 => ?_) (fun c7 => ?_)
    · have hf := (if_pos c7).symm.trans hf
      exact kr_vret C0 hK hP hD hS (Option.some.inj hf) dM_lay_83
    · have hf := (if_neg c7).symm.trans hf
      refine lv_iconst (v := 0) hx hb dM_lay_10 (by decide) ?_
      refine lv_istore (lv' := [(4, .int 0), (0, .ref (q 0)), (1, .int x1), (2, .int x2), (3, .int x3)]) hx hb dM_lay_11 hl (by decide) rfl (fun ls hl => ?_)
      exact tM_lay_13 C0 hK hA ih fu σ x1 x2 x3 0 _ _ ls hf (lv_sub hl [1, 2, 3, 4, 0] rfl) hP hD hS
set_option maxHeartbeats 400000 in
set_option maxRecDepth 100000 in
theorem mM_lay (l : Launch) (D : va_G) (q : Nat → Nat) (k : kM) (cI cJ : ClassId) (sz : Nat) (fu : Nat) (σ : sM) (σ' : sM) (x1 : Int32) (x2 : Int32) (hf : fM_lay fu k σ x1 x2 = some σ') : Met l yM_lay (.code yM_lay cM_lay 5 none :: TM) ({ frames := 3, cells := 0, slots := 0, locals := 73 }) (kPre D cl0 [(cI, .int), (cJ, .long)] (wdM q k cI cJ) sz σ [.ref (q 0), .int x1, .int x2]) (kQv D cl0 [(cI, .int), (cJ, .long)] (wdM q k cI cJ) (va_A (wdM q k cI cJ σ) sz) σ') 0 0 (va_A (wdM q k cI cJ σ) sz) := by
  refine kr_start (own := RM) (by decide) rfl (Nat.le_of_ble_eq_true rfl) ?_
  intro p e s m args below meth c ls C0 hsz hK hP hD hl
  subst hsz
  obtain ⟨hx, hb, hr, hml, hown, hts, hlocks⟩ := id C0
  have hA : ∀ z : Nat, s.heap.size ≤ z → va_A (wdM q k cI cJ σ) s.heap.size z := fun z h => Or.inr h
  generalize va_A (wdM q k cI cJ σ) s.heap.size = A at hD hA ⊢
  have hS : va_S A s.heap s.heap [] := va_S.rf
  have hl : lv_has ls 5 [(0, .ref (q 0)), (1, .int x1), (2, .int x2)] := hl
  unfold fM_lay at hf
  refine lv_iconst (v := 0) hx hb dM_lay_0 (by decide) ?_
  refine lv_istore_n (lv' := [(3, .int 0), (0, .ref (q 0)), (1, .int x1), (2, .int x2)]) hx hb dM_lay_1 rfl hl (by decide) rfl (fun ls hl => ?_)
  exact tM_lay_2 C0 hK hA fu σ x1 x2 0 _ _ ls hf (lv_sub hl [1, 2, 3, 0] rfl) hP hD hS
theorem dM_undo_0 : decode cM_undo 0 = .ok (.iconst 0, 1) := by decide +kernel
theorem dM_undo_1 : decode cM_undo 1 = .ok (.istore_n 1, 1) := by decide +kernel
theorem dM_undo_2 : decode cM_undo 2 = .ok (.iload_n 1, 1) := by decide +kernel
theorem dM_undo_3 : decode cM_undo 3 = .ok (.aload_n 0, 1) := by decide +kernel
theorem dM_undo_4 : decode cM_undo 4 = .ok (.getfield 42, 3) := by decide +kernel
theorem dM_undo_7 : decode cM_undo 7 = .ok (.if_icmp .ge (49), 3) := by decide +kernel
theorem dM_undo_10 : decode cM_undo 10 = .ok (.iconst 0, 1) := by decide +kernel
theorem dM_undo_11 : decode cM_undo 11 = .ok (.istore_n 2, 1) := by decide +kernel
theorem dM_undo_12 : decode cM_undo 12 = .ok (.iconst 0, 1) := by decide +kernel
theorem dM_undo_13 : decode cM_undo 13 = .ok (.istore_n 3, 1) := by decide +kernel
theorem dM_undo_14 : decode cM_undo 14 = .ok (.iload_n 3, 1) := by decide +kernel
theorem dM_undo_15 : decode cM_undo 15 = .ok (.aload_n 0, 1) := by decide +kernel
theorem dM_undo_16 : decode cM_undo 16 = .ok (.getfield 42, 3) := by decide +kernel
theorem dM_undo_19 : decode cM_undo 19 = .ok (.if_icmp .ge (23), 3) := by decide +kernel
theorem dM_undo_22 : decode cM_undo 22 = .ok (.iload_n 2, 1) := by decide +kernel
theorem dM_undo_23 : decode cM_undo 23 = .ok (.aload_n 0, 1) := by decide +kernel
theorem dM_undo_24 : decode cM_undo 24 = .ok (.getfield 27, 3) := by decide +kernel
theorem dM_undo_27 : decode cM_undo 27 = .ok (.bipush (6), 2) := by decide +kernel
theorem dM_undo_29 : decode cM_undo 29 = .ok (.iload_n 1, 1) := by decide +kernel
theorem dM_undo_30 : decode cM_undo 30 = .ok (.imul, 1) := by decide +kernel
theorem dM_undo_31 : decode cM_undo 31 = .ok (.iload_n 3, 1) := by decide +kernel
theorem dM_undo_32 : decode cM_undo 32 = .ok (.iadd, 1) := by decide +kernel
theorem dM_undo_33 : decode cM_undo 33 = .ok (.iaload, 1) := by decide +kernel
theorem dM_undo_34 : decode cM_undo 34 = .ok (.iadd, 1) := by decide +kernel
theorem dM_undo_35 : decode cM_undo 35 = .ok (.istore_n 2, 1) := by decide +kernel
theorem dM_undo_36 : decode cM_undo 36 = .ok (.iinc 3 (1), 3) := by decide +kernel
theorem dM_undo_39 : decode cM_undo 39 = .ok (.goto (-25), 3) := by decide +kernel
theorem dM_undo_42 : decode cM_undo 42 = .ok (.iload_n 2, 1) := by decide +kernel
theorem dM_undo_43 : decode cM_undo 43 = .ok (.bipush (20), 2) := by decide +kernel
theorem dM_undo_45 : decode cM_undo 45 = .ok (.if_icmp .eq (5), 3) := by decide +kernel
theorem dM_undo_48 : decode cM_undo 48 = .ok (.iconst 2, 1) := by decide +kernel
theorem dM_undo_49 : decode cM_undo 49 = .ok (.ireturn, 1) := by decide +kernel
theorem dM_undo_50 : decode cM_undo 50 = .ok (.iinc 1 (1), 3) := by decide +kernel
theorem dM_undo_53 : decode cM_undo 53 = .ok (.goto (-51), 3) := by decide +kernel
theorem dM_undo_56 : decode cM_undo 56 = .ok (.aload_n 0, 1) := by decide +kernel
theorem dM_undo_57 : decode cM_undo 57 = .ok (.iconst 0, 1) := by decide +kernel
theorem dM_undo_58 : decode cM_undo 58 = .ok (.iconst (-1), 1) := by decide +kernel
theorem dM_undo_59 : decode cM_undo 59 = .ok (.invokevirtual 106, 3) := by decide +kernel
theorem dM_undo_62 : decode cM_undo 62 = .ok (.aload_n 0, 1) := by decide +kernel
theorem dM_undo_63 : decode cM_undo 63 = .ok (.invokevirtual 110, 3) := by decide +kernel
theorem dM_undo_66 : decode cM_undo 66 = .ok (.lconst 0, 1) := by decide +kernel
theorem dM_undo_67 : decode cM_undo 67 = .ok (.lcmp, 1) := by decide +kernel
theorem dM_undo_68 : decode cM_undo 68 = .ok (.ifCond .ne (7), 3) := by decide +kernel
theorem dM_undo_71 : decode cM_undo 71 = .ok (.iconst 1, 1) := by decide +kernel
theorem dM_undo_72 : decode cM_undo 72 = .ok (.goto (4), 3) := by decide +kernel
theorem dM_undo_75 : decode cM_undo 75 = .ok (.iconst 0, 1) := by decide +kernel
theorem dM_undo_76 : decode cM_undo 76 = .ok (.ireturn, 1) := by decide +kernel
set_option maxHeartbeats 400000 in
set_option maxRecDepth 100000 in
theorem tM_undo_14 {p : Program} {l : Launch} {e : Env} {s : State} {m : MethodId} {args : Array Value} {below : List Frame} {meth : Method} {c : Code} {D : va_G} {A : Nat → Prop} {q : Nat → Nat} {k : kM} {cI cJ : ClassId} {r : Int32} {σ' : sM} {fu : Nat} {h2 : sM → Int32 → Option (Int32 × sM)} (C0 : Cx p s m args meth c cM_undo 4 (some .int) RM TM) (hK : va_K D cl0 [(cI, .int), (cJ, .long)] s) (hA : ∀ z, s.heap.size ≤ z → A z) (ih2 : ∀ (σ : sM) (x1 : Int32)(H : Heap) (locs : List Loc) (ls : Array Slot), h2 σ x1 = some (r, σ') → lv_has ls 4 [(0, .ref (q 0)), (1, .int x1)] → va_P D cl0 (wdM q k cI cJ σ) H → va_D A (wdM q k cI cJ σ) → va_S A s.heap H locs → W p l e ({ frames := 4, cells := 0, slots := 0, locals := 97 }) s m args below meth c H locs 0 0 (MQ below (kQi D cl0 [(cI, .int), (cJ, .long)] (wdM q k cI cJ) A r σ') args s 0 0 A) (F0 m 2 ls [])) : ∀ n : Nat, ∀ (σ : sM) (x1 : Int32) (x2 : Int32) (x3 : Int32)(H : Heap) (locs : List Loc) (ls : Array Slot), fM_undo_14 fu k h2 n σ x1 x2 x3 = some (r, σ') → lv_has ls 4 [(0, .ref (q 0)), (1, .int x1), (2, .int x2), (3, .int x3)] → va_P D cl0 (wdM q k cI cJ σ) H → va_D A (wdM q k cI cJ σ) → va_S A s.heap H locs → W p l e ({ frames := 4, cells := 0, slots := 0, locals := 97 }) s m args below meth c H locs 0 0 (MQ below (kQi D cl0 [(cI, .int), (cJ, .long)] (wdM q k cI cJ) A r σ') args s 0 0 A) (F0 m 14 ls []) := by
  obtain ⟨hx, hb, hr, hml, hown, hts, hlocks⟩ := id C0
  intro n
  induction n with
  | zero =>
    intro σ x1 x2 x3 H locs ls hf hl hP hD hS
    cases hf
  | succ n ih =>
    intro σ x1 x2 x3 H locs ls hf hl hP hD hS
    rw [fM_undo_14] at hf
    refine lv_iload_n hx hb dM_undo_14 rfl (lv_at hl 3 rfl) ?_
    refine lv_aload_n hx hb dM_undo_15 rfl (lv_at hl 0 rfl) ?_
    refine gM_ages hx hb hown hts hK hP dM_undo_16 ?_
    refine lv_icmp_ge (tgt := 42) hx hb dM_undo_19 (by decide) (fun c19 => ?_) (fun c19 => ?_)
    · have hf := (if_pos c19).symm.trans hf
      refine lv_iload_n hx hb dM_undo_42 rfl (lv_at hl 2 rfl) ?_
      refine lv_bipush (v := 20) hx hb dM_undo_43 (by decide) ?_
      refine lv_icmp_eq (tgt := 50) hx hb dM_undo_45 (by decide) (fun c45 => ?_) (fun c45 => ?_)
      · have hf := (if_pos c45).symm.trans hf
        refine lv_iinc (v := (x1 + 1)) (lv' := [(1, .int (x1 + 1)), (0, .ref (q 0)), (2, .int x2), (3, .int x3)]) hx hb dM_undo_50 hl (k := 1) rfl rfl (by decide) rfl (fun ls hl => ?_)
        refine lv_goto (tgt := 2) hx hb dM_undo_53 (by decide) ?_
        exact ih2 σ (x1 + 1) _ _ ls hf (lv_sub hl [1, 0] rfl) hP hD hS
      · have hf := (if_neg c45).symm.trans hf
        refine lv_iconst (v := 2) hx hb dM_undo_48 (by decide) ?_
        exact kr_iret C0 hK hP hD hS (congrArg Prod.fst (Option.some.inj hf)) (congrArg Prod.snd (Option.some.inj hf)) dM_undo_49
    · have hf := (if_neg c19).symm.trans hf
      refine lv_iload_n hx hb dM_undo_22 rfl (lv_at hl 2 rfl) ?_
      refine lv_aload_n hx hb dM_undo_23 rfl (lv_at hl 0 rfl) ?_
      refine gM_errors hx hb hown hts hK hP dM_undo_24 ?_
      refine lv_bipush (v := 6) hx hb dM_undo_27 (by decide) ?_
      refine lv_iload_n hx hb dM_undo_29 rfl (lv_at hl 1 rfl) ?_
      refine lv_imul hx hb dM_undo_30 ?_
      refine lv_iload_n hx hb dM_undo_31 rfl (lv_at hl 3 rfl) ?_
      refine lv_iadd hx hb dM_undo_32 ?_
      obtain ⟨v33, ev33, hf⟩ := kb1 hf
      refine kr_iaload hx hb hK hP 5 0 rfl rfl ev33 dM_undo_33 ?_
      refine lv_iadd hx hb dM_undo_34 ?_
      refine lv_istore_n (lv' := [(2, .int (x2 + v33)), (0, .ref (q 0)), (1, .int x1), (3, .int x3)]) hx hb dM_undo_35 rfl hl (by decide) rfl (fun ls hl => ?_)
      refine lv_iinc (v := (x3 + 1)) (lv' := [(3, .int (x3 + 1)), (2, .int (x2 + v33)), (0, .ref (q 0)), (1, .int x1)]) hx hb dM_undo_36 hl (k := 3) rfl rfl (by decide) rfl (fun ls hl => ?_)
      refine lv_goto (tgt := 14) hx hb dM_undo_39 (by decide) ?_
      exact ih σ x1 (x2 + v33) (x3 + 1) _ _ ls hf (lv_sub hl [2, 3, 1, 0] rfl) hP hD hS
set_option maxHeartbeats 400000 in
set_option maxRecDepth 100000 in
theorem tM_undo_2 {p : Program} {l : Launch} {e : Env} {s : State} {m : MethodId} {args : Array Value} {below : List Frame} {meth : Method} {c : Code} {D : va_G} {A : Nat → Prop} {q : Nat → Nat} {k : kM} {cI cJ : ClassId} {r : Int32} {σ' : sM} {fu : Nat} (C0 : Cx p s m args meth c cM_undo 4 (some .int) RM TM) (hK : va_K D cl0 [(cI, .int), (cJ, .long)] s) (hA : ∀ z, s.heap.size ≤ z → A z) : ∀ n : Nat, ∀ (σ : sM) (x1 : Int32)(H : Heap) (locs : List Loc) (ls : Array Slot), fM_undo_2 fu k n σ x1 = some (r, σ') → lv_has ls 4 [(0, .ref (q 0)), (1, .int x1)] → va_P D cl0 (wdM q k cI cJ σ) H → va_D A (wdM q k cI cJ σ) → va_S A s.heap H locs → W p l e ({ frames := 4, cells := 0, slots := 0, locals := 97 }) s m args below meth c H locs 0 0 (MQ below (kQi D cl0 [(cI, .int), (cJ, .long)] (wdM q k cI cJ) A r σ') args s 0 0 A) (F0 m 2 ls []) := by
  obtain ⟨hx, hb, hr, hml, hown, hts, hlocks⟩ := id C0
  intro n
  induction n with
  | zero =>
    intro σ x1 H locs ls hf hl hP hD hS
    cases hf
  | succ n ih =>
    intro σ x1 H locs ls hf hl hP hD hS
    rw [fM_undo_2] at hf
    refine lv_iload_n hx hb dM_undo_2 rfl (lv_at hl 1 rfl) ?_
    refine lv_aload_n hx hb dM_undo_3 rfl (lv_at hl 0 rfl) ?_
    refine gM_ages hx hb hown hts hK hP dM_undo_4 ?_
    refine lv_icmp_ge (tgt := 56) hx hb dM_undo_7 (by decide) (fun c7 => ?_) (fun c7 => ?_)
    · have hf := (if_pos c7).symm.trans hf
      refine lv_aload_n hx hb dM_undo_56 rfl (lv_at hl 0 rfl) ?_
      refine lv_iconst (v := 0) hx hb dM_undo_57 (by decide) ?_
      refine lv_iconst (v := (-1)) hx hb dM_undo_58 (by decide) ?_
      obtain ⟨s59, es59, hf⟩ := kb1 hf
      refine kr_callVv (av := [.int 0, .int (-1)]) ⟨hx, hb, hml, hown, hts⟩ (mM_lay l D q k cI cJ _ fu σ s59 0 (-1) es59) (cwV 2 hts (kgood_V TM_good (by decide +kernel)) rfl rfl rfl (by decide +kernel) ⟨Nat.le_of_ble_eq_true rfl, Nat.le_of_ble_eq_true rfl⟩) hK hP hD hS hA (ci := 1) (q0 := 0) rfl rfl rfl hl.1 rfl (Nat.le_of_ble_eq_true rfl) dM_undo_59 ⟨Nat.le_of_ble_eq_true rfl, Nat.le_of_ble_eq_true rfl⟩ (fun H locs hP hD hS => ?_)
      refine lv_aload_n hx hb dM_undo_62 rfl (lv_at hl 0 rfl) ?_
      obtain ⟨v63, s63, es63, hf⟩ := kb2 hf
      refine kr_callVl (av := []) ⟨hx, hb, hml, hown, hts⟩ (mM_determinant l D q k cI cJ _ fu s59 s63 v63 es63) (cwV 0 hts (kgood_V TM_good (by decide +kernel)) rfl rfl rfl (by decide +kernel) ⟨Nat.le_of_ble_eq_true rfl, Nat.le_of_ble_eq_true rfl⟩) hK hP hD hS hA (ci := 1) (q0 := 0) rfl rfl rfl hl.1 rfl (Nat.le_of_ble_eq_true rfl) dM_undo_63 ⟨Nat.le_of_ble_eq_true rfl, Nat.le_of_ble_eq_true rfl⟩ (fun H locs hP hD hS => ?_)
      refine lv_lconst (v := 0) hx hb dM_undo_66 (by decide) ?_
      refine W.lcmp hx hb dM_undo_67 ?_
      refine lv_if_ne (tgt := 75) hx hb dM_undo_68 (by decide) (fun c67 => ?_) (fun c67 => ?_)
      · rw [lg_cmp_eq] at c67
        have hf := (if_neg c67).symm.trans hf
        refine lv_iconst (v := 0) hx hb dM_undo_75 (by decide) ?_
        exact kr_iret C0 hK hP hD hS (congrArg Prod.fst (Option.some.inj hf)) (congrArg Prod.snd (Option.some.inj hf)) dM_undo_76
      · rw [lg_cmp_eq] at c67
        have hf := (if_pos c67).symm.trans hf
        refine lv_iconst (v := 1) hx hb dM_undo_71 (by decide) ?_
        refine lv_goto (tgt := 76) hx hb dM_undo_72 (by decide) ?_
        exact kr_iret C0 hK hP hD hS (congrArg Prod.fst (Option.some.inj hf)) (congrArg Prod.snd (Option.some.inj hf)) dM_undo_76
    · have hf := (if_neg c7).symm.trans hf
      refine lv_iconst (v := 0) hx hb dM_undo_10 (by decide) ?_
      refine lv_istore_n (lv' := [(2, .int 0), (0, .ref (q 0)), (1, .int x1)]) hx hb dM_undo_11 rfl hl (by decide) rfl (fun ls hl => ?_)
      refine lv_iconst (v := 0) hx hb dM_undo_12 (by decide) ?_
      refine lv_istore_n (lv' := [(3, .int 0), (2, .int 0), (0, .ref (q 0)), (1, .int x1)]) hx hb dM_undo_13 rfl hl (by decide) rfl (fun ls hl => ?_)
      exact tM_undo_14 C0 hK hA ih fu σ x1 0 0 _ _ ls hf (lv_sub hl [2, 3, 1, 0] rfl) hP hD hS
set_option maxHeartbeats 400000 in
set_option maxRecDepth 100000 in
theorem mM_undo (l : Launch) (D : va_G) (q : Nat → Nat) (k : kM) (cI cJ : ClassId) (sz : Nat) (fu : Nat) (σ : sM) (σ' : sM) (r : Int32) (hf : fM_undo fu k σ = some (r, σ')) : Met l yM_undo (.code yM_undo cM_undo 4 (some .int) :: TM) ({ frames := 4, cells := 0, slots := 0, locals := 97 }) (kPre D cl0 [(cI, .int), (cJ, .long)] (wdM q k cI cJ) sz σ [.ref (q 0)]) (kQi D cl0 [(cI, .int), (cJ, .long)] (wdM q k cI cJ) (va_A (wdM q k cI cJ σ) sz) r σ') 0 0 (va_A (wdM q k cI cJ σ) sz) := by
  refine kr_start (own := RM) (by decide) rfl (Nat.le_of_ble_eq_true rfl) ?_
  intro p e s m args below meth c ls C0 hsz hK hP hD hl
  subst hsz
  obtain ⟨hx, hb, hr, hml, hown, hts, hlocks⟩ := id C0
  have hA : ∀ z : Nat, s.heap.size ≤ z → va_A (wdM q k cI cJ σ) s.heap.size z := fun z h => Or.inr h
  generalize va_A (wdM q k cI cJ σ) s.heap.size = A at hD hA ⊢
  have hS : va_S A s.heap s.heap [] := va_S.rf
  have hl : lv_has ls 4 [(0, .ref (q 0))] := hl
  unfold fM_undo at hf
  refine lv_iconst (v := 0) hx hb dM_undo_0 (by decide) ?_
  refine lv_istore_n (lv' := [(1, .int 0), (0, .ref (q 0))]) hx hb dM_undo_1 rfl hl (by decide) rfl (fun ls hl => ?_)
  exact tM_undo_2 C0 hK hA fu σ 0 _ _ ls hf (lv_sub hl [1, 0] rfl) hP hD hS
theorem dM_undone_0 : decode cM_undone 0 = .ok (.aload_n 0, 1) := by decide +kernel
theorem dM_undone_1 : decode cM_undone 1 = .ok (.iload_n 1, 1) := by decide +kernel
theorem dM_undone_2 : decode cM_undone 2 = .ok (.invokevirtual 54, 3) := by decide +kernel
theorem dM_undone_5 : decode cM_undone 5 = .ok (.ifCond .eq (25), 3) := by decide +kernel
theorem dM_undone_8 : decode cM_undone 8 = .ok (.aload_n 0, 1) := by decide +kernel
theorem dM_undone_9 : decode cM_undone 9 = .ok (.iload_n 2, 1) := by decide +kernel
theorem dM_undone_10 : decode cM_undone 10 = .ok (.invokevirtual 58, 3) := by decide +kernel
theorem dM_undone_13 : decode cM_undone 13 = .ok (.ifCond .eq (17), 3) := by decide +kernel
theorem dM_undone_16 : decode cM_undone 16 = .ok (.iload_n 3, 1) := by decide +kernel
theorem dM_undone_17 : decode cM_undone 17 = .ok (.invokestatic 71, 3) := by decide +kernel
theorem dM_undone_20 : decode cM_undone 20 = .ok (.ifCond .eq (10), 3) := by decide +kernel
theorem dM_undone_23 : decode cM_undone 23 = .ok (.aload_n 0, 1) := by decide +kernel
theorem dM_undone_24 : decode cM_undone 24 = .ok (.invokevirtual 113, 3) := by decide +kernel
theorem dM_undone_27 : decode cM_undone 27 = .ok (.ifCond .eq (7), 3) := by decide +kernel
theorem dM_undone_30 : decode cM_undone 30 = .ok (.ldc2_w 52, 3) := by decide +kernel
theorem dM_undone_33 : decode cM_undone 33 = .ok (.lreturn, 1) := by decide +kernel
theorem dM_undone_34 : decode cM_undone 34 = .ok (.aload_n 0, 1) := by decide +kernel
theorem dM_undone_35 : decode cM_undone 35 = .ok (.aload_n 0, 1) := by decide +kernel
theorem dM_undone_36 : decode cM_undone 36 = .ok (.getfield 17, 3) := by decide +kernel
theorem dM_undone_39 : decode cM_undone 39 = .ok (.iload_n 1, 1) := by decide +kernel
theorem dM_undone_40 : decode cM_undone 40 = .ok (.iaload, 1) := by decide +kernel
theorem dM_undone_41 : decode cM_undone 41 = .ok (.iconst (-1), 1) := by decide +kernel
theorem dM_undone_42 : decode cM_undone 42 = .ok (.invokevirtual 106, 3) := by decide +kernel
theorem dM_undone_45 : decode cM_undone 45 = .ok (.aload_n 0, 1) := by decide +kernel
theorem dM_undone_46 : decode cM_undone 46 = .ok (.invokevirtual 110, 3) := by decide +kernel
theorem dM_undone_49 : decode cM_undone 49 = .ok (.lstore 4, 2) := by decide +kernel
theorem dM_undone_51 : decode cM_undone 51 = .ok (.aload_n 0, 1) := by decide +kernel
theorem dM_undone_52 : decode cM_undone 52 = .ok (.aload_n 0, 1) := by decide +kernel
theorem dM_undone_53 : decode cM_undone 53 = .ok (.getfield 17, 3) := by decide +kernel
theorem dM_undone_56 : decode cM_undone 56 = .ok (.iload_n 1, 1) := by decide +kernel
theorem dM_undone_57 : decode cM_undone 57 = .ok (.iaload, 1) := by decide +kernel
theorem dM_undone_58 : decode cM_undone 58 = .ok (.iload_n 2, 1) := by decide +kernel
theorem dM_undone_59 : decode cM_undone 59 = .ok (.invokevirtual 106, 3) := by decide +kernel
theorem dM_undone_62 : decode cM_undone 62 = .ok (.aload_n 0, 1) := by decide +kernel
theorem dM_undone_63 : decode cM_undone 63 = .ok (.invokevirtual 110, 3) := by decide +kernel
theorem dM_undone_66 : decode cM_undone 66 = .ok (.lstore 6, 2) := by decide +kernel
theorem dM_undone_68 : decode cM_undone 68 = .ok (.lload 6, 2) := by decide +kernel
theorem dM_undone_70 : decode cM_undone 70 = .ok (.lload 4, 2) := by decide +kernel
theorem dM_undone_72 : decode cM_undone 72 = .ok (.iload_n 3, 1) := by decide +kernel
theorem dM_undone_73 : decode cM_undone 73 = .ok (.invokestatic 77, 3) := by decide +kernel
theorem dM_undone_76 : decode cM_undone 76 = .ok (.lreturn, 1) := by decide +kernel
set_option maxHeartbeats 400000 in
set_option maxRecDepth 100000 in
theorem mM_undone (l : Launch) (D : va_G) (q : Nat → Nat) (k : kM) (cI cJ : ClassId) (sz : Nat) (fu : Nat) (σ : sM) (σ' : sM) (x1 : Int32) (x2 : Int32) (x3 : Int32) (r : Int64) (hf : fM_undone fu k σ x1 x2 x3 = some (r, σ')) : Met l yM_undone (.code yM_undone cM_undone 8 (some .long) :: TM) ({ frames := 5, cells := 0, slots := 0, locals := 120 }) (kPre D cl0 [(cI, .int), (cJ, .long)] (wdM q k cI cJ) sz σ [.ref (q 0), .int x1, .int x2, .int x3]) (kQl D cl0 [(cI, .int), (cJ, .long)] (wdM q k cI cJ) (va_A (wdM q k cI cJ σ) sz) r σ') 0 0 (va_A (wdM q k cI cJ σ) sz) := by
  refine kr_start (own := RM) (by decide) rfl (Nat.le_of_ble_eq_true rfl) ?_
  intro p e s m args below meth c ls C0 hsz hK hP hD hl
  subst hsz
  obtain ⟨hx, hb, hr, hml, hown, hts, hlocks⟩ := id C0
  have hA : ∀ z : Nat, s.heap.size ≤ z → va_A (wdM q k cI cJ σ) s.heap.size z := fun z h => Or.inr h
  generalize va_A (wdM q k cI cJ σ) s.heap.size = A at hD hA ⊢
  have hS : va_S A s.heap s.heap [] := va_S.rf
  have hl : lv_has ls 8 [(0, .ref (q 0)), (1, .int x1), (2, .int x2), (3, .int x3)] := hl
  unfold fM_undone at hf
  refine lv_aload_n hx hb dM_undone_0 rfl (lv_at hl 0 rfl) ?_
  refine lv_iload_n hx hb dM_undone_1 rfl (lv_at hl 1 rfl) ?_
  refine kr_callVi (av := [.int x1]) ⟨hx, hb, hml, hown, hts⟩ (mM_isClass l D q k cI cJ _ σ x1 _ rfl) (cwV 1 hts (kgood_V TM_good (by decide +kernel)) rfl rfl rfl (by decide +kernel) ⟨Nat.le_of_ble_eq_true rfl, Nat.le_of_ble_eq_true rfl⟩) hK hP hD hS hA (ci := 1) (q0 := 0) rfl rfl rfl hl.1 rfl (Nat.le_of_ble_eq_true rfl) dM_undone_2 ⟨Nat.le_of_ble_eq_true rfl, Nat.le_of_ble_eq_true rfl⟩ (fun H locs hP hD hS => ?_)
  refine lv_if_eq (tgt := 30) hx hb dM_undone_5 (by decide) (fun c5 => ?_) (fun c5 => ?_)
  · have hf := (if_pos c5).symm.trans hf
    refine lv_ldc2 (v := -1) hx hb hown (hts (.constantLong RM 52 (-1)) (by decide +kernel)) dM_undone_30 ?_
    exact kr_lret C0 hK hP hD hS (congrArg Prod.fst (Option.some.inj hf)) (congrArg Prod.snd (Option.some.inj hf)) dM_undone_33
  · have hf := (if_neg c5).symm.trans hf
    refine lv_aload_n hx hb dM_undone_8 rfl (lv_at hl 0 rfl) ?_
    refine lv_iload_n hx hb dM_undone_9 rfl (lv_at hl 2 rfl) ?_
    refine kr_callVi (av := [.int x2]) ⟨hx, hb, hml, hown, hts⟩ (mM_isAge l D q k cI cJ _ σ x2 _ rfl) (cwV 1 hts (kgood_V TM_good (by decide +kernel)) rfl rfl rfl (by decide +kernel) ⟨Nat.le_of_ble_eq_true rfl, Nat.le_of_ble_eq_true rfl⟩) hK hP hD hS hA (ci := 1) (q0 := 0) rfl rfl rfl hl.1 rfl (Nat.le_of_ble_eq_true rfl) dM_undone_10 ⟨Nat.le_of_ble_eq_true rfl, Nat.le_of_ble_eq_true rfl⟩ (fun H locs hP hD hS => ?_)
    refine lv_if_eq (tgt := 30) hx hb dM_undone_13 (by decide) (fun c13 => ?_) (fun c13 => ?_)
    · have hf := (if_pos c13).symm.trans hf
      refine lv_ldc2 (v := -1) hx hb hown (hts (.constantLong RM 52 (-1)) (by decide +kernel)) dM_undone_30 ?_
      exact kr_lret C0 hK hP hD hS (congrArg Prod.fst (Option.some.inj hf)) (congrArg Prod.snd (Option.some.inj hf)) dM_undone_33
    · have hf := (if_neg c13).symm.trans hf
      refine lv_iload_n hx hb dM_undone_16 rfl (lv_at hl 3 rfl) ?_
      refine kr_callSi (av := [.int x3]) ⟨hx, hb, hml, hown, hts⟩ (mM_isPart l D _ (wdM q k cI cJ) [(cI, .int), (cJ, .long)] cl0 _ σ x3 _ rfl) (cwS 1 hts (kgood_S TM_good (by decide +kernel)) rfl rfl rfl (by decide +kernel) ⟨Nat.le_of_ble_eq_true rfl, Nat.le_of_ble_eq_true rfl⟩) hK hP hD hS hA rfl hl.1 rfl (Nat.le_of_ble_eq_true rfl) dM_undone_17 ⟨Nat.le_of_ble_eq_true rfl, Nat.le_of_ble_eq_true rfl⟩ (fun H locs hP hD hS => ?_)
      refine lv_if_eq (tgt := 30) hx hb dM_undone_20 (by decide) (fun c20 => ?_) (fun c20 => ?_)
      · have hf := (if_pos c20).symm.trans hf
        refine lv_ldc2 (v := -1) hx hb hown (hts (.constantLong RM 52 (-1)) (by decide +kernel)) dM_undone_30 ?_
        exact kr_lret C0 hK hP hD hS (congrArg Prod.fst (Option.some.inj hf)) (congrArg Prod.snd (Option.some.inj hf)) dM_undone_33
      · have hf := (if_neg c20).symm.trans hf
        refine lv_aload_n hx hb dM_undone_23 rfl (lv_at hl 0 rfl) ?_
        obtain ⟨v24, s24, es24, hf⟩ := kb2 hf
        refine kr_callVi (av := []) ⟨hx, hb, hml, hown, hts⟩ (mM_undo l D q k cI cJ _ fu σ s24 v24 es24) (cwV 0 hts (kgood_V TM_good (by decide +kernel)) rfl rfl rfl (by decide +kernel) ⟨Nat.le_of_ble_eq_true rfl, Nat.le_of_ble_eq_true rfl⟩) hK hP hD hS hA (ci := 1) (q0 := 0) rfl rfl rfl hl.1 rfl (Nat.le_of_ble_eq_true rfl) dM_undone_24 ⟨Nat.le_of_ble_eq_true rfl, Nat.le_of_ble_eq_true rfl⟩ (fun H locs hP hD hS => ?_)
        refine lv_if_eq (tgt := 34) hx hb dM_undone_27 (by decide) (fun c27 => ?_) (fun c27 => ?_)
        · have hf := (if_pos c27).symm.trans hf
          refine lv_aload_n hx hb dM_undone_34 rfl (lv_at hl 0 rfl) ?_
          refine lv_aload_n hx hb dM_undone_35 rfl (lv_at hl 0 rfl) ?_
          refine gM_group hx hb hown hts hK hP dM_undone_36 ?_
          refine lv_iload_n hx hb dM_undone_39 rfl (lv_at hl 1 rfl) ?_
          obtain ⟨v40, ev40, hf⟩ := kb1 hf
          refine kr_iaload hx hb hK hP 2 0 rfl rfl ev40 dM_undone_40 ?_
          refine lv_iconst (v := (-1)) hx hb dM_undone_41 (by decide) ?_
          obtain ⟨s42, es42, hf⟩ := kb1 hf
          refine kr_callVv (av := [.int v40, .int (-1)]) ⟨hx, hb, hml, hown, hts⟩ (mM_lay l D q k cI cJ _ fu s24 s42 v40 (-1) es42) (cwV 2 hts (kgood_V TM_good (by decide +kernel)) rfl rfl rfl (by decide +kernel) ⟨Nat.le_of_ble_eq_true rfl, Nat.le_of_ble_eq_true rfl⟩) hK hP hD hS hA (ci := 1) (q0 := 0) rfl rfl rfl hl.1 rfl (Nat.le_of_ble_eq_true rfl) dM_undone_42 ⟨Nat.le_of_ble_eq_true rfl, Nat.le_of_ble_eq_true rfl⟩ (fun H locs hP hD hS => ?_)
          refine lv_aload_n hx hb dM_undone_45 rfl (lv_at hl 0 rfl) ?_
          obtain ⟨v46, s46, es46, hf⟩ := kb2 hf
          refine kr_callVl (av := []) ⟨hx, hb, hml, hown, hts⟩ (mM_determinant l D q k cI cJ _ fu s42 s46 v46 es46) (cwV 0 hts (kgood_V TM_good (by decide +kernel)) rfl rfl rfl (by decide +kernel) ⟨Nat.le_of_ble_eq_true rfl, Nat.le_of_ble_eq_true rfl⟩) hK hP hD hS hA (ci := 1) (q0 := 0) rfl rfl rfl hl.1 rfl (Nat.le_of_ble_eq_true rfl) dM_undone_46 ⟨Nat.le_of_ble_eq_true rfl, Nat.le_of_ble_eq_true rfl⟩ (fun H locs hP hD hS => ?_)
          refine lv_lstore (lv' := [(4, .long v46), (0, .ref (q 0)), (1, .int x1), (2, .int x2), (3, .int x3)]) hx hb dM_undone_49 hl (by decide) rfl (fun ls hl => ?_)
          refine lv_aload_n hx hb dM_undone_51 rfl (lv_at hl 1 rfl) ?_
          refine lv_aload_n hx hb dM_undone_52 rfl (lv_at hl 1 rfl) ?_
          refine gM_group hx hb hown hts hK hP dM_undone_53 ?_
          refine lv_iload_n hx hb dM_undone_56 rfl (lv_at hl 2 rfl) ?_
          obtain ⟨v57, ev57, hf⟩ := kb1 hf
          refine kr_iaload hx hb hK hP 2 0 rfl rfl ev57 dM_undone_57 ?_
          refine lv_iload_n hx hb dM_undone_58 rfl (lv_at hl 3 rfl) ?_
          obtain ⟨s59, es59, hf⟩ := kb1 hf
          refine kr_callVv (av := [.int v57, .int x2]) ⟨hx, hb, hml, hown, hts⟩ (mM_lay l D q k cI cJ _ fu s46 s59 v57 x2 es59) (cwV 2 hts (kgood_V TM_good (by decide +kernel)) rfl rfl rfl (by decide +kernel) ⟨Nat.le_of_ble_eq_true rfl, Nat.le_of_ble_eq_true rfl⟩) hK hP hD hS hA (ci := 1) (q0 := 0) rfl rfl rfl hl.1 rfl (Nat.le_of_ble_eq_true rfl) dM_undone_59 ⟨Nat.le_of_ble_eq_true rfl, Nat.le_of_ble_eq_true rfl⟩ (fun H locs hP hD hS => ?_)
          refine lv_aload_n hx hb dM_undone_62 rfl (lv_at hl 1 rfl) ?_
          obtain ⟨v63, s63, es63, hf⟩ := kb2 hf
          refine kr_callVl (av := []) ⟨hx, hb, hml, hown, hts⟩ (mM_determinant l D q k cI cJ _ fu s59 s63 v63 es63) (cwV 0 hts (kgood_V TM_good (by decide +kernel)) rfl rfl rfl (by decide +kernel) ⟨Nat.le_of_ble_eq_true rfl, Nat.le_of_ble_eq_true rfl⟩) hK hP hD hS hA (ci := 1) (q0 := 0) rfl rfl rfl hl.1 rfl (Nat.le_of_ble_eq_true rfl) dM_undone_63 ⟨Nat.le_of_ble_eq_true rfl, Nat.le_of_ble_eq_true rfl⟩ (fun H locs hP hD hS => ?_)
          refine lv_lstore (lv' := [(6, .long v63), (4, .long v46), (0, .ref (q 0)), (1, .int x1), (2, .int x2), (3, .int x3)]) hx hb dM_undone_66 hl (by decide) rfl (fun ls hl => ?_)
          refine lv_lload hx hb dM_undone_68 (lv_at hl 0 rfl) ?_
          refine lv_lload hx hb dM_undone_70 (lv_at hl 1 rfl) ?_
          refine lv_iload_n hx hb dM_undone_72 rfl (lv_at hl 5 rfl) ?_
          obtain ⟨v73, ev73, hf⟩ := kb1 hf
          refine kr_callSl (av := [.long v63, .long v46, .int x3]) ⟨hx, hb, hml, hown, hts⟩ (mM_partOf l D _ (wdM q k cI cJ) [(cI, .int), (cJ, .long)] cl0 _ fu s63 v63 v46 x3 v73 ev73) (cwS 3 hts (kgood_S TM_good (by decide +kernel)) rfl rfl rfl (by decide +kernel) ⟨Nat.le_of_ble_eq_true rfl, Nat.le_of_ble_eq_true rfl⟩) hK hP hD hS hA rfl hl.1 rfl (Nat.le_of_ble_eq_true rfl) dM_undone_73 ⟨Nat.le_of_ble_eq_true rfl, Nat.le_of_ble_eq_true rfl⟩ (fun H locs hP hD hS => ?_)
          exact kr_lret C0 hK hP hD hS (congrArg Prod.fst (Option.some.inj hf)) (congrArg Prod.snd (Option.some.inj hf)) dM_undone_76
        · have hf := (if_neg c27).symm.trans hf
          refine lv_ldc2 (v := -1) hx hb hown (hts (.constantLong RM 52 (-1)) (by decide +kernel)) dM_undone_30 ?_
          exact kr_lret C0 hK hP hD hS (congrArg Prod.fst (Option.some.inj hf)) (congrArg Prod.snd (Option.some.inj hf)) dM_undone_33
theorem dM_apart_0 : decode cM_apart 0 = .ok (.iload_n 1, 1) := by decide +kernel
theorem dM_apart_1 : decode cM_apart 1 = .ok (.ifCond .lt (40), 3) := by decide +kernel
theorem dM_apart_4 : decode cM_apart 4 = .ok (.iload_n 1, 1) := by decide +kernel
theorem dM_apart_5 : decode cM_apart 5 = .ok (.iconst 4, 1) := by decide +kernel
theorem dM_apart_6 : decode cM_apart 6 = .ok (.if_icmp .ge (35), 3) := by decide +kernel
theorem dM_apart_9 : decode cM_apart 9 = .ok (.iload_n 2, 1) := by decide +kernel
theorem dM_apart_10 : decode cM_apart 10 = .ok (.ifCond .lt (31), 3) := by decide +kernel
theorem dM_apart_13 : decode cM_apart 13 = .ok (.iload_n 2, 1) := by decide +kernel
theorem dM_apart_14 : decode cM_apart 14 = .ok (.iconst 4, 1) := by decide +kernel
theorem dM_apart_15 : decode cM_apart 15 = .ok (.if_icmp .ge (26), 3) := by decide +kernel
theorem dM_apart_18 : decode cM_apart 18 = .ok (.iload_n 3, 1) := by decide +kernel
theorem dM_apart_19 : decode cM_apart 19 = .ok (.invokestatic 71, 3) := by decide +kernel
theorem dM_apart_22 : decode cM_apart 22 = .ok (.ifCond .eq (19), 3) := by decide +kernel
theorem dM_apart_25 : decode cM_apart 25 = .ok (.aload_n 0, 1) := by decide +kernel
theorem dM_apart_26 : decode cM_apart 26 = .ok (.iload_n 1, 1) := by decide +kernel
theorem dM_apart_27 : decode cM_apart 27 = .ok (.invokevirtual 64, 3) := by decide +kernel
theorem dM_apart_30 : decode cM_apart 30 = .ok (.ifCond .eq (11), 3) := by decide +kernel
theorem dM_apart_33 : decode cM_apart 33 = .ok (.aload_n 0, 1) := by decide +kernel
theorem dM_apart_34 : decode cM_apart 34 = .ok (.iload_n 2, 1) := by decide +kernel
theorem dM_apart_35 : decode cM_apart 35 = .ok (.invokevirtual 64, 3) := by decide +kernel
theorem dM_apart_38 : decode cM_apart 38 = .ok (.ifCond .ne (7), 3) := by decide +kernel
theorem dM_apart_41 : decode cM_apart 41 = .ok (.ldc2_w 52, 3) := by decide +kernel
theorem dM_apart_44 : decode cM_apart 44 = .ok (.lreturn, 1) := by decide +kernel
theorem dM_apart_45 : decode cM_apart 45 = .ok (.aload_n 0, 1) := by decide +kernel
theorem dM_apart_46 : decode cM_apart 46 = .ok (.iload_n 1, 1) := by decide +kernel
theorem dM_apart_47 : decode cM_apart 47 = .ok (.invokevirtual 64, 3) := by decide +kernel
theorem dM_apart_50 : decode cM_apart 50 = .ok (.i2l, 1) := by decide +kernel
theorem dM_apart_51 : decode cM_apart 51 = .ok (.lstore 4, 2) := by decide +kernel
theorem dM_apart_53 : decode cM_apart 53 = .ok (.aload_n 0, 1) := by decide +kernel
theorem dM_apart_54 : decode cM_apart 54 = .ok (.iload_n 2, 1) := by decide +kernel
theorem dM_apart_55 : decode cM_apart 55 = .ok (.invokevirtual 64, 3) := by decide +kernel
theorem dM_apart_58 : decode cM_apart 58 = .ok (.i2l, 1) := by decide +kernel
theorem dM_apart_59 : decode cM_apart 59 = .ok (.lstore 6, 2) := by decide +kernel
theorem dM_apart_61 : decode cM_apart 61 = .ok (.lconst 0, 1) := by decide +kernel
theorem dM_apart_62 : decode cM_apart 62 = .ok (.lstore 8, 2) := by decide +kernel
theorem dM_apart_64 : decode cM_apart 64 = .ok (.iconst 0, 1) := by decide +kernel
theorem dM_apart_65 : decode cM_apart 65 = .ok (.istore 10, 2) := by decide +kernel
theorem dM_apart_67 : decode cM_apart 67 = .ok (.iload 10, 2) := by decide +kernel
theorem dM_apart_69 : decode cM_apart 69 = .ok (.aload_n 0, 1) := by decide +kernel
theorem dM_apart_70 : decode cM_apart 70 = .ok (.getfield 39, 3) := by decide +kernel
theorem dM_apart_73 : decode cM_apart 73 = .ok (.if_icmp .ge (76), 3) := by decide +kernel
theorem dM_apart_76 : decode cM_apart 76 = .ok (.iconst 0, 1) := by decide +kernel
theorem dM_apart_77 : decode cM_apart 77 = .ok (.istore 11, 2) := by decide +kernel
theorem dM_apart_79 : decode cM_apart 79 = .ok (.iload 11, 2) := by decide +kernel
theorem dM_apart_81 : decode cM_apart 81 = .ok (.aload_n 0, 1) := by decide +kernel
theorem dM_apart_82 : decode cM_apart 82 = .ok (.getfield 42, 3) := by decide +kernel
theorem dM_apart_85 : decode cM_apart 85 = .ok (.if_icmp .ge (58), 3) := by decide +kernel
theorem dM_apart_88 : decode cM_apart 88 = .ok (.aload_n 0, 1) := by decide +kernel
theorem dM_apart_89 : decode cM_apart 89 = .ok (.iload_n 1, 1) := by decide +kernel
theorem dM_apart_90 : decode cM_apart 90 = .ok (.iload 10, 2) := by decide +kernel
theorem dM_apart_92 : decode cM_apart 92 = .ok (.iload 11, 2) := by decide +kernel
theorem dM_apart_94 : decode cM_apart 94 = .ok (.invokevirtual 49, 3) := by decide +kernel
theorem dM_apart_97 : decode cM_apart 97 = .ok (.i2l, 1) := by decide +kernel
theorem dM_apart_98 : decode cM_apart 98 = .ok (.lload 6, 2) := by decide +kernel
theorem dM_apart_100 : decode cM_apart 100 = .ok (.lmul, 1) := by decide +kernel
theorem dM_apart_101 : decode cM_apart 101 = .ok (.aload_n 0, 1) := by decide +kernel
theorem dM_apart_102 : decode cM_apart 102 = .ok (.iload_n 2, 1) := by decide +kernel
theorem dM_apart_103 : decode cM_apart 103 = .ok (.iload 10, 2) := by decide +kernel
theorem dM_apart_105 : decode cM_apart 105 = .ok (.iload 11, 2) := by decide +kernel
theorem dM_apart_107 : decode cM_apart 107 = .ok (.invokevirtual 49, 3) := by decide +kernel
theorem dM_apart_110 : decode cM_apart 110 = .ok (.i2l, 1) := by decide +kernel
theorem dM_apart_111 : decode cM_apart 111 = .ok (.lload 4, 2) := by decide +kernel
theorem dM_apart_113 : decode cM_apart 113 = .ok (.lmul, 1) := by decide +kernel
theorem dM_apart_114 : decode cM_apart 114 = .ok (.lsub, 1) := by decide +kernel
theorem dM_apart_115 : decode cM_apart 115 = .ok (.lstore 12, 2) := by decide +kernel
theorem dM_apart_117 : decode cM_apart 117 = .ok (.lload 8, 2) := by decide +kernel
theorem dM_apart_119 : decode cM_apart 119 = .ok (.lload 12, 2) := by decide +kernel
theorem dM_apart_121 : decode cM_apart 121 = .ok (.lconst 0, 1) := by decide +kernel
theorem dM_apart_122 : decode cM_apart 122 = .ok (.lcmp, 1) := by decide +kernel
theorem dM_apart_123 : decode cM_apart 123 = .ok (.ifCond .ge (9), 3) := by decide +kernel
theorem dM_apart_126 : decode cM_apart 126 = .ok (.lload 12, 2) := by decide +kernel
theorem dM_apart_128 : decode cM_apart 128 = .ok (.lneg, 1) := by decide +kernel
theorem dM_apart_129 : decode cM_apart 129 = .ok (.goto (5), 3) := by decide +kernel
theorem dM_apart_132 : decode cM_apart 132 = .ok (.lload 12, 2) := by decide +kernel
theorem dM_apart_134 : decode cM_apart 134 = .ok (.ladd, 1) := by decide +kernel
theorem dM_apart_135 : decode cM_apart 135 = .ok (.lstore 8, 2) := by decide +kernel
theorem dM_apart_137 : decode cM_apart 137 = .ok (.iinc 11 (1), 3) := by decide +kernel
theorem dM_apart_140 : decode cM_apart 140 = .ok (.goto (-61), 3) := by decide +kernel
theorem dM_apart_143 : decode cM_apart 143 = .ok (.iinc 10 (1), 3) := by decide +kernel
theorem dM_apart_146 : decode cM_apart 146 = .ok (.goto (-79), 3) := by decide +kernel
theorem dM_apart_149 : decode cM_apart 149 = .ok (.lload 8, 2) := by decide +kernel
theorem dM_apart_151 : decode cM_apart 151 = .ok (.lload 4, 2) := by decide +kernel
theorem dM_apart_153 : decode cM_apart 153 = .ok (.lload 6, 2) := by decide +kernel
theorem dM_apart_155 : decode cM_apart 155 = .ok (.lmul, 1) := by decide +kernel
theorem dM_apart_156 : decode cM_apart 156 = .ok (.iload_n 3, 1) := by decide +kernel
theorem dM_apart_157 : decode cM_apart 157 = .ok (.invokestatic 77, 3) := by decide +kernel
theorem dM_apart_160 : decode cM_apart 160 = .ok (.lreturn, 1) := by decide +kernel
set_option maxHeartbeats 400000 in
set_option maxRecDepth 100000 in
theorem tM_apart_134 {p : Program} {l : Launch} {e : Env} {s : State} {m : MethodId} {args : Array Value} {below : List Frame} {meth : Method} {c : Code} {D : va_G} {A : Nat → Prop} {q : Nat → Nat} {k : kM} {cI cJ : ClassId} {r : Int64} {σ : sM} {fu : Nat} {h67 : Int32 → Int32 → Int32 → Int64 → Int64 → Int64 → Int32 → Option Int64} {h79 : Int32 → Int32 → Int32 → Int64 → Int64 → Int64 → Int32 → Int32 → Option Int64} (C0 : Cx p s m args meth c cM_apart 14 (some .long) RM TM) (hK : va_K D cl0 [(cI, .int), (cJ, .long)] s) (hA : ∀ z, s.heap.size ≤ z → A z) (ih67 : ∀ (x1 : Int32) (x2 : Int32) (x3 : Int32) (x4 : Int64) (x6 : Int64) (x8 : Int64) (x10 : Int32)(H : Heap) (locs : List Loc) (ls : Array Slot), h67 x1 x2 x3 x4 x6 x8 x10 = some r → lv_has ls 14 [(0, .ref (q 0)), (1, .int x1), (2, .int x2), (3, .int x3), (4, .long x4), (6, .long x6), (8, .long x8), (10, .int x10)] → va_P D cl0 (wdM q k cI cJ σ) H → va_D A (wdM q k cI cJ σ) → va_S A s.heap H locs → W p l e ({ frames := 3, cells := 0, slots := 0, locals := 71 }) s m args below meth c H locs 0 0 (MQ below (kQl D cl0 [(cI, .int), (cJ, .long)] (wdM q k cI cJ) A r σ) args s 0 0 A) (F0 m 67 ls [])) (ih79 : ∀ (x1 : Int32) (x2 : Int32) (x3 : Int32) (x4 : Int64) (x6 : Int64) (x8 : Int64) (x10 : Int32) (x11 : Int32)(H : Heap) (locs : List Loc) (ls : Array Slot), h79 x1 x2 x3 x4 x6 x8 x10 x11 = some r → lv_has ls 14 [(0, .ref (q 0)), (1, .int x1), (2, .int x2), (3, .int x3), (4, .long x4), (6, .long x6), (8, .long x8), (10, .int x10), (11, .int x11)] → va_P D cl0 (wdM q k cI cJ σ) H → va_D A (wdM q k cI cJ σ) → va_S A s.heap H locs → W p l e ({ frames := 3, cells := 0, slots := 0, locals := 71 }) s m args below meth c H locs 0 0 (MQ below (kQl D cl0 [(cI, .int), (cJ, .long)] (wdM q k cI cJ) A r σ) args s 0 0 A) (F0 m 79 ls [])) : ∀ (y0 : Int64) (y1 : Int64) (x1 : Int32) (x2 : Int32) (x3 : Int32) (x4 : Int64) (x6 : Int64) (x10 : Int32) (x11 : Int32)(H : Heap) (locs : List Loc) (ls : Array Slot), fM_apart_134 fu k σ h67 h79 y0 y1 x1 x2 x3 x4 x6 x10 x11 = some r → lv_has ls 14 [(0, .ref (q 0)), (1, .int x1), (2, .int x2), (3, .int x3), (4, .long x4), (6, .long x6), (10, .int x10), (11, .int x11)] → va_P D cl0 (wdM q k cI cJ σ) H → va_D A (wdM q k cI cJ σ) → va_S A s.heap H locs → W p l e ({ frames := 3, cells := 0, slots := 0, locals := 71 }) s m args below meth c H locs 0 0 (MQ below (kQl D cl0 [(cI, .int), (cJ, .long)] (wdM q k cI cJ) A r σ) args s 0 0 A) (F0 m 134 ls [.long y1, .long y0]) := by
  obtain ⟨hx, hb, hr, hml, hown, hts, hlocks⟩ := id C0
  intro y0 y1 x1 x2 x3 x4 x6 x10 x11 H locs ls hf hl hP hD hS
  unfold fM_apart_134 at hf
  refine lv_ladd hx hb dM_apart_134 ?_
  refine lv_lstore (lv' := [(8, .long (y0 + y1)), (0, .ref (q 0)), (1, .int x1), (2, .int x2), (3, .int x3), (4, .long x4), (6, .long x6), (10, .int x10), (11, .int x11)]) hx hb dM_apart_135 hl (by decide) rfl (fun ls hl => ?_)
  refine lv_iinc (v := (x11 + 1)) (lv' := [(11, .int (x11 + 1)), (8, .long (y0 + y1)), (0, .ref (q 0)), (1, .int x1), (2, .int x2), (3, .int x3), (4, .long x4), (6, .long x6), (10, .int x10)]) hx hb dM_apart_137 hl (k := 8) rfl rfl (by decide) rfl (fun ls hl => ?_)
  refine lv_goto (tgt := 79) hx hb dM_apart_140 (by decide) ?_
  exact ih79 x1 x2 x3 x4 x6 (y0 + y1) x10 (x11 + 1) _ _ ls hf (lv_sub hl [2, 3, 4, 5, 6, 7, 1, 8, 0] rfl) hP hD hS
set_option maxHeartbeats 400000 in
set_option maxRecDepth 100000 in
theorem tM_apart_79 {p : Program} {l : Launch} {e : Env} {s : State} {m : MethodId} {args : Array Value} {below : List Frame} {meth : Method} {c : Code} {D : va_G} {A : Nat → Prop} {q : Nat → Nat} {k : kM} {cI cJ : ClassId} {r : Int64} {σ : sM} {fu : Nat} {h67 : Int32 → Int32 → Int32 → Int64 → Int64 → Int64 → Int32 → Option Int64} (C0 : Cx p s m args meth c cM_apart 14 (some .long) RM TM) (hK : va_K D cl0 [(cI, .int), (cJ, .long)] s) (hA : ∀ z, s.heap.size ≤ z → A z) (ih67 : ∀ (x1 : Int32) (x2 : Int32) (x3 : Int32) (x4 : Int64) (x6 : Int64) (x8 : Int64) (x10 : Int32)(H : Heap) (locs : List Loc) (ls : Array Slot), h67 x1 x2 x3 x4 x6 x8 x10 = some r → lv_has ls 14 [(0, .ref (q 0)), (1, .int x1), (2, .int x2), (3, .int x3), (4, .long x4), (6, .long x6), (8, .long x8), (10, .int x10)] → va_P D cl0 (wdM q k cI cJ σ) H → va_D A (wdM q k cI cJ σ) → va_S A s.heap H locs → W p l e ({ frames := 3, cells := 0, slots := 0, locals := 71 }) s m args below meth c H locs 0 0 (MQ below (kQl D cl0 [(cI, .int), (cJ, .long)] (wdM q k cI cJ) A r σ) args s 0 0 A) (F0 m 67 ls [])) : ∀ n : Nat, ∀ (x1 : Int32) (x2 : Int32) (x3 : Int32) (x4 : Int64) (x6 : Int64) (x8 : Int64) (x10 : Int32) (x11 : Int32)(H : Heap) (locs : List Loc) (ls : Array Slot), fM_apart_79 fu k σ h67 n x1 x2 x3 x4 x6 x8 x10 x11 = some r → lv_has ls 14 [(0, .ref (q 0)), (1, .int x1), (2, .int x2), (3, .int x3), (4, .long x4), (6, .long x6), (8, .long x8), (10, .int x10), (11, .int x11)] → va_P D cl0 (wdM q k cI cJ σ) H → va_D A (wdM q k cI cJ σ) → va_S A s.heap H locs → W p l e ({ frames := 3, cells := 0, slots := 0, locals := 71 }) s m args below meth c H locs 0 0 (MQ below (kQl D cl0 [(cI, .int), (cJ, .long)] (wdM q k cI cJ) A r σ) args s 0 0 A) (F0 m 79 ls []) := by
  obtain ⟨hx, hb, hr, hml, hown, hts, hlocks⟩ := id C0
  intro n
  induction n with
  | zero =>
    intro x1 x2 x3 x4 x6 x8 x10 x11 H locs ls hf hl hP hD hS
    cases hf
  | succ n ih =>
    intro x1 x2 x3 x4 x6 x8 x10 x11 H locs ls hf hl hP hD hS
    rw [fM_apart_79] at hf
    refine lv_iload hx hb dM_apart_79 (lv_at hl 8 rfl) ?_
    refine lv_aload_n hx hb dM_apart_81 rfl (lv_at hl 0 rfl) ?_
    refine gM_ages hx hb hown hts hK hP dM_apart_82 ?_
    refine lv_icmp_ge (tgt := 143) hx hb dM_apart_85 (by decide) (fun c85 => ?_) (fun c85 => ?_)
    · have hf := (if_pos c85).symm.trans hf
      refine lv_iinc (v := (x10 + 1)) (lv' := [(10, .int (x10 + 1)), (0, .ref (q 0)), (1, .int x1), (2, .int x2), (3, .int x3), (4, .long x4), (6, .long x6), (8, .long x8), (11, .int x11)]) hx hb dM_apart_143 hl (k := 7) rfl rfl (by decide) rfl (fun ls hl => ?_)
      refine lv_goto (tgt := 67) hx hb dM_apart_146 (by decide) ?_
      exact ih67 x1 x2 x3 x4 x6 x8 (x10 + 1) _ _ ls hf (lv_sub hl [1, 2, 3, 4, 5, 6, 7, 0] rfl) hP hD hS
    · have hf := (if_neg c85).symm.trans hf
      refine lv_aload_n hx hb dM_apart_88 rfl (lv_at hl 0 rfl) ?_
      refine lv_iload_n hx hb dM_apart_89 rfl (lv_at hl 1 rfl) ?_
      refine lv_iload hx hb dM_apart_90 (lv_at hl 7 rfl) ?_
      refine lv_iload hx hb dM_apart_92 (lv_at hl 8 rfl) ?_
      obtain ⟨v94, ev94, hf⟩ := kb1 hf
      refine kr_callVi (av := [.int x1, .int x10, .int x11]) ⟨hx, hb, hml, hown, hts⟩ (mM_count l D q k cI cJ _ fu σ x1 x10 x11 v94 ev94) (cwV 3 hts (kgood_V TM_good (by decide +kernel)) rfl rfl rfl (by decide +kernel) ⟨Nat.le_of_ble_eq_true rfl, Nat.le_of_ble_eq_true rfl⟩) hK hP hD hS hA (ci := 1) (q0 := 0) rfl rfl rfl hl.1 rfl (Nat.le_of_ble_eq_true rfl) dM_apart_94 ⟨Nat.le_of_ble_eq_true rfl, Nat.le_of_ble_eq_true rfl⟩ (fun H locs hP hD hS => ?_)
      refine lv_i2l (v := v94.toInt64) hx hb dM_apart_97 rfl ?_
      refine lv_lload hx hb dM_apart_98 (lv_at hl 5 rfl) ?_
      refine lv_lmul hx hb dM_apart_100 ?_
      refine lv_aload_n hx hb dM_apart_101 rfl (lv_at hl 0 rfl) ?_
      refine lv_iload_n hx hb dM_apart_102 rfl (lv_at hl 2 rfl) ?_
      refine lv_iload hx hb dM_apart_103 (lv_at hl 7 rfl) ?_
      refine lv_iload hx hb dM_apart_105 (lv_at hl 8 rfl) ?_
      obtain ⟨v107, ev107, hf⟩ := kb1 hf
      refine kr_callVi (av := [.int x2, .int x10, .int x11]) ⟨hx, hb, hml, hown, hts⟩ (mM_count l D q k cI cJ _ fu σ x2 x10 x11 v107 ev107) (cwV 3 hts (kgood_V TM_good (by decide +kernel)) rfl rfl rfl (by decide +kernel) ⟨Nat.le_of_ble_eq_true rfl, Nat.le_of_ble_eq_true rfl⟩) hK hP hD hS hA (ci := 1) (q0 := 0) rfl rfl rfl hl.1 rfl (Nat.le_of_ble_eq_true rfl) dM_apart_107 ⟨Nat.le_of_ble_eq_true rfl, Nat.le_of_ble_eq_true rfl⟩ (fun H locs hP hD hS => ?_)
      refine lv_i2l (v := v107.toInt64) hx hb dM_apart_110 rfl ?_
      refine lv_lload hx hb dM_apart_111 (lv_at hl 4 rfl) ?_
      refine lv_lmul hx hb dM_apart_113 ?_
      refine lv_lsub hx hb dM_apart_114 ?_
      refine lv_lstore (lv' := [(12, .long ((v94.toInt64 * x6) - (v107.toInt64 * x4))), (0, .ref (q 0)), (1, .int x1), (2, .int x2), (3, .int x3), (4, .long x4), (6, .long x6), (8, .long x8), (10, .int x10), (11, .int x11)]) hx hb dM_apart_115 hl (by decide) rfl (fun ls hl => ?_)
      refine lv_lload hx hb dM_apart_117 (lv_at hl 7 rfl) ?_
      refine lv_lload hx hb dM_apart_119 (lv_at hl 0 rfl) ?_
      refine lv_lconst (v := 0) hx hb dM_apart_121 (by decide) ?_
      refine W.lcmp hx hb dM_apart_122 ?_
      refine lv_if_ge (tgt := 132) hx hb dM_apart_123 (by decide) (fun c122 => ?_) (fun c122 => ?_)
      · rw [lg_cmp_ge] at c122
        have hf := (if_pos c122).symm.trans hf
        refine lv_lload hx hb dM_apart_132 (lv_at hl 0 rfl) ?_
        exact tM_apart_134 C0 hK hA ih67 ih x8 ((v94.toInt64 * x6) - (v107.toInt64 * x4)) x1 x2 x3 x4 x6 x10 x11 _ _ ls hf (lv_sub hl [1, 2, 3, 4, 5, 6, 8, 9] rfl) hP hD hS
      · rw [lg_cmp_ge] at c122
        have hf := (if_neg c122).symm.trans hf
        refine lv_lload hx hb dM_apart_126 (lv_at hl 0 rfl) ?_
        refine lv_lneg hx hb dM_apart_128 ?_
        refine lv_goto (tgt := 134) hx hb dM_apart_129 (by decide) ?_
        exact tM_apart_134 C0 hK hA ih67 ih x8 (-((v94.toInt64 * x6) - (v107.toInt64 * x4))) x1 x2 x3 x4 x6 x10 x11 _ _ ls hf (lv_sub hl [1, 2, 3, 4, 5, 6, 8, 9] rfl) hP hD hS
set_option maxHeartbeats 400000 in
set_option maxRecDepth 100000 in
theorem tM_apart_67 {p : Program} {l : Launch} {e : Env} {s : State} {m : MethodId} {args : Array Value} {below : List Frame} {meth : Method} {c : Code} {D : va_G} {A : Nat → Prop} {q : Nat → Nat} {k : kM} {cI cJ : ClassId} {r : Int64} {σ : sM} {fu : Nat} (C0 : Cx p s m args meth c cM_apart 14 (some .long) RM TM) (hK : va_K D cl0 [(cI, .int), (cJ, .long)] s) (hA : ∀ z, s.heap.size ≤ z → A z) : ∀ n : Nat, ∀ (x1 : Int32) (x2 : Int32) (x3 : Int32) (x4 : Int64) (x6 : Int64) (x8 : Int64) (x10 : Int32)(H : Heap) (locs : List Loc) (ls : Array Slot), fM_apart_67 fu k σ n x1 x2 x3 x4 x6 x8 x10 = some r → lv_has ls 14 [(0, .ref (q 0)), (1, .int x1), (2, .int x2), (3, .int x3), (4, .long x4), (6, .long x6), (8, .long x8), (10, .int x10)] → va_P D cl0 (wdM q k cI cJ σ) H → va_D A (wdM q k cI cJ σ) → va_S A s.heap H locs → W p l e ({ frames := 3, cells := 0, slots := 0, locals := 71 }) s m args below meth c H locs 0 0 (MQ below (kQl D cl0 [(cI, .int), (cJ, .long)] (wdM q k cI cJ) A r σ) args s 0 0 A) (F0 m 67 ls []) := by
  obtain ⟨hx, hb, hr, hml, hown, hts, hlocks⟩ := id C0
  intro n
  induction n with
  | zero =>
    intro x1 x2 x3 x4 x6 x8 x10 H locs ls hf hl hP hD hS
    cases hf
  | succ n ih =>
    intro x1 x2 x3 x4 x6 x8 x10 H locs ls hf hl hP hD hS
    rw [fM_apart_67] at hf
    refine lv_iload hx hb dM_apart_67 (lv_at hl 7 rfl) ?_
    refine lv_aload_n hx hb dM_apart_69 rfl (lv_at hl 0 rfl) ?_
    refine gM_classes hx hb hown hts hK hP dM_apart_70 ?_
    refine lv_icmp_ge (tgt := 149) hx hb dM_apart_73 (by decide) (fun c73 => ?_) (fun c73 => ?_)
    · have hf := (if_pos c73).symm.trans hf
      refine lv_lload hx hb dM_apart_149 (lv_at hl 6 rfl) ?_
      refine lv_lload hx hb dM_apart_151 (lv_at hl 4 rfl) ?_
      refine lv_lload hx hb dM_apart_153 (lv_at hl 5 rfl) ?_
      refine lv_lmul hx hb dM_apart_155 ?_
      refine lv_iload_n hx hb dM_apart_156 rfl (lv_at hl 3 rfl) ?_
      obtain ⟨v157, ev157, hf⟩ := kb1 hf
      refine kr_callSl (av := [.long x8, .long (x4 * x6), .int x3]) ⟨hx, hb, hml, hown, hts⟩ (mM_partOf l D _ (wdM q k cI cJ) [(cI, .int), (cJ, .long)] cl0 _ fu σ x8 (x4 * x6) x3 v157 ev157) (cwS 3 hts (kgood_S TM_good (by decide +kernel)) rfl rfl rfl (by decide +kernel) ⟨Nat.le_of_ble_eq_true rfl, Nat.le_of_ble_eq_true rfl⟩) hK hP hD hS hA rfl hl.1 rfl (Nat.le_of_ble_eq_true rfl) dM_apart_157 ⟨Nat.le_of_ble_eq_true rfl, Nat.le_of_ble_eq_true rfl⟩ (fun H locs hP hD hS => ?_)
      exact kr_lret C0 hK hP hD hS (Option.some.inj hf) rfl dM_apart_160
    · have hf := (if_neg c73).symm.trans hf
      refine lv_iconst (v := 0) hx hb dM_apart_76 (by decide) ?_
      refine lv_istore (lv' := [(11, .int 0), (0, .ref (q 0)), (1, .int x1), (2, .int x2), (3, .int x3), (4, .long x4), (6, .long x6), (8, .long x8), (10, .int x10)]) hx hb dM_apart_77 hl (by decide) rfl (fun ls hl => ?_)
      exact tM_apart_79 C0 hK hA ih fu x1 x2 x3 x4 x6 x8 x10 0 _ _ ls hf (lv_sub hl [1, 2, 3, 4, 5, 6, 7, 8, 0] rfl) hP hD hS
set_option maxHeartbeats 400000 in
set_option maxRecDepth 100000 in
theorem mM_apart (l : Launch) (D : va_G) (q : Nat → Nat) (k : kM) (cI cJ : ClassId) (sz : Nat) (fu : Nat) (σ : sM) (x1 : Int32) (x2 : Int32) (x3 : Int32) (r : Int64) (hf : fM_apart fu k σ x1 x2 x3 = some r) : Met l yM_apart (.code yM_apart cM_apart 14 (some .long) :: TM) ({ frames := 3, cells := 0, slots := 0, locals := 71 }) (kPre D cl0 [(cI, .int), (cJ, .long)] (wdM q k cI cJ) sz σ [.ref (q 0), .int x1, .int x2, .int x3]) (kQl D cl0 [(cI, .int), (cJ, .long)] (wdM q k cI cJ) (va_A (wdM q k cI cJ σ) sz) r σ) 0 0 (va_A (wdM q k cI cJ σ) sz) := by
  refine kr_start (own := RM) (by decide) rfl (Nat.le_of_ble_eq_true rfl) ?_
  intro p e s m args below meth c ls C0 hsz hK hP hD hl
  subst hsz
  obtain ⟨hx, hb, hr, hml, hown, hts, hlocks⟩ := id C0
  have hA : ∀ z : Nat, s.heap.size ≤ z → va_A (wdM q k cI cJ σ) s.heap.size z := fun z h => Or.inr h
  generalize va_A (wdM q k cI cJ σ) s.heap.size = A at hD hA ⊢
  have hS : va_S A s.heap s.heap [] := va_S.rf
  have hl : lv_has ls 14 [(0, .ref (q 0)), (1, .int x1), (2, .int x2), (3, .int x3)] := hl
  unfold fM_apart at hf
  refine lv_iload_n hx hb dM_apart_0 rfl (lv_at hl 1 rfl) ?_
  refine lv_if_lt (tgt := 41) hx hb dM_apart_1 (by decide) (fun c1 => ?_) (fun c1 => ?_)
  · have hf := (if_pos c1).symm.trans hf
    refine lv_ldc2 (v := -1) hx hb hown (hts (.constantLong RM 52 (-1)) (by decide +kernel)) dM_apart_41 ?_
    exact kr_lret C0 hK hP hD hS (Option.some.inj hf) rfl dM_apart_44
  · have hf := (if_neg c1).symm.trans hf
    refine lv_iload_n hx hb dM_apart_4 rfl (lv_at hl 1 rfl) ?_
    refine lv_iconst (v := 4) hx hb dM_apart_5 (by decide) ?_
    refine lv_icmp_ge (tgt := 41) hx hb dM_apart_6 (by decide) (fun c6 => ?_) (fun c6 => ?_)
    · have hf := (if_pos c6).symm.trans hf
      refine lv_ldc2 (v := -1) hx hb hown (hts (.constantLong RM 52 (-1)) (by decide +kernel)) dM_apart_41 ?_
      exact kr_lret C0 hK hP hD hS (Option.some.inj hf) rfl dM_apart_44
    · have hf := (if_neg c6).symm.trans hf
      refine lv_iload_n hx hb dM_apart_9 rfl (lv_at hl 2 rfl) ?_
      refine lv_if_lt (tgt := 41) hx hb dM_apart_10 (by decide) (fun c10 => ?_) (fun c10 => ?_)
      · have hf := (if_pos c10).symm.trans hf
        refine lv_ldc2 (v := -1) hx hb hown (hts (.constantLong RM 52 (-1)) (by decide +kernel)) dM_apart_41 ?_
        exact kr_lret C0 hK hP hD hS (Option.some.inj hf) rfl dM_apart_44
      · have hf := (if_neg c10).symm.trans hf
        refine lv_iload_n hx hb dM_apart_13 rfl (lv_at hl 2 rfl) ?_
        refine lv_iconst (v := 4) hx hb dM_apart_14 (by decide) ?_
        refine lv_icmp_ge (tgt := 41) hx hb dM_apart_15 (by decide) (fun c15 => ?_) (fun c15 => ?_)
        · have hf := (if_pos c15).symm.trans hf
          refine lv_ldc2 (v := -1) hx hb hown (hts (.constantLong RM 52 (-1)) (by decide +kernel)) dM_apart_41 ?_
          exact kr_lret C0 hK hP hD hS (Option.some.inj hf) rfl dM_apart_44
        · have hf := (if_neg c15).symm.trans hf
          refine lv_iload_n hx hb dM_apart_18 rfl (lv_at hl 3 rfl) ?_
          refine kr_callSi (av := [.int x3]) ⟨hx, hb, hml, hown, hts⟩ (mM_isPart l D _ (wdM q k cI cJ) [(cI, .int), (cJ, .long)] cl0 _ σ x3 _ rfl) (cwS 1 hts (kgood_S TM_good (by decide +kernel)) rfl rfl rfl (by decide +kernel) ⟨Nat.le_of_ble_eq_true rfl, Nat.le_of_ble_eq_true rfl⟩) hK hP hD hS hA rfl hl.1 rfl (Nat.le_of_ble_eq_true rfl) dM_apart_19 ⟨Nat.le_of_ble_eq_true rfl, Nat.le_of_ble_eq_true rfl⟩ (fun H locs hP hD hS => ?_)
          refine lv_if_eq (tgt := 41) hx hb dM_apart_22 (by decide) (fun c22 => ?_) (fun c22 => ?_)
          · have hf := (if_pos c22).symm.trans hf
            refine lv_ldc2 (v := -1) hx hb hown (hts (.constantLong RM 52 (-1)) (by decide +kernel)) dM_apart_41 ?_
            exact kr_lret C0 hK hP hD hS (Option.some.inj hf) rfl dM_apart_44
          · have hf := (if_neg c22).symm.trans hf
            refine lv_aload_n hx hb dM_apart_25 rfl (lv_at hl 0 rfl) ?_
            refine lv_iload_n hx hb dM_apart_26 rfl (lv_at hl 1 rfl) ?_
            obtain ⟨v27, ev27, hf⟩ := kb1 hf
            refine kr_callVi (av := [.int x1]) ⟨hx, hb, hml, hown, hts⟩ (mM_inAll l D q k cI cJ _ fu σ x1 v27 ev27) (cwV 1 hts (kgood_V TM_good (by decide +kernel)) rfl rfl rfl (by decide +kernel) ⟨Nat.le_of_ble_eq_true rfl, Nat.le_of_ble_eq_true rfl⟩) hK hP hD hS hA (ci := 1) (q0 := 0) rfl rfl rfl hl.1 rfl (Nat.le_of_ble_eq_true rfl) dM_apart_27 ⟨Nat.le_of_ble_eq_true rfl, Nat.le_of_ble_eq_true rfl⟩ (fun H locs hP hD hS => ?_)
            refine lv_if_eq (tgt := 41) hx hb dM_apart_30 (by decide) (fun c30 => ?_) (fun c30 => ?_)
            · have hf := (if_pos c30).symm.trans hf
              refine lv_ldc2 (v := -1) hx hb hown (hts (.constantLong RM 52 (-1)) (by decide +kernel)) dM_apart_41 ?_
              exact kr_lret C0 hK hP hD hS (Option.some.inj hf) rfl dM_apart_44
            · have hf := (if_neg c30).symm.trans hf
              refine lv_aload_n hx hb dM_apart_33 rfl (lv_at hl 0 rfl) ?_
              refine lv_iload_n hx hb dM_apart_34 rfl (lv_at hl 2 rfl) ?_
              obtain ⟨v35, ev35, hf⟩ := kb1 hf
              refine kr_callVi (av := [.int x2]) ⟨hx, hb, hml, hown, hts⟩ (mM_inAll l D q k cI cJ _ fu σ x2 v35 ev35) (cwV 1 hts (kgood_V TM_good (by decide +kernel)) rfl rfl rfl (by decide +kernel) ⟨Nat.le_of_ble_eq_true rfl, Nat.le_of_ble_eq_true rfl⟩) hK hP hD hS hA (ci := 1) (q0 := 0) rfl rfl rfl hl.1 rfl (Nat.le_of_ble_eq_true rfl) dM_apart_35 ⟨Nat.le_of_ble_eq_true rfl, Nat.le_of_ble_eq_true rfl⟩ (fun H locs hP hD hS => ?_)
              refine lv_if_ne (tgt := 45) hx hb dM_apart_38 (by decide) (fun c38 => ?_) (fun c38 => ?_)
              · have hf := (if_neg c38).symm.trans hf
                refine lv_aload_n hx hb dM_apart_45 rfl (lv_at hl 0 rfl) ?_
                refine lv_iload_n hx hb dM_apart_46 rfl (lv_at hl 1 rfl) ?_
                obtain ⟨v47, ev47, hf⟩ := kb1 hf
                refine kr_callVi (av := [.int x1]) ⟨hx, hb, hml, hown, hts⟩ (mM_inAll l D q k cI cJ _ fu σ x1 v47 ev47) (cwV 1 hts (kgood_V TM_good (by decide +kernel)) rfl rfl rfl (by decide +kernel) ⟨Nat.le_of_ble_eq_true rfl, Nat.le_of_ble_eq_true rfl⟩) hK hP hD hS hA (ci := 1) (q0 := 0) rfl rfl rfl hl.1 rfl (Nat.le_of_ble_eq_true rfl) dM_apart_47 ⟨Nat.le_of_ble_eq_true rfl, Nat.le_of_ble_eq_true rfl⟩ (fun H locs hP hD hS => ?_)
                refine lv_i2l (v := v47.toInt64) hx hb dM_apart_50 rfl ?_
                refine lv_lstore (lv' := [(4, .long v47.toInt64), (0, .ref (q 0)), (1, .int x1), (2, .int x2), (3, .int x3)]) hx hb dM_apart_51 hl (by decide) rfl (fun ls hl => ?_)
                refine lv_aload_n hx hb dM_apart_53 rfl (lv_at hl 1 rfl) ?_
                refine lv_iload_n hx hb dM_apart_54 rfl (lv_at hl 3 rfl) ?_
                obtain ⟨v55, ev55, hf⟩ := kb1 hf
                refine kr_callVi (av := [.int x2]) ⟨hx, hb, hml, hown, hts⟩ (mM_inAll l D q k cI cJ _ fu σ x2 v55 ev55) (cwV 1 hts (kgood_V TM_good (by decide +kernel)) rfl rfl rfl (by decide +kernel) ⟨Nat.le_of_ble_eq_true rfl, Nat.le_of_ble_eq_true rfl⟩) hK hP hD hS hA (ci := 1) (q0 := 0) rfl rfl rfl hl.1 rfl (Nat.le_of_ble_eq_true rfl) dM_apart_55 ⟨Nat.le_of_ble_eq_true rfl, Nat.le_of_ble_eq_true rfl⟩ (fun H locs hP hD hS => ?_)
                refine lv_i2l (v := v55.toInt64) hx hb dM_apart_58 rfl ?_
                refine lv_lstore (lv' := [(6, .long v55.toInt64), (4, .long v47.toInt64), (0, .ref (q 0)), (1, .int x1), (2, .int x2), (3, .int x3)]) hx hb dM_apart_59 hl (by decide) rfl (fun ls hl => ?_)
                refine lv_lconst (v := 0) hx hb dM_apart_61 (by decide) ?_
                refine lv_lstore (lv' := [(8, .long (0 : Int64)), (6, .long v55.toInt64), (4, .long v47.toInt64), (0, .ref (q 0)), (1, .int x1), (2, .int x2), (3, .int x3)]) hx hb dM_apart_62 hl (by decide) rfl (fun ls hl => ?_)
                refine lv_iconst (v := 0) hx hb dM_apart_64 (by decide) ?_
                refine lv_istore (lv' := [(10, .int 0), (8, .long (0 : Int64)), (6, .long v55.toInt64), (4, .long v47.toInt64), (0, .ref (q 0)), (1, .int x1), (2, .int x2), (3, .int x3)]) hx hb dM_apart_65 hl (by decide) rfl (fun ls hl => ?_)
                exact tM_apart_67 C0 hK hA fu x1 x2 x3 v47.toInt64 v55.toInt64 (0 : Int64) 0 _ _ ls hf (lv_sub hl [4, 5, 6, 7, 3, 2, 1, 0] rfl) hP hD hS
              · have hf := (if_pos c38).symm.trans hf
                refine lv_ldc2 (v := -1) hx hb hown (hts (.constantLong RM 52 (-1)) (by decide +kernel)) dM_apart_41 ?_
                exact kr_lret C0 hK hP hD hS (Option.some.inj hf) rfl dM_apart_44
