theorem dM_init_0 : decode cM_init 0 = .ok (.aload_n 0, 1) := by decide +kernel
theorem dM_init_1 : decode cM_init 1 = .ok (.invokespecial 1, 3) := by decide +kernel
theorem dM_init_4 : decode cM_init 4 = .ok (.aload_n 0, 1) := by decide +kernel
theorem dM_init_5 : decode cM_init 5 = .ok (.sipush (240), 3) := by decide +kernel
theorem dM_init_8 : decode cM_init 8 = .ok (.newarray .int, 2) := by decide +kernel
theorem dM_init_10 : decode cM_init 10 = .ok (.putfield 7, 3) := by decide +kernel
theorem dM_init_13 : decode cM_init 13 = .ok (.aload_n 0, 1) := by decide +kernel
theorem dM_init_14 : decode cM_init 14 = .ok (.iconst (-1), 1) := by decide +kernel
theorem dM_init_15 : decode cM_init 15 = .ok (.putfield 13, 3) := by decide +kernel
theorem dM_init_18 : decode cM_init 18 = .ok (.aload_n 0, 1) := by decide +kernel
theorem dM_init_19 : decode cM_init 19 = .ok (.bipush (10), 2) := by decide +kernel
theorem dM_init_21 : decode cM_init 21 = .ok (.newarray .int, 2) := by decide +kernel
theorem dM_init_23 : decode cM_init 23 = .ok (.putfield 17, 3) := by decide +kernel
theorem dM_init_26 : decode cM_init 26 = .ok (.aload_n 0, 1) := by decide +kernel
theorem dM_init_27 : decode cM_init 27 = .ok (.bipush (10), 2) := by decide +kernel
theorem dM_init_29 : decode cM_init 29 = .ok (.newarray .int, 2) := by decide +kernel
theorem dM_init_31 : decode cM_init 31 = .ok (.putfield 20, 3) := by decide +kernel
theorem dM_init_34 : decode cM_init 34 = .ok (.aload_n 0, 1) := by decide +kernel
theorem dM_init_35 : decode cM_init 35 = .ok (.bipush (10), 2) := by decide +kernel
theorem dM_init_37 : decode cM_init 37 = .ok (.newarray .long, 2) := by decide +kernel
theorem dM_init_39 : decode cM_init 39 = .ok (.putfield 23, 3) := by decide +kernel
theorem dM_init_42 : decode cM_init 42 = .ok (.aload_n 0, 1) := by decide +kernel
theorem dM_init_43 : decode cM_init 43 = .ok (.bipush (36), 2) := by decide +kernel
theorem dM_init_45 : decode cM_init 45 = .ok (.newarray .int, 2) := by decide +kernel
theorem dM_init_47 : decode cM_init 47 = .ok (.putfield 27, 3) := by decide +kernel
theorem dM_init_50 : decode cM_init 50 = .ok (.aload_n 0, 1) := by decide +kernel
theorem dM_init_51 : decode cM_init 51 = .ok (.bipush (10), 2) := by decide +kernel
theorem dM_init_53 : decode cM_init 53 = .ok (.newarray .int, 2) := by decide +kernel
theorem dM_init_55 : decode cM_init 55 = .ok (.putfield 30, 3) := by decide +kernel
theorem dM_init_58 : decode cM_init 58 = .ok (.aload_n 0, 1) := by decide +kernel
theorem dM_init_59 : decode cM_init 59 = .ok (.bipush (10), 2) := by decide +kernel
theorem dM_init_61 : decode cM_init 61 = .ok (.newarray .int, 2) := by decide +kernel
theorem dM_init_63 : decode cM_init 63 = .ok (.putfield 33, 3) := by decide +kernel
theorem dM_init_66 : decode cM_init 66 = .ok (.aload_n 0, 1) := by decide +kernel
theorem dM_init_67 : decode cM_init 67 = .ok (.bipush (36), 2) := by decide +kernel
theorem dM_init_69 : decode cM_init 69 = .ok (.newarray .long, 2) := by decide +kernel
theorem dM_init_71 : decode cM_init 71 = .ok (.putfield 36, 3) := by decide +kernel
theorem dM_init_74 : decode cM_init 74 = .ok (.aload_n 0, 1) := by decide +kernel
theorem dM_init_75 : decode cM_init 75 = .ok (.iload_n 1, 1) := by decide +kernel
theorem dM_init_76 : decode cM_init 76 = .ok (.iconst 1, 1) := by decide +kernel
theorem dM_init_77 : decode cM_init 77 = .ok (.if_icmp .ge (7), 3) := by decide +kernel
theorem dM_init_80 : decode cM_init 80 = .ok (.iconst 1, 1) := by decide +kernel
theorem dM_init_81 : decode cM_init 81 = .ok (.goto (15), 3) := by decide +kernel
theorem dM_init_84 : decode cM_init 84 = .ok (.iload_n 1, 1) := by decide +kernel
theorem dM_init_85 : decode cM_init 85 = .ok (.bipush (10), 2) := by decide +kernel
theorem dM_init_87 : decode cM_init 87 = .ok (.if_icmp .le (8), 3) := by decide +kernel
theorem dM_init_90 : decode cM_init 90 = .ok (.bipush (10), 2) := by decide +kernel
theorem dM_init_92 : decode cM_init 92 = .ok (.goto (4), 3) := by decide +kernel
theorem dM_init_95 : decode cM_init 95 = .ok (.iload_n 1, 1) := by decide +kernel
theorem dM_init_96 : decode cM_init 96 = .ok (.putfield 39, 3) := by decide +kernel
theorem dM_init_99 : decode cM_init 99 = .ok (.aload_n 0, 1) := by decide +kernel
theorem dM_init_100 : decode cM_init 100 = .ok (.iload_n 2, 1) := by decide +kernel
theorem dM_init_101 : decode cM_init 101 = .ok (.iconst 1, 1) := by decide +kernel
theorem dM_init_102 : decode cM_init 102 = .ok (.if_icmp .ge (7), 3) := by decide +kernel
theorem dM_init_105 : decode cM_init 105 = .ok (.iconst 1, 1) := by decide +kernel
theorem dM_init_106 : decode cM_init 106 = .ok (.goto (15), 3) := by decide +kernel
theorem dM_init_109 : decode cM_init 109 = .ok (.iload_n 2, 1) := by decide +kernel
theorem dM_init_110 : decode cM_init 110 = .ok (.bipush (6), 2) := by decide +kernel
theorem dM_init_112 : decode cM_init 112 = .ok (.if_icmp .le (8), 3) := by decide +kernel
theorem dM_init_115 : decode cM_init 115 = .ok (.bipush (6), 2) := by decide +kernel
theorem dM_init_117 : decode cM_init 117 = .ok (.goto (4), 3) := by decide +kernel
theorem dM_init_120 : decode cM_init 120 = .ok (.iload_n 2, 1) := by decide +kernel
theorem dM_init_121 : decode cM_init 121 = .ok (.putfield 42, 3) := by decide +kernel
theorem dM_init_124 : decode cM_init 124 = .ok (.iconst 0, 1) := by decide +kernel
theorem dM_init_125 : decode cM_init 125 = .ok (.istore_n 3, 1) := by decide +kernel
theorem dM_init_126 : decode cM_init 126 = .ok (.iload_n 3, 1) := by decide +kernel
theorem dM_init_127 : decode cM_init 127 = .ok (.bipush (10), 2) := by decide +kernel
theorem dM_init_129 : decode cM_init 129 = .ok (.if_icmp .ge (23), 3) := by decide +kernel
theorem dM_init_132 : decode cM_init 132 = .ok (.aload_n 0, 1) := by decide +kernel
theorem dM_init_133 : decode cM_init 133 = .ok (.getfield 17, 3) := by decide +kernel
theorem dM_init_136 : decode cM_init 136 = .ok (.iload_n 3, 1) := by decide +kernel
theorem dM_init_137 : decode cM_init 137 = .ok (.iload_n 3, 1) := by decide +kernel
theorem dM_init_138 : decode cM_init 138 = .ok (.iastore, 1) := by decide +kernel
theorem dM_init_139 : decode cM_init 139 = .ok (.aload_n 0, 1) := by decide +kernel
theorem dM_init_140 : decode cM_init 140 = .ok (.getfield 20, 3) := by decide +kernel
theorem dM_init_143 : decode cM_init 143 = .ok (.iload_n 3, 1) := by decide +kernel
theorem dM_init_144 : decode cM_init 144 = .ok (.iconst (-1), 1) := by decide +kernel
theorem dM_init_145 : decode cM_init 145 = .ok (.iastore, 1) := by decide +kernel
theorem dM_init_146 : decode cM_init 146 = .ok (.iinc 3 (1), 3) := by decide +kernel
theorem dM_init_149 : decode cM_init 149 = .ok (.goto (-23), 3) := by decide +kernel
theorem dM_init_152 : decode cM_init 152 = .ok (.iconst 0, 1) := by decide +kernel
theorem dM_init_153 : decode cM_init 153 = .ok (.istore_n 3, 1) := by decide +kernel
theorem dM_init_154 : decode cM_init 154 = .ok (.iload_n 3, 1) := by decide +kernel
theorem dM_init_155 : decode cM_init 155 = .ok (.bipush (6), 2) := by decide +kernel
theorem dM_init_157 : decode cM_init 157 = .ok (.if_icmp .ge (22), 3) := by decide +kernel
theorem dM_init_160 : decode cM_init 160 = .ok (.aload_n 0, 1) := by decide +kernel
theorem dM_init_161 : decode cM_init 161 = .ok (.getfield 27, 3) := by decide +kernel
theorem dM_init_164 : decode cM_init 164 = .ok (.bipush (6), 2) := by decide +kernel
theorem dM_init_166 : decode cM_init 166 = .ok (.iload_n 3, 1) := by decide +kernel
theorem dM_init_167 : decode cM_init 167 = .ok (.imul, 1) := by decide +kernel
theorem dM_init_168 : decode cM_init 168 = .ok (.iload_n 3, 1) := by decide +kernel
theorem dM_init_169 : decode cM_init 169 = .ok (.iadd, 1) := by decide +kernel
theorem dM_init_170 : decode cM_init 170 = .ok (.bipush (20), 2) := by decide +kernel
theorem dM_init_172 : decode cM_init 172 = .ok (.iastore, 1) := by decide +kernel
theorem dM_init_173 : decode cM_init 173 = .ok (.iinc 3 (1), 3) := by decide +kernel
theorem dM_init_176 : decode cM_init 176 = .ok (.goto (-22), 3) := by decide +kernel
theorem dM_init_179 : decode cM_init 179 = .ok (.return_, 1) := by decide +kernel
def fM_init_154 (fu : Nat) (k : kM) : Nat → sM → Int32 → Option sM
  | 0, _, _ => none
  | n + 1, σ, x3 =>
    if 6 ≤ x3 then
      some σ
    else
      (kstI (kM_n k 4) (sM_errors σ) ((6 * x3) + x3) 20).bind fun a172 =>
      fM_init_154 fu k n (uM_errors σ a172) (x3 + 1)
def fM_init_126 (fu : Nat) (k : kM) : Nat → sM → Int32 → Option sM
  | 0, _, _ => none
  | n + 1, σ, x3 =>
    if 10 ≤ x3 then
      fM_init_154 fu k fu σ 0
    else
      (kstI (kM_n k 1) (sM_group σ) x3 x3).bind fun a138 =>
      (kstI (kM_n k 2) (sM_filler (uM_group σ a138)) x3 (-1)).bind fun a145 =>
      fM_init_126 fu k n (uM_filler (uM_group σ a138) a145) (x3 + 1)
def lenM : Nat → Nat := fun j => ([240, 10, 10, 10, 36, 10, 10, 36] : List Nat).getD j 0
def s0M : sM := (fun _ => (-1), fun _ => 0, fun _ _ => 0, fun _ _ => 0)
def clampM (x b : Int32) : Int32 := if 1 ≤ x then (if x ≤ b then x else b) else 1
set_option maxHeartbeats 400000 in
set_option maxRecDepth 100000 in
theorem tM_init_154 {p : Program} {l : Launch} {e : Env} {s : State} {m : MethodId} {args : Array Value} {below : List Frame} {meth : Method} {c : Code} {D : va_G} {A : Nat → Prop} {q : Nat → Nat} {k : kM} {cI cJ : ClassId} {σ' : sM} {fu : Nat} (C0 : Cx p s m args meth c cM_init 4 none RM TM) (hK : va_K D cl0 [(cI, .int), (cJ, .long)] s) (hA : ∀ z, s.heap.size ≤ z → A z) : ∀ n : Nat, ∀ (σ : sM) (x3 : Int32)(H : Heap) (locs : List Loc) (ls : Array Slot), fM_init_154 fu k n σ x3 = some σ' → lv_has ls 4 [(0, .ref (q 0)), (3, .int x3)] → va_P D cl0 (wdM q k cI cJ σ) H → va_D A (wdM q k cI cJ σ) → va_S A s.heap H locs → W p l e ({ frames := 1, cells := 8, slots := 362, locals := 21 }) s m args below meth c H locs 8 362 (MQ below (kQv D cl0 [(cI, .int), (cJ, .long)] (wdM q k cI cJ) A σ') args s 8 362 A) (F0 m 154 ls []) := by
  obtain ⟨hx, hb, hr, hml, hown, hts, hlocks⟩ := id C0
  intro n
  induction n with
  | zero =>
    intro σ x3 H locs ls hf hl hP hD hS
    cases hf
  | succ n ih =>
    intro σ x3 H locs ls hf hl hP hD hS
    rw [fM_init_154] at hf
    refine lv_iload_n hx hb dM_init_154 rfl (lv_at hl 1 rfl) ?_
    refine lv_bipush (v := 6) hx hb dM_init_155 (by decide) ?_
    refine lv_icmp_ge (tgt := 179) hx hb dM_init_157 (by decide) (fun c157 => ?_) (fun c157 => ?_)
    · have hf := (if_pos c157).symm.trans hf
      exact kr_vret C0 hK hP hD hS (Option.some.inj hf) dM_init_179
    · have hf := (if_neg c157).symm.trans hf
      refine lv_aload_n hx hb dM_init_160 rfl (lv_at hl 0 rfl) ?_
      refine gM_errors hx hb hown hts hK hP dM_init_161 ?_
      refine lv_bipush (v := 6) hx hb dM_init_164 (by decide) ?_
      refine lv_iload_n hx hb dM_init_166 rfl (lv_at hl 1 rfl) ?_
      refine lv_imul hx hb dM_init_167 ?_
      refine lv_iload_n hx hb dM_init_168 rfl (lv_at hl 1 rfl) ?_
      refine lv_iadd hx hb dM_init_169 ?_
      refine lv_bipush (v := 20) hx hb dM_init_170 (by decide) ?_
      obtain ⟨a172, ea172, hf⟩ := kb1 hf
      refine kr_iastore (σ' := (uM_errors σ a172)) hx hb hK hP hD hS 5 0 rfl rfl ea172 (wM_errors q k cI cJ _ _) dM_init_172 (fun H locs hP hD hS => ?_)
      generalize (uM_errors σ a172) = s172 at hf hP hD
      refine lv_iinc (v := (x3 + 1)) (lv' := [(3, .int (x3 + 1)), (0, .ref (q 0))]) hx hb dM_init_173 hl (k := 1) rfl rfl (by decide) rfl (fun ls hl => ?_)
      refine lv_goto (tgt := 154) hx hb dM_init_176 (by decide) ?_
      exact ih s172 (x3 + 1) _ _ ls hf (lv_sub hl [1, 0] rfl) hP hD hS
set_option maxHeartbeats 400000 in
set_option maxRecDepth 100000 in
theorem tM_init_126 {p : Program} {l : Launch} {e : Env} {s : State} {m : MethodId} {args : Array Value} {below : List Frame} {meth : Method} {c : Code} {D : va_G} {A : Nat → Prop} {q : Nat → Nat} {k : kM} {cI cJ : ClassId} {σ' : sM} {fu : Nat} (C0 : Cx p s m args meth c cM_init 4 none RM TM) (hK : va_K D cl0 [(cI, .int), (cJ, .long)] s) (hA : ∀ z, s.heap.size ≤ z → A z) : ∀ n : Nat, ∀ (σ : sM) (x3 : Int32)(H : Heap) (locs : List Loc) (ls : Array Slot), fM_init_126 fu k n σ x3 = some σ' → lv_has ls 4 [(0, .ref (q 0)), (3, .int x3)] → va_P D cl0 (wdM q k cI cJ σ) H → va_D A (wdM q k cI cJ σ) → va_S A s.heap H locs → W p l e ({ frames := 1, cells := 8, slots := 362, locals := 21 }) s m args below meth c H locs 8 362 (MQ below (kQv D cl0 [(cI, .int), (cJ, .long)] (wdM q k cI cJ) A σ') args s 8 362 A) (F0 m 126 ls []) := by
  obtain ⟨hx, hb, hr, hml, hown, hts, hlocks⟩ := id C0
  intro n
  induction n with
  | zero =>
    intro σ x3 H locs ls hf hl hP hD hS
    cases hf
  | succ n ih =>
    intro σ x3 H locs ls hf hl hP hD hS
    rw [fM_init_126] at hf
    refine lv_iload_n hx hb dM_init_126 rfl (lv_at hl 1 rfl) ?_
    refine lv_bipush (v := 10) hx hb dM_init_127 (by decide) ?_
    refine lv_icmp_ge (tgt := 152) hx hb dM_init_129 (by decide) (fun c129 => ?_) (fun c129 => ?_)
    · have hf := (if_pos c129).symm.trans hf
      refine lv_iconst (v := 0) hx hb dM_init_152 (by decide) ?_
      refine lv_istore_n (lv' := [(3, .int 0), (0, .ref (q 0))]) hx hb dM_init_153 rfl hl (by decide) rfl (fun ls hl => ?_)
      exact tM_init_154 C0 hK hA fu σ 0 _ _ ls hf (lv_sub hl [1, 0] rfl) hP hD hS
    · have hf := (if_neg c129).symm.trans hf
      refine lv_aload_n hx hb dM_init_132 rfl (lv_at hl 0 rfl) ?_
      refine gM_group hx hb hown hts hK hP dM_init_133 ?_
      refine lv_iload_n hx hb dM_init_136 rfl (lv_at hl 1 rfl) ?_
      refine lv_iload_n hx hb dM_init_137 rfl (lv_at hl 1 rfl) ?_
      obtain ⟨a138, ea138, hf⟩ := kb1 hf
      refine kr_iastore (σ' := (uM_group σ a138)) hx hb hK hP hD hS 2 0 rfl rfl ea138 (wM_group q k cI cJ _ _) dM_init_138 (fun H locs hP hD hS => ?_)
      generalize (uM_group σ a138) = s138 at hf hP hD
      refine lv_aload_n hx hb dM_init_139 rfl (lv_at hl 0 rfl) ?_
      refine gM_filler hx hb hown hts hK hP dM_init_140 ?_
      refine lv_iload_n hx hb dM_init_143 rfl (lv_at hl 1 rfl) ?_
      refine lv_iconst (v := (-1)) hx hb dM_init_144 (by decide) ?_
      obtain ⟨a145, ea145, hf⟩ := kb1 hf
      refine kr_iastore (σ' := (uM_filler s138 a145)) hx hb hK hP hD hS 3 0 rfl rfl ea145 (wM_filler q k cI cJ _ _) dM_init_145 (fun H locs hP hD hS => ?_)
      generalize (uM_filler s138 a145) = s145 at hf hP hD
      refine lv_iinc (v := (x3 + 1)) (lv' := [(3, .int (x3 + 1)), (0, .ref (q 0))]) hx hb dM_init_146 hl (k := 1) rfl rfl (by decide) rfl (fun ls hl => ?_)
      refine lv_goto (tgt := 126) hx hb dM_init_149 (by decide) ?_
      exact ih s145 (x3 + 1) _ _ ls hf (lv_sub hl [1, 0] rfl) hP hD hS
set_option maxHeartbeats 400000 in
set_option maxRecDepth 100000 in
theorem tM_init_121 {p : Program} {l : Launch} {e : Env} {s : State} {m : MethodId} {args : Array Value} {below : List Frame} {meth : Method} {c : Code} {D : va_G} {A : Nat → Prop} {q : Nat → Nat} {cI cJ : ClassId} {σ' : sM} {fu : Nat} (C0 : Cx p s m args meth c cM_init 4 none RM TM) (hin : meth.name = "<init>") (hK : va_K D cl0 [(cI, .int), (cJ, .long)] s) (hA : ∀ z, s.heap.size ≤ z → A z) (c1 : Int32) : ∀ (y x1 x2 : Int32) (H : Heap) (locs : List Loc) (ls : Array Slot), fM_init_126 fu (c1, y, lenM) fu s0M 0 = some σ' → lv_has ls 4 [(0, .ref (q 0)), (1, .int x1), (2, .int x2)] → va_P D cl0 (wdM q (c1, 0, lenM) cI cJ s0M) H → va_D A (wdM q (c1, 0, lenM) cI cJ s0M) → va_S A s.heap H locs → W p l e ({ frames := 1, cells := 8, slots := 362, locals := 21 }) s m args below meth c H locs 8 362 (MQ below (kQv D cl0 [(cI, .int), (cJ, .long)] (wdM q (c1, y, lenM) cI cJ) A σ') args s 8 362 A) (F0 m 121 ls [.int y, .ref (q 0)]) := by
  obtain ⟨hx, hb, hr, hml, hown, hts, hlocks⟩ := id C0
  intro y x1 x2 H locs ls hf hl hP hD hS
  refine va_putF (D := D) (ci := 1) (v := .int y) (ty := .int) (C := RM) (T := FM) (N := 13) hx hb hts iM_u tyM tyM_ok nM_ok hown hK hP hD hS 0 rfl rfl 1 (by decide) (hts (.fieldLink RM 42 "AgeKeysModel" "ages" "I") (by decide +kernel)) (fun _ h9 => h9) rfl hin rfl (by decide +kernel) rfl rfl (Nat.le_of_ble_eq_true rfl) dM_init_121 (fun H locs hP hD hS => ?_)
  have hP : va_P D cl0 (wdM q (c1, y, lenM) cI cJ s0M) H := hP
  have hD : va_D A (wdM q (c1, y, lenM) cI cJ s0M) := hD
  refine lv_iconst (v := 0) hx hb dM_init_124 (by decide) ?_
  refine lv_istore_n (lv' := [(3, .int 0), (0, .ref (q 0)), (1, .int x1), (2, .int x2)]) hx hb dM_init_125 rfl hl (by decide) rfl (fun ls hl => ?_)
  exact tM_init_126 C0 hK hA fu s0M 0 _ _ ls hf (lv_sub hl [1, 0] rfl) hP hD hS
set_option maxHeartbeats 400000 in
set_option maxRecDepth 100000 in
theorem tM_init_96 {p : Program} {l : Launch} {e : Env} {s : State} {m : MethodId} {args : Array Value} {below : List Frame} {meth : Method} {c : Code} {D : va_G} {A : Nat → Prop} {q : Nat → Nat} {cI cJ : ClassId} {σ' : sM} {fu : Nat} (C0 : Cx p s m args meth c cM_init 4 none RM TM) (hin : meth.name = "<init>") (hK : va_K D cl0 [(cI, .int), (cJ, .long)] s) (hA : ∀ z, s.heap.size ≤ z → A z) : ∀ (y x1 x2 : Int32) (H : Heap) (locs : List Loc) (ls : Array Slot), fM_init_126 fu (y, clampM x2 6, lenM) fu s0M 0 = some σ' → lv_has ls 4 [(0, .ref (q 0)), (1, .int x1), (2, .int x2)] → va_P D cl0 (wdM q (0, 0, lenM) cI cJ s0M) H → va_D A (wdM q (0, 0, lenM) cI cJ s0M) → va_S A s.heap H locs → W p l e ({ frames := 1, cells := 8, slots := 362, locals := 21 }) s m args below meth c H locs 8 362 (MQ below (kQv D cl0 [(cI, .int), (cJ, .long)] (wdM q (y, clampM x2 6, lenM) cI cJ) A σ') args s 8 362 A) (F0 m 96 ls [.int y, .ref (q 0)]) := by
  obtain ⟨hx, hb, hr, hml, hown, hts, hlocks⟩ := id C0
  intro y x1 x2 H locs ls hf hl hP hD hS
  refine va_putF (D := D) (ci := 1) (v := .int y) (ty := .int) (C := RM) (T := FM) (N := 13) hx hb hts iM_u tyM tyM_ok nM_ok hown hK hP hD hS 0 rfl rfl 0 (by decide) (hts (.fieldLink RM 39 "AgeKeysModel" "classes" "I") (by decide +kernel)) (fun _ h9 => h9) rfl hin rfl (by decide +kernel) rfl rfl (Nat.le_of_ble_eq_true rfl) dM_init_96 (fun H locs hP hD hS => ?_)
  have hP : va_P D cl0 (wdM q (y, 0, lenM) cI cJ s0M) H := hP
  have hD : va_D A (wdM q (y, 0, lenM) cI cJ s0M) := hD
  have fin : ∀ z : Int32, clampM x2 6 = z → W p l e ({ frames := 1, cells := 8, slots := 362, locals := 21 }) s m args below meth c H locs 8 362 (MQ below (kQv D cl0 [(cI, .int), (cJ, .long)] (wdM q (y, clampM x2 6, lenM) cI cJ) A σ') args s 8 362 A) (F0 m 121 ls [.int z, .ref (q 0)]) := fun z hz => by
    rw [hz] at hf ⊢
    exact tM_init_121 C0 hin hK hA y z x1 x2 _ _ ls hf hl hP hD hS
  refine lv_aload_n hx hb dM_init_99 rfl (lv_at hl 0 rfl) ?_
  refine lv_iload_n hx hb dM_init_100 rfl (lv_at hl 2 rfl) ?_
  refine lv_iconst (v := 1) hx hb dM_init_101 (by decide) ?_
  refine lv_icmp_ge (tgt := 109) hx hb dM_init_102 (by decide) (fun ca => ?_) (fun ca => ?_)
  · refine lv_iload_n hx hb dM_init_109 rfl (lv_at hl 2 rfl) ?_
    refine lv_bipush (v := 6) hx hb dM_init_110 (by decide) ?_
    refine lv_icmp_le (tgt := 120) hx hb dM_init_112 (by decide) (fun cb => ?_) (fun cb => ?_)
    · refine lv_iload_n hx hb dM_init_120 rfl (lv_at hl 2 rfl) ?_
      exact fin x2 (by unfold clampM; rw [if_pos ca, if_pos cb])
    · refine lv_bipush (v := 6) hx hb dM_init_115 (by decide) ?_
      refine lv_goto (tgt := 121) hx hb dM_init_117 (by decide) ?_
      exact fin 6 (by unfold clampM; rw [if_pos ca, if_neg cb])
  · refine lv_iconst (v := 1) hx hb dM_init_105 (by decide) ?_
    refine lv_goto (tgt := 121) hx hb dM_init_106 (by decide) ?_
    exact fin 1 (by unfold clampM; rw [if_neg ca])
set_option maxHeartbeats 4000000 in
set_option maxRecDepth 100000 in
theorem mM_init (l : Launch) (D : va_G) (cI cJ : ClassId) (sz fu h0 : Nat) (x1 x2 : Int32) (σ' : sM) (hf : fM_init_126 fu (clampM x1 10, clampM x2 6, lenM) fu s0M 0 = some σ') : Met l yM_init (.code yM_init cM_init 4 none :: TM) ({ frames := 1, cells := 8, slots := 362, locals := 21 }) (kPre D cl0 [(cI, .int), (cJ, .long)] (fun _ : Unit => [(h0, .inr (1, [.int 0, .int 0, .null, .int 0, .null, .null, .null, .null, .null, .null, .null, .long 0, .long 0]))]) sz () [.ref h0, .int x1, .int x2]) (va_Qv (fun q : Nat → Nat => q 0 = h0) (fun q t => va_P D cl0 (wdM q (clampM x1 10, clampM x2 6, lenM) cI cJ σ') t.heap ∧ va_K D cl0 [(cI, .int), (cJ, .long)] t ∧ va_D (va_A [(h0, .inr (1, [.int 0, .int 0, .null, .int 0, .null, .null, .null, .null, .null, .null, .null, .long 0, .long 0]))] sz) (wdM q (clampM x1 10, clampM x2 6, lenM) cI cJ σ')) (va_A [(h0, .inr (1, [.int 0, .int 0, .null, .int 0, .null, .null, .null, .null, .null, .null, .null, .long 0, .long 0]))] sz)) 8 362 (va_A [(h0, .inr (1, [.int 0, .int 0, .null, .int 0, .null, .null, .null, .null, .null, .null, .null, .long 0, .long 0]))] sz) := by
  refine kr_startI (own := RM) (by decide) rfl (Nat.le_of_ble_eq_true rfl) ?_
  intro p e s m args below meth c ls C0 hin hsz hK hP hD hl
  subst hsz
  obtain ⟨hx, hb, hr, hml, hown, hts, hlocks⟩ := id C0
  have hP : va_P D cl0 [(h0, .inr (1, [.int 0, .int 0, .null, .int 0, .null, .null, .null, .null, .null, .null, .null, .long 0, .long 0]))] s.heap := hP
  have hD : va_D (va_A [(h0, .inr (1, [.int 0, .int 0, .null, .int 0, .null, .null, .null, .null, .null, .null, .null, .long 0, .long 0]))] s.heap.size) [(h0, .inr (1, [.int 0, .int 0, .null, .int 0, .null, .null, .null, .null, .null, .null, .null, .long 0, .long 0]))] := hD
  have hA : ∀ z : Nat, s.heap.size ≤ z → va_A [(h0, .inr (1, [.int 0, .int 0, .null, .int 0, .null, .null, .null, .null, .null, .null, .null, .long 0, .long 0]))] s.heap.size z := fun z h => Or.inr h
  change W p l e _ s m args below meth c s.heap [] 0 0 (MQ below (va_Qv (fun q : Nat → Nat => q 0 = h0) (fun q t => va_P D cl0 (wdM q (clampM x1 10, clampM x2 6, lenM) cI cJ σ') t.heap ∧ va_K D cl0 [(cI, .int), (cJ, .long)] t ∧ va_D (va_A [(h0, .inr (1, [.int 0, .int 0, .null, .int 0, .null, .null, .null, .null, .null, .null, .null, .long 0, .long 0]))] s.heap.size) (wdM q (clampM x1 10, clampM x2 6, lenM) cI cJ σ')) (va_A [(h0, .inr (1, [.int 0, .int 0, .null, .int 0, .null, .null, .null, .null, .null, .null, .null, .long 0, .long 0]))] s.heap.size)) args s 8 362 (va_A [(h0, .inr (1, [.int 0, .int 0, .null, .int 0, .null, .null, .null, .null, .null, .null, .null, .long 0, .long 0]))] s.heap.size)) _
  generalize va_A [(h0, .inr (1, [.int 0, .int 0, .null, .int 0, .null, .null, .null, .null, .null, .null, .null, .long 0, .long 0]))] s.heap.size = A0 at hD hA ⊢
  have hS : va_S A0 s.heap s.heap [] := va_S.rf
  have hl : lv_has ls 4 [(0, .ref h0), (1, .int x1), (2, .int x2)] := hl
  refine lv_aload_n hx hb dM_init_0 rfl (lv_at hl 0 rfl) ?_
  refine W.objInit hx hb hown (hts (.methodLink RM 1 objectInit) (by decide +kernel)) (hts (.instanceMethod objectInit) (by decide +kernel)) (hts (.code objectInit ⟨#[0xb1]⟩ 1 none) (by decide +kernel)) rfl (by rw [hml]; exact hl.1) rfl dM_init_1 (Nat.le_of_ble_eq_true rfl) (Nat.le_of_ble_eq_true rfl) ?_
  refine W.eq (g2 := F0 m 4 ls []) rfl ?_
  refine lv_aload_n hx hb dM_init_4 rfl (lv_at hl 0 rfl) ?_
  refine lv_sipush (v := 240) hx hb dM_init_5 (by decide) ?_
  refine lv_topi (fun n8 e8 => ?_)
  obtain rfl : n8 = nI (240) := e8.trans rfl
  have b8 : 240 ≤ 240 := (by omega)
  refine ki_newI (N' := 240) hx hb (hts (.arrayClass .int) (by decide +kernel)) hK hP hD hS hA (by omega) (Nat.le_of_ble_eq_true rfl) (show 0 + 240 ≤ 362 by omega) dM_init_8 (fun q1 H hP hD hS => ?_)
  have hP : va_P D cl0 [(h0, .inr (1, [.int 0, .int 0, .null, .int 0, .null, .null, .null, .null, .null, .null, .null, .long 0, .long 0])), (q1, .inl (cI, 240, .inl (fun _ => 0)))] H := hP
  have hD : va_D A0 [(h0, .inr (1, [.int 0, .int 0, .null, .int 0, .null, .null, .null, .null, .null, .null, .null, .long 0, .long 0])), (q1, .inl (cI, 240, .inl (fun _ => 0)))] := hD
  refine W.widen (k := 1) (n := 240) (by omega) (by omega) ?_
  refine va_putF (D := D) (ci := 1) (v := .ref q1) (ty := (.array .int)) (C := RM) (T := FM) (N := 13) hx hb hts iM_u tyM tyM_ok nM_ok hown hK hP hD hS 0 rfl rfl 2 (by decide) (hts (.fieldLink RM 7 "AgeKeysModel" "counts" "[I") (by decide +kernel)) (fun _ h9 => h9) rfl hin rfl (by decide +kernel) rfl rfl (Nat.le_of_ble_eq_true rfl) dM_init_10 (fun H locs hP hD hS => ?_)
  have hP : va_P D cl0 [(h0, .inr (1, [.int 0, .int 0, .ref q1, .int 0, .null, .null, .null, .null, .null, .null, .null, .long 0, .long 0])), (q1, .inl (cI, 240, .inl (fun _ => 0)))] H := hP
  have hD : va_D A0 [(h0, .inr (1, [.int 0, .int 0, .ref q1, .int 0, .null, .null, .null, .null, .null, .null, .null, .long 0, .long 0])), (q1, .inl (cI, 240, .inl (fun _ => 0)))] := hD
  refine lv_aload_n hx hb dM_init_13 rfl (lv_at hl 0 rfl) ?_
  refine lv_iconst (v := (-1)) hx hb dM_init_14 (by decide) ?_
  refine va_put (D := D) (ci := 1) (v := .int (-1)) (ty := .int) (C := RM) (T := FM) (N := 13) hx hb hts iM_u tyM tyM_ok nM_ok hown hK hP hD hS 0 rfl rfl 3 (by decide) (hts (.fieldLink RM 13 "AgeKeysModel" "chosen" "I") (by decide +kernel)) (fun _ h9 => h9) rfl (by decide +kernel) rfl rfl (Nat.le_of_ble_eq_true rfl) dM_init_15 (fun H locs hP hD hS => ?_)
  have hP : va_P D cl0 [(h0, .inr (1, [.int 0, .int 0, .ref q1, .int (-1), .null, .null, .null, .null, .null, .null, .null, .long 0, .long 0])), (q1, .inl (cI, 240, .inl (fun _ => 0)))] H := hP
  have hD : va_D A0 [(h0, .inr (1, [.int 0, .int 0, .ref q1, .int (-1), .null, .null, .null, .null, .null, .null, .null, .long 0, .long 0])), (q1, .inl (cI, 240, .inl (fun _ => 0)))] := hD
  refine lv_aload_n hx hb dM_init_18 rfl (lv_at hl 0 rfl) ?_
  refine lv_bipush (v := 10) hx hb dM_init_19 (by decide) ?_
  refine lv_topi (fun n21 e21 => ?_)
  obtain rfl : n21 = nI (10) := e21.trans rfl
  have b21 : 10 ≤ 10 := (by omega)
  refine ki_newI (N' := 10) hx hb (hts (.arrayClass .int) (by decide +kernel)) hK hP hD hS hA (by omega) (Nat.le_of_ble_eq_true rfl) (show 240 + 10 ≤ 362 by omega) dM_init_21 (fun q2 H hP hD hS => ?_)
  have hP : va_P D cl0 [(h0, .inr (1, [.int 0, .int 0, .ref q1, .int (-1), .null, .null, .null, .null, .null, .null, .null, .long 0, .long 0])), (q1, .inl (cI, 240, .inl (fun _ => 0))), (q2, .inl (cI, 10, .inl (fun _ => 0)))] H := hP
  have hD : va_D A0 [(h0, .inr (1, [.int 0, .int 0, .ref q1, .int (-1), .null, .null, .null, .null, .null, .null, .null, .long 0, .long 0])), (q1, .inl (cI, 240, .inl (fun _ => 0))), (q2, .inl (cI, 10, .inl (fun _ => 0)))] := hD
  refine W.widen (k := 2) (n := 250) (by omega) (by omega) ?_
  refine va_putF (D := D) (ci := 1) (v := .ref q2) (ty := (.array .int)) (C := RM) (T := FM) (N := 13) hx hb hts iM_u tyM tyM_ok nM_ok hown hK hP hD hS 0 rfl rfl 4 (by decide) (hts (.fieldLink RM 17 "AgeKeysModel" "group" "[I") (by decide +kernel)) (fun _ h9 => h9) rfl hin rfl (by decide +kernel) rfl rfl (Nat.le_of_ble_eq_true rfl) dM_init_23 (fun H locs hP hD hS => ?_)
  have hP : va_P D cl0 [(h0, .inr (1, [.int 0, .int 0, .ref q1, .int (-1), .ref q2, .null, .null, .null, .null, .null, .null, .long 0, .long 0])), (q1, .inl (cI, 240, .inl (fun _ => 0))), (q2, .inl (cI, 10, .inl (fun _ => 0)))] H := hP
  have hD : va_D A0 [(h0, .inr (1, [.int 0, .int 0, .ref q1, .int (-1), .ref q2, .null, .null, .null, .null, .null, .null, .long 0, .long 0])), (q1, .inl (cI, 240, .inl (fun _ => 0))), (q2, .inl (cI, 10, .inl (fun _ => 0)))] := hD
  refine lv_aload_n hx hb dM_init_26 rfl (lv_at hl 0 rfl) ?_
  refine lv_bipush (v := 10) hx hb dM_init_27 (by decide) ?_
  refine lv_topi (fun n29 e29 => ?_)
  obtain rfl : n29 = nI (10) := e29.trans rfl
  have b29 : 10 ≤ 10 := (by omega)
  refine ki_newI (N' := 10) hx hb (hts (.arrayClass .int) (by decide +kernel)) hK hP hD hS hA (by omega) (Nat.le_of_ble_eq_true rfl) (show 250 + 10 ≤ 362 by omega) dM_init_29 (fun q3 H hP hD hS => ?_)
  have hP : va_P D cl0 [(h0, .inr (1, [.int 0, .int 0, .ref q1, .int (-1), .ref q2, .null, .null, .null, .null, .null, .null, .long 0, .long 0])), (q1, .inl (cI, 240, .inl (fun _ => 0))), (q2, .inl (cI, 10, .inl (fun _ => 0))), (q3, .inl (cI, 10, .inl (fun _ => 0)))] H := hP
  have hD : va_D A0 [(h0, .inr (1, [.int 0, .int 0, .ref q1, .int (-1), .ref q2, .null, .null, .null, .null, .null, .null, .long 0, .long 0])), (q1, .inl (cI, 240, .inl (fun _ => 0))), (q2, .inl (cI, 10, .inl (fun _ => 0))), (q3, .inl (cI, 10, .inl (fun _ => 0)))] := hD
  refine W.widen (k := 3) (n := 260) (by omega) (by omega) ?_
  refine va_putF (D := D) (ci := 1) (v := .ref q3) (ty := (.array .int)) (C := RM) (T := FM) (N := 13) hx hb hts iM_u tyM tyM_ok nM_ok hown hK hP hD hS 0 rfl rfl 5 (by decide) (hts (.fieldLink RM 20 "AgeKeysModel" "filler" "[I") (by decide +kernel)) (fun _ h9 => h9) rfl hin rfl (by decide +kernel) rfl rfl (Nat.le_of_ble_eq_true rfl) dM_init_31 (fun H locs hP hD hS => ?_)
  have hP : va_P D cl0 [(h0, .inr (1, [.int 0, .int 0, .ref q1, .int (-1), .ref q2, .ref q3, .null, .null, .null, .null, .null, .long 0, .long 0])), (q1, .inl (cI, 240, .inl (fun _ => 0))), (q2, .inl (cI, 10, .inl (fun _ => 0))), (q3, .inl (cI, 10, .inl (fun _ => 0)))] H := hP
  have hD : va_D A0 [(h0, .inr (1, [.int 0, .int 0, .ref q1, .int (-1), .ref q2, .ref q3, .null, .null, .null, .null, .null, .long 0, .long 0])), (q1, .inl (cI, 240, .inl (fun _ => 0))), (q2, .inl (cI, 10, .inl (fun _ => 0))), (q3, .inl (cI, 10, .inl (fun _ => 0)))] := hD
  refine lv_aload_n hx hb dM_init_34 rfl (lv_at hl 0 rfl) ?_
  refine lv_bipush (v := 10) hx hb dM_init_35 (by decide) ?_
  refine lv_topi (fun n37 e37 => ?_)
  obtain rfl : n37 = nI (10) := e37.trans rfl
  have b37 : 10 ≤ 10 := (by omega)
  refine ki_newJ (N' := 10) hx hb (hts (.arrayClass .long) (by decide +kernel)) hK hP hD hS hA (by omega) (Nat.le_of_ble_eq_true rfl) (show 260 + 10 ≤ 362 by omega) dM_init_37 (fun q4 H hP hD hS => ?_)
  have hP : va_P D cl0 [(h0, .inr (1, [.int 0, .int 0, .ref q1, .int (-1), .ref q2, .ref q3, .null, .null, .null, .null, .null, .long 0, .long 0])), (q1, .inl (cI, 240, .inl (fun _ => 0))), (q2, .inl (cI, 10, .inl (fun _ => 0))), (q3, .inl (cI, 10, .inl (fun _ => 0))), (q4, .inl (cJ, 10, .inr (.inl (fun _ => 0))))] H := hP
  have hD : va_D A0 [(h0, .inr (1, [.int 0, .int 0, .ref q1, .int (-1), .ref q2, .ref q3, .null, .null, .null, .null, .null, .long 0, .long 0])), (q1, .inl (cI, 240, .inl (fun _ => 0))), (q2, .inl (cI, 10, .inl (fun _ => 0))), (q3, .inl (cI, 10, .inl (fun _ => 0))), (q4, .inl (cJ, 10, .inr (.inl (fun _ => 0))))] := hD
  refine W.widen (k := 4) (n := 270) (by omega) (by omega) ?_
  refine va_putF (D := D) (ci := 1) (v := .ref q4) (ty := (.array .long)) (C := RM) (T := FM) (N := 13) hx hb hts iM_u tyM tyM_ok nM_ok hown hK hP hD hS 0 rfl rfl 6 (by decide) (hts (.fieldLink RM 23 "AgeKeysModel" "measured" "[J") (by decide +kernel)) (fun _ h9 => h9) rfl hin rfl (by decide +kernel) rfl rfl (Nat.le_of_ble_eq_true rfl) dM_init_39 (fun H locs hP hD hS => ?_)
  have hP : va_P D cl0 [(h0, .inr (1, [.int 0, .int 0, .ref q1, .int (-1), .ref q2, .ref q3, .ref q4, .null, .null, .null, .null, .long 0, .long 0])), (q1, .inl (cI, 240, .inl (fun _ => 0))), (q2, .inl (cI, 10, .inl (fun _ => 0))), (q3, .inl (cI, 10, .inl (fun _ => 0))), (q4, .inl (cJ, 10, .inr (.inl (fun _ => 0))))] H := hP
  have hD : va_D A0 [(h0, .inr (1, [.int 0, .int 0, .ref q1, .int (-1), .ref q2, .ref q3, .ref q4, .null, .null, .null, .null, .long 0, .long 0])), (q1, .inl (cI, 240, .inl (fun _ => 0))), (q2, .inl (cI, 10, .inl (fun _ => 0))), (q3, .inl (cI, 10, .inl (fun _ => 0))), (q4, .inl (cJ, 10, .inr (.inl (fun _ => 0))))] := hD
  refine lv_aload_n hx hb dM_init_42 rfl (lv_at hl 0 rfl) ?_
  refine lv_bipush (v := 36) hx hb dM_init_43 (by decide) ?_
  refine lv_topi (fun n45 e45 => ?_)
  obtain rfl : n45 = nI (36) := e45.trans rfl
  have b45 : 36 ≤ 36 := (by omega)
  refine ki_newI (N' := 36) hx hb (hts (.arrayClass .int) (by decide +kernel)) hK hP hD hS hA (by omega) (Nat.le_of_ble_eq_true rfl) (show 270 + 36 ≤ 362 by omega) dM_init_45 (fun q5 H hP hD hS => ?_)
  have hP : va_P D cl0 [(h0, .inr (1, [.int 0, .int 0, .ref q1, .int (-1), .ref q2, .ref q3, .ref q4, .null, .null, .null, .null, .long 0, .long 0])), (q1, .inl (cI, 240, .inl (fun _ => 0))), (q2, .inl (cI, 10, .inl (fun _ => 0))), (q3, .inl (cI, 10, .inl (fun _ => 0))), (q4, .inl (cJ, 10, .inr (.inl (fun _ => 0)))), (q5, .inl (cI, 36, .inl (fun _ => 0)))] H := hP
  have hD : va_D A0 [(h0, .inr (1, [.int 0, .int 0, .ref q1, .int (-1), .ref q2, .ref q3, .ref q4, .null, .null, .null, .null, .long 0, .long 0])), (q1, .inl (cI, 240, .inl (fun _ => 0))), (q2, .inl (cI, 10, .inl (fun _ => 0))), (q3, .inl (cI, 10, .inl (fun _ => 0))), (q4, .inl (cJ, 10, .inr (.inl (fun _ => 0)))), (q5, .inl (cI, 36, .inl (fun _ => 0)))] := hD
  refine W.widen (k := 5) (n := 306) (by omega) (by omega) ?_
  refine va_putF (D := D) (ci := 1) (v := .ref q5) (ty := (.array .int)) (C := RM) (T := FM) (N := 13) hx hb hts iM_u tyM tyM_ok nM_ok hown hK hP hD hS 0 rfl rfl 7 (by decide) (hts (.fieldLink RM 27 "AgeKeysModel" "errors" "[I") (by decide +kernel)) (fun _ h9 => h9) rfl hin rfl (by decide +kernel) rfl rfl (Nat.le_of_ble_eq_true rfl) dM_init_47 (fun H locs hP hD hS => ?_)
  have hP : va_P D cl0 [(h0, .inr (1, [.int 0, .int 0, .ref q1, .int (-1), .ref q2, .ref q3, .ref q4, .ref q5, .null, .null, .null, .long 0, .long 0])), (q1, .inl (cI, 240, .inl (fun _ => 0))), (q2, .inl (cI, 10, .inl (fun _ => 0))), (q3, .inl (cI, 10, .inl (fun _ => 0))), (q4, .inl (cJ, 10, .inr (.inl (fun _ => 0)))), (q5, .inl (cI, 36, .inl (fun _ => 0)))] H := hP
  have hD : va_D A0 [(h0, .inr (1, [.int 0, .int 0, .ref q1, .int (-1), .ref q2, .ref q3, .ref q4, .ref q5, .null, .null, .null, .long 0, .long 0])), (q1, .inl (cI, 240, .inl (fun _ => 0))), (q2, .inl (cI, 10, .inl (fun _ => 0))), (q3, .inl (cI, 10, .inl (fun _ => 0))), (q4, .inl (cJ, 10, .inr (.inl (fun _ => 0)))), (q5, .inl (cI, 36, .inl (fun _ => 0)))] := hD
  refine lv_aload_n hx hb dM_init_50 rfl (lv_at hl 0 rfl) ?_
  refine lv_bipush (v := 10) hx hb dM_init_51 (by decide) ?_
  refine lv_topi (fun n53 e53 => ?_)
  obtain rfl : n53 = nI (10) := e53.trans rfl
  have b53 : 10 ≤ 10 := (by omega)
  refine ki_newI (N' := 10) hx hb (hts (.arrayClass .int) (by decide +kernel)) hK hP hD hS hA (by omega) (Nat.le_of_ble_eq_true rfl) (show 306 + 10 ≤ 362 by omega) dM_init_53 (fun q6 H hP hD hS => ?_)
  have hP : va_P D cl0 [(h0, .inr (1, [.int 0, .int 0, .ref q1, .int (-1), .ref q2, .ref q3, .ref q4, .ref q5, .null, .null, .null, .long 0, .long 0])), (q1, .inl (cI, 240, .inl (fun _ => 0))), (q2, .inl (cI, 10, .inl (fun _ => 0))), (q3, .inl (cI, 10, .inl (fun _ => 0))), (q4, .inl (cJ, 10, .inr (.inl (fun _ => 0)))), (q5, .inl (cI, 36, .inl (fun _ => 0))), (q6, .inl (cI, 10, .inl (fun _ => 0)))] H := hP
  have hD : va_D A0 [(h0, .inr (1, [.int 0, .int 0, .ref q1, .int (-1), .ref q2, .ref q3, .ref q4, .ref q5, .null, .null, .null, .long 0, .long 0])), (q1, .inl (cI, 240, .inl (fun _ => 0))), (q2, .inl (cI, 10, .inl (fun _ => 0))), (q3, .inl (cI, 10, .inl (fun _ => 0))), (q4, .inl (cJ, 10, .inr (.inl (fun _ => 0)))), (q5, .inl (cI, 36, .inl (fun _ => 0))), (q6, .inl (cI, 10, .inl (fun _ => 0)))] := hD
  refine W.widen (k := 6) (n := 316) (by omega) (by omega) ?_
  refine va_putF (D := D) (ci := 1) (v := .ref q6) (ty := (.array .int)) (C := RM) (T := FM) (N := 13) hx hb hts iM_u tyM tyM_ok nM_ok hown hK hP hD hS 0 rfl rfl 8 (by decide) (hts (.fieldLink RM 30 "AgeKeysModel" "maleCount" "[I") (by decide +kernel)) (fun _ h9 => h9) rfl hin rfl (by decide +kernel) rfl rfl (Nat.le_of_ble_eq_true rfl) dM_init_55 (fun H locs hP hD hS => ?_)
  have hP : va_P D cl0 [(h0, .inr (1, [.int 0, .int 0, .ref q1, .int (-1), .ref q2, .ref q3, .ref q4, .ref q5, .ref q6, .null, .null, .long 0, .long 0])), (q1, .inl (cI, 240, .inl (fun _ => 0))), (q2, .inl (cI, 10, .inl (fun _ => 0))), (q3, .inl (cI, 10, .inl (fun _ => 0))), (q4, .inl (cJ, 10, .inr (.inl (fun _ => 0)))), (q5, .inl (cI, 36, .inl (fun _ => 0))), (q6, .inl (cI, 10, .inl (fun _ => 0)))] H := hP
  have hD : va_D A0 [(h0, .inr (1, [.int 0, .int 0, .ref q1, .int (-1), .ref q2, .ref q3, .ref q4, .ref q5, .ref q6, .null, .null, .long 0, .long 0])), (q1, .inl (cI, 240, .inl (fun _ => 0))), (q2, .inl (cI, 10, .inl (fun _ => 0))), (q3, .inl (cI, 10, .inl (fun _ => 0))), (q4, .inl (cJ, 10, .inr (.inl (fun _ => 0)))), (q5, .inl (cI, 36, .inl (fun _ => 0))), (q6, .inl (cI, 10, .inl (fun _ => 0)))] := hD
  refine lv_aload_n hx hb dM_init_58 rfl (lv_at hl 0 rfl) ?_
  refine lv_bipush (v := 10) hx hb dM_init_59 (by decide) ?_
  refine lv_topi (fun n61 e61 => ?_)
  obtain rfl : n61 = nI (10) := e61.trans rfl
  have b61 : 10 ≤ 10 := (by omega)
  refine ki_newI (N' := 10) hx hb (hts (.arrayClass .int) (by decide +kernel)) hK hP hD hS hA (by omega) (Nat.le_of_ble_eq_true rfl) (show 316 + 10 ≤ 362 by omega) dM_init_61 (fun q7 H hP hD hS => ?_)
  have hP : va_P D cl0 [(h0, .inr (1, [.int 0, .int 0, .ref q1, .int (-1), .ref q2, .ref q3, .ref q4, .ref q5, .ref q6, .null, .null, .long 0, .long 0])), (q1, .inl (cI, 240, .inl (fun _ => 0))), (q2, .inl (cI, 10, .inl (fun _ => 0))), (q3, .inl (cI, 10, .inl (fun _ => 0))), (q4, .inl (cJ, 10, .inr (.inl (fun _ => 0)))), (q5, .inl (cI, 36, .inl (fun _ => 0))), (q6, .inl (cI, 10, .inl (fun _ => 0))), (q7, .inl (cI, 10, .inl (fun _ => 0)))] H := hP
  have hD : va_D A0 [(h0, .inr (1, [.int 0, .int 0, .ref q1, .int (-1), .ref q2, .ref q3, .ref q4, .ref q5, .ref q6, .null, .null, .long 0, .long 0])), (q1, .inl (cI, 240, .inl (fun _ => 0))), (q2, .inl (cI, 10, .inl (fun _ => 0))), (q3, .inl (cI, 10, .inl (fun _ => 0))), (q4, .inl (cJ, 10, .inr (.inl (fun _ => 0)))), (q5, .inl (cI, 36, .inl (fun _ => 0))), (q6, .inl (cI, 10, .inl (fun _ => 0))), (q7, .inl (cI, 10, .inl (fun _ => 0)))] := hD
  refine W.widen (k := 7) (n := 326) (by omega) (by omega) ?_
  refine va_putF (D := D) (ci := 1) (v := .ref q7) (ty := (.array .int)) (C := RM) (T := FM) (N := 13) hx hb hts iM_u tyM tyM_ok nM_ok hown hK hP hD hS 0 rfl rfl 9 (by decide) (hts (.fieldLink RM 33 "AgeKeysModel" "sexCount" "[I") (by decide +kernel)) (fun _ h9 => h9) rfl hin rfl (by decide +kernel) rfl rfl (Nat.le_of_ble_eq_true rfl) dM_init_63 (fun H locs hP hD hS => ?_)
  have hP : va_P D cl0 [(h0, .inr (1, [.int 0, .int 0, .ref q1, .int (-1), .ref q2, .ref q3, .ref q4, .ref q5, .ref q6, .ref q7, .null, .long 0, .long 0])), (q1, .inl (cI, 240, .inl (fun _ => 0))), (q2, .inl (cI, 10, .inl (fun _ => 0))), (q3, .inl (cI, 10, .inl (fun _ => 0))), (q4, .inl (cJ, 10, .inr (.inl (fun _ => 0)))), (q5, .inl (cI, 36, .inl (fun _ => 0))), (q6, .inl (cI, 10, .inl (fun _ => 0))), (q7, .inl (cI, 10, .inl (fun _ => 0)))] H := hP
  have hD : va_D A0 [(h0, .inr (1, [.int 0, .int 0, .ref q1, .int (-1), .ref q2, .ref q3, .ref q4, .ref q5, .ref q6, .ref q7, .null, .long 0, .long 0])), (q1, .inl (cI, 240, .inl (fun _ => 0))), (q2, .inl (cI, 10, .inl (fun _ => 0))), (q3, .inl (cI, 10, .inl (fun _ => 0))), (q4, .inl (cJ, 10, .inr (.inl (fun _ => 0)))), (q5, .inl (cI, 36, .inl (fun _ => 0))), (q6, .inl (cI, 10, .inl (fun _ => 0))), (q7, .inl (cI, 10, .inl (fun _ => 0)))] := hD
  refine lv_aload_n hx hb dM_init_66 rfl (lv_at hl 0 rfl) ?_
  refine lv_bipush (v := 36) hx hb dM_init_67 (by decide) ?_
  refine lv_topi (fun n69 e69 => ?_)
  obtain rfl : n69 = nI (36) := e69.trans rfl
  have b69 : 36 ≤ 36 := (by omega)
  refine ki_newJ (N' := 36) hx hb (hts (.arrayClass .long) (by decide +kernel)) hK hP hD hS hA (by omega) (Nat.le_of_ble_eq_true rfl) (show 326 + 36 ≤ 362 by omega) dM_init_69 (fun q8 H hP hD hS => ?_)
  have hP : va_P D cl0 [(h0, .inr (1, [.int 0, .int 0, .ref q1, .int (-1), .ref q2, .ref q3, .ref q4, .ref q5, .ref q6, .ref q7, .null, .long 0, .long 0])), (q1, .inl (cI, 240, .inl (fun _ => 0))), (q2, .inl (cI, 10, .inl (fun _ => 0))), (q3, .inl (cI, 10, .inl (fun _ => 0))), (q4, .inl (cJ, 10, .inr (.inl (fun _ => 0)))), (q5, .inl (cI, 36, .inl (fun _ => 0))), (q6, .inl (cI, 10, .inl (fun _ => 0))), (q7, .inl (cI, 10, .inl (fun _ => 0))), (q8, .inl (cJ, 36, .inr (.inl (fun _ => 0))))] H := hP
  have hD : va_D A0 [(h0, .inr (1, [.int 0, .int 0, .ref q1, .int (-1), .ref q2, .ref q3, .ref q4, .ref q5, .ref q6, .ref q7, .null, .long 0, .long 0])), (q1, .inl (cI, 240, .inl (fun _ => 0))), (q2, .inl (cI, 10, .inl (fun _ => 0))), (q3, .inl (cI, 10, .inl (fun _ => 0))), (q4, .inl (cJ, 10, .inr (.inl (fun _ => 0)))), (q5, .inl (cI, 36, .inl (fun _ => 0))), (q6, .inl (cI, 10, .inl (fun _ => 0))), (q7, .inl (cI, 10, .inl (fun _ => 0))), (q8, .inl (cJ, 36, .inr (.inl (fun _ => 0))))] := hD
  refine W.widen (k := 8) (n := 362) (by omega) (by omega) ?_
  refine va_putF (D := D) (ci := 1) (v := .ref q8) (ty := (.array .long)) (C := RM) (T := FM) (N := 13) hx hb hts iM_u tyM tyM_ok nM_ok hown hK hP hD hS 0 rfl rfl 10 (by decide) (hts (.fieldLink RM 36 "AgeKeysModel" "cells" "[J") (by decide +kernel)) (fun _ h9 => h9) rfl hin rfl (by decide +kernel) rfl rfl (Nat.le_of_ble_eq_true rfl) dM_init_71 (fun H locs hP hD hS => ?_)
  have hP : va_P D cl0 [(h0, .inr (1, [.int 0, .int 0, .ref q1, .int (-1), .ref q2, .ref q3, .ref q4, .ref q5, .ref q6, .ref q7, .ref q8, .long 0, .long 0])), (q1, .inl (cI, 240, .inl (fun _ => 0))), (q2, .inl (cI, 10, .inl (fun _ => 0))), (q3, .inl (cI, 10, .inl (fun _ => 0))), (q4, .inl (cJ, 10, .inr (.inl (fun _ => 0)))), (q5, .inl (cI, 36, .inl (fun _ => 0))), (q6, .inl (cI, 10, .inl (fun _ => 0))), (q7, .inl (cI, 10, .inl (fun _ => 0))), (q8, .inl (cJ, 36, .inr (.inl (fun _ => 0))))] H := hP
  have hD : va_D A0 [(h0, .inr (1, [.int 0, .int 0, .ref q1, .int (-1), .ref q2, .ref q3, .ref q4, .ref q5, .ref q6, .ref q7, .ref q8, .long 0, .long 0])), (q1, .inl (cI, 240, .inl (fun _ => 0))), (q2, .inl (cI, 10, .inl (fun _ => 0))), (q3, .inl (cI, 10, .inl (fun _ => 0))), (q4, .inl (cJ, 10, .inr (.inl (fun _ => 0)))), (q5, .inl (cI, 36, .inl (fun _ => 0))), (q6, .inl (cI, 10, .inl (fun _ => 0))), (q7, .inl (cI, 10, .inl (fun _ => 0))), (q8, .inl (cJ, 36, .inr (.inl (fun _ => 0))))] := hD
  have hP : va_P D cl0 (wdM (fun j => ([h0, q1, q2, q3, q4, q5, q6, q7, q8] : List Nat).getD j 0) (0, 0, lenM) cI cJ s0M) H := hP
  have hD : va_D A0 (wdM (fun j => ([h0, q1, q2, q3, q4, q5, q6, q7, q8] : List Nat).getD j 0) (0, 0, lenM) cI cJ s0M) := hD
  refine W_mono (Q := MQ below (kQv D cl0 [(cI, .int), (cJ, .long)] (wdM (fun j => ([h0, q1, q2, q3, q4, q5, q6, q7, q8] : List Nat).getD j 0) (clampM x1 10, clampM x2 6, lenM) cI cJ) A0 σ') args s 8 362 A0) ?_ ?_
  · intro t ht
    obtain ⟨o, h1, h2, ⟨⟨u, rfl, rfl, h5⟩, h6⟩, h7⟩ := ht
    exact ⟨_, h1, h2, ⟨⟨_, rfl, rfl, h5⟩, h6⟩, h7⟩
  have fin : ∀ z : Int32, clampM x1 10 = z → W p l e ({ frames := 1, cells := 8, slots := 362, locals := 21 }) s m args below meth c H locs 8 362 (MQ below (kQv D cl0 [(cI, .int), (cJ, .long)] (wdM (fun j => ([h0, q1, q2, q3, q4, q5, q6, q7, q8] : List Nat).getD j 0) (clampM x1 10, clampM x2 6, lenM) cI cJ) A0 σ') args s 8 362 A0) (F0 m 96 ls [.int z, .ref h0]) := fun z hz => by
    rw [hz] at hf ⊢
    exact tM_init_96 (q := fun j => ([h0, q1, q2, q3, q4, q5, q6, q7, q8] : List Nat).getD j 0) C0 hin hK hA z x1 x2 _ _ ls hf hl hP hD hS
  refine lv_aload_n hx hb dM_init_74 rfl (lv_at hl 0 rfl) ?_
  refine lv_iload_n hx hb dM_init_75 rfl (lv_at hl 1 rfl) ?_
  refine lv_iconst (v := 1) hx hb dM_init_76 (by decide) ?_
  refine lv_icmp_ge (tgt := 84) hx hb dM_init_77 (by decide) (fun ca => ?_) (fun ca => ?_)
  · refine lv_iload_n hx hb dM_init_84 rfl (lv_at hl 1 rfl) ?_
    refine lv_bipush (v := 10) hx hb dM_init_85 (by decide) ?_
    refine lv_icmp_le (tgt := 95) hx hb dM_init_87 (by decide) (fun cb => ?_) (fun cb => ?_)
    · refine lv_iload_n hx hb dM_init_95 rfl (lv_at hl 1 rfl) ?_
      exact fin x1 (by unfold clampM; rw [if_pos ca, if_pos cb])
    · refine lv_bipush (v := 10) hx hb dM_init_90 (by decide) ?_
      refine lv_goto (tgt := 96) hx hb dM_init_92 (by decide) ?_
      exact fin 10 (by unfold clampM; rw [if_pos ca, if_neg cb])
  · refine lv_iconst (v := 1) hx hb dM_init_80 (by decide) ?_
    refine lv_goto (tgt := 96) hx hb dM_init_81 (by decide) ?_
    exact fin 1 (by unfold clampM; rw [if_neg ca])
