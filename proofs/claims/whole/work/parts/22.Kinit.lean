theorem dK_init_0 : decode cK_init 0 = .ok (.aload_n 0, 1) := by decide +kernel
theorem dK_init_1 : decode cK_init 1 = .ok (.invokespecial 3, 3) := by decide +kernel
theorem dK_init_4 : decode cK_init 4 = .ok (.aload_n 0, 1) := by decide +kernel
theorem dK_init_5 : decode cK_init 5 = .ok (.iconst 4, 1) := by decide +kernel
theorem dK_init_6 : decode cK_init 6 = .ok (.putfield 9, 3) := by decide +kernel
theorem dK_init_9 : decode cK_init 9 = .ok (.aload_n 0, 1) := by decide +kernel
theorem dK_init_10 : decode cK_init 10 = .ok (.lconst 0, 1) := by decide +kernel
theorem dK_init_11 : decode cK_init 11 = .ok (.putfield 13, 3) := by decide +kernel
theorem dK_init_14 : decode cK_init 14 = .ok (.aload_n 0, 1) := by decide +kernel
theorem dK_init_15 : decode cK_init 15 = .ok (.iconst 1, 1) := by decide +kernel
theorem dK_init_16 : decode cK_init 16 = .ok (.bipush (10), 2) := by decide +kernel
theorem dK_init_18 : decode cK_init 18 = .ok (.iload_n 1, 1) := by decide +kernel
theorem dK_init_19 : decode cK_init 19 = .ok (.invokestatic 17, 3) := by decide +kernel
theorem dK_init_22 : decode cK_init 22 = .ok (.invokestatic 23, 3) := by decide +kernel
theorem dK_init_25 : decode cK_init 25 = .ok (.putfield 26, 3) := by decide +kernel
theorem dK_init_28 : decode cK_init 28 = .ok (.aload_n 0, 1) := by decide +kernel
theorem dK_init_29 : decode cK_init 29 = .ok (.iconst 1, 1) := by decide +kernel
theorem dK_init_30 : decode cK_init 30 = .ok (.bipush (6), 2) := by decide +kernel
theorem dK_init_32 : decode cK_init 32 = .ok (.iload_n 2, 1) := by decide +kernel
theorem dK_init_33 : decode cK_init 33 = .ok (.invokestatic 17, 3) := by decide +kernel
theorem dK_init_36 : decode cK_init 36 = .ok (.invokestatic 23, 3) := by decide +kernel
theorem dK_init_39 : decode cK_init 39 = .ok (.putfield 29, 3) := by decide +kernel
theorem dK_init_42 : decode cK_init 42 = .ok (.aload_n 0, 1) := by decide +kernel
theorem dK_init_43 : decode cK_init 43 = .ok (.iconst 5, 1) := by decide +kernel
theorem dK_init_44 : decode cK_init 44 = .ok (.aload_n 0, 1) := by decide +kernel
theorem dK_init_45 : decode cK_init 45 = .ok (.getfield 26, 3) := by decide +kernel
theorem dK_init_48 : decode cK_init 48 = .ok (.imul, 1) := by decide +kernel
theorem dK_init_49 : decode cK_init 49 = .ok (.aload_n 0, 1) := by decide +kernel
theorem dK_init_50 : decode cK_init 50 = .ok (.getfield 29, 3) := by decide +kernel
theorem dK_init_53 : decode cK_init 53 = .ok (.imul, 1) := by decide +kernel
theorem dK_init_54 : decode cK_init 54 = .ok (.newarray .int, 2) := by decide +kernel
theorem dK_init_56 : decode cK_init 56 = .ok (.putfield 32, 3) := by decide +kernel
theorem dK_init_59 : decode cK_init 59 = .ok (.aload_n 0, 1) := by decide +kernel
theorem dK_init_60 : decode cK_init 60 = .ok (.iconst 5, 1) := by decide +kernel
theorem dK_init_61 : decode cK_init 61 = .ok (.newarray .int, 2) := by decide +kernel
theorem dK_init_63 : decode cK_init 63 = .ok (.putfield 36, 3) := by decide +kernel
theorem dK_init_66 : decode cK_init 66 = .ok (.aload_n 0, 1) := by decide +kernel
theorem dK_init_67 : decode cK_init 67 = .ok (.iconst 5, 1) := by decide +kernel
theorem dK_init_68 : decode cK_init 68 = .ok (.aload_n 0, 1) := by decide +kernel
theorem dK_init_69 : decode cK_init 69 = .ok (.getfield 26, 3) := by decide +kernel
theorem dK_init_72 : decode cK_init 72 = .ok (.imul, 1) := by decide +kernel
theorem dK_init_73 : decode cK_init 73 = .ok (.aload_n 0, 1) := by decide +kernel
theorem dK_init_74 : decode cK_init 74 = .ok (.getfield 29, 3) := by decide +kernel
theorem dK_init_77 : decode cK_init 77 = .ok (.imul, 1) := by decide +kernel
theorem dK_init_78 : decode cK_init 78 = .ok (.newarray .int, 2) := by decide +kernel
theorem dK_init_80 : decode cK_init 80 = .ok (.putfield 39, 3) := by decide +kernel
theorem dK_init_83 : decode cK_init 83 = .ok (.aload_n 0, 1) := by decide +kernel
theorem dK_init_84 : decode cK_init 84 = .ok (.iconst 5, 1) := by decide +kernel
theorem dK_init_85 : decode cK_init 85 = .ok (.aload_n 0, 1) := by decide +kernel
theorem dK_init_86 : decode cK_init 86 = .ok (.getfield 26, 3) := by decide +kernel
theorem dK_init_89 : decode cK_init 89 = .ok (.imul, 1) := by decide +kernel
theorem dK_init_90 : decode cK_init 90 = .ok (.newarray .int, 2) := by decide +kernel
theorem dK_init_92 : decode cK_init 92 = .ok (.putfield 42, 3) := by decide +kernel
theorem dK_init_95 : decode cK_init 95 = .ok (.aload_n 0, 1) := by decide +kernel
theorem dK_init_96 : decode cK_init 96 = .ok (.aload_n 0, 1) := by decide +kernel
theorem dK_init_97 : decode cK_init 97 = .ok (.getfield 26, 3) := by decide +kernel
theorem dK_init_100 : decode cK_init 100 = .ok (.newarray .int, 2) := by decide +kernel
theorem dK_init_102 : decode cK_init 102 = .ok (.putfield 45, 3) := by decide +kernel
theorem dK_init_105 : decode cK_init 105 = .ok (.aload_n 0, 1) := by decide +kernel
theorem dK_init_106 : decode cK_init 106 = .ok (.aload_n 0, 1) := by decide +kernel
theorem dK_init_107 : decode cK_init 107 = .ok (.getfield 26, 3) := by decide +kernel
theorem dK_init_110 : decode cK_init 110 = .ok (.newarray .int, 2) := by decide +kernel
theorem dK_init_112 : decode cK_init 112 = .ok (.putfield 48, 3) := by decide +kernel
theorem dK_init_115 : decode cK_init 115 = .ok (.aload_n 0, 1) := by decide +kernel
theorem dK_init_116 : decode cK_init 116 = .ok (.aload_n 0, 1) := by decide +kernel
theorem dK_init_117 : decode cK_init 117 = .ok (.getfield 26, 3) := by decide +kernel
theorem dK_init_120 : decode cK_init 120 = .ok (.newarray .long, 2) := by decide +kernel
theorem dK_init_122 : decode cK_init 122 = .ok (.putfield 51, 3) := by decide +kernel
theorem dK_init_125 : decode cK_init 125 = .ok (.aload_n 0, 1) := by decide +kernel
theorem dK_init_126 : decode cK_init 126 = .ok (.aload_n 0, 1) := by decide +kernel
theorem dK_init_127 : decode cK_init 127 = .ok (.getfield 29, 3) := by decide +kernel
theorem dK_init_130 : decode cK_init 130 = .ok (.aload_n 0, 1) := by decide +kernel
theorem dK_init_131 : decode cK_init 131 = .ok (.getfield 29, 3) := by decide +kernel
theorem dK_init_134 : decode cK_init 134 = .ok (.imul, 1) := by decide +kernel
theorem dK_init_135 : decode cK_init 135 = .ok (.newarray .int, 2) := by decide +kernel
theorem dK_init_137 : decode cK_init 137 = .ok (.putfield 55, 3) := by decide +kernel
theorem dK_init_140 : decode cK_init 140 = .ok (.aload_n 0, 1) := by decide +kernel
theorem dK_init_141 : decode cK_init 141 = .ok (.aload_n 0, 1) := by decide +kernel
theorem dK_init_142 : decode cK_init 142 = .ok (.getfield 29, 3) := by decide +kernel
theorem dK_init_145 : decode cK_init 145 = .ok (.aload_n 0, 1) := by decide +kernel
theorem dK_init_146 : decode cK_init 146 = .ok (.getfield 29, 3) := by decide +kernel
theorem dK_init_149 : decode cK_init 149 = .ok (.imul, 1) := by decide +kernel
theorem dK_init_150 : decode cK_init 150 = .ok (.newarray .long, 2) := by decide +kernel
theorem dK_init_152 : decode cK_init 152 = .ok (.putfield 58, 3) := by decide +kernel
theorem dK_init_155 : decode cK_init 155 = .ok (.aload_n 0, 1) := by decide +kernel
theorem dK_init_156 : decode cK_init 156 = .ok (.aload_n 0, 1) := by decide +kernel
theorem dK_init_157 : decode cK_init 157 = .ok (.getfield 29, 3) := by decide +kernel
theorem dK_init_160 : decode cK_init 160 = .ok (.newarray .int, 2) := by decide +kernel
theorem dK_init_162 : decode cK_init 162 = .ok (.putfield 61, 3) := by decide +kernel
theorem dK_init_165 : decode cK_init 165 = .ok (.aload_n 0, 1) := by decide +kernel
theorem dK_init_166 : decode cK_init 166 = .ok (.aload_n 0, 1) := by decide +kernel
theorem dK_init_167 : decode cK_init 167 = .ok (.getfield 29, 3) := by decide +kernel
theorem dK_init_170 : decode cK_init 170 = .ok (.newarray .int, 2) := by decide +kernel
theorem dK_init_172 : decode cK_init 172 = .ok (.putfield 64, 3) := by decide +kernel
theorem dK_init_175 : decode cK_init 175 = .ok (.aload_n 0, 1) := by decide +kernel
theorem dK_init_176 : decode cK_init 176 = .ok (.aload_n 0, 1) := by decide +kernel
theorem dK_init_177 : decode cK_init 177 = .ok (.getfield 29, 3) := by decide +kernel
theorem dK_init_180 : decode cK_init 180 = .ok (.newarray .int, 2) := by decide +kernel
theorem dK_init_182 : decode cK_init 182 = .ok (.putfield 67, 3) := by decide +kernel
theorem dK_init_185 : decode cK_init 185 = .ok (.aload_n 0, 1) := by decide +kernel
theorem dK_init_186 : decode cK_init 186 = .ok (.aload_n 0, 1) := by decide +kernel
theorem dK_init_187 : decode cK_init 187 = .ok (.getfield 29, 3) := by decide +kernel
theorem dK_init_190 : decode cK_init 190 = .ok (.newarray .int, 2) := by decide +kernel
theorem dK_init_192 : decode cK_init 192 = .ok (.putfield 70, 3) := by decide +kernel
theorem dK_init_195 : decode cK_init 195 = .ok (.aload_n 0, 1) := by decide +kernel
theorem dK_init_196 : decode cK_init 196 = .ok (.aload_n 0, 1) := by decide +kernel
theorem dK_init_197 : decode cK_init 197 = .ok (.getfield 26, 3) := by decide +kernel
theorem dK_init_200 : decode cK_init 200 = .ok (.newarray .int, 2) := by decide +kernel
theorem dK_init_202 : decode cK_init 202 = .ok (.putfield 73, 3) := by decide +kernel
theorem dK_init_205 : decode cK_init 205 = .ok (.aload_n 0, 1) := by decide +kernel
theorem dK_init_206 : decode cK_init 206 = .ok (.aload_n 0, 1) := by decide +kernel
theorem dK_init_207 : decode cK_init 207 = .ok (.getfield 26, 3) := by decide +kernel
theorem dK_init_210 : decode cK_init 210 = .ok (.newarray .int, 2) := by decide +kernel
theorem dK_init_212 : decode cK_init 212 = .ok (.putfield 76, 3) := by decide +kernel
theorem dK_init_215 : decode cK_init 215 = .ok (.iconst 0, 1) := by decide +kernel
theorem dK_init_216 : decode cK_init 216 = .ok (.istore_n 3, 1) := by decide +kernel
theorem dK_init_217 : decode cK_init 217 = .ok (.iload_n 3, 1) := by decide +kernel
theorem dK_init_218 : decode cK_init 218 = .ok (.aload_n 0, 1) := by decide +kernel
theorem dK_init_219 : decode cK_init 219 = .ok (.getfield 26, 3) := by decide +kernel
theorem dK_init_222 : decode cK_init 222 = .ok (.if_icmp .ge (23), 3) := by decide +kernel
theorem dK_init_225 : decode cK_init 225 = .ok (.aload_n 0, 1) := by decide +kernel
theorem dK_init_226 : decode cK_init 226 = .ok (.getfield 45, 3) := by decide +kernel
theorem dK_init_229 : decode cK_init 229 = .ok (.iload_n 3, 1) := by decide +kernel
theorem dK_init_230 : decode cK_init 230 = .ok (.iload_n 3, 1) := by decide +kernel
theorem dK_init_231 : decode cK_init 231 = .ok (.iastore, 1) := by decide +kernel
theorem dK_init_232 : decode cK_init 232 = .ok (.aload_n 0, 1) := by decide +kernel
theorem dK_init_233 : decode cK_init 233 = .ok (.getfield 48, 3) := by decide +kernel
theorem dK_init_236 : decode cK_init 236 = .ok (.iload_n 3, 1) := by decide +kernel
theorem dK_init_237 : decode cK_init 237 = .ok (.iconst (-1), 1) := by decide +kernel
theorem dK_init_238 : decode cK_init 238 = .ok (.iastore, 1) := by decide +kernel
theorem dK_init_239 : decode cK_init 239 = .ok (.iinc 3 (1), 3) := by decide +kernel
theorem dK_init_242 : decode cK_init 242 = .ok (.goto (-25), 3) := by decide +kernel
theorem dK_init_245 : decode cK_init 245 = .ok (.iconst 0, 1) := by decide +kernel
theorem dK_init_246 : decode cK_init 246 = .ok (.istore_n 3, 1) := by decide +kernel
theorem dK_init_247 : decode cK_init 247 = .ok (.iload_n 3, 1) := by decide +kernel
theorem dK_init_248 : decode cK_init 248 = .ok (.aload_n 0, 1) := by decide +kernel
theorem dK_init_249 : decode cK_init 249 = .ok (.getfield 29, 3) := by decide +kernel
theorem dK_init_252 : decode cK_init 252 = .ok (.if_icmp .ge (24), 3) := by decide +kernel
theorem dK_init_255 : decode cK_init 255 = .ok (.aload_n 0, 1) := by decide +kernel
theorem dK_init_256 : decode cK_init 256 = .ok (.getfield 55, 3) := by decide +kernel
theorem dK_init_259 : decode cK_init 259 = .ok (.iload_n 3, 1) := by decide +kernel
theorem dK_init_260 : decode cK_init 260 = .ok (.aload_n 0, 1) := by decide +kernel
theorem dK_init_261 : decode cK_init 261 = .ok (.getfield 29, 3) := by decide +kernel
theorem dK_init_264 : decode cK_init 264 = .ok (.imul, 1) := by decide +kernel
theorem dK_init_265 : decode cK_init 265 = .ok (.iload_n 3, 1) := by decide +kernel
theorem dK_init_266 : decode cK_init 266 = .ok (.iadd, 1) := by decide +kernel
theorem dK_init_267 : decode cK_init 267 = .ok (.bipush (20), 2) := by decide +kernel
theorem dK_init_269 : decode cK_init 269 = .ok (.iastore, 1) := by decide +kernel
theorem dK_init_270 : decode cK_init 270 = .ok (.iinc 3 (1), 3) := by decide +kernel
theorem dK_init_273 : decode cK_init 273 = .ok (.goto (-26), 3) := by decide +kernel
theorem dK_init_276 : decode cK_init 276 = .ok (.return_, 1) := by decide +kernel
def fK_init_247 (fu : Nat) (k : kK) : Nat → sK → Int32 → Option sK
  | 0, _, _ => none
  | n + 1, σ, x3 =>
    if (kK_ages k) ≤ x3 then
      some σ
    else
      (kstI (kK_n k 7) (sK_errors σ) ((x3 * (kK_ages k)) + x3) 20).bind fun a269 =>
      fK_init_247 fu k n (uK_errors σ a269) (x3 + 1)
def fK_init_217 (fu : Nat) (k : kK) : Nat → sK → Int32 → Option sK
  | 0, _, _ => none
  | n + 1, σ, x3 =>
    if (kK_classes k) ≤ x3 then
      fK_init_247 fu k fu σ 0
    else
      (kstI (kK_n k 4) (sK_groupOf σ) x3 x3).bind fun a231 =>
      (kstI (kK_n k 5) (sK_filledBy (uK_groupOf σ a231)) x3 (-1)).bind fun a238 =>
      fK_init_217 fu k n (uK_filledBy (uK_groupOf σ a231) a238) (x3 + 1)
def lenK (C A : Nat) : Nat → Nat := fun j => ([5 * C * A, 5, 5 * C * A, 5 * C, C, C, C, A * A, A * A, A, A, A, A, C, C] : List Nat).getD j 0
def k0K (C A : Nat) : kK := (nI C, nI A, lenK C A)
def s0K : sK := (fun _ => 4, fun _ => 0, fun _ _ => 0, fun _ _ => 0)
set_option maxHeartbeats 400000 in
set_option maxRecDepth 100000 in
theorem tK_init_247 {p : Program} {l : Launch} {e : Env} {s : State} {m : MethodId} {args : Array Value} {below : List Frame} {meth : Method} {c : Code} {D : va_G} {A : Nat → Prop} {q : Nat → Nat} {k : kK} {cI cJ : ClassId} {σ' : sK} {fu : Nat} (C0 : Cx p s m args meth c cK_init 4 none RK TK) (hK : va_K D cl0 [(cI, .int), (cJ, .long)] s) (hA : ∀ z, s.heap.size ≤ z → A z) : ∀ n : Nat, ∀ (σ : sK) (x3 : Int32)(H : Heap) (locs : List Loc) (ls : Array Slot), fK_init_247 fu k n σ x3 = some σ' → lv_has ls 4 [(0, .ref (q 0)), (3, .int x3)] → va_P D cl0 (wdK q k cI cJ σ) H → va_D A (wdK q k cI cJ σ) → va_S A s.heap H locs → W p l e ({ frames := 1, cells := 15, slots := 801, locals := 21 }) s m args below meth c H locs 15 801 (MQ below (kQv D cl0 [(cI, .int), (cJ, .long)] (wdK q k cI cJ) A σ') args s 15 801 A) (F0 m 247 ls []) := by
  obtain ⟨hx, hb, hr, hml, hown, hts, hlocks⟩ := id C0
  intro n
  induction n with
  | zero =>
    intro σ x3 H locs ls hf hl hP hD hS
    cases hf
  | succ n ih =>
    intro σ x3 H locs ls hf hl hP hD hS
    rw [fK_init_247] at hf
    refine lv_iload_n hx hb dK_init_247 rfl (lv_at hl 1 rfl) ?_
    refine lv_aload_n hx hb dK_init_248 rfl (lv_at hl 0 rfl) ?_
    refine gK_ages hx hb hown hts hK hP dK_init_249 ?_
    refine lv_icmp_ge (tgt := 276) hx hb dK_init_252 (by decide) (fun c252 => ?_) (fun c252 => ?_)
    · have hf := (if_pos c252).symm.trans hf
      exact kr_vret C0 hK hP hD hS (Option.some.inj hf) dK_init_276
    · have hf := (if_neg c252).symm.trans hf
      refine lv_aload_n hx hb dK_init_255 rfl (lv_at hl 0 rfl) ?_
      refine gK_errors hx hb hown hts hK hP dK_init_256 ?_
      refine lv_iload_n hx hb dK_init_259 rfl (lv_at hl 1 rfl) ?_
      refine lv_aload_n hx hb dK_init_260 rfl (lv_at hl 0 rfl) ?_
      refine gK_ages hx hb hown hts hK hP dK_init_261 ?_
      refine lv_imul hx hb dK_init_264 ?_
      refine lv_iload_n hx hb dK_init_265 rfl (lv_at hl 1 rfl) ?_
      refine lv_iadd hx hb dK_init_266 ?_
      refine lv_bipush (v := 20) hx hb dK_init_267 (by decide) ?_
      obtain ⟨a269, ea269, hf⟩ := kb1 hf
      refine kr_iastore (σ' := (uK_errors σ a269)) hx hb hK hP hD hS 8 0 rfl rfl ea269 (wK_errors q k cI cJ _ _) dK_init_269 (fun H locs hP hD hS => ?_)
      generalize (uK_errors σ a269) = s269 at hf hP hD
      refine lv_iinc (v := (x3 + 1)) (lv' := [(3, .int (x3 + 1)), (0, .ref (q 0))]) hx hb dK_init_270 hl (k := 1) rfl rfl (by decide) rfl (fun ls hl => ?_)
      refine lv_goto (tgt := 247) hx hb dK_init_273 (by decide) ?_
      exact ih s269 (x3 + 1) _ _ ls hf (lv_sub hl [1, 0] rfl) hP hD hS
set_option maxHeartbeats 400000 in
set_option maxRecDepth 100000 in
theorem tK_init_217 {p : Program} {l : Launch} {e : Env} {s : State} {m : MethodId} {args : Array Value} {below : List Frame} {meth : Method} {c : Code} {D : va_G} {A : Nat → Prop} {q : Nat → Nat} {k : kK} {cI cJ : ClassId} {σ' : sK} {fu : Nat} (C0 : Cx p s m args meth c cK_init 4 none RK TK) (hK : va_K D cl0 [(cI, .int), (cJ, .long)] s) (hA : ∀ z, s.heap.size ≤ z → A z) : ∀ n : Nat, ∀ (σ : sK) (x3 : Int32)(H : Heap) (locs : List Loc) (ls : Array Slot), fK_init_217 fu k n σ x3 = some σ' → lv_has ls 4 [(0, .ref (q 0)), (3, .int x3)] → va_P D cl0 (wdK q k cI cJ σ) H → va_D A (wdK q k cI cJ σ) → va_S A s.heap H locs → W p l e ({ frames := 1, cells := 15, slots := 801, locals := 21 }) s m args below meth c H locs 15 801 (MQ below (kQv D cl0 [(cI, .int), (cJ, .long)] (wdK q k cI cJ) A σ') args s 15 801 A) (F0 m 217 ls []) := by
  obtain ⟨hx, hb, hr, hml, hown, hts, hlocks⟩ := id C0
  intro n
  induction n with
  | zero =>
    intro σ x3 H locs ls hf hl hP hD hS
    cases hf
  | succ n ih =>
    intro σ x3 H locs ls hf hl hP hD hS
    rw [fK_init_217] at hf
    refine lv_iload_n hx hb dK_init_217 rfl (lv_at hl 1 rfl) ?_
    refine lv_aload_n hx hb dK_init_218 rfl (lv_at hl 0 rfl) ?_
    refine gK_classes hx hb hown hts hK hP dK_init_219 ?_
    refine lv_icmp_ge (tgt := 245) hx hb dK_init_222 (by decide) (fun c222 => ?_) (fun c222 => ?_)
    · have hf := (if_pos c222).symm.trans hf
      refine lv_iconst (v := 0) hx hb dK_init_245 (by decide) ?_
      refine lv_istore_n (lv' := [(3, .int 0), (0, .ref (q 0))]) hx hb dK_init_246 rfl hl (by decide) rfl (fun ls hl => ?_)
      exact tK_init_247 C0 hK hA fu σ 0 _ _ ls hf (lv_sub hl [1, 0] rfl) hP hD hS
    · have hf := (if_neg c222).symm.trans hf
      refine lv_aload_n hx hb dK_init_225 rfl (lv_at hl 0 rfl) ?_
      refine gK_groupOf hx hb hown hts hK hP dK_init_226 ?_
      refine lv_iload_n hx hb dK_init_229 rfl (lv_at hl 1 rfl) ?_
      refine lv_iload_n hx hb dK_init_230 rfl (lv_at hl 1 rfl) ?_
      obtain ⟨a231, ea231, hf⟩ := kb1 hf
      refine kr_iastore (σ' := (uK_groupOf σ a231)) hx hb hK hP hD hS 5 0 rfl rfl ea231 (wK_groupOf q k cI cJ _ _) dK_init_231 (fun H locs hP hD hS => ?_)
      generalize (uK_groupOf σ a231) = s231 at hf hP hD
      refine lv_aload_n hx hb dK_init_232 rfl (lv_at hl 0 rfl) ?_
      refine gK_filledBy hx hb hown hts hK hP dK_init_233 ?_
      refine lv_iload_n hx hb dK_init_236 rfl (lv_at hl 1 rfl) ?_
      refine lv_iconst (v := (-1)) hx hb dK_init_237 (by decide) ?_
      obtain ⟨a238, ea238, hf⟩ := kb1 hf
      refine kr_iastore (σ' := (uK_filledBy s231 a238)) hx hb hK hP hD hS 6 0 rfl rfl ea238 (wK_filledBy q k cI cJ _ _) dK_init_238 (fun H locs hP hD hS => ?_)
      generalize (uK_filledBy s231 a238) = s238 at hf hP hD
      refine lv_iinc (v := (x3 + 1)) (lv' := [(3, .int (x3 + 1)), (0, .ref (q 0))]) hx hb dK_init_239 hl (k := 1) rfl rfl (by decide) rfl (fun ls hl => ?_)
      refine lv_goto (tgt := 217) hx hb dK_init_242 (by decide) ?_
      exact ih s238 (x3 + 1) _ _ ls hf (lv_sub hl [1, 0] rfl) hP hD hS
set_option maxHeartbeats 4000000 in
set_option maxRecDepth 100000 in
theorem mK_init (l : Launch) (D : va_G) (cI cJ : ClassId) (sz fu h0 : Nat) (x1 x2 : Int32) (C A : Nat) (hC2 : C ≤ 10) (hA2 : A ≤ 6) (hCe : (if 1 < (if x1 < 10 then x1 else 10) then (if x1 < 10 then x1 else 10) else 1) = nI C) (hAe : (if 1 < (if x2 < 6 then x2 else 6) then (if x2 < 6 then x2 else 6) else 1) = nI A) (σ' : sK) (hf : fK_init_217 fu (k0K C A) fu s0K 0 = some σ') : Met l yK_init (.code yK_init cK_init 4 none :: TK) ({ frames := 1, cells := 15, slots := 801, locals := 21 }) (kPre D cl0 [(cI, .int), (cJ, .long)] (fun _ : Unit => [(h0, .inr (0, [.int 0, .int 0, .int 0, .null, .null, .null, .null, .null, .null, .null, .long 0, .null, .null, .null, .null, .null, .null, .null, .null]))]) sz () [.ref h0, .int x1, .int x2]) (va_Qv (fun q : Nat → Nat => q 0 = h0) (fun q t => va_P D cl0 (wdK q (k0K C A) cI cJ σ') t.heap ∧ va_K D cl0 [(cI, .int), (cJ, .long)] t ∧ va_D (va_A [(h0, .inr (0, [.int 0, .int 0, .int 0, .null, .null, .null, .null, .null, .null, .null, .long 0, .null, .null, .null, .null, .null, .null, .null, .null]))] sz) (wdK q (k0K C A) cI cJ σ')) (va_A [(h0, .inr (0, [.int 0, .int 0, .int 0, .null, .null, .null, .null, .null, .null, .null, .long 0, .null, .null, .null, .null, .null, .null, .null, .null]))] sz)) 15 801 (va_A [(h0, .inr (0, [.int 0, .int 0, .int 0, .null, .null, .null, .null, .null, .null, .null, .long 0, .null, .null, .null, .null, .null, .null, .null, .null]))] sz) := by
  refine kr_startI (own := RK) (by decide) rfl (Nat.le_of_ble_eq_true rfl) ?_
  intro p e s m args below meth c ls C0 hin hsz hK hP hD hl
  subst hsz
  obtain ⟨hx, hb, hr, hml, hown, hts, hlocks⟩ := id C0
  have hP : va_P D cl0 [(h0, .inr (0, [.int 0, .int 0, .int 0, .null, .null, .null, .null, .null, .null, .null, .long 0, .null, .null, .null, .null, .null, .null, .null, .null]))] s.heap := hP
  have hD : va_D (va_A [(h0, .inr (0, [.int 0, .int 0, .int 0, .null, .null, .null, .null, .null, .null, .null, .long 0, .null, .null, .null, .null, .null, .null, .null, .null]))] s.heap.size) [(h0, .inr (0, [.int 0, .int 0, .int 0, .null, .null, .null, .null, .null, .null, .null, .long 0, .null, .null, .null, .null, .null, .null, .null, .null]))] := hD
  have hA : ∀ z : Nat, s.heap.size ≤ z → va_A [(h0, .inr (0, [.int 0, .int 0, .int 0, .null, .null, .null, .null, .null, .null, .null, .long 0, .null, .null, .null, .null, .null, .null, .null, .null]))] s.heap.size z := fun z h => Or.inr h
  change W p l e _ s m args below meth c s.heap [] 0 0 (MQ below (va_Qv (fun q : Nat → Nat => q 0 = h0) (fun q t => va_P D cl0 (wdK q (k0K C A) cI cJ σ') t.heap ∧ va_K D cl0 [(cI, .int), (cJ, .long)] t ∧ va_D (va_A [(h0, .inr (0, [.int 0, .int 0, .int 0, .null, .null, .null, .null, .null, .null, .null, .long 0, .null, .null, .null, .null, .null, .null, .null, .null]))] s.heap.size) (wdK q (k0K C A) cI cJ σ')) (va_A [(h0, .inr (0, [.int 0, .int 0, .int 0, .null, .null, .null, .null, .null, .null, .null, .long 0, .null, .null, .null, .null, .null, .null, .null, .null]))] s.heap.size)) args s 15 801 (va_A [(h0, .inr (0, [.int 0, .int 0, .int 0, .null, .null, .null, .null, .null, .null, .null, .long 0, .null, .null, .null, .null, .null, .null, .null, .null]))] s.heap.size)) _
  generalize va_A [(h0, .inr (0, [.int 0, .int 0, .int 0, .null, .null, .null, .null, .null, .null, .null, .long 0, .null, .null, .null, .null, .null, .null, .null, .null]))] s.heap.size = A0 at hD hA ⊢
  have hS : va_S A0 s.heap s.heap [] := va_S.rf
  have hl : lv_has ls 4 [(0, .ref h0), (1, .int x1), (2, .int x2)] := hl
  refine lv_aload_n hx hb dK_init_0 rfl (lv_at hl 0 rfl) ?_
  refine W.objInit hx hb hown (hts (.methodLink RK 3 objectInit) (by decide +kernel)) (hts (.instanceMethod objectInit) (by decide +kernel)) (hts (.code objectInit ⟨#[0xb1]⟩ 1 none) (by decide +kernel)) rfl (by rw [hml]; exact hl.1) rfl dK_init_1 (Nat.le_of_ble_eq_true rfl) (Nat.le_of_ble_eq_true rfl) ?_
  refine W.eq (g2 := F0 m 4 ls []) rfl ?_
  refine lv_aload_n hx hb dK_init_4 rfl (lv_at hl 0 rfl) ?_
  refine lv_iconst (v := 4) hx hb dK_init_5 (by decide) ?_
  refine va_put (D := D) (ci := 0) (v := .int 4) (ty := .int) (C := RK) (T := FK) (N := 19) hx hb hts iK_u tyK tyK_ok nK_ok hown hK hP hD hS 0 rfl rfl 2 (by decide) (hts (.fieldLink RK 9 "AgeKeys" "chosenRow" "I") (by decide +kernel)) (fun _ h9 => h9) rfl (by decide +kernel) rfl rfl (Nat.le_of_ble_eq_true rfl) dK_init_6 (fun H locs hP hD hS => ?_)
  have hP : va_P D cl0 [(h0, .inr (0, [.int 0, .int 0, .int 4, .null, .null, .null, .null, .null, .null, .null, .long 0, .null, .null, .null, .null, .null, .null, .null, .null]))] H := hP
  have hD : va_D A0 [(h0, .inr (0, [.int 0, .int 0, .int 4, .null, .null, .null, .null, .null, .null, .null, .long 0, .null, .null, .null, .null, .null, .null, .null, .null]))] := hD
  refine lv_aload_n hx hb dK_init_9 rfl (lv_at hl 0 rfl) ?_
  refine lv_lconst (v := 0) hx hb dK_init_10 (by decide) ?_
  refine va_put (D := D) (ci := 0) (v := .long 0) (ty := .long) (C := RK) (T := FK) (N := 19) hx hb hts iK_u tyK tyK_ok nK_ok hown hK hP hD hS 0 rfl rfl 10 (by decide) (hts (.fieldLink RK 13 "AgeKeys" "measuredInAll" "J") (by decide +kernel)) (fun _ h9 => h9) rfl (by decide +kernel) rfl rfl (Nat.le_of_ble_eq_true rfl) dK_init_11 (fun H locs hP hD hS => ?_)
  have hP : va_P D cl0 [(h0, .inr (0, [.int 0, .int 0, .int 4, .null, .null, .null, .null, .null, .null, .null, .long 0, .null, .null, .null, .null, .null, .null, .null, .null]))] H := hP
  have hD : va_D A0 [(h0, .inr (0, [.int 0, .int 0, .int 4, .null, .null, .null, .null, .null, .null, .null, .long 0, .null, .null, .null, .null, .null, .null, .null, .null]))] := hD
  refine lv_aload_n hx hb dK_init_14 rfl (lv_at hl 0 rfl) ?_
  refine lv_iconst (v := 1) hx hb dK_init_15 (by decide) ?_
  refine lv_bipush (v := 10) hx hb dK_init_16 (by decide) ?_
  refine lv_iload_n hx hb dK_init_18 rfl (lv_at hl 1 rfl) ?_
  refine va_mmin hx hb (hml.trans hl.1.symm) hown (hts (.methodLink RK 17 Lib.Math.min.name) (by decide +kernel)) (hts (.static Lib.Math.min.name) (by decide +kernel)) (hts (.initialized "java/lang/Math") (by decide +kernel)) (hts (.code Lib.Math.min.name Lib.Math.min.code 2 (some .int)) (by decide +kernel)) (Nat.le_of_ble_eq_true rfl) (Nat.le_of_ble_eq_true rfl) (Nat.le_of_ble_eq_true rfl) (Nat.le_of_ble_eq_true rfl) dK_init_19 ?_
  refine va_mmax hx hb (hml.trans hl.1.symm) hown (hts (.methodLink RK 23 Lib.Math.max.name) (by decide +kernel)) (hts (.static Lib.Math.max.name) (by decide +kernel)) (hts (.initialized "java/lang/Math") (by decide +kernel)) (hts (.code Lib.Math.max.name Lib.Math.max.code 2 (some .int)) (by decide +kernel)) (Nat.le_of_ble_eq_true rfl) (Nat.le_of_ble_eq_true rfl) (Nat.le_of_ble_eq_true rfl) (Nat.le_of_ble_eq_true rfl) dK_init_22 ?_
  refine lv_topi (fun c25 e25 => ?_)
  obtain rfl : c25 = nI C := e25.trans hCe
  refine va_putF (D := D) (ci := 0) (v := .int (nI C)) (ty := .int) (C := RK) (T := FK) (N := 19) hx hb hts iK_u tyK tyK_ok nK_ok hown hK hP hD hS 0 rfl rfl 0 (by decide) (hts (.fieldLink RK 26 "AgeKeys" "classes" "I") (by decide +kernel)) (fun _ h9 => h9) rfl hin rfl (by decide +kernel) rfl rfl (Nat.le_of_ble_eq_true rfl) dK_init_25 (fun H locs hP hD hS => ?_)
  have hP : va_P D cl0 [(h0, .inr (0, [.int (nI C), .int 0, .int 4, .null, .null, .null, .null, .null, .null, .null, .long 0, .null, .null, .null, .null, .null, .null, .null, .null]))] H := hP
  have hD : va_D A0 [(h0, .inr (0, [.int (nI C), .int 0, .int 4, .null, .null, .null, .null, .null, .null, .null, .long 0, .null, .null, .null, .null, .null, .null, .null, .null]))] := hD
  refine lv_aload_n hx hb dK_init_28 rfl (lv_at hl 0 rfl) ?_
  refine lv_iconst (v := 1) hx hb dK_init_29 (by decide) ?_
  refine lv_bipush (v := 6) hx hb dK_init_30 (by decide) ?_
  refine lv_iload_n hx hb dK_init_32 rfl (lv_at hl 2 rfl) ?_
  refine va_mmin hx hb (hml.trans hl.1.symm) hown (hts (.methodLink RK 17 Lib.Math.min.name) (by decide +kernel)) (hts (.static Lib.Math.min.name) (by decide +kernel)) (hts (.initialized "java/lang/Math") (by decide +kernel)) (hts (.code Lib.Math.min.name Lib.Math.min.code 2 (some .int)) (by decide +kernel)) (Nat.le_of_ble_eq_true rfl) (Nat.le_of_ble_eq_true rfl) (Nat.le_of_ble_eq_true rfl) (Nat.le_of_ble_eq_true rfl) dK_init_33 ?_
  refine va_mmax hx hb (hml.trans hl.1.symm) hown (hts (.methodLink RK 23 Lib.Math.max.name) (by decide +kernel)) (hts (.static Lib.Math.max.name) (by decide +kernel)) (hts (.initialized "java/lang/Math") (by decide +kernel)) (hts (.code Lib.Math.max.name Lib.Math.max.code 2 (some .int)) (by decide +kernel)) (Nat.le_of_ble_eq_true rfl) (Nat.le_of_ble_eq_true rfl) (Nat.le_of_ble_eq_true rfl) (Nat.le_of_ble_eq_true rfl) dK_init_36 ?_
  refine lv_topi (fun c39 e39 => ?_)
  obtain rfl : c39 = nI A := e39.trans hAe
  refine va_putF (D := D) (ci := 0) (v := .int (nI A)) (ty := .int) (C := RK) (T := FK) (N := 19) hx hb hts iK_u tyK tyK_ok nK_ok hown hK hP hD hS 0 rfl rfl 1 (by decide) (hts (.fieldLink RK 29 "AgeKeys" "ages" "I") (by decide +kernel)) (fun _ h9 => h9) rfl hin rfl (by decide +kernel) rfl rfl (Nat.le_of_ble_eq_true rfl) dK_init_39 (fun H locs hP hD hS => ?_)
  have hP : va_P D cl0 [(h0, .inr (0, [.int (nI C), .int (nI A), .int 4, .null, .null, .null, .null, .null, .null, .null, .long 0, .null, .null, .null, .null, .null, .null, .null, .null]))] H := hP
  have hD : va_D A0 [(h0, .inr (0, [.int (nI C), .int (nI A), .int 4, .null, .null, .null, .null, .null, .null, .null, .long 0, .null, .null, .null, .null, .null, .null, .null, .null]))] := hD
  refine lv_aload_n hx hb dK_init_42 rfl (lv_at hl 0 rfl) ?_
  refine lv_iconst (v := 5) hx hb dK_init_43 (by decide) ?_
  refine lv_aload_n hx hb dK_init_44 rfl (lv_at hl 0 rfl) ?_
  refine va_get (D := D) (ci := 0) (v := .int (nI C)) (C := RK) (T := FK) (N := 19) hx hb hts iK_u hown hK hP 0 rfl rfl 0 (by decide) (hts (.fieldLink RK 26 "AgeKeys" "classes" "I") (by decide +kernel)) (fun _ h9 => h9) rfl dK_init_45 ?_
  refine lv_imul hx hb dK_init_48 ?_
  refine lv_aload_n hx hb dK_init_49 rfl (lv_at hl 0 rfl) ?_
  refine va_get (D := D) (ci := 0) (v := .int (nI A)) (C := RK) (T := FK) (N := 19) hx hb hts iK_u hown hK hP 0 rfl rfl 1 (by decide) (hts (.fieldLink RK 29 "AgeKeys" "ages" "I") (by decide +kernel)) (fun _ h9 => h9) rfl dK_init_50 ?_
  refine lv_imul hx hb dK_init_53 ?_
  refine lv_topi (fun n54 e54 => ?_)
  obtain rfl : n54 = nI (5 * C * A) := e54.trans (by rw [show (5 : Int32) = nI 5 from rfl, pk_mul, pk_mul])
  have b54 : 5 * C * A ≤ 300 := (by have h9 := mul_le60 hC2 hA2; rw [Nat.mul_assoc]; omega)
  refine ki_newI (N' := 5 * C * A) hx hb (hts (.arrayClass .int) (by decide +kernel)) hK hP hD hS hA (by omega) (Nat.le_of_ble_eq_true rfl) (show 0 + 5 * C * A ≤ 801 by omega) dK_init_54 (fun q1 H hP hD hS => ?_)
  have hP : va_P D cl0 [(h0, .inr (0, [.int (nI C), .int (nI A), .int 4, .null, .null, .null, .null, .null, .null, .null, .long 0, .null, .null, .null, .null, .null, .null, .null, .null])), (q1, .inl (cI, 5 * C * A, .inl (fun _ => 0)))] H := hP
  have hD : va_D A0 [(h0, .inr (0, [.int (nI C), .int (nI A), .int 4, .null, .null, .null, .null, .null, .null, .null, .long 0, .null, .null, .null, .null, .null, .null, .null, .null])), (q1, .inl (cI, 5 * C * A, .inl (fun _ => 0)))] := hD
  refine W.widen (k := 1) (n := 300) (by omega) (by omega) ?_
  refine va_putF (D := D) (ci := 0) (v := .ref q1) (ty := (.array .int)) (C := RK) (T := FK) (N := 19) hx hb hts iK_u tyK tyK_ok nK_ok hown hK hP hD hS 0 rfl rfl 3 (by decide) (hts (.fieldLink RK 32 "AgeKeys" "readings" "[I") (by decide +kernel)) (fun _ h9 => h9) rfl hin rfl (by decide +kernel) rfl rfl (Nat.le_of_ble_eq_true rfl) dK_init_56 (fun H locs hP hD hS => ?_)
  have hP : va_P D cl0 [(h0, .inr (0, [.int (nI C), .int (nI A), .int 4, .ref q1, .null, .null, .null, .null, .null, .null, .long 0, .null, .null, .null, .null, .null, .null, .null, .null])), (q1, .inl (cI, 5 * C * A, .inl (fun _ => 0)))] H := hP
  have hD : va_D A0 [(h0, .inr (0, [.int (nI C), .int (nI A), .int 4, .ref q1, .null, .null, .null, .null, .null, .null, .long 0, .null, .null, .null, .null, .null, .null, .null, .null])), (q1, .inl (cI, 5 * C * A, .inl (fun _ => 0)))] := hD
  refine lv_aload_n hx hb dK_init_59 rfl (lv_at hl 0 rfl) ?_
  refine lv_iconst (v := 5) hx hb dK_init_60 (by decide) ?_
  refine lv_topi (fun n61 e61 => ?_)
  obtain rfl : n61 = nI (5) := e61.trans rfl
  have b61 : 5 ≤ 5 := (by omega)
  refine ki_newI (N' := 5) hx hb (hts (.arrayClass .int) (by decide +kernel)) hK hP hD hS hA (by omega) (Nat.le_of_ble_eq_true rfl) (show 300 + 5 ≤ 801 by omega) dK_init_61 (fun q2 H hP hD hS => ?_)
  have hP : va_P D cl0 [(h0, .inr (0, [.int (nI C), .int (nI A), .int 4, .ref q1, .null, .null, .null, .null, .null, .null, .long 0, .null, .null, .null, .null, .null, .null, .null, .null])), (q1, .inl (cI, 5 * C * A, .inl (fun _ => 0))), (q2, .inl (cI, 5, .inl (fun _ => 0)))] H := hP
  have hD : va_D A0 [(h0, .inr (0, [.int (nI C), .int (nI A), .int 4, .ref q1, .null, .null, .null, .null, .null, .null, .long 0, .null, .null, .null, .null, .null, .null, .null, .null])), (q1, .inl (cI, 5 * C * A, .inl (fun _ => 0))), (q2, .inl (cI, 5, .inl (fun _ => 0)))] := hD
  refine W.widen (k := 2) (n := 305) (by omega) (by omega) ?_
  refine va_putF (D := D) (ci := 0) (v := .ref q2) (ty := (.array .int)) (C := RK) (T := FK) (N := 19) hx hb hts iK_u tyK tyK_ok nK_ok hown hK hP hD hS 0 rfl rfl 4 (by decide) (hts (.fieldLink RK 36 "AgeKeys" "rowSize" "[I") (by decide +kernel)) (fun _ h9 => h9) rfl hin rfl (by decide +kernel) rfl rfl (Nat.le_of_ble_eq_true rfl) dK_init_63 (fun H locs hP hD hS => ?_)
  have hP : va_P D cl0 [(h0, .inr (0, [.int (nI C), .int (nI A), .int 4, .ref q1, .ref q2, .null, .null, .null, .null, .null, .long 0, .null, .null, .null, .null, .null, .null, .null, .null])), (q1, .inl (cI, 5 * C * A, .inl (fun _ => 0))), (q2, .inl (cI, 5, .inl (fun _ => 0)))] H := hP
  have hD : va_D A0 [(h0, .inr (0, [.int (nI C), .int (nI A), .int 4, .ref q1, .ref q2, .null, .null, .null, .null, .null, .long 0, .null, .null, .null, .null, .null, .null, .null, .null])), (q1, .inl (cI, 5 * C * A, .inl (fun _ => 0))), (q2, .inl (cI, 5, .inl (fun _ => 0)))] := hD
  refine lv_aload_n hx hb dK_init_66 rfl (lv_at hl 0 rfl) ?_
  refine lv_iconst (v := 5) hx hb dK_init_67 (by decide) ?_
  refine lv_aload_n hx hb dK_init_68 rfl (lv_at hl 0 rfl) ?_
  refine va_get (D := D) (ci := 0) (v := .int (nI C)) (C := RK) (T := FK) (N := 19) hx hb hts iK_u hown hK hP 0 rfl rfl 0 (by decide) (hts (.fieldLink RK 26 "AgeKeys" "classes" "I") (by decide +kernel)) (fun _ h9 => h9) rfl dK_init_69 ?_
  refine lv_imul hx hb dK_init_72 ?_
  refine lv_aload_n hx hb dK_init_73 rfl (lv_at hl 0 rfl) ?_
  refine va_get (D := D) (ci := 0) (v := .int (nI A)) (C := RK) (T := FK) (N := 19) hx hb hts iK_u hown hK hP 0 rfl rfl 1 (by decide) (hts (.fieldLink RK 29 "AgeKeys" "ages" "I") (by decide +kernel)) (fun _ h9 => h9) rfl dK_init_74 ?_
  refine lv_imul hx hb dK_init_77 ?_
  refine lv_topi (fun n78 e78 => ?_)
  obtain rfl : n78 = nI (5 * C * A) := e78.trans (by rw [show (5 : Int32) = nI 5 from rfl, pk_mul, pk_mul])
  have b78 : 5 * C * A ≤ 300 := (by have h9 := mul_le60 hC2 hA2; rw [Nat.mul_assoc]; omega)
  refine ki_newI (N' := 5 * C * A) hx hb (hts (.arrayClass .int) (by decide +kernel)) hK hP hD hS hA (by omega) (Nat.le_of_ble_eq_true rfl) (show 305 + 5 * C * A ≤ 801 by omega) dK_init_78 (fun q3 H hP hD hS => ?_)
  have hP : va_P D cl0 [(h0, .inr (0, [.int (nI C), .int (nI A), .int 4, .ref q1, .ref q2, .null, .null, .null, .null, .null, .long 0, .null, .null, .null, .null, .null, .null, .null, .null])), (q1, .inl (cI, 5 * C * A, .inl (fun _ => 0))), (q2, .inl (cI, 5, .inl (fun _ => 0))), (q3, .inl (cI, 5 * C * A, .inl (fun _ => 0)))] H := hP
  have hD : va_D A0 [(h0, .inr (0, [.int (nI C), .int (nI A), .int 4, .ref q1, .ref q2, .null, .null, .null, .null, .null, .long 0, .null, .null, .null, .null, .null, .null, .null, .null])), (q1, .inl (cI, 5 * C * A, .inl (fun _ => 0))), (q2, .inl (cI, 5, .inl (fun _ => 0))), (q3, .inl (cI, 5 * C * A, .inl (fun _ => 0)))] := hD
  refine W.widen (k := 3) (n := 605) (by omega) (by omega) ?_
  refine va_putF (D := D) (ci := 0) (v := .ref q3) (ty := (.array .int)) (C := RK) (T := FK) (N := 19) hx hb hts iK_u tyK tyK_ok nK_ok hown hK hP hD hS 0 rfl rfl 5 (by decide) (hts (.fieldLink RK 39 "AgeKeys" "groupReadings" "[I") (by decide +kernel)) (fun _ h9 => h9) rfl hin rfl (by decide +kernel) rfl rfl (Nat.le_of_ble_eq_true rfl) dK_init_80 (fun H locs hP hD hS => ?_)
  have hP : va_P D cl0 [(h0, .inr (0, [.int (nI C), .int (nI A), .int 4, .ref q1, .ref q2, .ref q3, .null, .null, .null, .null, .long 0, .null, .null, .null, .null, .null, .null, .null, .null])), (q1, .inl (cI, 5 * C * A, .inl (fun _ => 0))), (q2, .inl (cI, 5, .inl (fun _ => 0))), (q3, .inl (cI, 5 * C * A, .inl (fun _ => 0)))] H := hP
  have hD : va_D A0 [(h0, .inr (0, [.int (nI C), .int (nI A), .int 4, .ref q1, .ref q2, .ref q3, .null, .null, .null, .null, .long 0, .null, .null, .null, .null, .null, .null, .null, .null])), (q1, .inl (cI, 5 * C * A, .inl (fun _ => 0))), (q2, .inl (cI, 5, .inl (fun _ => 0))), (q3, .inl (cI, 5 * C * A, .inl (fun _ => 0)))] := hD
  refine lv_aload_n hx hb dK_init_83 rfl (lv_at hl 0 rfl) ?_
  refine lv_iconst (v := 5) hx hb dK_init_84 (by decide) ?_
  refine lv_aload_n hx hb dK_init_85 rfl (lv_at hl 0 rfl) ?_
  refine va_get (D := D) (ci := 0) (v := .int (nI C)) (C := RK) (T := FK) (N := 19) hx hb hts iK_u hown hK hP 0 rfl rfl 0 (by decide) (hts (.fieldLink RK 26 "AgeKeys" "classes" "I") (by decide +kernel)) (fun _ h9 => h9) rfl dK_init_86 ?_
  refine lv_imul hx hb dK_init_89 ?_
  refine lv_topi (fun n90 e90 => ?_)
  obtain rfl : n90 = nI (5 * C) := e90.trans (by rw [show (5 : Int32) = nI 5 from rfl, pk_mul])
  have b90 : 5 * C ≤ 50 := (by omega)
  refine ki_newI (N' := 5 * C) hx hb (hts (.arrayClass .int) (by decide +kernel)) hK hP hD hS hA (by omega) (Nat.le_of_ble_eq_true rfl) (show 605 + 5 * C ≤ 801 by omega) dK_init_90 (fun q4 H hP hD hS => ?_)
  have hP : va_P D cl0 [(h0, .inr (0, [.int (nI C), .int (nI A), .int 4, .ref q1, .ref q2, .ref q3, .null, .null, .null, .null, .long 0, .null, .null, .null, .null, .null, .null, .null, .null])), (q1, .inl (cI, 5 * C * A, .inl (fun _ => 0))), (q2, .inl (cI, 5, .inl (fun _ => 0))), (q3, .inl (cI, 5 * C * A, .inl (fun _ => 0))), (q4, .inl (cI, 5 * C, .inl (fun _ => 0)))] H := hP
  have hD : va_D A0 [(h0, .inr (0, [.int (nI C), .int (nI A), .int 4, .ref q1, .ref q2, .ref q3, .null, .null, .null, .null, .long 0, .null, .null, .null, .null, .null, .null, .null, .null])), (q1, .inl (cI, 5 * C * A, .inl (fun _ => 0))), (q2, .inl (cI, 5, .inl (fun _ => 0))), (q3, .inl (cI, 5 * C * A, .inl (fun _ => 0))), (q4, .inl (cI, 5 * C, .inl (fun _ => 0)))] := hD
  refine W.widen (k := 4) (n := 655) (by omega) (by omega) ?_
  refine va_putF (D := D) (ci := 0) (v := .ref q4) (ty := (.array .int)) (C := RK) (T := FK) (N := 19) hx hb hts iK_u tyK tyK_ok nK_ok hown hK hP hD hS 0 rfl rfl 6 (by decide) (hts (.fieldLink RK 42 "AgeKeys" "groupSize" "[I") (by decide +kernel)) (fun _ h9 => h9) rfl hin rfl (by decide +kernel) rfl rfl (Nat.le_of_ble_eq_true rfl) dK_init_92 (fun H locs hP hD hS => ?_)
  have hP : va_P D cl0 [(h0, .inr (0, [.int (nI C), .int (nI A), .int 4, .ref q1, .ref q2, .ref q3, .ref q4, .null, .null, .null, .long 0, .null, .null, .null, .null, .null, .null, .null, .null])), (q1, .inl (cI, 5 * C * A, .inl (fun _ => 0))), (q2, .inl (cI, 5, .inl (fun _ => 0))), (q3, .inl (cI, 5 * C * A, .inl (fun _ => 0))), (q4, .inl (cI, 5 * C, .inl (fun _ => 0)))] H := hP
  have hD : va_D A0 [(h0, .inr (0, [.int (nI C), .int (nI A), .int 4, .ref q1, .ref q2, .ref q3, .ref q4, .null, .null, .null, .long 0, .null, .null, .null, .null, .null, .null, .null, .null])), (q1, .inl (cI, 5 * C * A, .inl (fun _ => 0))), (q2, .inl (cI, 5, .inl (fun _ => 0))), (q3, .inl (cI, 5 * C * A, .inl (fun _ => 0))), (q4, .inl (cI, 5 * C, .inl (fun _ => 0)))] := hD
  refine lv_aload_n hx hb dK_init_95 rfl (lv_at hl 0 rfl) ?_
  refine lv_aload_n hx hb dK_init_96 rfl (lv_at hl 0 rfl) ?_
  refine va_get (D := D) (ci := 0) (v := .int (nI C)) (C := RK) (T := FK) (N := 19) hx hb hts iK_u hown hK hP 0 rfl rfl 0 (by decide) (hts (.fieldLink RK 26 "AgeKeys" "classes" "I") (by decide +kernel)) (fun _ h9 => h9) rfl dK_init_97 ?_
  refine lv_topi (fun n100 e100 => ?_)
  obtain rfl : n100 = nI (C) := e100.trans rfl
  have b100 : C ≤ 10 := hC2
  refine ki_newI (N' := C) hx hb (hts (.arrayClass .int) (by decide +kernel)) hK hP hD hS hA (by omega) (Nat.le_of_ble_eq_true rfl) (show 655 + C ≤ 801 by omega) dK_init_100 (fun q5 H hP hD hS => ?_)
  have hP : va_P D cl0 [(h0, .inr (0, [.int (nI C), .int (nI A), .int 4, .ref q1, .ref q2, .ref q3, .ref q4, .null, .null, .null, .long 0, .null, .null, .null, .null, .null, .null, .null, .null])), (q1, .inl (cI, 5 * C * A, .inl (fun _ => 0))), (q2, .inl (cI, 5, .inl (fun _ => 0))), (q3, .inl (cI, 5 * C * A, .inl (fun _ => 0))), (q4, .inl (cI, 5 * C, .inl (fun _ => 0))), (q5, .inl (cI, C, .inl (fun _ => 0)))] H := hP
  have hD : va_D A0 [(h0, .inr (0, [.int (nI C), .int (nI A), .int 4, .ref q1, .ref q2, .ref q3, .ref q4, .null, .null, .null, .long 0, .null, .null, .null, .null, .null, .null, .null, .null])), (q1, .inl (cI, 5 * C * A, .inl (fun _ => 0))), (q2, .inl (cI, 5, .inl (fun _ => 0))), (q3, .inl (cI, 5 * C * A, .inl (fun _ => 0))), (q4, .inl (cI, 5 * C, .inl (fun _ => 0))), (q5, .inl (cI, C, .inl (fun _ => 0)))] := hD
  refine W.widen (k := 5) (n := 665) (by omega) (by omega) ?_
  refine va_putF (D := D) (ci := 0) (v := .ref q5) (ty := (.array .int)) (C := RK) (T := FK) (N := 19) hx hb hts iK_u tyK tyK_ok nK_ok hown hK hP hD hS 0 rfl rfl 7 (by decide) (hts (.fieldLink RK 45 "AgeKeys" "groupOf" "[I") (by decide +kernel)) (fun _ h9 => h9) rfl hin rfl (by decide +kernel) rfl rfl (Nat.le_of_ble_eq_true rfl) dK_init_102 (fun H locs hP hD hS => ?_)
  have hP : va_P D cl0 [(h0, .inr (0, [.int (nI C), .int (nI A), .int 4, .ref q1, .ref q2, .ref q3, .ref q4, .ref q5, .null, .null, .long 0, .null, .null, .null, .null, .null, .null, .null, .null])), (q1, .inl (cI, 5 * C * A, .inl (fun _ => 0))), (q2, .inl (cI, 5, .inl (fun _ => 0))), (q3, .inl (cI, 5 * C * A, .inl (fun _ => 0))), (q4, .inl (cI, 5 * C, .inl (fun _ => 0))), (q5, .inl (cI, C, .inl (fun _ => 0)))] H := hP
  have hD : va_D A0 [(h0, .inr (0, [.int (nI C), .int (nI A), .int 4, .ref q1, .ref q2, .ref q3, .ref q4, .ref q5, .null, .null, .long 0, .null, .null, .null, .null, .null, .null, .null, .null])), (q1, .inl (cI, 5 * C * A, .inl (fun _ => 0))), (q2, .inl (cI, 5, .inl (fun _ => 0))), (q3, .inl (cI, 5 * C * A, .inl (fun _ => 0))), (q4, .inl (cI, 5 * C, .inl (fun _ => 0))), (q5, .inl (cI, C, .inl (fun _ => 0)))] := hD
  refine lv_aload_n hx hb dK_init_105 rfl (lv_at hl 0 rfl) ?_
  refine lv_aload_n hx hb dK_init_106 rfl (lv_at hl 0 rfl) ?_
  refine va_get (D := D) (ci := 0) (v := .int (nI C)) (C := RK) (T := FK) (N := 19) hx hb hts iK_u hown hK hP 0 rfl rfl 0 (by decide) (hts (.fieldLink RK 26 "AgeKeys" "classes" "I") (by decide +kernel)) (fun _ h9 => h9) rfl dK_init_107 ?_
  refine lv_topi (fun n110 e110 => ?_)
  obtain rfl : n110 = nI (C) := e110.trans rfl
  have b110 : C ≤ 10 := hC2
  refine ki_newI (N' := C) hx hb (hts (.arrayClass .int) (by decide +kernel)) hK hP hD hS hA (by omega) (Nat.le_of_ble_eq_true rfl) (show 665 + C ≤ 801 by omega) dK_init_110 (fun q6 H hP hD hS => ?_)
  have hP : va_P D cl0 [(h0, .inr (0, [.int (nI C), .int (nI A), .int 4, .ref q1, .ref q2, .ref q3, .ref q4, .ref q5, .null, .null, .long 0, .null, .null, .null, .null, .null, .null, .null, .null])), (q1, .inl (cI, 5 * C * A, .inl (fun _ => 0))), (q2, .inl (cI, 5, .inl (fun _ => 0))), (q3, .inl (cI, 5 * C * A, .inl (fun _ => 0))), (q4, .inl (cI, 5 * C, .inl (fun _ => 0))), (q5, .inl (cI, C, .inl (fun _ => 0))), (q6, .inl (cI, C, .inl (fun _ => 0)))] H := hP
  have hD : va_D A0 [(h0, .inr (0, [.int (nI C), .int (nI A), .int 4, .ref q1, .ref q2, .ref q3, .ref q4, .ref q5, .null, .null, .long 0, .null, .null, .null, .null, .null, .null, .null, .null])), (q1, .inl (cI, 5 * C * A, .inl (fun _ => 0))), (q2, .inl (cI, 5, .inl (fun _ => 0))), (q3, .inl (cI, 5 * C * A, .inl (fun _ => 0))), (q4, .inl (cI, 5 * C, .inl (fun _ => 0))), (q5, .inl (cI, C, .inl (fun _ => 0))), (q6, .inl (cI, C, .inl (fun _ => 0)))] := hD
  refine W.widen (k := 6) (n := 675) (by omega) (by omega) ?_
  refine va_putF (D := D) (ci := 0) (v := .ref q6) (ty := (.array .int)) (C := RK) (T := FK) (N := 19) hx hb hts iK_u tyK tyK_ok nK_ok hown hK hP hD hS 0 rfl rfl 8 (by decide) (hts (.fieldLink RK 48 "AgeKeys" "filledBy" "[I") (by decide +kernel)) (fun _ h9 => h9) rfl hin rfl (by decide +kernel) rfl rfl (Nat.le_of_ble_eq_true rfl) dK_init_112 (fun H locs hP hD hS => ?_)
  have hP : va_P D cl0 [(h0, .inr (0, [.int (nI C), .int (nI A), .int 4, .ref q1, .ref q2, .ref q3, .ref q4, .ref q5, .ref q6, .null, .long 0, .null, .null, .null, .null, .null, .null, .null, .null])), (q1, .inl (cI, 5 * C * A, .inl (fun _ => 0))), (q2, .inl (cI, 5, .inl (fun _ => 0))), (q3, .inl (cI, 5 * C * A, .inl (fun _ => 0))), (q4, .inl (cI, 5 * C, .inl (fun _ => 0))), (q5, .inl (cI, C, .inl (fun _ => 0))), (q6, .inl (cI, C, .inl (fun _ => 0)))] H := hP
  have hD : va_D A0 [(h0, .inr (0, [.int (nI C), .int (nI A), .int 4, .ref q1, .ref q2, .ref q3, .ref q4, .ref q5, .ref q6, .null, .long 0, .null, .null, .null, .null, .null, .null, .null, .null])), (q1, .inl (cI, 5 * C * A, .inl (fun _ => 0))), (q2, .inl (cI, 5, .inl (fun _ => 0))), (q3, .inl (cI, 5 * C * A, .inl (fun _ => 0))), (q4, .inl (cI, 5 * C, .inl (fun _ => 0))), (q5, .inl (cI, C, .inl (fun _ => 0))), (q6, .inl (cI, C, .inl (fun _ => 0)))] := hD
  refine lv_aload_n hx hb dK_init_115 rfl (lv_at hl 0 rfl) ?_
  refine lv_aload_n hx hb dK_init_116 rfl (lv_at hl 0 rfl) ?_
  refine va_get (D := D) (ci := 0) (v := .int (nI C)) (C := RK) (T := FK) (N := 19) hx hb hts iK_u hown hK hP 0 rfl rfl 0 (by decide) (hts (.fieldLink RK 26 "AgeKeys" "classes" "I") (by decide +kernel)) (fun _ h9 => h9) rfl dK_init_117 ?_
  refine lv_topi (fun n120 e120 => ?_)
  obtain rfl : n120 = nI (C) := e120.trans rfl
  have b120 : C ≤ 10 := hC2
  refine ki_newJ (N' := C) hx hb (hts (.arrayClass .long) (by decide +kernel)) hK hP hD hS hA (by omega) (Nat.le_of_ble_eq_true rfl) (show 675 + C ≤ 801 by omega) dK_init_120 (fun q7 H hP hD hS => ?_)
  have hP : va_P D cl0 [(h0, .inr (0, [.int (nI C), .int (nI A), .int 4, .ref q1, .ref q2, .ref q3, .ref q4, .ref q5, .ref q6, .null, .long 0, .null, .null, .null, .null, .null, .null, .null, .null])), (q1, .inl (cI, 5 * C * A, .inl (fun _ => 0))), (q2, .inl (cI, 5, .inl (fun _ => 0))), (q3, .inl (cI, 5 * C * A, .inl (fun _ => 0))), (q4, .inl (cI, 5 * C, .inl (fun _ => 0))), (q5, .inl (cI, C, .inl (fun _ => 0))), (q6, .inl (cI, C, .inl (fun _ => 0))), (q7, .inl (cJ, C, .inr (.inl (fun _ => 0))))] H := hP
  have hD : va_D A0 [(h0, .inr (0, [.int (nI C), .int (nI A), .int 4, .ref q1, .ref q2, .ref q3, .ref q4, .ref q5, .ref q6, .null, .long 0, .null, .null, .null, .null, .null, .null, .null, .null])), (q1, .inl (cI, 5 * C * A, .inl (fun _ => 0))), (q2, .inl (cI, 5, .inl (fun _ => 0))), (q3, .inl (cI, 5 * C * A, .inl (fun _ => 0))), (q4, .inl (cI, 5 * C, .inl (fun _ => 0))), (q5, .inl (cI, C, .inl (fun _ => 0))), (q6, .inl (cI, C, .inl (fun _ => 0))), (q7, .inl (cJ, C, .inr (.inl (fun _ => 0))))] := hD
  refine W.widen (k := 7) (n := 685) (by omega) (by omega) ?_
  refine va_putF (D := D) (ci := 0) (v := .ref q7) (ty := (.array .long)) (C := RK) (T := FK) (N := 19) hx hb hts iK_u tyK tyK_ok nK_ok hown hK hP hD hS 0 rfl rfl 9 (by decide) (hts (.fieldLink RK 51 "AgeKeys" "measured" "[J") (by decide +kernel)) (fun _ h9 => h9) rfl hin rfl (by decide +kernel) rfl rfl (Nat.le_of_ble_eq_true rfl) dK_init_122 (fun H locs hP hD hS => ?_)
  have hP : va_P D cl0 [(h0, .inr (0, [.int (nI C), .int (nI A), .int 4, .ref q1, .ref q2, .ref q3, .ref q4, .ref q5, .ref q6, .ref q7, .long 0, .null, .null, .null, .null, .null, .null, .null, .null])), (q1, .inl (cI, 5 * C * A, .inl (fun _ => 0))), (q2, .inl (cI, 5, .inl (fun _ => 0))), (q3, .inl (cI, 5 * C * A, .inl (fun _ => 0))), (q4, .inl (cI, 5 * C, .inl (fun _ => 0))), (q5, .inl (cI, C, .inl (fun _ => 0))), (q6, .inl (cI, C, .inl (fun _ => 0))), (q7, .inl (cJ, C, .inr (.inl (fun _ => 0))))] H := hP
  have hD : va_D A0 [(h0, .inr (0, [.int (nI C), .int (nI A), .int 4, .ref q1, .ref q2, .ref q3, .ref q4, .ref q5, .ref q6, .ref q7, .long 0, .null, .null, .null, .null, .null, .null, .null, .null])), (q1, .inl (cI, 5 * C * A, .inl (fun _ => 0))), (q2, .inl (cI, 5, .inl (fun _ => 0))), (q3, .inl (cI, 5 * C * A, .inl (fun _ => 0))), (q4, .inl (cI, 5 * C, .inl (fun _ => 0))), (q5, .inl (cI, C, .inl (fun _ => 0))), (q6, .inl (cI, C, .inl (fun _ => 0))), (q7, .inl (cJ, C, .inr (.inl (fun _ => 0))))] := hD
  refine lv_aload_n hx hb dK_init_125 rfl (lv_at hl 0 rfl) ?_
  refine lv_aload_n hx hb dK_init_126 rfl (lv_at hl 0 rfl) ?_
  refine va_get (D := D) (ci := 0) (v := .int (nI A)) (C := RK) (T := FK) (N := 19) hx hb hts iK_u hown hK hP 0 rfl rfl 1 (by decide) (hts (.fieldLink RK 29 "AgeKeys" "ages" "I") (by decide +kernel)) (fun _ h9 => h9) rfl dK_init_127 ?_
  refine lv_aload_n hx hb dK_init_130 rfl (lv_at hl 0 rfl) ?_
  refine va_get (D := D) (ci := 0) (v := .int (nI A)) (C := RK) (T := FK) (N := 19) hx hb hts iK_u hown hK hP 0 rfl rfl 1 (by decide) (hts (.fieldLink RK 29 "AgeKeys" "ages" "I") (by decide +kernel)) (fun _ h9 => h9) rfl dK_init_131 ?_
  refine lv_imul hx hb dK_init_134 ?_
  refine lv_topi (fun n135 e135 => ?_)
  obtain rfl : n135 = nI (A * A) := e135.trans (pk_mul _ _)
  have b135 : A * A ≤ 36 := mul_le36 hA2
  refine ki_newI (N' := A * A) hx hb (hts (.arrayClass .int) (by decide +kernel)) hK hP hD hS hA (by omega) (Nat.le_of_ble_eq_true rfl) (show 685 + A * A ≤ 801 by omega) dK_init_135 (fun q8 H hP hD hS => ?_)
  have hP : va_P D cl0 [(h0, .inr (0, [.int (nI C), .int (nI A), .int 4, .ref q1, .ref q2, .ref q3, .ref q4, .ref q5, .ref q6, .ref q7, .long 0, .null, .null, .null, .null, .null, .null, .null, .null])), (q1, .inl (cI, 5 * C * A, .inl (fun _ => 0))), (q2, .inl (cI, 5, .inl (fun _ => 0))), (q3, .inl (cI, 5 * C * A, .inl (fun _ => 0))), (q4, .inl (cI, 5 * C, .inl (fun _ => 0))), (q5, .inl (cI, C, .inl (fun _ => 0))), (q6, .inl (cI, C, .inl (fun _ => 0))), (q7, .inl (cJ, C, .inr (.inl (fun _ => 0)))), (q8, .inl (cI, A * A, .inl (fun _ => 0)))] H := hP
  have hD : va_D A0 [(h0, .inr (0, [.int (nI C), .int (nI A), .int 4, .ref q1, .ref q2, .ref q3, .ref q4, .ref q5, .ref q6, .ref q7, .long 0, .null, .null, .null, .null, .null, .null, .null, .null])), (q1, .inl (cI, 5 * C * A, .inl (fun _ => 0))), (q2, .inl (cI, 5, .inl (fun _ => 0))), (q3, .inl (cI, 5 * C * A, .inl (fun _ => 0))), (q4, .inl (cI, 5 * C, .inl (fun _ => 0))), (q5, .inl (cI, C, .inl (fun _ => 0))), (q6, .inl (cI, C, .inl (fun _ => 0))), (q7, .inl (cJ, C, .inr (.inl (fun _ => 0)))), (q8, .inl (cI, A * A, .inl (fun _ => 0)))] := hD
  refine W.widen (k := 8) (n := 721) (by omega) (by omega) ?_
  refine va_putF (D := D) (ci := 0) (v := .ref q8) (ty := (.array .int)) (C := RK) (T := FK) (N := 19) hx hb hts iK_u tyK tyK_ok nK_ok hown hK hP hD hS 0 rfl rfl 11 (by decide) (hts (.fieldLink RK 55 "AgeKeys" "errors" "[I") (by decide +kernel)) (fun _ h9 => h9) rfl hin rfl (by decide +kernel) rfl rfl (Nat.le_of_ble_eq_true rfl) dK_init_137 (fun H locs hP hD hS => ?_)
  have hP : va_P D cl0 [(h0, .inr (0, [.int (nI C), .int (nI A), .int 4, .ref q1, .ref q2, .ref q3, .ref q4, .ref q5, .ref q6, .ref q7, .long 0, .ref q8, .null, .null, .null, .null, .null, .null, .null])), (q1, .inl (cI, 5 * C * A, .inl (fun _ => 0))), (q2, .inl (cI, 5, .inl (fun _ => 0))), (q3, .inl (cI, 5 * C * A, .inl (fun _ => 0))), (q4, .inl (cI, 5 * C, .inl (fun _ => 0))), (q5, .inl (cI, C, .inl (fun _ => 0))), (q6, .inl (cI, C, .inl (fun _ => 0))), (q7, .inl (cJ, C, .inr (.inl (fun _ => 0)))), (q8, .inl (cI, A * A, .inl (fun _ => 0)))] H := hP
  have hD : va_D A0 [(h0, .inr (0, [.int (nI C), .int (nI A), .int 4, .ref q1, .ref q2, .ref q3, .ref q4, .ref q5, .ref q6, .ref q7, .long 0, .ref q8, .null, .null, .null, .null, .null, .null, .null])), (q1, .inl (cI, 5 * C * A, .inl (fun _ => 0))), (q2, .inl (cI, 5, .inl (fun _ => 0))), (q3, .inl (cI, 5 * C * A, .inl (fun _ => 0))), (q4, .inl (cI, 5 * C, .inl (fun _ => 0))), (q5, .inl (cI, C, .inl (fun _ => 0))), (q6, .inl (cI, C, .inl (fun _ => 0))), (q7, .inl (cJ, C, .inr (.inl (fun _ => 0)))), (q8, .inl (cI, A * A, .inl (fun _ => 0)))] := hD
  refine lv_aload_n hx hb dK_init_140 rfl (lv_at hl 0 rfl) ?_
  refine lv_aload_n hx hb dK_init_141 rfl (lv_at hl 0 rfl) ?_
  refine va_get (D := D) (ci := 0) (v := .int (nI A)) (C := RK) (T := FK) (N := 19) hx hb hts iK_u hown hK hP 0 rfl rfl 1 (by decide) (hts (.fieldLink RK 29 "AgeKeys" "ages" "I") (by decide +kernel)) (fun _ h9 => h9) rfl dK_init_142 ?_
  refine lv_aload_n hx hb dK_init_145 rfl (lv_at hl 0 rfl) ?_
  refine va_get (D := D) (ci := 0) (v := .int (nI A)) (C := RK) (T := FK) (N := 19) hx hb hts iK_u hown hK hP 0 rfl rfl 1 (by decide) (hts (.fieldLink RK 29 "AgeKeys" "ages" "I") (by decide +kernel)) (fun _ h9 => h9) rfl dK_init_146 ?_
  refine lv_imul hx hb dK_init_149 ?_
  refine lv_topi (fun n150 e150 => ?_)
  obtain rfl : n150 = nI (A * A) := e150.trans (pk_mul _ _)
  have b150 : A * A ≤ 36 := mul_le36 hA2
  refine ki_newJ (N' := A * A) hx hb (hts (.arrayClass .long) (by decide +kernel)) hK hP hD hS hA (by omega) (Nat.le_of_ble_eq_true rfl) (show 721 + A * A ≤ 801 by omega) dK_init_150 (fun q9 H hP hD hS => ?_)
  have hP : va_P D cl0 [(h0, .inr (0, [.int (nI C), .int (nI A), .int 4, .ref q1, .ref q2, .ref q3, .ref q4, .ref q5, .ref q6, .ref q7, .long 0, .ref q8, .null, .null, .null, .null, .null, .null, .null])), (q1, .inl (cI, 5 * C * A, .inl (fun _ => 0))), (q2, .inl (cI, 5, .inl (fun _ => 0))), (q3, .inl (cI, 5 * C * A, .inl (fun _ => 0))), (q4, .inl (cI, 5 * C, .inl (fun _ => 0))), (q5, .inl (cI, C, .inl (fun _ => 0))), (q6, .inl (cI, C, .inl (fun _ => 0))), (q7, .inl (cJ, C, .inr (.inl (fun _ => 0)))), (q8, .inl (cI, A * A, .inl (fun _ => 0))), (q9, .inl (cJ, A * A, .inr (.inl (fun _ => 0))))] H := hP
  have hD : va_D A0 [(h0, .inr (0, [.int (nI C), .int (nI A), .int 4, .ref q1, .ref q2, .ref q3, .ref q4, .ref q5, .ref q6, .ref q7, .long 0, .ref q8, .null, .null, .null, .null, .null, .null, .null])), (q1, .inl (cI, 5 * C * A, .inl (fun _ => 0))), (q2, .inl (cI, 5, .inl (fun _ => 0))), (q3, .inl (cI, 5 * C * A, .inl (fun _ => 0))), (q4, .inl (cI, 5 * C, .inl (fun _ => 0))), (q5, .inl (cI, C, .inl (fun _ => 0))), (q6, .inl (cI, C, .inl (fun _ => 0))), (q7, .inl (cJ, C, .inr (.inl (fun _ => 0)))), (q8, .inl (cI, A * A, .inl (fun _ => 0))), (q9, .inl (cJ, A * A, .inr (.inl (fun _ => 0))))] := hD
  refine W.widen (k := 9) (n := 757) (by omega) (by omega) ?_
  refine va_putF (D := D) (ci := 0) (v := .ref q9) (ty := (.array .long)) (C := RK) (T := FK) (N := 19) hx hb hts iK_u tyK tyK_ok nK_ok hown hK hP hD hS 0 rfl rfl 12 (by decide) (hts (.fieldLink RK 58 "AgeKeys" "square" "[J") (by decide +kernel)) (fun _ h9 => h9) rfl hin rfl (by decide +kernel) rfl rfl (Nat.le_of_ble_eq_true rfl) dK_init_152 (fun H locs hP hD hS => ?_)
  have hP : va_P D cl0 [(h0, .inr (0, [.int (nI C), .int (nI A), .int 4, .ref q1, .ref q2, .ref q3, .ref q4, .ref q5, .ref q6, .ref q7, .long 0, .ref q8, .ref q9, .null, .null, .null, .null, .null, .null])), (q1, .inl (cI, 5 * C * A, .inl (fun _ => 0))), (q2, .inl (cI, 5, .inl (fun _ => 0))), (q3, .inl (cI, 5 * C * A, .inl (fun _ => 0))), (q4, .inl (cI, 5 * C, .inl (fun _ => 0))), (q5, .inl (cI, C, .inl (fun _ => 0))), (q6, .inl (cI, C, .inl (fun _ => 0))), (q7, .inl (cJ, C, .inr (.inl (fun _ => 0)))), (q8, .inl (cI, A * A, .inl (fun _ => 0))), (q9, .inl (cJ, A * A, .inr (.inl (fun _ => 0))))] H := hP
  have hD : va_D A0 [(h0, .inr (0, [.int (nI C), .int (nI A), .int 4, .ref q1, .ref q2, .ref q3, .ref q4, .ref q5, .ref q6, .ref q7, .long 0, .ref q8, .ref q9, .null, .null, .null, .null, .null, .null])), (q1, .inl (cI, 5 * C * A, .inl (fun _ => 0))), (q2, .inl (cI, 5, .inl (fun _ => 0))), (q3, .inl (cI, 5 * C * A, .inl (fun _ => 0))), (q4, .inl (cI, 5 * C, .inl (fun _ => 0))), (q5, .inl (cI, C, .inl (fun _ => 0))), (q6, .inl (cI, C, .inl (fun _ => 0))), (q7, .inl (cJ, C, .inr (.inl (fun _ => 0)))), (q8, .inl (cI, A * A, .inl (fun _ => 0))), (q9, .inl (cJ, A * A, .inr (.inl (fun _ => 0))))] := hD
  refine lv_aload_n hx hb dK_init_155 rfl (lv_at hl 0 rfl) ?_
  refine lv_aload_n hx hb dK_init_156 rfl (lv_at hl 0 rfl) ?_
  refine va_get (D := D) (ci := 0) (v := .int (nI A)) (C := RK) (T := FK) (N := 19) hx hb hts iK_u hown hK hP 0 rfl rfl 1 (by decide) (hts (.fieldLink RK 29 "AgeKeys" "ages" "I") (by decide +kernel)) (fun _ h9 => h9) rfl dK_init_157 ?_
  refine lv_topi (fun n160 e160 => ?_)
  obtain rfl : n160 = nI (A) := e160.trans rfl
  have b160 : A ≤ 6 := hA2
  refine ki_newI (N' := A) hx hb (hts (.arrayClass .int) (by decide +kernel)) hK hP hD hS hA (by omega) (Nat.le_of_ble_eq_true rfl) (show 757 + A ≤ 801 by omega) dK_init_160 (fun q10 H hP hD hS => ?_)
  have hP : va_P D cl0 [(h0, .inr (0, [.int (nI C), .int (nI A), .int 4, .ref q1, .ref q2, .ref q3, .ref q4, .ref q5, .ref q6, .ref q7, .long 0, .ref q8, .ref q9, .null, .null, .null, .null, .null, .null])), (q1, .inl (cI, 5 * C * A, .inl (fun _ => 0))), (q2, .inl (cI, 5, .inl (fun _ => 0))), (q3, .inl (cI, 5 * C * A, .inl (fun _ => 0))), (q4, .inl (cI, 5 * C, .inl (fun _ => 0))), (q5, .inl (cI, C, .inl (fun _ => 0))), (q6, .inl (cI, C, .inl (fun _ => 0))), (q7, .inl (cJ, C, .inr (.inl (fun _ => 0)))), (q8, .inl (cI, A * A, .inl (fun _ => 0))), (q9, .inl (cJ, A * A, .inr (.inl (fun _ => 0)))), (q10, .inl (cI, A, .inl (fun _ => 0)))] H := hP
  have hD : va_D A0 [(h0, .inr (0, [.int (nI C), .int (nI A), .int 4, .ref q1, .ref q2, .ref q3, .ref q4, .ref q5, .ref q6, .ref q7, .long 0, .ref q8, .ref q9, .null, .null, .null, .null, .null, .null])), (q1, .inl (cI, 5 * C * A, .inl (fun _ => 0))), (q2, .inl (cI, 5, .inl (fun _ => 0))), (q3, .inl (cI, 5 * C * A, .inl (fun _ => 0))), (q4, .inl (cI, 5 * C, .inl (fun _ => 0))), (q5, .inl (cI, C, .inl (fun _ => 0))), (q6, .inl (cI, C, .inl (fun _ => 0))), (q7, .inl (cJ, C, .inr (.inl (fun _ => 0)))), (q8, .inl (cI, A * A, .inl (fun _ => 0))), (q9, .inl (cJ, A * A, .inr (.inl (fun _ => 0)))), (q10, .inl (cI, A, .inl (fun _ => 0)))] := hD
  refine W.widen (k := 10) (n := 763) (by omega) (by omega) ?_
  refine va_putF (D := D) (ci := 0) (v := .ref q10) (ty := (.array .int)) (C := RK) (T := FK) (N := 19) hx hb hts iK_u tyK tyK_ok nK_ok hown hK hP hD hS 0 rfl rfl 13 (by decide) (hts (.fieldLink RK 61 "AgeKeys" "poolSum" "[I") (by decide +kernel)) (fun _ h9 => h9) rfl hin rfl (by decide +kernel) rfl rfl (Nat.le_of_ble_eq_true rfl) dK_init_162 (fun H locs hP hD hS => ?_)
  have hP : va_P D cl0 [(h0, .inr (0, [.int (nI C), .int (nI A), .int 4, .ref q1, .ref q2, .ref q3, .ref q4, .ref q5, .ref q6, .ref q7, .long 0, .ref q8, .ref q9, .ref q10, .null, .null, .null, .null, .null])), (q1, .inl (cI, 5 * C * A, .inl (fun _ => 0))), (q2, .inl (cI, 5, .inl (fun _ => 0))), (q3, .inl (cI, 5 * C * A, .inl (fun _ => 0))), (q4, .inl (cI, 5 * C, .inl (fun _ => 0))), (q5, .inl (cI, C, .inl (fun _ => 0))), (q6, .inl (cI, C, .inl (fun _ => 0))), (q7, .inl (cJ, C, .inr (.inl (fun _ => 0)))), (q8, .inl (cI, A * A, .inl (fun _ => 0))), (q9, .inl (cJ, A * A, .inr (.inl (fun _ => 0)))), (q10, .inl (cI, A, .inl (fun _ => 0)))] H := hP
  have hD : va_D A0 [(h0, .inr (0, [.int (nI C), .int (nI A), .int 4, .ref q1, .ref q2, .ref q3, .ref q4, .ref q5, .ref q6, .ref q7, .long 0, .ref q8, .ref q9, .ref q10, .null, .null, .null, .null, .null])), (q1, .inl (cI, 5 * C * A, .inl (fun _ => 0))), (q2, .inl (cI, 5, .inl (fun _ => 0))), (q3, .inl (cI, 5 * C * A, .inl (fun _ => 0))), (q4, .inl (cI, 5 * C, .inl (fun _ => 0))), (q5, .inl (cI, C, .inl (fun _ => 0))), (q6, .inl (cI, C, .inl (fun _ => 0))), (q7, .inl (cJ, C, .inr (.inl (fun _ => 0)))), (q8, .inl (cI, A * A, .inl (fun _ => 0))), (q9, .inl (cJ, A * A, .inr (.inl (fun _ => 0)))), (q10, .inl (cI, A, .inl (fun _ => 0)))] := hD
  refine lv_aload_n hx hb dK_init_165 rfl (lv_at hl 0 rfl) ?_
  refine lv_aload_n hx hb dK_init_166 rfl (lv_at hl 0 rfl) ?_
  refine va_get (D := D) (ci := 0) (v := .int (nI A)) (C := RK) (T := FK) (N := 19) hx hb hts iK_u hown hK hP 0 rfl rfl 1 (by decide) (hts (.fieldLink RK 29 "AgeKeys" "ages" "I") (by decide +kernel)) (fun _ h9 => h9) rfl dK_init_167 ?_
  refine lv_topi (fun n170 e170 => ?_)
  obtain rfl : n170 = nI (A) := e170.trans rfl
  have b170 : A ≤ 6 := hA2
  refine ki_newI (N' := A) hx hb (hts (.arrayClass .int) (by decide +kernel)) hK hP hD hS hA (by omega) (Nat.le_of_ble_eq_true rfl) (show 763 + A ≤ 801 by omega) dK_init_170 (fun q11 H hP hD hS => ?_)
  have hP : va_P D cl0 [(h0, .inr (0, [.int (nI C), .int (nI A), .int 4, .ref q1, .ref q2, .ref q3, .ref q4, .ref q5, .ref q6, .ref q7, .long 0, .ref q8, .ref q9, .ref q10, .null, .null, .null, .null, .null])), (q1, .inl (cI, 5 * C * A, .inl (fun _ => 0))), (q2, .inl (cI, 5, .inl (fun _ => 0))), (q3, .inl (cI, 5 * C * A, .inl (fun _ => 0))), (q4, .inl (cI, 5 * C, .inl (fun _ => 0))), (q5, .inl (cI, C, .inl (fun _ => 0))), (q6, .inl (cI, C, .inl (fun _ => 0))), (q7, .inl (cJ, C, .inr (.inl (fun _ => 0)))), (q8, .inl (cI, A * A, .inl (fun _ => 0))), (q9, .inl (cJ, A * A, .inr (.inl (fun _ => 0)))), (q10, .inl (cI, A, .inl (fun _ => 0))), (q11, .inl (cI, A, .inl (fun _ => 0)))] H := hP
  have hD : va_D A0 [(h0, .inr (0, [.int (nI C), .int (nI A), .int 4, .ref q1, .ref q2, .ref q3, .ref q4, .ref q5, .ref q6, .ref q7, .long 0, .ref q8, .ref q9, .ref q10, .null, .null, .null, .null, .null])), (q1, .inl (cI, 5 * C * A, .inl (fun _ => 0))), (q2, .inl (cI, 5, .inl (fun _ => 0))), (q3, .inl (cI, 5 * C * A, .inl (fun _ => 0))), (q4, .inl (cI, 5 * C, .inl (fun _ => 0))), (q5, .inl (cI, C, .inl (fun _ => 0))), (q6, .inl (cI, C, .inl (fun _ => 0))), (q7, .inl (cJ, C, .inr (.inl (fun _ => 0)))), (q8, .inl (cI, A * A, .inl (fun _ => 0))), (q9, .inl (cJ, A * A, .inr (.inl (fun _ => 0)))), (q10, .inl (cI, A, .inl (fun _ => 0))), (q11, .inl (cI, A, .inl (fun _ => 0)))] := hD
  refine W.widen (k := 11) (n := 769) (by omega) (by omega) ?_
  refine va_putF (D := D) (ci := 0) (v := .ref q11) (ty := (.array .int)) (C := RK) (T := FK) (N := 19) hx hb hts iK_u tyK tyK_ok nK_ok hown hK hP hD hS 0 rfl rfl 14 (by decide) (hts (.fieldLink RK 64 "AgeKeys" "poolSize" "[I") (by decide +kernel)) (fun _ h9 => h9) rfl hin rfl (by decide +kernel) rfl rfl (Nat.le_of_ble_eq_true rfl) dK_init_172 (fun H locs hP hD hS => ?_)
  have hP : va_P D cl0 [(h0, .inr (0, [.int (nI C), .int (nI A), .int 4, .ref q1, .ref q2, .ref q3, .ref q4, .ref q5, .ref q6, .ref q7, .long 0, .ref q8, .ref q9, .ref q10, .ref q11, .null, .null, .null, .null])), (q1, .inl (cI, 5 * C * A, .inl (fun _ => 0))), (q2, .inl (cI, 5, .inl (fun _ => 0))), (q3, .inl (cI, 5 * C * A, .inl (fun _ => 0))), (q4, .inl (cI, 5 * C, .inl (fun _ => 0))), (q5, .inl (cI, C, .inl (fun _ => 0))), (q6, .inl (cI, C, .inl (fun _ => 0))), (q7, .inl (cJ, C, .inr (.inl (fun _ => 0)))), (q8, .inl (cI, A * A, .inl (fun _ => 0))), (q9, .inl (cJ, A * A, .inr (.inl (fun _ => 0)))), (q10, .inl (cI, A, .inl (fun _ => 0))), (q11, .inl (cI, A, .inl (fun _ => 0)))] H := hP
  have hD : va_D A0 [(h0, .inr (0, [.int (nI C), .int (nI A), .int 4, .ref q1, .ref q2, .ref q3, .ref q4, .ref q5, .ref q6, .ref q7, .long 0, .ref q8, .ref q9, .ref q10, .ref q11, .null, .null, .null, .null])), (q1, .inl (cI, 5 * C * A, .inl (fun _ => 0))), (q2, .inl (cI, 5, .inl (fun _ => 0))), (q3, .inl (cI, 5 * C * A, .inl (fun _ => 0))), (q4, .inl (cI, 5 * C, .inl (fun _ => 0))), (q5, .inl (cI, C, .inl (fun _ => 0))), (q6, .inl (cI, C, .inl (fun _ => 0))), (q7, .inl (cJ, C, .inr (.inl (fun _ => 0)))), (q8, .inl (cI, A * A, .inl (fun _ => 0))), (q9, .inl (cJ, A * A, .inr (.inl (fun _ => 0)))), (q10, .inl (cI, A, .inl (fun _ => 0))), (q11, .inl (cI, A, .inl (fun _ => 0)))] := hD
  refine lv_aload_n hx hb dK_init_175 rfl (lv_at hl 0 rfl) ?_
  refine lv_aload_n hx hb dK_init_176 rfl (lv_at hl 0 rfl) ?_
  refine va_get (D := D) (ci := 0) (v := .int (nI A)) (C := RK) (T := FK) (N := 19) hx hb hts iK_u hown hK hP 0 rfl rfl 1 (by decide) (hts (.fieldLink RK 29 "AgeKeys" "ages" "I") (by decide +kernel)) (fun _ h9 => h9) rfl dK_init_177 ?_
  refine lv_topi (fun n180 e180 => ?_)
  obtain rfl : n180 = nI (A) := e180.trans rfl
  have b180 : A ≤ 6 := hA2
  refine ki_newI (N' := A) hx hb (hts (.arrayClass .int) (by decide +kernel)) hK hP hD hS hA (by omega) (Nat.le_of_ble_eq_true rfl) (show 769 + A ≤ 801 by omega) dK_init_180 (fun q12 H hP hD hS => ?_)
  have hP : va_P D cl0 [(h0, .inr (0, [.int (nI C), .int (nI A), .int 4, .ref q1, .ref q2, .ref q3, .ref q4, .ref q5, .ref q6, .ref q7, .long 0, .ref q8, .ref q9, .ref q10, .ref q11, .null, .null, .null, .null])), (q1, .inl (cI, 5 * C * A, .inl (fun _ => 0))), (q2, .inl (cI, 5, .inl (fun _ => 0))), (q3, .inl (cI, 5 * C * A, .inl (fun _ => 0))), (q4, .inl (cI, 5 * C, .inl (fun _ => 0))), (q5, .inl (cI, C, .inl (fun _ => 0))), (q6, .inl (cI, C, .inl (fun _ => 0))), (q7, .inl (cJ, C, .inr (.inl (fun _ => 0)))), (q8, .inl (cI, A * A, .inl (fun _ => 0))), (q9, .inl (cJ, A * A, .inr (.inl (fun _ => 0)))), (q10, .inl (cI, A, .inl (fun _ => 0))), (q11, .inl (cI, A, .inl (fun _ => 0))), (q12, .inl (cI, A, .inl (fun _ => 0)))] H := hP
  have hD : va_D A0 [(h0, .inr (0, [.int (nI C), .int (nI A), .int 4, .ref q1, .ref q2, .ref q3, .ref q4, .ref q5, .ref q6, .ref q7, .long 0, .ref q8, .ref q9, .ref q10, .ref q11, .null, .null, .null, .null])), (q1, .inl (cI, 5 * C * A, .inl (fun _ => 0))), (q2, .inl (cI, 5, .inl (fun _ => 0))), (q3, .inl (cI, 5 * C * A, .inl (fun _ => 0))), (q4, .inl (cI, 5 * C, .inl (fun _ => 0))), (q5, .inl (cI, C, .inl (fun _ => 0))), (q6, .inl (cI, C, .inl (fun _ => 0))), (q7, .inl (cJ, C, .inr (.inl (fun _ => 0)))), (q8, .inl (cI, A * A, .inl (fun _ => 0))), (q9, .inl (cJ, A * A, .inr (.inl (fun _ => 0)))), (q10, .inl (cI, A, .inl (fun _ => 0))), (q11, .inl (cI, A, .inl (fun _ => 0))), (q12, .inl (cI, A, .inl (fun _ => 0)))] := hD
  refine W.widen (k := 12) (n := 775) (by omega) (by omega) ?_
  refine va_putF (D := D) (ci := 0) (v := .ref q12) (ty := (.array .int)) (C := RK) (T := FK) (N := 19) hx hb hts iK_u tyK tyK_ok nK_ok hown hK hP hD hS 0 rfl rfl 15 (by decide) (hts (.fieldLink RK 67 "AgeKeys" "poolAges" "[I") (by decide +kernel)) (fun _ h9 => h9) rfl hin rfl (by decide +kernel) rfl rfl (Nat.le_of_ble_eq_true rfl) dK_init_182 (fun H locs hP hD hS => ?_)
  have hP : va_P D cl0 [(h0, .inr (0, [.int (nI C), .int (nI A), .int 4, .ref q1, .ref q2, .ref q3, .ref q4, .ref q5, .ref q6, .ref q7, .long 0, .ref q8, .ref q9, .ref q10, .ref q11, .ref q12, .null, .null, .null])), (q1, .inl (cI, 5 * C * A, .inl (fun _ => 0))), (q2, .inl (cI, 5, .inl (fun _ => 0))), (q3, .inl (cI, 5 * C * A, .inl (fun _ => 0))), (q4, .inl (cI, 5 * C, .inl (fun _ => 0))), (q5, .inl (cI, C, .inl (fun _ => 0))), (q6, .inl (cI, C, .inl (fun _ => 0))), (q7, .inl (cJ, C, .inr (.inl (fun _ => 0)))), (q8, .inl (cI, A * A, .inl (fun _ => 0))), (q9, .inl (cJ, A * A, .inr (.inl (fun _ => 0)))), (q10, .inl (cI, A, .inl (fun _ => 0))), (q11, .inl (cI, A, .inl (fun _ => 0))), (q12, .inl (cI, A, .inl (fun _ => 0)))] H := hP
  have hD : va_D A0 [(h0, .inr (0, [.int (nI C), .int (nI A), .int 4, .ref q1, .ref q2, .ref q3, .ref q4, .ref q5, .ref q6, .ref q7, .long 0, .ref q8, .ref q9, .ref q10, .ref q11, .ref q12, .null, .null, .null])), (q1, .inl (cI, 5 * C * A, .inl (fun _ => 0))), (q2, .inl (cI, 5, .inl (fun _ => 0))), (q3, .inl (cI, 5 * C * A, .inl (fun _ => 0))), (q4, .inl (cI, 5 * C, .inl (fun _ => 0))), (q5, .inl (cI, C, .inl (fun _ => 0))), (q6, .inl (cI, C, .inl (fun _ => 0))), (q7, .inl (cJ, C, .inr (.inl (fun _ => 0)))), (q8, .inl (cI, A * A, .inl (fun _ => 0))), (q9, .inl (cJ, A * A, .inr (.inl (fun _ => 0)))), (q10, .inl (cI, A, .inl (fun _ => 0))), (q11, .inl (cI, A, .inl (fun _ => 0))), (q12, .inl (cI, A, .inl (fun _ => 0)))] := hD
  refine lv_aload_n hx hb dK_init_185 rfl (lv_at hl 0 rfl) ?_
  refine lv_aload_n hx hb dK_init_186 rfl (lv_at hl 0 rfl) ?_
  refine va_get (D := D) (ci := 0) (v := .int (nI A)) (C := RK) (T := FK) (N := 19) hx hb hts iK_u hown hK hP 0 rfl rfl 1 (by decide) (hts (.fieldLink RK 29 "AgeKeys" "ages" "I") (by decide +kernel)) (fun _ h9 => h9) rfl dK_init_187 ?_
  refine lv_topi (fun n190 e190 => ?_)
  obtain rfl : n190 = nI (A) := e190.trans rfl
  have b190 : A ≤ 6 := hA2
  refine ki_newI (N' := A) hx hb (hts (.arrayClass .int) (by decide +kernel)) hK hP hD hS hA (by omega) (Nat.le_of_ble_eq_true rfl) (show 775 + A ≤ 801 by omega) dK_init_190 (fun q13 H hP hD hS => ?_)
  have hP : va_P D cl0 [(h0, .inr (0, [.int (nI C), .int (nI A), .int 4, .ref q1, .ref q2, .ref q3, .ref q4, .ref q5, .ref q6, .ref q7, .long 0, .ref q8, .ref q9, .ref q10, .ref q11, .ref q12, .null, .null, .null])), (q1, .inl (cI, 5 * C * A, .inl (fun _ => 0))), (q2, .inl (cI, 5, .inl (fun _ => 0))), (q3, .inl (cI, 5 * C * A, .inl (fun _ => 0))), (q4, .inl (cI, 5 * C, .inl (fun _ => 0))), (q5, .inl (cI, C, .inl (fun _ => 0))), (q6, .inl (cI, C, .inl (fun _ => 0))), (q7, .inl (cJ, C, .inr (.inl (fun _ => 0)))), (q8, .inl (cI, A * A, .inl (fun _ => 0))), (q9, .inl (cJ, A * A, .inr (.inl (fun _ => 0)))), (q10, .inl (cI, A, .inl (fun _ => 0))), (q11, .inl (cI, A, .inl (fun _ => 0))), (q12, .inl (cI, A, .inl (fun _ => 0))), (q13, .inl (cI, A, .inl (fun _ => 0)))] H := hP
  have hD : va_D A0 [(h0, .inr (0, [.int (nI C), .int (nI A), .int 4, .ref q1, .ref q2, .ref q3, .ref q4, .ref q5, .ref q6, .ref q7, .long 0, .ref q8, .ref q9, .ref q10, .ref q11, .ref q12, .null, .null, .null])), (q1, .inl (cI, 5 * C * A, .inl (fun _ => 0))), (q2, .inl (cI, 5, .inl (fun _ => 0))), (q3, .inl (cI, 5 * C * A, .inl (fun _ => 0))), (q4, .inl (cI, 5 * C, .inl (fun _ => 0))), (q5, .inl (cI, C, .inl (fun _ => 0))), (q6, .inl (cI, C, .inl (fun _ => 0))), (q7, .inl (cJ, C, .inr (.inl (fun _ => 0)))), (q8, .inl (cI, A * A, .inl (fun _ => 0))), (q9, .inl (cJ, A * A, .inr (.inl (fun _ => 0)))), (q10, .inl (cI, A, .inl (fun _ => 0))), (q11, .inl (cI, A, .inl (fun _ => 0))), (q12, .inl (cI, A, .inl (fun _ => 0))), (q13, .inl (cI, A, .inl (fun _ => 0)))] := hD
  refine W.widen (k := 13) (n := 781) (by omega) (by omega) ?_
  refine va_putF (D := D) (ci := 0) (v := .ref q13) (ty := (.array .int)) (C := RK) (T := FK) (N := 19) hx hb hts iK_u tyK tyK_ok nK_ok hown hK hP hD hS 0 rfl rfl 16 (by decide) (hts (.fieldLink RK 70 "AgeKeys" "poolLastAge" "[I") (by decide +kernel)) (fun _ h9 => h9) rfl hin rfl (by decide +kernel) rfl rfl (Nat.le_of_ble_eq_true rfl) dK_init_192 (fun H locs hP hD hS => ?_)
  have hP : va_P D cl0 [(h0, .inr (0, [.int (nI C), .int (nI A), .int 4, .ref q1, .ref q2, .ref q3, .ref q4, .ref q5, .ref q6, .ref q7, .long 0, .ref q8, .ref q9, .ref q10, .ref q11, .ref q12, .ref q13, .null, .null])), (q1, .inl (cI, 5 * C * A, .inl (fun _ => 0))), (q2, .inl (cI, 5, .inl (fun _ => 0))), (q3, .inl (cI, 5 * C * A, .inl (fun _ => 0))), (q4, .inl (cI, 5 * C, .inl (fun _ => 0))), (q5, .inl (cI, C, .inl (fun _ => 0))), (q6, .inl (cI, C, .inl (fun _ => 0))), (q7, .inl (cJ, C, .inr (.inl (fun _ => 0)))), (q8, .inl (cI, A * A, .inl (fun _ => 0))), (q9, .inl (cJ, A * A, .inr (.inl (fun _ => 0)))), (q10, .inl (cI, A, .inl (fun _ => 0))), (q11, .inl (cI, A, .inl (fun _ => 0))), (q12, .inl (cI, A, .inl (fun _ => 0))), (q13, .inl (cI, A, .inl (fun _ => 0)))] H := hP
  have hD : va_D A0 [(h0, .inr (0, [.int (nI C), .int (nI A), .int 4, .ref q1, .ref q2, .ref q3, .ref q4, .ref q5, .ref q6, .ref q7, .long 0, .ref q8, .ref q9, .ref q10, .ref q11, .ref q12, .ref q13, .null, .null])), (q1, .inl (cI, 5 * C * A, .inl (fun _ => 0))), (q2, .inl (cI, 5, .inl (fun _ => 0))), (q3, .inl (cI, 5 * C * A, .inl (fun _ => 0))), (q4, .inl (cI, 5 * C, .inl (fun _ => 0))), (q5, .inl (cI, C, .inl (fun _ => 0))), (q6, .inl (cI, C, .inl (fun _ => 0))), (q7, .inl (cJ, C, .inr (.inl (fun _ => 0)))), (q8, .inl (cI, A * A, .inl (fun _ => 0))), (q9, .inl (cJ, A * A, .inr (.inl (fun _ => 0)))), (q10, .inl (cI, A, .inl (fun _ => 0))), (q11, .inl (cI, A, .inl (fun _ => 0))), (q12, .inl (cI, A, .inl (fun _ => 0))), (q13, .inl (cI, A, .inl (fun _ => 0)))] := hD
  refine lv_aload_n hx hb dK_init_195 rfl (lv_at hl 0 rfl) ?_
  refine lv_aload_n hx hb dK_init_196 rfl (lv_at hl 0 rfl) ?_
  refine va_get (D := D) (ci := 0) (v := .int (nI C)) (C := RK) (T := FK) (N := 19) hx hb hts iK_u hown hK hP 0 rfl rfl 0 (by decide) (hts (.fieldLink RK 26 "AgeKeys" "classes" "I") (by decide +kernel)) (fun _ h9 => h9) rfl dK_init_197 ?_
  refine lv_topi (fun n200 e200 => ?_)
  obtain rfl : n200 = nI (C) := e200.trans rfl
  have b200 : C ≤ 10 := hC2
  refine ki_newI (N' := C) hx hb (hts (.arrayClass .int) (by decide +kernel)) hK hP hD hS hA (by omega) (Nat.le_of_ble_eq_true rfl) (show 781 + C ≤ 801 by omega) dK_init_200 (fun q14 H hP hD hS => ?_)
  have hP : va_P D cl0 [(h0, .inr (0, [.int (nI C), .int (nI A), .int 4, .ref q1, .ref q2, .ref q3, .ref q4, .ref q5, .ref q6, .ref q7, .long 0, .ref q8, .ref q9, .ref q10, .ref q11, .ref q12, .ref q13, .null, .null])), (q1, .inl (cI, 5 * C * A, .inl (fun _ => 0))), (q2, .inl (cI, 5, .inl (fun _ => 0))), (q3, .inl (cI, 5 * C * A, .inl (fun _ => 0))), (q4, .inl (cI, 5 * C, .inl (fun _ => 0))), (q5, .inl (cI, C, .inl (fun _ => 0))), (q6, .inl (cI, C, .inl (fun _ => 0))), (q7, .inl (cJ, C, .inr (.inl (fun _ => 0)))), (q8, .inl (cI, A * A, .inl (fun _ => 0))), (q9, .inl (cJ, A * A, .inr (.inl (fun _ => 0)))), (q10, .inl (cI, A, .inl (fun _ => 0))), (q11, .inl (cI, A, .inl (fun _ => 0))), (q12, .inl (cI, A, .inl (fun _ => 0))), (q13, .inl (cI, A, .inl (fun _ => 0))), (q14, .inl (cI, C, .inl (fun _ => 0)))] H := hP
  have hD : va_D A0 [(h0, .inr (0, [.int (nI C), .int (nI A), .int 4, .ref q1, .ref q2, .ref q3, .ref q4, .ref q5, .ref q6, .ref q7, .long 0, .ref q8, .ref q9, .ref q10, .ref q11, .ref q12, .ref q13, .null, .null])), (q1, .inl (cI, 5 * C * A, .inl (fun _ => 0))), (q2, .inl (cI, 5, .inl (fun _ => 0))), (q3, .inl (cI, 5 * C * A, .inl (fun _ => 0))), (q4, .inl (cI, 5 * C, .inl (fun _ => 0))), (q5, .inl (cI, C, .inl (fun _ => 0))), (q6, .inl (cI, C, .inl (fun _ => 0))), (q7, .inl (cJ, C, .inr (.inl (fun _ => 0)))), (q8, .inl (cI, A * A, .inl (fun _ => 0))), (q9, .inl (cJ, A * A, .inr (.inl (fun _ => 0)))), (q10, .inl (cI, A, .inl (fun _ => 0))), (q11, .inl (cI, A, .inl (fun _ => 0))), (q12, .inl (cI, A, .inl (fun _ => 0))), (q13, .inl (cI, A, .inl (fun _ => 0))), (q14, .inl (cI, C, .inl (fun _ => 0)))] := hD
  refine W.widen (k := 14) (n := 791) (by omega) (by omega) ?_
  refine va_putF (D := D) (ci := 0) (v := .ref q14) (ty := (.array .int)) (C := RK) (T := FK) (N := 19) hx hb hts iK_u tyK tyK_ok nK_ok hown hK hP hD hS 0 rfl rfl 17 (by decide) (hts (.fieldLink RK 73 "AgeKeys" "maleCount" "[I") (by decide +kernel)) (fun _ h9 => h9) rfl hin rfl (by decide +kernel) rfl rfl (Nat.le_of_ble_eq_true rfl) dK_init_202 (fun H locs hP hD hS => ?_)
  have hP : va_P D cl0 [(h0, .inr (0, [.int (nI C), .int (nI A), .int 4, .ref q1, .ref q2, .ref q3, .ref q4, .ref q5, .ref q6, .ref q7, .long 0, .ref q8, .ref q9, .ref q10, .ref q11, .ref q12, .ref q13, .ref q14, .null])), (q1, .inl (cI, 5 * C * A, .inl (fun _ => 0))), (q2, .inl (cI, 5, .inl (fun _ => 0))), (q3, .inl (cI, 5 * C * A, .inl (fun _ => 0))), (q4, .inl (cI, 5 * C, .inl (fun _ => 0))), (q5, .inl (cI, C, .inl (fun _ => 0))), (q6, .inl (cI, C, .inl (fun _ => 0))), (q7, .inl (cJ, C, .inr (.inl (fun _ => 0)))), (q8, .inl (cI, A * A, .inl (fun _ => 0))), (q9, .inl (cJ, A * A, .inr (.inl (fun _ => 0)))), (q10, .inl (cI, A, .inl (fun _ => 0))), (q11, .inl (cI, A, .inl (fun _ => 0))), (q12, .inl (cI, A, .inl (fun _ => 0))), (q13, .inl (cI, A, .inl (fun _ => 0))), (q14, .inl (cI, C, .inl (fun _ => 0)))] H := hP
  have hD : va_D A0 [(h0, .inr (0, [.int (nI C), .int (nI A), .int 4, .ref q1, .ref q2, .ref q3, .ref q4, .ref q5, .ref q6, .ref q7, .long 0, .ref q8, .ref q9, .ref q10, .ref q11, .ref q12, .ref q13, .ref q14, .null])), (q1, .inl (cI, 5 * C * A, .inl (fun _ => 0))), (q2, .inl (cI, 5, .inl (fun _ => 0))), (q3, .inl (cI, 5 * C * A, .inl (fun _ => 0))), (q4, .inl (cI, 5 * C, .inl (fun _ => 0))), (q5, .inl (cI, C, .inl (fun _ => 0))), (q6, .inl (cI, C, .inl (fun _ => 0))), (q7, .inl (cJ, C, .inr (.inl (fun _ => 0)))), (q8, .inl (cI, A * A, .inl (fun _ => 0))), (q9, .inl (cJ, A * A, .inr (.inl (fun _ => 0)))), (q10, .inl (cI, A, .inl (fun _ => 0))), (q11, .inl (cI, A, .inl (fun _ => 0))), (q12, .inl (cI, A, .inl (fun _ => 0))), (q13, .inl (cI, A, .inl (fun _ => 0))), (q14, .inl (cI, C, .inl (fun _ => 0)))] := hD
  refine lv_aload_n hx hb dK_init_205 rfl (lv_at hl 0 rfl) ?_
  refine lv_aload_n hx hb dK_init_206 rfl (lv_at hl 0 rfl) ?_
  refine va_get (D := D) (ci := 0) (v := .int (nI C)) (C := RK) (T := FK) (N := 19) hx hb hts iK_u hown hK hP 0 rfl rfl 0 (by decide) (hts (.fieldLink RK 26 "AgeKeys" "classes" "I") (by decide +kernel)) (fun _ h9 => h9) rfl dK_init_207 ?_
  refine lv_topi (fun n210 e210 => ?_)
  obtain rfl : n210 = nI (C) := e210.trans rfl
  have b210 : C ≤ 10 := hC2
  refine ki_newI (N' := C) hx hb (hts (.arrayClass .int) (by decide +kernel)) hK hP hD hS hA (by omega) (Nat.le_of_ble_eq_true rfl) (show 791 + C ≤ 801 by omega) dK_init_210 (fun q15 H hP hD hS => ?_)
  have hP : va_P D cl0 [(h0, .inr (0, [.int (nI C), .int (nI A), .int 4, .ref q1, .ref q2, .ref q3, .ref q4, .ref q5, .ref q6, .ref q7, .long 0, .ref q8, .ref q9, .ref q10, .ref q11, .ref q12, .ref q13, .ref q14, .null])), (q1, .inl (cI, 5 * C * A, .inl (fun _ => 0))), (q2, .inl (cI, 5, .inl (fun _ => 0))), (q3, .inl (cI, 5 * C * A, .inl (fun _ => 0))), (q4, .inl (cI, 5 * C, .inl (fun _ => 0))), (q5, .inl (cI, C, .inl (fun _ => 0))), (q6, .inl (cI, C, .inl (fun _ => 0))), (q7, .inl (cJ, C, .inr (.inl (fun _ => 0)))), (q8, .inl (cI, A * A, .inl (fun _ => 0))), (q9, .inl (cJ, A * A, .inr (.inl (fun _ => 0)))), (q10, .inl (cI, A, .inl (fun _ => 0))), (q11, .inl (cI, A, .inl (fun _ => 0))), (q12, .inl (cI, A, .inl (fun _ => 0))), (q13, .inl (cI, A, .inl (fun _ => 0))), (q14, .inl (cI, C, .inl (fun _ => 0))), (q15, .inl (cI, C, .inl (fun _ => 0)))] H := hP
  have hD : va_D A0 [(h0, .inr (0, [.int (nI C), .int (nI A), .int 4, .ref q1, .ref q2, .ref q3, .ref q4, .ref q5, .ref q6, .ref q7, .long 0, .ref q8, .ref q9, .ref q10, .ref q11, .ref q12, .ref q13, .ref q14, .null])), (q1, .inl (cI, 5 * C * A, .inl (fun _ => 0))), (q2, .inl (cI, 5, .inl (fun _ => 0))), (q3, .inl (cI, 5 * C * A, .inl (fun _ => 0))), (q4, .inl (cI, 5 * C, .inl (fun _ => 0))), (q5, .inl (cI, C, .inl (fun _ => 0))), (q6, .inl (cI, C, .inl (fun _ => 0))), (q7, .inl (cJ, C, .inr (.inl (fun _ => 0)))), (q8, .inl (cI, A * A, .inl (fun _ => 0))), (q9, .inl (cJ, A * A, .inr (.inl (fun _ => 0)))), (q10, .inl (cI, A, .inl (fun _ => 0))), (q11, .inl (cI, A, .inl (fun _ => 0))), (q12, .inl (cI, A, .inl (fun _ => 0))), (q13, .inl (cI, A, .inl (fun _ => 0))), (q14, .inl (cI, C, .inl (fun _ => 0))), (q15, .inl (cI, C, .inl (fun _ => 0)))] := hD
  refine W.widen (k := 15) (n := 801) (by omega) (by omega) ?_
  refine va_putF (D := D) (ci := 0) (v := .ref q15) (ty := (.array .int)) (C := RK) (T := FK) (N := 19) hx hb hts iK_u tyK tyK_ok nK_ok hown hK hP hD hS 0 rfl rfl 18 (by decide) (hts (.fieldLink RK 76 "AgeKeys" "lookedAt" "[I") (by decide +kernel)) (fun _ h9 => h9) rfl hin rfl (by decide +kernel) rfl rfl (Nat.le_of_ble_eq_true rfl) dK_init_212 (fun H locs hP hD hS => ?_)
  have hP : va_P D cl0 [(h0, .inr (0, [.int (nI C), .int (nI A), .int 4, .ref q1, .ref q2, .ref q3, .ref q4, .ref q5, .ref q6, .ref q7, .long 0, .ref q8, .ref q9, .ref q10, .ref q11, .ref q12, .ref q13, .ref q14, .ref q15])), (q1, .inl (cI, 5 * C * A, .inl (fun _ => 0))), (q2, .inl (cI, 5, .inl (fun _ => 0))), (q3, .inl (cI, 5 * C * A, .inl (fun _ => 0))), (q4, .inl (cI, 5 * C, .inl (fun _ => 0))), (q5, .inl (cI, C, .inl (fun _ => 0))), (q6, .inl (cI, C, .inl (fun _ => 0))), (q7, .inl (cJ, C, .inr (.inl (fun _ => 0)))), (q8, .inl (cI, A * A, .inl (fun _ => 0))), (q9, .inl (cJ, A * A, .inr (.inl (fun _ => 0)))), (q10, .inl (cI, A, .inl (fun _ => 0))), (q11, .inl (cI, A, .inl (fun _ => 0))), (q12, .inl (cI, A, .inl (fun _ => 0))), (q13, .inl (cI, A, .inl (fun _ => 0))), (q14, .inl (cI, C, .inl (fun _ => 0))), (q15, .inl (cI, C, .inl (fun _ => 0)))] H := hP
  have hD : va_D A0 [(h0, .inr (0, [.int (nI C), .int (nI A), .int 4, .ref q1, .ref q2, .ref q3, .ref q4, .ref q5, .ref q6, .ref q7, .long 0, .ref q8, .ref q9, .ref q10, .ref q11, .ref q12, .ref q13, .ref q14, .ref q15])), (q1, .inl (cI, 5 * C * A, .inl (fun _ => 0))), (q2, .inl (cI, 5, .inl (fun _ => 0))), (q3, .inl (cI, 5 * C * A, .inl (fun _ => 0))), (q4, .inl (cI, 5 * C, .inl (fun _ => 0))), (q5, .inl (cI, C, .inl (fun _ => 0))), (q6, .inl (cI, C, .inl (fun _ => 0))), (q7, .inl (cJ, C, .inr (.inl (fun _ => 0)))), (q8, .inl (cI, A * A, .inl (fun _ => 0))), (q9, .inl (cJ, A * A, .inr (.inl (fun _ => 0)))), (q10, .inl (cI, A, .inl (fun _ => 0))), (q11, .inl (cI, A, .inl (fun _ => 0))), (q12, .inl (cI, A, .inl (fun _ => 0))), (q13, .inl (cI, A, .inl (fun _ => 0))), (q14, .inl (cI, C, .inl (fun _ => 0))), (q15, .inl (cI, C, .inl (fun _ => 0)))] := hD
  refine lv_iconst (v := 0) hx hb dK_init_215 (by decide) ?_
  refine lv_istore_n (lv' := [(3, .int 0), (0, .ref h0), (1, .int x1), (2, .int x2)]) hx hb dK_init_216 rfl hl (by decide) rfl (fun ls hl => ?_)
  have hP : va_P D cl0 (wdK (fun j => ([h0, q1, q2, q3, q4, q5, q6, q7, q8, q9, q10, q11, q12, q13, q14, q15] : List Nat).getD j 0) (k0K C A) cI cJ s0K) H := hP
  have hD : va_D A0 (wdK (fun j => ([h0, q1, q2, q3, q4, q5, q6, q7, q8, q9, q10, q11, q12, q13, q14, q15] : List Nat).getD j 0) (k0K C A) cI cJ s0K) := hD
  refine W_mono (Q := MQ below (kQv D cl0 [(cI, .int), (cJ, .long)] (wdK (fun j => ([h0, q1, q2, q3, q4, q5, q6, q7, q8, q9, q10, q11, q12, q13, q14, q15] : List Nat).getD j 0) (k0K C A) cI cJ) A0 σ') args s 15 801 A0) ?_ ?_
  · intro t ht
    obtain ⟨o, h1, h2, ⟨⟨u, rfl, rfl, h5⟩, h6⟩, h7⟩ := ht
    exact ⟨_, h1, h2, ⟨⟨_, rfl, rfl, h5⟩, h6⟩, h7⟩
  · exact tK_init_217 (A := A0) C0 hK hA fu s0K 0 _ _ ls hf (lv_sub hl [1, 0] rfl) hP hD hS
