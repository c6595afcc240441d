set_option maxHeartbeats 400000 in
set_option maxRecDepth 100000 in
/-- read -/
theorem lw_case_0 (ow : Owed4) {p : Program} {l : Launch} {e : Env} {s : State} {m : MethodId} {below : List Frame} {meth : Method} {c : Code} {D : va_G} {q1 q2 : Nat → Nat} {k1 : kK} {k2 : kM} {cI cJ : ClassId} {b L : Nat} {xs : Nat → Int32} (C0 : lw_At p s m meth c b L xs) (hK : va_K D cl0 [(cI, .int), (cJ, .long)] s) (x3 : Int32) (i1 : vp_in (x3 + 1) L) (i2 : vp_in (x3 + 2) L) (i3 : vp_in (x3 + 3) L) (i4 : vp_in (x3 + 4) L) (σ1 : sK) (σ2 : sM) (hRel : Rel k1 σ1 k2 σ2) (H : Heap) (locs : List Loc) (ls : Array Slot) (hP : va_P D cl0 (wdK q1 k1 cI cJ σ1 ++ wdM q2 k2 cI cJ σ2) H) (hD : va_D (fun z : Nat => s.heap.size ≤ z) (wdK q1 k1 cI cJ σ1 ++ wdM q2 k2 cI cJ σ2)) (hS : va_S (fun z : Nat => s.heap.size ≤ z) s.heap H locs) (hl : lv_has ls 4 [(0, .ref b), (1, .ref (q1 0)), (2, .ref (q2 0)), (3, .int x3)])
    (kk : ∀ (t1 : sK) (t2 : sM) (H : Heap) (locs : List Loc), Rel k1 t1 k2 t2 → va_P D cl0 (wdK q1 k1 cI cJ t1 ++ wdM q2 k2 cI cJ t2) H → va_D (fun z : Nat => s.heap.size ≤ z) (wdK q1 k1 cI cJ t1 ++ wdM q2 k2 cI cJ t2) → va_S (fun z : Nat => s.heap.size ≤ z) s.heap H locs → W p l e room_1 s m #[Value.ref b] below meth c H locs 25 1195 (lw_Z below #[Value.ref b] s) (F0 m 895 ls [])) : W p l e room_1 s m #[Value.ref b] below meth c H locs 25 1195 (lw_Z below #[Value.ref b] s) (F0 m 148 ls []) := by
  obtain ⟨hx, hb, hr, hml, hown, hts, hX, hbl, hlocks, hgv⟩ := id C0
  have hA : ∀ z : Nat, s.heap.size ≤ z → (fun z : Nat => s.heap.size ≤ z) z := fun _ h => h
  have hbA : ¬ (fun z : Nat => s.heap.size ≤ z) b := Nat.not_le.mpr hbl
  obtain ⟨r, s1, s2, e1, e2, hRel⟩ := rl_read (fu := 200) hRel (Nat.le_refl 200) ((xs (x3 + 1).toNatClampNeg)) ((xs (x3 + 2).toNatClampNeg)) ((xs (x3 + 3).toNatClampNeg))
  refine lv_aload_n hx hb dL_148 rfl (lv_at hl 1 rfl) ?_
  refine lv_aload_n hx hb dL_149 rfl (lv_at hl 0 rfl) ?_
  refine lv_iload_n hx hb dL_150 rfl (lv_at hl 3 rfl) ?_
  refine lv_iconst (v := 1) hx hb dL_151 (by decide) ?_
  refine lv_iadd hx hb dL_152 ?_
  refine va_sld hx hb hX hbl hbA hS i1 dL_153 ?_
  refine lv_aload_n hx hb dL_154 rfl (lv_at hl 0 rfl) ?_
  refine lv_iload_n hx hb dL_155 rfl (lv_at hl 3 rfl) ?_
  refine lv_iconst (v := 2) hx hb dL_156 (by decide) ?_
  refine lv_iadd hx hb dL_157 ?_
  refine va_sld hx hb hX hbl hbA hS i2 dL_158 ?_
  refine lv_aload_n hx hb dL_159 rfl (lv_at hl 0 rfl) ?_
  refine lv_iload_n hx hb dL_160 rfl (lv_at hl 3 rfl) ?_
  refine lv_iconst (v := 3) hx hb dL_161 (by decide) ?_
  refine lv_iadd hx hb dL_162 ?_
  refine va_sld hx hb hX hbl hbA hS i3 dL_163 ?_
  refine lr_Li (wd := wdK q1 k1 cI cJ) (wo := wdM q2 k2 cI cJ σ2) (σ := σ1) (σ' := s1) (av := [.int (xs (x3 + 1).toNatClampNeg), .int (xs (x3 + 2).toNatClampNeg), .int (xs (x3 + 3).toNatClampNeg)]) ⟨hx, hb, hml, hown, hts⟩ (mK_read l D q1 k1 cI cJ _ σ1 s1 ((xs (x3 + 1).toNatClampNeg)) ((xs (x3 + 2).toNatClampNeg)) ((xs (x3 + 3).toNatClampNeg)) r e1) (cwV 3 hts (kgood_L TK_good TK_in (List.mem_of_getElem? (i := 122) (by decide +kernel)) (by decide +kernel)) rfl rfl rfl (by decide +kernel) ⟨Nat.le_of_ble_eq_true rfl, Nat.le_of_ble_eq_true rfl⟩) hK hP hD hS hA (ci := 0) (q0 := 0) rfl rfl rfl hl.1 rfl (Nat.le_of_ble_eq_true rfl) dL_164 ⟨Nat.le_of_ble_eq_true rfl, Nat.le_of_ble_eq_true rfl⟩ (fun H locs hP hD hS => ?_)
  refine lv_aload_n hx hb dL_167 rfl (lv_at hl 2 rfl) ?_
  refine lv_aload_n hx hb dL_168 rfl (lv_at hl 0 rfl) ?_
  refine lv_iload_n hx hb dL_169 rfl (lv_at hl 3 rfl) ?_
  refine lv_iconst (v := 1) hx hb dL_170 (by decide) ?_
  refine lv_iadd hx hb dL_171 ?_
  refine va_sld hx hb hX hbl hbA hS i1 dL_172 ?_
  refine lv_aload_n hx hb dL_173 rfl (lv_at hl 0 rfl) ?_
  refine lv_iload_n hx hb dL_174 rfl (lv_at hl 3 rfl) ?_
  refine lv_iconst (v := 2) hx hb dL_175 (by decide) ?_
  refine lv_iadd hx hb dL_176 ?_
  refine va_sld hx hb hX hbl hbA hS i2 dL_177 ?_
  refine lv_aload_n hx hb dL_178 rfl (lv_at hl 0 rfl) ?_
  refine lv_iload_n hx hb dL_179 rfl (lv_at hl 3 rfl) ?_
  refine lv_iconst (v := 3) hx hb dL_180 (by decide) ?_
  refine lv_iadd hx hb dL_181 ?_
  refine va_sld hx hb hX hbl hbA hS i3 dL_182 ?_
  refine lr_Ri (wd := wdM q2 k2 cI cJ) (wo := wdK q1 k1 cI cJ s1) (σ := σ2) (σ' := s2) (av := [.int (xs (x3 + 1).toNatClampNeg), .int (xs (x3 + 2).toNatClampNeg), .int (xs (x3 + 3).toNatClampNeg)]) ⟨hx, hb, hml, hown, hts⟩ (mM_read l D q2 k2 cI cJ _ 200 σ2 s2 ((xs (x3 + 1).toNatClampNeg)) ((xs (x3 + 2).toNatClampNeg)) ((xs (x3 + 3).toNatClampNeg)) r e2) (cwV 3 hts (kgood_L TM_good TM_in (List.mem_of_getElem? (i := 386) (by decide +kernel)) (by decide +kernel)) rfl rfl rfl (by decide +kernel) ⟨Nat.le_of_ble_eq_true rfl, Nat.le_of_ble_eq_true rfl⟩) hK hP hD hS hA (ci := 1) (q0 := 0) rfl rfl rfl hl.1 rfl (Nat.le_of_ble_eq_true rfl) dL_183 ⟨Nat.le_of_ble_eq_true rfl, Nat.le_of_ble_eq_true rfl⟩ (fun H locs hP hD hS => ?_)
  refine lv_icmp_eq (tgt := 895) hx hb dL_186 (by decide) (fun _ => ?_) (fun q => absurd rfl q)
  exact kk s1 s2 H locs hRel hP hD hS
set_option maxHeartbeats 400000 in
set_option maxRecDepth 100000 in
/-- place -/
theorem lw_case_1 (ow : Owed4) {p : Program} {l : Launch} {e : Env} {s : State} {m : MethodId} {below : List Frame} {meth : Method} {c : Code} {D : va_G} {q1 q2 : Nat → Nat} {k1 : kK} {k2 : kM} {cI cJ : ClassId} {b L : Nat} {xs : Nat → Int32} (C0 : lw_At p s m meth c b L xs) (hK : va_K D cl0 [(cI, .int), (cJ, .long)] s) (x3 : Int32) (i1 : vp_in (x3 + 1) L) (i2 : vp_in (x3 + 2) L) (i3 : vp_in (x3 + 3) L) (i4 : vp_in (x3 + 4) L) (σ1 : sK) (σ2 : sM) (hRel : Rel k1 σ1 k2 σ2) (H : Heap) (locs : List Loc) (ls : Array Slot) (hP : va_P D cl0 (wdK q1 k1 cI cJ σ1 ++ wdM q2 k2 cI cJ σ2) H) (hD : va_D (fun z : Nat => s.heap.size ≤ z) (wdK q1 k1 cI cJ σ1 ++ wdM q2 k2 cI cJ σ2)) (hS : va_S (fun z : Nat => s.heap.size ≤ z) s.heap H locs) (hl : lv_has ls 4 [(0, .ref b), (1, .ref (q1 0)), (2, .ref (q2 0)), (3, .int x3)])
    (kk : ∀ (t1 : sK) (t2 : sM) (H : Heap) (locs : List Loc), Rel k1 t1 k2 t2 → va_P D cl0 (wdK q1 k1 cI cJ t1 ++ wdM q2 k2 cI cJ t2) H → va_D (fun z : Nat => s.heap.size ≤ z) (wdK q1 k1 cI cJ t1 ++ wdM q2 k2 cI cJ t2) → va_S (fun z : Nat => s.heap.size ≤ z) s.heap H locs → W p l e room_1 s m #[Value.ref b] below meth c H locs 25 1195 (lw_Z below #[Value.ref b] s) (F0 m 895 ls [])) : W p l e room_1 s m #[Value.ref b] below meth c H locs 25 1195 (lw_Z below #[Value.ref b] s) (F0 m 191 ls []) := by
  obtain ⟨hx, hb, hr, hml, hown, hts, hX, hbl, hlocks, hgv⟩ := id C0
  have hA : ∀ z : Nat, s.heap.size ≤ z → (fun z : Nat => s.heap.size ≤ z) z := fun _ h => h
  have hbA : ¬ (fun z : Nat => s.heap.size ≤ z) b := Nat.not_le.mpr hbl
  obtain ⟨r, s1, s2, e1, e2, hRel⟩ := rl_place (fu := 200) hRel (Nat.le_refl 200) ((xs (x3 + 1).toNatClampNeg))
  refine lv_aload_n hx hb dL_191 rfl (lv_at hl 1 rfl) ?_
  refine lv_aload_n hx hb dL_192 rfl (lv_at hl 0 rfl) ?_
  refine lv_iload_n hx hb dL_193 rfl (lv_at hl 3 rfl) ?_
  refine lv_iconst (v := 1) hx hb dL_194 (by decide) ?_
  refine lv_iadd hx hb dL_195 ?_
  refine va_sld hx hb hX hbl hbA hS i1 dL_196 ?_
  refine lr_Li (wd := wdK q1 k1 cI cJ) (wo := wdM q2 k2 cI cJ σ2) (σ := σ1) (σ' := s1) (av := [.int (xs (x3 + 1).toNatClampNeg)]) ⟨hx, hb, hml, hown, hts⟩ (mK_place l D q1 k1 cI cJ _ σ1 s1 ((xs (x3 + 1).toNatClampNeg)) r e1) (cwV 1 hts (kgood_L TK_good TK_in (List.mem_of_getElem? (i := 149) (by decide +kernel)) (by decide +kernel)) rfl rfl rfl (by decide +kernel) ⟨Nat.le_of_ble_eq_true rfl, Nat.le_of_ble_eq_true rfl⟩) hK hP hD hS hA (ci := 0) (q0 := 0) rfl rfl rfl hl.1 rfl (Nat.le_of_ble_eq_true rfl) dL_197 ⟨Nat.le_of_ble_eq_true rfl, Nat.le_of_ble_eq_true rfl⟩ (fun H locs hP hD hS => ?_)
  refine lv_aload_n hx hb dL_200 rfl (lv_at hl 2 rfl) ?_
  refine lv_aload_n hx hb dL_201 rfl (lv_at hl 0 rfl) ?_
  refine lv_iload_n hx hb dL_202 rfl (lv_at hl 3 rfl) ?_
  refine lv_iconst (v := 1) hx hb dL_203 (by decide) ?_
  refine lv_iadd hx hb dL_204 ?_
  refine va_sld hx hb hX hbl hbA hS i1 dL_205 ?_
  refine lr_Ri (wd := wdM q2 k2 cI cJ) (wo := wdK q1 k1 cI cJ s1) (σ := σ2) (σ' := s2) (av := [.int (xs (x3 + 1).toNatClampNeg)]) ⟨hx, hb, hml, hown, hts⟩ (mM_place l D q2 k2 cI cJ _ 200 σ2 s2 ((xs (x3 + 1).toNatClampNeg)) r e2) (cwV 1 hts (kgood_L TM_good TM_in (List.mem_of_getElem? (i := 413) (by decide +kernel)) (by decide +kernel)) rfl rfl rfl (by decide +kernel) ⟨Nat.le_of_ble_eq_true rfl, Nat.le_of_ble_eq_true rfl⟩) hK hP hD hS hA (ci := 1) (q0 := 0) rfl rfl rfl hl.1 rfl (Nat.le_of_ble_eq_true rfl) dL_206 ⟨Nat.le_of_ble_eq_true rfl, Nat.le_of_ble_eq_true rfl⟩ (fun H locs hP hD hS => ?_)
  refine lv_icmp_eq (tgt := 895) hx hb dL_209 (by decide) (fun _ => ?_) (fun q => absurd rfl q)
  exact kk s1 s2 H locs hRel hP hD hS
set_option maxHeartbeats 400000 in
set_option maxRecDepth 100000 in
/-- share -/
theorem lw_case_2 (ow : Owed4) {p : Program} {l : Launch} {e : Env} {s : State} {m : MethodId} {below : List Frame} {meth : Method} {c : Code} {D : va_G} {q1 q2 : Nat → Nat} {k1 : kK} {k2 : kM} {cI cJ : ClassId} {b L : Nat} {xs : Nat → Int32} (C0 : lw_At p s m meth c b L xs) (hK : va_K D cl0 [(cI, .int), (cJ, .long)] s) (x3 : Int32) (i1 : vp_in (x3 + 1) L) (i2 : vp_in (x3 + 2) L) (i3 : vp_in (x3 + 3) L) (i4 : vp_in (x3 + 4) L) (σ1 : sK) (σ2 : sM) (hRel : Rel k1 σ1 k2 σ2) (H : Heap) (locs : List Loc) (ls : Array Slot) (hP : va_P D cl0 (wdK q1 k1 cI cJ σ1 ++ wdM q2 k2 cI cJ σ2) H) (hD : va_D (fun z : Nat => s.heap.size ≤ z) (wdK q1 k1 cI cJ σ1 ++ wdM q2 k2 cI cJ σ2)) (hS : va_S (fun z : Nat => s.heap.size ≤ z) s.heap H locs) (hl : lv_has ls 4 [(0, .ref b), (1, .ref (q1 0)), (2, .ref (q2 0)), (3, .int x3)])
    (kk : ∀ (t1 : sK) (t2 : sM) (H : Heap) (locs : List Loc), Rel k1 t1 k2 t2 → va_P D cl0 (wdK q1 k1 cI cJ t1 ++ wdM q2 k2 cI cJ t2) H → va_D (fun z : Nat => s.heap.size ≤ z) (wdK q1 k1 cI cJ t1 ++ wdM q2 k2 cI cJ t2) → va_S (fun z : Nat => s.heap.size ≤ z) s.heap H locs → W p l e room_1 s m #[Value.ref b] below meth c H locs 25 1195 (lw_Z below #[Value.ref b] s) (F0 m 895 ls [])) : W p l e room_1 s m #[Value.ref b] below meth c H locs 25 1195 (lw_Z below #[Value.ref b] s) (F0 m 214 ls []) := by
  obtain ⟨hx, hb, hr, hml, hown, hts, hX, hbl, hlocks, hgv⟩ := id C0
  have hA : ∀ z : Nat, s.heap.size ≤ z → (fun z : Nat => s.heap.size ≤ z) z := fun _ h => h
  have hbA : ¬ (fun z : Nat => s.heap.size ≤ z) b := Nat.not_le.mpr hbl
  obtain ⟨r, e1, e2⟩ := rl_share (fu := 200) hRel (Nat.le_refl 200) ((xs (x3 + 1).toNatClampNeg)) ((xs (x3 + 2).toNatClampNeg)) ((xs (x3 + 3).toNatClampNeg))
  refine lv_aload_n hx hb dL_214 rfl (lv_at hl 1 rfl) ?_
  refine lv_aload_n hx hb dL_215 rfl (lv_at hl 0 rfl) ?_
  refine lv_iload_n hx hb dL_216 rfl (lv_at hl 3 rfl) ?_
  refine lv_iconst (v := 1) hx hb dL_217 (by decide) ?_
  refine lv_iadd hx hb dL_218 ?_
  refine va_sld hx hb hX hbl hbA hS i1 dL_219 ?_
  refine lv_aload_n hx hb dL_220 rfl (lv_at hl 0 rfl) ?_
  refine lv_iload_n hx hb dL_221 rfl (lv_at hl 3 rfl) ?_
  refine lv_iconst (v := 2) hx hb dL_222 (by decide) ?_
  refine lv_iadd hx hb dL_223 ?_
  refine va_sld hx hb hX hbl hbA hS i2 dL_224 ?_
  refine lv_aload_n hx hb dL_225 rfl (lv_at hl 0 rfl) ?_
  refine lv_iload_n hx hb dL_226 rfl (lv_at hl 3 rfl) ?_
  refine lv_iconst (v := 3) hx hb dL_227 (by decide) ?_
  refine lv_iadd hx hb dL_228 ?_
  refine va_sld hx hb hX hbl hbA hS i3 dL_229 ?_
  refine lr_Ll (wd := wdK q1 k1 cI cJ) (wo := wdM q2 k2 cI cJ σ2) (σ := σ1) (σ' := σ1) (av := [.int (xs (x3 + 1).toNatClampNeg), .int (xs (x3 + 2).toNatClampNeg), .int (xs (x3 + 3).toNatClampNeg)]) ⟨hx, hb, hml, hown, hts⟩ (mK_share l D q1 k1 cI cJ _ 200 σ1 ((xs (x3 + 1).toNatClampNeg)) ((xs (x3 + 2).toNatClampNeg)) ((xs (x3 + 3).toNatClampNeg)) r e1) (cwV 3 hts (kgood_L TK_good TK_in (List.mem_of_getElem? (i := 153) (by decide +kernel)) (by decide +kernel)) rfl rfl rfl (by decide +kernel) ⟨Nat.le_of_ble_eq_true rfl, Nat.le_of_ble_eq_true rfl⟩) hK hP hD hS hA (ci := 0) (q0 := 0) rfl rfl rfl hl.1 rfl (Nat.le_of_ble_eq_true rfl) dL_230 ⟨Nat.le_of_ble_eq_true rfl, Nat.le_of_ble_eq_true rfl⟩ (fun H locs hP hD hS => ?_)
  refine lv_aload_n hx hb dL_233 rfl (lv_at hl 2 rfl) ?_
  refine lv_aload_n hx hb dL_234 rfl (lv_at hl 0 rfl) ?_
  refine lv_iload_n hx hb dL_235 rfl (lv_at hl 3 rfl) ?_
  refine lv_iconst (v := 1) hx hb dL_236 (by decide) ?_
  refine lv_iadd hx hb dL_237 ?_
  refine va_sld hx hb hX hbl hbA hS i1 dL_238 ?_
  refine lv_aload_n hx hb dL_239 rfl (lv_at hl 0 rfl) ?_
  refine lv_iload_n hx hb dL_240 rfl (lv_at hl 3 rfl) ?_
  refine lv_iconst (v := 2) hx hb dL_241 (by decide) ?_
  refine lv_iadd hx hb dL_242 ?_
  refine va_sld hx hb hX hbl hbA hS i2 dL_243 ?_
  refine lv_aload_n hx hb dL_244 rfl (lv_at hl 0 rfl) ?_
  refine lv_iload_n hx hb dL_245 rfl (lv_at hl 3 rfl) ?_
  refine lv_iconst (v := 3) hx hb dL_246 (by decide) ?_
  refine lv_iadd hx hb dL_247 ?_
  refine va_sld hx hb hX hbl hbA hS i3 dL_248 ?_
  refine lr_Rl (wd := wdM q2 k2 cI cJ) (wo := wdK q1 k1 cI cJ σ1) (σ := σ2) (σ' := σ2) (av := [.int (xs (x3 + 1).toNatClampNeg), .int (xs (x3 + 2).toNatClampNeg), .int (xs (x3 + 3).toNatClampNeg)]) ⟨hx, hb, hml, hown, hts⟩ (mM_share l D q2 k2 cI cJ _ 200 σ2 ((xs (x3 + 1).toNatClampNeg)) ((xs (x3 + 2).toNatClampNeg)) ((xs (x3 + 3).toNatClampNeg)) r e2) (cwV 3 hts (kgood_L TM_good TM_in (List.mem_of_getElem? (i := 417) (by decide +kernel)) (by decide +kernel)) rfl rfl rfl (by decide +kernel) ⟨Nat.le_of_ble_eq_true rfl, Nat.le_of_ble_eq_true rfl⟩) hK hP hD hS hA (ci := 1) (q0 := 0) rfl rfl rfl hl.1 rfl (Nat.le_of_ble_eq_true rfl) dL_249 ⟨Nat.le_of_ble_eq_true rfl, Nat.le_of_ble_eq_true rfl⟩ (fun H locs hP hD hS => ?_)
  refine W.lcmp hx hb dL_252 ?_
  refine lv_if_eq (tgt := 895) hx hb dL_253 (by decide) (fun _ => ?_) (fun q => absurd ((lg_cmp_eq r r).mpr rfl) q)
  exact kk σ1 σ2 H locs hRel hP hD hS
set_option maxHeartbeats 400000 in
set_option maxRecDepth 100000 in
/-- empty -/
theorem lw_case_3 (ow : Owed4) {p : Program} {l : Launch} {e : Env} {s : State} {m : MethodId} {below : List Frame} {meth : Method} {c : Code} {D : va_G} {q1 q2 : Nat → Nat} {k1 : kK} {k2 : kM} {cI cJ : ClassId} {b L : Nat} {xs : Nat → Int32} (C0 : lw_At p s m meth c b L xs) (hK : va_K D cl0 [(cI, .int), (cJ, .long)] s) (x3 : Int32) (i1 : vp_in (x3 + 1) L) (i2 : vp_in (x3 + 2) L) (i3 : vp_in (x3 + 3) L) (i4 : vp_in (x3 + 4) L) (σ1 : sK) (σ2 : sM) (hRel : Rel k1 σ1 k2 σ2) (H : Heap) (locs : List Loc) (ls : Array Slot) (hP : va_P D cl0 (wdK q1 k1 cI cJ σ1 ++ wdM q2 k2 cI cJ σ2) H) (hD : va_D (fun z : Nat => s.heap.size ≤ z) (wdK q1 k1 cI cJ σ1 ++ wdM q2 k2 cI cJ σ2)) (hS : va_S (fun z : Nat => s.heap.size ≤ z) s.heap H locs) (hl : lv_has ls 4 [(0, .ref b), (1, .ref (q1 0)), (2, .ref (q2 0)), (3, .int x3)])
    (kk : ∀ (t1 : sK) (t2 : sM) (H : Heap) (locs : List Loc), Rel k1 t1 k2 t2 → va_P D cl0 (wdK q1 k1 cI cJ t1 ++ wdM q2 k2 cI cJ t2) H → va_D (fun z : Nat => s.heap.size ≤ z) (wdK q1 k1 cI cJ t1 ++ wdM q2 k2 cI cJ t2) → va_S (fun z : Nat => s.heap.size ≤ z) s.heap H locs → W p l e room_1 s m #[Value.ref b] below meth c H locs 25 1195 (lw_Z below #[Value.ref b] s) (F0 m 895 ls [])) : W p l e room_1 s m #[Value.ref b] below meth c H locs 25 1195 (lw_Z below #[Value.ref b] s) (F0 m 258 ls []) := by
  obtain ⟨hx, hb, hr, hml, hown, hts, hX, hbl, hlocks, hgv⟩ := id C0
  have hA : ∀ z : Nat, s.heap.size ≤ z → (fun z : Nat => s.heap.size ≤ z) z := fun _ h => h
  have hbA : ¬ (fun z : Nat => s.heap.size ≤ z) b := Nat.not_le.mpr hbl
  obtain ⟨r, e1, e2⟩ := rl_empty (fu := 200) hRel (Nat.le_refl 200) ((xs (x3 + 1).toNatClampNeg))
  refine lv_aload_n hx hb dL_258 rfl (lv_at hl 1 rfl) ?_
  refine lv_aload_n hx hb dL_259 rfl (lv_at hl 0 rfl) ?_
  refine lv_iload_n hx hb dL_260 rfl (lv_at hl 3 rfl) ?_
  refine lv_iconst (v := 1) hx hb dL_261 (by decide) ?_
  refine lv_iadd hx hb dL_262 ?_
  refine va_sld hx hb hX hbl hbA hS i1 dL_263 ?_
  refine lr_Li (wd := wdK q1 k1 cI cJ) (wo := wdM q2 k2 cI cJ σ2) (σ := σ1) (σ' := σ1) (av := [.int (xs (x3 + 1).toNatClampNeg)]) ⟨hx, hb, hml, hown, hts⟩ (mK_empty l D q1 k1 cI cJ _ 200 σ1 ((xs (x3 + 1).toNatClampNeg)) r e1) (cwV 1 hts (kgood_L TK_good TK_in (List.mem_of_getElem? (i := 186) (by decide +kernel)) (by decide +kernel)) rfl rfl rfl (by decide +kernel) ⟨Nat.le_of_ble_eq_true rfl, Nat.le_of_ble_eq_true rfl⟩) hK hP hD hS hA (ci := 0) (q0 := 0) rfl rfl rfl hl.1 rfl (Nat.le_of_ble_eq_true rfl) dL_264 ⟨Nat.le_of_ble_eq_true rfl, Nat.le_of_ble_eq_true rfl⟩ (fun H locs hP hD hS => ?_)
  refine lv_aload_n hx hb dL_267 rfl (lv_at hl 2 rfl) ?_
  refine lv_aload_n hx hb dL_268 rfl (lv_at hl 0 rfl) ?_
  refine lv_iload_n hx hb dL_269 rfl (lv_at hl 3 rfl) ?_
  refine lv_iconst (v := 1) hx hb dL_270 (by decide) ?_
  refine lv_iadd hx hb dL_271 ?_
  refine va_sld hx hb hX hbl hbA hS i1 dL_272 ?_
  refine lr_Ri (wd := wdM q2 k2 cI cJ) (wo := wdK q1 k1 cI cJ σ1) (σ := σ2) (σ' := σ2) (av := [.int (xs (x3 + 1).toNatClampNeg)]) ⟨hx, hb, hml, hown, hts⟩ (mM_empty l D q2 k2 cI cJ _ 200 σ2 ((xs (x3 + 1).toNatClampNeg)) r e2) (cwV 1 hts (kgood_L TM_good TM_in (List.mem_of_getElem? (i := 436) (by decide +kernel)) (by decide +kernel)) rfl rfl rfl (by decide +kernel) ⟨Nat.le_of_ble_eq_true rfl, Nat.le_of_ble_eq_true rfl⟩) hK hP hD hS hA (ci := 1) (q0 := 0) rfl rfl rfl hl.1 rfl (Nat.le_of_ble_eq_true rfl) dL_273 ⟨Nat.le_of_ble_eq_true rfl, Nat.le_of_ble_eq_true rfl⟩ (fun H locs hP hD hS => ?_)
  refine lv_icmp_eq (tgt := 895) hx hb dL_276 (by decide) (fun _ => ?_) (fun q => absurd rfl q)
  exact kk σ1 σ2 H locs hRel hP hD hS
set_option maxHeartbeats 400000 in
set_option maxRecDepth 100000 in
/-- fill -/
theorem lw_case_4 (ow : Owed4) {p : Program} {l : Launch} {e : Env} {s : State} {m : MethodId} {below : List Frame} {meth : Method} {c : Code} {D : va_G} {q1 q2 : Nat → Nat} {k1 : kK} {k2 : kM} {cI cJ : ClassId} {b L : Nat} {xs : Nat → Int32} (C0 : lw_At p s m meth c b L xs) (hK : va_K D cl0 [(cI, .int), (cJ, .long)] s) (x3 : Int32) (i1 : vp_in (x3 + 1) L) (i2 : vp_in (x3 + 2) L) (i3 : vp_in (x3 + 3) L) (i4 : vp_in (x3 + 4) L) (σ1 : sK) (σ2 : sM) (hRel : Rel k1 σ1 k2 σ2) (H : Heap) (locs : List Loc) (ls : Array Slot) (hP : va_P D cl0 (wdK q1 k1 cI cJ σ1 ++ wdM q2 k2 cI cJ σ2) H) (hD : va_D (fun z : Nat => s.heap.size ≤ z) (wdK q1 k1 cI cJ σ1 ++ wdM q2 k2 cI cJ σ2)) (hS : va_S (fun z : Nat => s.heap.size ≤ z) s.heap H locs) (hl : lv_has ls 4 [(0, .ref b), (1, .ref (q1 0)), (2, .ref (q2 0)), (3, .int x3)])
    (kk : ∀ (t1 : sK) (t2 : sM) (H : Heap) (locs : List Loc), Rel k1 t1 k2 t2 → va_P D cl0 (wdK q1 k1 cI cJ t1 ++ wdM q2 k2 cI cJ t2) H → va_D (fun z : Nat => s.heap.size ≤ z) (wdK q1 k1 cI cJ t1 ++ wdM q2 k2 cI cJ t2) → va_S (fun z : Nat => s.heap.size ≤ z) s.heap H locs → W p l e room_1 s m #[Value.ref b] below meth c H locs 25 1195 (lw_Z below #[Value.ref b] s) (F0 m 895 ls [])) : W p l e room_1 s m #[Value.ref b] below meth c H locs 25 1195 (lw_Z below #[Value.ref b] s) (F0 m 281 ls []) := by
  obtain ⟨hx, hb, hr, hml, hown, hts, hX, hbl, hlocks, hgv⟩ := id C0
  have hA : ∀ z : Nat, s.heap.size ≤ z → (fun z : Nat => s.heap.size ≤ z) z := fun _ h => h
  have hbA : ¬ (fun z : Nat => s.heap.size ≤ z) b := Nat.not_le.mpr hbl
  obtain ⟨r, s1, s2, e1, e2, hRel⟩ := rl_fill (fu := 200) hRel (Nat.le_refl 200) ((xs (x3 + 1).toNatClampNeg))
  refine lv_aload_n hx hb dL_281 rfl (lv_at hl 1 rfl) ?_
  refine lv_aload_n hx hb dL_282 rfl (lv_at hl 0 rfl) ?_
  refine lv_iload_n hx hb dL_283 rfl (lv_at hl 3 rfl) ?_
  refine lv_iconst (v := 1) hx hb dL_284 (by decide) ?_
  refine lv_iadd hx hb dL_285 ?_
  refine va_sld hx hb hX hbl hbA hS i1 dL_286 ?_
  refine lr_Li (wd := wdK q1 k1 cI cJ) (wo := wdM q2 k2 cI cJ σ2) (σ := σ1) (σ' := s1) (av := [.int (xs (x3 + 1).toNatClampNeg)]) ⟨hx, hb, hml, hown, hts⟩ (mK_fill l D q1 k1 cI cJ _ 200 σ1 s1 ((xs (x3 + 1).toNatClampNeg)) r e1) (cwV 1 hts (kgood_L TK_good TK_in (List.mem_of_getElem? (i := 194) (by decide +kernel)) (by decide +kernel)) rfl rfl rfl (by decide +kernel) ⟨Nat.le_of_ble_eq_true rfl, Nat.le_of_ble_eq_true rfl⟩) hK hP hD hS hA (ci := 0) (q0 := 0) rfl rfl rfl hl.1 rfl (Nat.le_of_ble_eq_true rfl) dL_287 ⟨Nat.le_of_ble_eq_true rfl, Nat.le_of_ble_eq_true rfl⟩ (fun H locs hP hD hS => ?_)
  refine lv_aload_n hx hb dL_290 rfl (lv_at hl 2 rfl) ?_
  refine lv_aload_n hx hb dL_291 rfl (lv_at hl 0 rfl) ?_
  refine lv_iload_n hx hb dL_292 rfl (lv_at hl 3 rfl) ?_
  refine lv_iconst (v := 1) hx hb dL_293 (by decide) ?_
  refine lv_iadd hx hb dL_294 ?_
  refine va_sld hx hb hX hbl hbA hS i1 dL_295 ?_
  refine lr_Ri (wd := wdM q2 k2 cI cJ) (wo := wdK q1 k1 cI cJ s1) (σ := σ2) (σ' := s2) (av := [.int (xs (x3 + 1).toNatClampNeg)]) ⟨hx, hb, hml, hown, hts⟩ (mM_fill l D q2 k2 cI cJ _ 200 σ2 s2 ((xs (x3 + 1).toNatClampNeg)) r e2) (cwV 1 hts (kgood_L TM_good TM_in (List.mem_of_getElem? (i := 440) (by decide +kernel)) (by decide +kernel)) rfl rfl rfl (by decide +kernel) ⟨Nat.le_of_ble_eq_true rfl, Nat.le_of_ble_eq_true rfl⟩) hK hP hD hS hA (ci := 1) (q0 := 0) rfl rfl rfl hl.1 rfl (Nat.le_of_ble_eq_true rfl) dL_296 ⟨Nat.le_of_ble_eq_true rfl, Nat.le_of_ble_eq_true rfl⟩ (fun H locs hP hD hS => ?_)
  refine lv_icmp_eq (tgt := 895) hx hb dL_299 (by decide) (fun _ => ?_) (fun q => absurd rfl q)
  exact kk s1 s2 H locs hRel hP hD hS
