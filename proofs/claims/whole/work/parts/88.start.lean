theorem arr_int {s : State} {args : Array Value} (h : (Cond.arrayClass .int).before args s = true) : ∃ cI, ArrOfT s cI .int ∧ va_RA s cI .int := by
  obtain ⟨cA, kA, comp, hfind, hk, hkind⟩ := Cond.arrayClass_spec h
  exact ⟨cA, fun n z => ⟨fun k h => (by cases h), kA, hk, comp, hkind⟩, hfind⟩
theorem arr_long {s : State} {args : Array Value} (h : (Cond.arrayClass .long).before args s = true) : ∃ cI, ArrOfT s cI .long ∧ va_RA s cI .long := by
  obtain ⟨cA, kA, comp, hfind, hk, hkind⟩ := Cond.arrayClass_spec h
  exact ⟨cA, fun n z => ⟨fun k h => (by cases h), kA, hk, comp, hkind⟩, hfind⟩
set_option maxHeartbeats 1000000 in
set_option maxRecDepth 100000 in
/-- THE LAW, from its entry, over what is owed of four calls -/
theorem whole_start_open (ow : Owed4) {p : Program} {e : Env} {s : State} {m : MethodId} {below : List Frame} {meth : Method} {c : Code} (l : Launch) {b L : Nat} {xs : Nat → Int32} (hL : L ≤ 2562) (C0 : lw_At p s m meth c b L xs) : W p l e room_1 s m #[Value.ref b] below meth c s.heap [] 0 0 (lw_Z below #[Value.ref b] s) (entryFrame m ([Value.ref b] : List Value).toArray 4) := by
  obtain ⟨hx, hb, hr, hml, hown, hts, hX, hbl, hlocks, hgv⟩ := id C0
  have hA : ∀ z : Nat, s.heap.size ≤ z → (fun z : Nat => s.heap.size ≤ z) z := fun _ h => h
  have hbA : ¬ (fun z : Nat => s.heap.size ≤ z) b := Nat.not_le.mpr hbl
  obtain ⟨c0, iS0, hKn0⟩ := u_known (C := RK) (T := FK) (N := 19) (n := 19) hts (fun w h => TK_in w (iK_u w h)) (hts (.instantiable RK 19) (List.mem_of_getElem? (i := 49) (by decide +kernel)))
  obtain ⟨c1, iS1, hKn1⟩ := u_known (C := RM) (T := FM) (N := 13) (n := 13) hts (fun w h => TM_in w (iM_u w h)) (hts (.instantiable RM 13) (List.mem_of_getElem? (i := 341) (by decide +kernel)))
  obtain ⟨dC, dI, hKc⟩ : ∃ (dC : Nat → ClassId) (dI : Nat → Nat → Nat), ∀ (k : Nat) (q : vw_C), cl0[k]? = some q → u_Kn s q.1 q.2.1 q.2.2 (dC k) (dI k) := by
    refine ⟨fun k => if k = 0 then c0 else c1, fun k => if k = 0 then iS0 else iS1, ?_⟩
    intro k q hq
    match k, hq with
    | 0, hq => cases hq; exact hKn0
    | 1, hq => cases hq; exact hKn1
    | k + 2, hq => simp [cl0] at hq
  obtain ⟨cI, hI1, hI2⟩ := arr_int (hts (.arrayClass .int) (List.mem_of_getElem? (i := 120) (by decide +kernel)))
  obtain ⟨cJ, hJ1, hJ2⟩ := arr_long (hts (.arrayClass .long) (List.mem_of_getElem? (i := 121) (by decide +kernel)))
  have hS : va_S (fun z : Nat => s.heap.size ≤ z) s.heap s.heap [] := va_S.rf
  have hK : va_K (dC, dI) cl0 [(cI, .int), (cJ, .long)] s := by
    refine ⟨hKc, fun k q h => ?_⟩
    match k, h with
    | 0, h => cases h; exact ⟨hI1, hI2⟩
    | 1, h => cases h; exact ⟨hJ1, hJ2⟩
    | k + 2, h => simp at h
  have hP : va_P (dC, dI) cl0 [] s.heap := fun k q h => by simp at h
  have hD : va_D (fun z : Nat => s.heap.size ≤ z) [] := ⟨fun i j p q h => by simp at h, fun k q h => by simp at h⟩
  have hl := lv_entry ([.ref b]) (n := 4) (Nat.le_of_ble_eq_true rfl)
  rw [lg_entry_eq]
  generalize (lg_sl ([.ref b]) ++ List.replicate (4 - (lg_sl ([.ref b])).length) Slot.unset).toArray = ls at hl ⊢
  have hl : lv_has ls 4 [(0, .ref b)] := hl
  obtain ⟨y0, ey0⟩ : ∃ y0 : Int32, y0 = if nI L ≤ 0 then 0 else xs (0 : Int32).toNatClampNeg := ⟨_, rfl⟩
  obtain ⟨y1, ey1⟩ : ∃ y1 : Int32, y1 = if nI L ≤ 1 then 0 else xs (1 : Int32).toNatClampNeg := ⟨_, rfl⟩
  obtain ⟨C, hC1, hC2, hCe, hCm⟩ := clampT y0 (B := 10) (by omega) (by omega)
  obtain ⟨A, hA1, hA2, hAe, hAm⟩ := clampT y1 (B := 6) (by omega) (by omega)
  obtain ⟨t1, t2, f1, f2, hRel⟩ := op_new hC1 hC2 hA1 hA2
  refine va_new (ci := 0) (fs := [.int 0, .int 0, .int 0, .null, .null, .null, .null, .null, .null, .null, .long 0, .null, .null, .null, .null, .null, .null, .null, .null]) (C := RK) (T := FK) (N := 19) hx hb hts (fun w h => TK_in w (iK_u w h)) tyK tyK_ok hown (hts (.classLink R_law 7 RK) (List.mem_of_getElem? (i := 48) (by decide +kernel))) (hts (.instantiable RK 19) (List.mem_of_getElem? (i := 49) (by decide +kernel))) (hts (.initialized RK) (List.mem_of_getElem? (i := 45) (by decide +kernel))) hK hP hD hS hA rfl (fun j hj => by rcases (show j = 0 ∨ j = 1 ∨ j = 2 ∨ j = 3 ∨ j = 4 ∨ j = 5 ∨ j = 6 ∨ j = 7 ∨ j = 8 ∨ j = 9 ∨ j = 10 ∨ j = 11 ∨ j = 12 ∨ j = 13 ∨ j = 14 ∨ j = 15 ∨ j = 16 ∨ j = 17 ∨ j = 18 by omega) with rfl | rfl | rfl | rfl | rfl | rfl | rfl | rfl | rfl | rfl | rfl | rfl | rfl | rfl | rfl | rfl | rfl | rfl | rfl <;> rfl) (Nat.le_of_ble_eq_true rfl) (Nat.le_of_ble_eq_true rfl) dL_0 (fun a1 H hP hD hS => ?_)
  have hP : va_P (dC, dI) cl0 ([] ++ [(a1, .inr (0, [.int 0, .int 0, .int 0, .null, .null, .null, .null, .null, .null, .null, .long 0, .null, .null, .null, .null, .null, .null, .null, .null]))]) H := hP
  have hD : va_D (fun z : Nat => s.heap.size ≤ z) ([] ++ [(a1, .inr (0, [.int 0, .int 0, .int 0, .null, .null, .null, .null, .null, .null, .null, .long 0, .null, .null, .null, .null, .null, .null, .null, .null]))]) := hD
  refine lv_dup hx hb dL_3 rfl ?_
  refine lv_aload_n hx hb dL_4 rfl (lv_at hl 0 rfl) ?_
  refine lv_iconst (v := 0) hx hb dL_5 (by decide) ?_
  refine vp_callSi (W.runS (As := [.ref b, .int 0]) (rest := [.ref a1, .ref a1]) ⟨hx, hb, hml, hown, hts⟩ (mL_cell l b L xs 0 (by decide) (by omega)) (cwS 2 hts (goodIn_p _ [339] rfl (by decide +kernel)) rfl rfl rfl (by decide +kernel) ⟨Nat.le_of_ble_eq_true rfl, Nat.le_of_ble_eq_true rfl⟩) ⟨blindX, fun U hU hW => ⟨rfl, va_X.moved hW.alike (by rw [hU]; exact hX.kept (hS.2.1 b hbl hbA)), by rw [hU]; exact Nat.lt_of_lt_of_le hbl hS.1⟩⟩ rfl rfl hl.1 rfl (lv_room (Nat.le_of_ble_eq_true rfl)) dL_6 ⟨Nat.le_of_ble_eq_true rfl, Nat.le_of_ble_eq_true rfl⟩) (fun r6 e6 => ?_)
  obtain rfl : y0 = r6 := ey0.trans e6.symm
  refine lv_aload_n hx hb dL_9 rfl (lv_at hl 0 rfl) ?_
  refine lv_iconst (v := 1) hx hb dL_10 (by decide) ?_
  refine vp_callSi (W.runS (As := [.ref b, .int 1]) (rest := [.int y0, .ref a1, .ref a1]) ⟨hx, hb, hml, hown, hts⟩ (mL_cell l b L xs 1 (by decide) (by omega)) (cwS 2 hts (goodIn_p _ [339] rfl (by decide +kernel)) rfl rfl rfl (by decide +kernel) ⟨Nat.le_of_ble_eq_true rfl, Nat.le_of_ble_eq_true rfl⟩) ⟨blindX, fun U hU hW => ⟨rfl, va_X.moved hW.alike (by rw [hU]; exact hX.kept (hS.2.1 b hbl hbA)), by rw [hU]; exact Nat.lt_of_lt_of_le hbl hS.1⟩⟩ rfl rfl hl.1 rfl (lv_room (Nat.le_of_ble_eq_true rfl)) dL_11 ⟨Nat.le_of_ble_eq_true rfl, Nat.le_of_ble_eq_true rfl⟩) (fun r11 e11 => ?_)
  obtain rfl : y1 = r11 := ey1.trans e11.symm
  refine lr_init (wf := fun q => wdK q (k0K C A) cI cJ t1) (wo := []) (av := [.int y0, .int y1]) (rest := [.ref a1]) ⟨hx, hb, hml, hown, hts⟩ (mK_init l (dC, dI) cI cJ _ 200 a1 y0 y1 C A hC2 hA2 hCe hAe t1 f1) (cwI 2 hts (fun w hw => ⟨(List.mem_cons.mp hw).elim (fun h => by rw [h]; exact TK_in _ (by decide +kernel)) (fun h => TK_in w h), (List.mem_cons.mp hw).elim (fun h => by rw [h]; exact Or.inl rfl) (fun h => (TK_good w h).2)⟩) rfl rfl rfl (hts (.initialized RK) (List.mem_of_getElem? (i := 45) (by decide +kernel))) (hts (.methodLink R_law 15 yK_init) (List.mem_of_getElem? (i := 50) (by decide +kernel))) (hts (.instanceMethod yK_init) (List.mem_of_getElem? (i := 51) (by decide +kernel))) rfl (by decide +kernel) ⟨Nat.le_of_ble_eq_true rfl, Nat.le_of_ble_eq_true rfl⟩) hK hP hD hS hA rfl hl.1 rfl (Nat.le_of_ble_eq_true rfl) dL_14 ⟨Nat.le_of_ble_eq_true rfl, Nat.le_of_ble_eq_true rfl⟩ (fun q1 H locs hq1 hPq1 hDq1 hSq1 => ?_)
  refine W.widen (k := 16) (n := 820) (by omega) (by omega) ?_
  subst hq1
  have hP := hPq1
  have hD := hDq1
  have hS := hSq1
  refine lv_astore_n (lv' := [(1, .ref (q1 0)), (0, .ref b)]) hx hb dL_17 rfl hl (by decide) rfl (fun ls hl => ?_)
  refine va_new (ci := 1) (fs := [.int 0, .int 0, .null, .int 0, .null, .null, .null, .null, .null, .null, .null, .long 0, .long 0]) (C := RM) (T := FM) (N := 13) hx hb hts (fun w h => TM_in w (iM_u w h)) tyM tyM_ok hown (hts (.classLink R_law 18 RM) (List.mem_of_getElem? (i := 340) (by decide +kernel))) (hts (.instantiable RM 13) (List.mem_of_getElem? (i := 341) (by decide +kernel))) (hts (.initialized RM) (List.mem_of_getElem? (i := 47) (by decide +kernel))) hK hP hD hS hA rfl (fun j hj => by rcases (show j = 0 ∨ j = 1 ∨ j = 2 ∨ j = 3 ∨ j = 4 ∨ j = 5 ∨ j = 6 ∨ j = 7 ∨ j = 8 ∨ j = 9 ∨ j = 10 ∨ j = 11 ∨ j = 12 by omega) with rfl | rfl | rfl | rfl | rfl | rfl | rfl | rfl | rfl | rfl | rfl | rfl | rfl <;> rfl) (Nat.le_of_ble_eq_true rfl) (Nat.le_of_ble_eq_true rfl) dL_18 (fun a2 H hP hD hS => ?_)
  have hP : va_P (dC, dI) cl0 (wdK q1 (k0K C A) cI cJ t1 ++ [(a2, .inr (1, [.int 0, .int 0, .null, .int 0, .null, .null, .null, .null, .null, .null, .null, .long 0, .long 0]))]) H := hP
  have hD : va_D (fun z : Nat => s.heap.size ≤ z) (wdK q1 (k0K C A) cI cJ t1 ++ [(a2, .inr (1, [.int 0, .int 0, .null, .int 0, .null, .null, .null, .null, .null, .null, .null, .long 0, .long 0]))]) := hD
  refine lv_dup hx hb dL_21 rfl ?_
  refine lv_aload_n hx hb dL_22 rfl (lv_at hl 1 rfl) ?_
  refine lv_iconst (v := 0) hx hb dL_23 (by decide) ?_
  refine vp_callSi (W.runS (As := [.ref b, .int 0]) (rest := [.ref a2, .ref a2]) ⟨hx, hb, hml, hown, hts⟩ (mL_cell l b L xs 0 (by decide) (by omega)) (cwS 2 hts (goodIn_p _ [339] rfl (by decide +kernel)) rfl rfl rfl (by decide +kernel) ⟨Nat.le_of_ble_eq_true rfl, Nat.le_of_ble_eq_true rfl⟩) ⟨blindX, fun U hU hW => ⟨rfl, va_X.moved hW.alike (by rw [hU]; exact hX.kept (hS.2.1 b hbl hbA)), by rw [hU]; exact Nat.lt_of_lt_of_le hbl hS.1⟩⟩ rfl rfl hl.1 rfl (lv_room (Nat.le_of_ble_eq_true rfl)) dL_24 ⟨Nat.le_of_ble_eq_true rfl, Nat.le_of_ble_eq_true rfl⟩) (fun r24 e24 => ?_)
  obtain rfl : y0 = r24 := ey0.trans e24.symm
  refine lv_aload_n hx hb dL_27 rfl (lv_at hl 1 rfl) ?_
  refine lv_iconst (v := 1) hx hb dL_28 (by decide) ?_
  refine vp_callSi (W.runS (As := [.ref b, .int 1]) (rest := [.int y0, .ref a2, .ref a2]) ⟨hx, hb, hml, hown, hts⟩ (mL_cell l b L xs 1 (by decide) (by omega)) (cwS 2 hts (goodIn_p _ [339] rfl (by decide +kernel)) rfl rfl rfl (by decide +kernel) ⟨Nat.le_of_ble_eq_true rfl, Nat.le_of_ble_eq_true rfl⟩) ⟨blindX, fun U hU hW => ⟨rfl, va_X.moved hW.alike (by rw [hU]; exact hX.kept (hS.2.1 b hbl hbA)), by rw [hU]; exact Nat.lt_of_lt_of_le hbl hS.1⟩⟩ rfl rfl hl.1 rfl (lv_room (Nat.le_of_ble_eq_true rfl)) dL_29 ⟨Nat.le_of_ble_eq_true rfl, Nat.le_of_ble_eq_true rfl⟩) (fun r29 e29 => ?_)
  obtain rfl : y1 = r29 := ey1.trans e29.symm
  refine lr_init (wf := fun q => wdM q (clampM y0 10, clampM y1 6, lenM) cI cJ t2) (wo := wdK q1 (k0K C A) cI cJ t1) (av := [.int y0, .int y1]) (rest := [.ref a2]) ⟨hx, hb, hml, hown, hts⟩ (mM_init l (dC, dI) cI cJ _ 200 a2 y0 y1 t2 (by rw [show (10 : Int32) = nI 10 from rfl, show (6 : Int32) = nI 6 from rfl, hCm, hAm]; exact f2)) (cwI 2 hts (fun w hw => ⟨(List.mem_cons.mp hw).elim (fun h => by rw [h]; exact TM_in _ (by decide +kernel)) (fun h => TM_in w h), (List.mem_cons.mp hw).elim (fun h => by rw [h]; exact Or.inl rfl) (fun h => (TM_good w h).2)⟩) rfl rfl rfl (hts (.initialized RM) (List.mem_of_getElem? (i := 47) (by decide +kernel))) (hts (.methodLink R_law 20 yM_init) (List.mem_of_getElem? (i := 342) (by decide +kernel))) (hts (.instanceMethod yM_init) (List.mem_of_getElem? (i := 343) (by decide +kernel))) rfl (by decide +kernel) ⟨Nat.le_of_ble_eq_true rfl, Nat.le_of_ble_eq_true rfl⟩) hK hP hD hS hA rfl hl.1 rfl (Nat.le_of_ble_eq_true rfl) dL_32 ⟨Nat.le_of_ble_eq_true rfl, Nat.le_of_ble_eq_true rfl⟩ (fun q2 H locs hq2 hPq2 hDq2 hSq2 => ?_)
  refine W.widen (k := 25) (n := 1195) (by omega) (by omega) ?_
  subst hq2
  have hP := hPq2
  have hD := hDq2
  have hS := hSq2
  refine lv_astore_n (lv' := [(2, .ref (q2 0)), (1, .ref (q1 0)), (0, .ref b)]) hx hb dL_35 rfl hl (by decide) rfl (fun ls hl => ?_)
  refine lv_iconst (v := 2) hx hb dL_36 (by decide) ?_
  refine lv_istore_n (lv' := [(3, .int 2), (2, .ref (q2 0)), (1, .ref (q1 0)), (0, .ref b)]) hx hb dL_37 rfl hl (by decide) rfl (fun ls hl => ?_)
  rw [show (10 : Int32) = nI 10 from rfl, show (6 : Int32) = nI 6 from rfl, hCm, hAm] at hP hD
  exact law_loop ow hL C0 hK 2600 2 2 t1 t2 _ _ ls rfl (by omega) (by omega) hRel hP hD hS (lv_sub hl [3, 2, 1, 0] rfl)
