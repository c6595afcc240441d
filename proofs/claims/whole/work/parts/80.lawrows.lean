/-! Rows for the law: two worlds side by side. -/
section AP2
variable {D : va_G} {cl : List vw_C} {A : Nat → Prop} {H H1 : Heap} {a a' b b' : va_W}
theorem ap_P1 (h : va_P D cl (a ++ b) H) : va_P D cl a H := fun k q hk => h k q (by rw [List.getElem?_append_left (List.getElem?_eq_some_iff.mp hk).1]; exact hk)
theorem ap_P2 (h : va_P D cl (a ++ b) H) : va_P D cl b H := fun k q hk => h (a.length + k) q (by rw [List.getElem?_append_right (by omega), Nat.add_sub_cancel_left]; exact hk)
theorem ap_D1 (h : va_D A (a ++ b)) : va_D A a := ⟨fun i j p q hi hj e => h.1 i j p q (by rw [List.getElem?_append_left (List.getElem?_eq_some_iff.mp hi).1]; exact hi) (by rw [List.getElem?_append_left (List.getElem?_eq_some_iff.mp hj).1]; exact hj) e, fun k q hk => h.2 k q (by rw [List.getElem?_append_left (List.getElem?_eq_some_iff.mp hk).1]; exact hk)⟩
theorem ap_D2 (h : va_D A (a ++ b)) : va_D A b := ⟨fun i j p q hi hj e => by
    have := h.1 (a.length + i) (a.length + j) p q (by rw [List.getElem?_append_right (by omega), Nat.add_sub_cancel_left]; exact hi) (by rw [List.getElem?_append_right (by omega), Nat.add_sub_cancel_left]; exact hj) e
    omega, fun k q hk => h.2 (a.length + k) q (by rw [List.getElem?_append_right (by omega), Nat.add_sub_cancel_left]; exact hk)⟩
theorem ap_dis (h : va_D A (a ++ b)) : ∀ (i j : Nat) (p q : Nat × va_E), a[i]? = some p → b[j]? = some q → p.1 ≠ q.1 := by
  intro i j p q hi hj e
  have h1 := (List.getElem?_eq_some_iff.mp hi).1
  have := h.1 i (a.length + j) p q (by rw [List.getElem?_append_left h1]; exact hi) (by rw [List.getElem?_append_right (by omega), Nat.add_sub_cancel_left]; exact hj) e
  omega
theorem fr_L (hP : va_P D cl (a ++ b) H) (hD : va_D A (a ++ b)) (hk : ∀ z : Nat, z < H.size → ¬ va_A a H.size z → H1[z]? = H[z]?) (hF : ∀ z, va_A a H.size z → A z) (hP1 : va_P D cl a' H1) (hD1 : va_D (va_A a H.size) a') : va_P D cl (a' ++ b) H1 ∧ va_D A (a' ++ b) := by
  have hb : ∀ (j : Nat) (q : Nat × va_E), b[j]? = some q → q.1 < H.size ∧ ¬ va_A a H.size q.1 := by
    intro j q hj
    have hl := (ap_P2 hP j q hj).lt
    refine ⟨hl, fun h => ?_⟩
    rcases h with ⟨i, e, h⟩ | h
    · exact ap_dis hD i j (q.1, e) q h hj rfl
    · omega
  refine ⟨va_P.app hP1 (fun j q hj => (ap_P2 hP j q hj).kept (hk q.1 (hb j q hj).1 (hb j q hj).2)), va_D.app (hD1.weaken (fun _ q _ h => hF q.1 h)) (ap_D2 hD) (fun i j p q hi hj e => ?_)⟩
  exact (hb j q hj).2 (by rw [← e]; exact hD1.2 i p hi)
theorem fr_R (hP : va_P D cl (a ++ b) H) (hD : va_D A (a ++ b)) (hk : ∀ z : Nat, z < H.size → ¬ va_A b H.size z → H1[z]? = H[z]?) (hF : ∀ z, va_A b H.size z → A z) (hP1 : va_P D cl b' H1) (hD1 : va_D (va_A b H.size) b') : va_P D cl (a ++ b') H1 ∧ va_D A (a ++ b') := by
  have ha : ∀ (j : Nat) (q : Nat × va_E), a[j]? = some q → q.1 < H.size ∧ ¬ va_A b H.size q.1 := by
    intro j q hj
    have hl := (ap_P1 hP j q hj).lt
    refine ⟨hl, fun h => ?_⟩
    rcases h with ⟨i, e, h⟩ | h
    · exact ap_dis hD j i q (q.1, e) hj h rfl
    · omega
  refine ⟨va_P.app (fun j q hj => (ap_P1 hP j q hj).kept (hk q.1 (ha j q hj).1 (ha j q hj).2)) hP1, va_D.app (ap_D1 hD) (hD1.weaken (fun _ q _ h => hF q.1 h)) (fun i j p q hi hj e => ?_)⟩
  exact (ha i p hi).2 (by rw [e]; exact hD1.2 j q hj)
end AP2
section LR
variable {p : Program} {l : Launch} {e : Env} {R : Room} {s : State} {m : MethodId} {args : Array Value} {below : List Frame} {meth : Method} {c : Code} {H : Heap} {locs : List Loc} {cells slots : Nat} {Q : State → Prop}
variable {cc : ByteArray} {nL pc : Nat} {own : String} {Ts : List Cond} {ls : Array Slot} {rest : List Value}
variable {S : Type} {wd : S → va_W} {σ σ' : S} {D : va_G} {cl : List vw_C} {tys : List (ClassId × FieldType)} {A : Nat → Prop} {wo : va_W}
variable {y : MethodName} {ws : List Cond} {rm : Room} {bytes : ByteArray} {maxL index n a0 : Nat} {C : String} {rt : Option FieldType} {av st0 : List Value}
theorem lr_Li {r : Int32} (S0 : CallFix p m c cc nL s args Ts own) (hM : Met l y ws rm (kPre D cl tys wd H.size σ (.ref a0 :: av)) (kQi D cl tys wd (va_A (wd σ) H.size) r σ') 0 0 (va_A (wd σ) H.size)) (cw : CallW R s args own C index y bytes maxL rt ws rm 0 0 n)
    (hK : va_K D cl tys s) (hP : va_P D cl (wd σ ++ wo) H) (hD : va_D A (wd σ ++ wo)) (hS : va_S A s.heap H locs) (hA : ∀ z, s.heap.size ≤ z → A z) {ci q0 : Nat} {T : u_T} {N : Nat} {fs : List Value} (hc : cl[ci]? = some (C, T, N)) (he : (wd σ)[q0]? = some (a0, .inr (ci, fs)))
    (hn : av.length = n) (hsz : ls.size = nL) (hst : st0 = av.reverse ++ .ref a0 :: rest) (hcat : (rest.map fun v => v.category).sum ≤ 8) (hdg : decode cc pc = .ok (.invokevirtual index, 3)) (hfit : cells ≤ R.cells ∧ slots ≤ R.slots)
    (kk : ∀ (H1 : Heap) (locs1 : List Loc), va_P D cl (wd σ' ++ wo) H1 → va_D A (wd σ' ++ wo) → va_S A s.heap H1 locs1 → W p l e R s m args below meth c H1 locs1 cells slots Q (F0 m (pc + 3) ls (.int r :: rest))) : W p l e R s m args below meth c H locs cells slots Q (F0 m pc ls st0) := by
  have hP0 := ap_P1 hP
  have hD0 := ap_D1 hD
  have hF := kr_free hD0 hS hA
  refine va_calli (va_runV (As := av) (rest := rest) S0 hM cw ⟨kr_blind, va_recv hK hP0 hc he, fun U hU hW => ⟨rfl, by rw [hU], by rw [hU]; exact hP0, va_K.moved hW.alike hK, hD0.weaken (fun _ _ _ _ => trivial)⟩⟩ rfl hn hsz hst (lv_room hcat) hdg hfit) hS (fun z _ h => hF z h) hF (fun r2 u t H1 locs1 ht hvm hw hB hz1 hk1 hS1 => ?_)
  obtain ⟨rfl, rfl⟩ := hw
  obtain ⟨hP1, hK1, hD1⟩ := hB
  rw [ht] at hP1
  obtain ⟨g1, g2⟩ := fr_L hP hD hk1 hF hP1 hD1
  exact kk H1 locs1 g1 g2 hS1
theorem lr_Ll {r : Int64} (S0 : CallFix p m c cc nL s args Ts own) (hM : Met l y ws rm (kPre D cl tys wd H.size σ (.ref a0 :: av)) (kQl D cl tys wd (va_A (wd σ) H.size) r σ') 0 0 (va_A (wd σ) H.size)) (cw : CallW R s args own C index y bytes maxL rt ws rm 0 0 n)
    (hK : va_K D cl tys s) (hP : va_P D cl (wd σ ++ wo) H) (hD : va_D A (wd σ ++ wo)) (hS : va_S A s.heap H locs) (hA : ∀ z, s.heap.size ≤ z → A z) {ci q0 : Nat} {T : u_T} {N : Nat} {fs : List Value} (hc : cl[ci]? = some (C, T, N)) (he : (wd σ)[q0]? = some (a0, .inr (ci, fs)))
    (hn : av.length = n) (hsz : ls.size = nL) (hst : st0 = av.reverse ++ .ref a0 :: rest) (hcat : (rest.map fun v => v.category).sum ≤ 8) (hdg : decode cc pc = .ok (.invokevirtual index, 3)) (hfit : cells ≤ R.cells ∧ slots ≤ R.slots)
    (kk : ∀ (H1 : Heap) (locs1 : List Loc), va_P D cl (wd σ' ++ wo) H1 → va_D A (wd σ' ++ wo) → va_S A s.heap H1 locs1 → W p l e R s m args below meth c H1 locs1 cells slots Q (F0 m (pc + 3) ls (.long r :: rest))) : W p l e R s m args below meth c H locs cells slots Q (F0 m pc ls st0) := by
  have hP0 := ap_P1 hP
  have hD0 := ap_D1 hD
  have hF := kr_free hD0 hS hA
  refine va_calll (va_runV (As := av) (rest := rest) S0 hM cw ⟨kr_blind, va_recv hK hP0 hc he, fun U hU hW => ⟨rfl, by rw [hU], by rw [hU]; exact hP0, va_K.moved hW.alike hK, hD0.weaken (fun _ _ _ _ => trivial)⟩⟩ rfl hn hsz hst (lv_room hcat) hdg hfit) hS (fun z _ h => hF z h) hF (fun r2 u t H1 locs1 ht hvm hw hB hz1 hk1 hS1 => ?_)
  obtain ⟨rfl, rfl⟩ := hw
  obtain ⟨hP1, hK1, hD1⟩ := hB
  rw [ht] at hP1
  obtain ⟨g1, g2⟩ := fr_L hP hD hk1 hF hP1 hD1
  exact kk H1 locs1 g1 g2 hS1
theorem lr_Ri {r : Int32} (S0 : CallFix p m c cc nL s args Ts own) (hM : Met l y ws rm (kPre D cl tys wd H.size σ (.ref a0 :: av)) (kQi D cl tys wd (va_A (wd σ) H.size) r σ') 0 0 (va_A (wd σ) H.size)) (cw : CallW R s args own C index y bytes maxL rt ws rm 0 0 n)
    (hK : va_K D cl tys s) (hP : va_P D cl (wo ++ wd σ) H) (hD : va_D A (wo ++ wd σ)) (hS : va_S A s.heap H locs) (hA : ∀ z, s.heap.size ≤ z → A z) {ci q0 : Nat} {T : u_T} {N : Nat} {fs : List Value} (hc : cl[ci]? = some (C, T, N)) (he : (wd σ)[q0]? = some (a0, .inr (ci, fs)))
    (hn : av.length = n) (hsz : ls.size = nL) (hst : st0 = av.reverse ++ .ref a0 :: rest) (hcat : (rest.map fun v => v.category).sum ≤ 8) (hdg : decode cc pc = .ok (.invokevirtual index, 3)) (hfit : cells ≤ R.cells ∧ slots ≤ R.slots)
    (kk : ∀ (H1 : Heap) (locs1 : List Loc), va_P D cl (wo ++ wd σ') H1 → va_D A (wo ++ wd σ') → va_S A s.heap H1 locs1 → W p l e R s m args below meth c H1 locs1 cells slots Q (F0 m (pc + 3) ls (.int r :: rest))) : W p l e R s m args below meth c H locs cells slots Q (F0 m pc ls st0) := by
  have hP0 := ap_P2 hP
  have hD0 := ap_D2 hD
  have hF := kr_free hD0 hS hA
  refine va_calli (va_runV (As := av) (rest := rest) S0 hM cw ⟨kr_blind, va_recv hK hP0 hc he, fun U hU hW => ⟨rfl, by rw [hU], by rw [hU]; exact hP0, va_K.moved hW.alike hK, hD0.weaken (fun _ _ _ _ => trivial)⟩⟩ rfl hn hsz hst (lv_room hcat) hdg hfit) hS (fun z _ h => hF z h) hF (fun r2 u t H1 locs1 ht hvm hw hB hz1 hk1 hS1 => ?_)
  obtain ⟨rfl, rfl⟩ := hw
  obtain ⟨hP1, hK1, hD1⟩ := hB
  rw [ht] at hP1
  obtain ⟨g1, g2⟩ := fr_R hP hD hk1 hF hP1 hD1
  exact kk H1 locs1 g1 g2 hS1
theorem lr_Rl {r : Int64} (S0 : CallFix p m c cc nL s args Ts own) (hM : Met l y ws rm (kPre D cl tys wd H.size σ (.ref a0 :: av)) (kQl D cl tys wd (va_A (wd σ) H.size) r σ') 0 0 (va_A (wd σ) H.size)) (cw : CallW R s args own C index y bytes maxL rt ws rm 0 0 n)
    (hK : va_K D cl tys s) (hP : va_P D cl (wo ++ wd σ) H) (hD : va_D A (wo ++ wd σ)) (hS : va_S A s.heap H locs) (hA : ∀ z, s.heap.size ≤ z → A z) {ci q0 : Nat} {T : u_T} {N : Nat} {fs : List Value} (hc : cl[ci]? = some (C, T, N)) (he : (wd σ)[q0]? = some (a0, .inr (ci, fs)))
    (hn : av.length = n) (hsz : ls.size = nL) (hst : st0 = av.reverse ++ .ref a0 :: rest) (hcat : (rest.map fun v => v.category).sum ≤ 8) (hdg : decode cc pc = .ok (.invokevirtual index, 3)) (hfit : cells ≤ R.cells ∧ slots ≤ R.slots)
    (kk : ∀ (H1 : Heap) (locs1 : List Loc), va_P D cl (wo ++ wd σ') H1 → va_D A (wo ++ wd σ') → va_S A s.heap H1 locs1 → W p l e R s m args below meth c H1 locs1 cells slots Q (F0 m (pc + 3) ls (.long r :: rest))) : W p l e R s m args below meth c H locs cells slots Q (F0 m pc ls st0) := by
  have hP0 := ap_P2 hP
  have hD0 := ap_D2 hD
  have hF := kr_free hD0 hS hA
  refine va_calll (va_runV (As := av) (rest := rest) S0 hM cw ⟨kr_blind, va_recv hK hP0 hc he, fun U hU hW => ⟨rfl, by rw [hU], by rw [hU]; exact hP0, va_K.moved hW.alike hK, hD0.weaken (fun _ _ _ _ => trivial)⟩⟩ rfl hn hsz hst (lv_room hcat) hdg hfit) hS (fun z _ h => hF z h) hF (fun r2 u t H1 locs1 ht hvm hw hB hz1 hk1 hS1 => ?_)
  obtain ⟨rfl, rfl⟩ := hw
  obtain ⟨hP1, hK1, hD1⟩ := hB
  rw [ht] at hP1
  obtain ⟨g1, g2⟩ := fr_R hP hD hk1 hF hP1 hD1
  exact kk H1 locs1 g1 g2 hS1
end LR
