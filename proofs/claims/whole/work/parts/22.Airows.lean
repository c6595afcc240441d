/-! Rows for constructors. -/
theorem kc_same {D : va_G} {cl : List vw_C} {tys : List (ClassId × FieldType)} {s : State} (hK : va_K D cl tys s) (i j : Nat) {c1 c2 : ClassId} {ty : FieldType} (hi : tys[i]? = some (c1, ty)) (hj : tys[j]? = some (c2, ty)) (hty : ∀ (U : State) (d1 d2 : ClassId), va_RA U d1 ty → va_RA U d2 ty → d1 = d2) : c1 = c2 :=
  hty s c1 c2 (hK.2 i _ hi).2 (hK.2 j _ hj).2
theorem W_mono {p : Program} {l : Launch} {e : Env} {R : Room} {s : State} {m : MethodId} {args : Array Value} {below : List Frame} {meth : Method} {c : Code} {H : Heap} {locs : List Loc} {cells slots : Nat} {Q Q' : State → Prop} {g : JFrame} (h : ∀ t, Q t → Q' t) (k : W p l e R s m args below meth c H locs cells slots Q g) : W p l e R s m args below meth c H locs cells slots Q' g := by
  intro T hT X
  obtain ⟨t, a, b⟩ := k T hT X
  exact ⟨t, a, h t b⟩
theorem kr_startI {l : Launch} {cc : ByteArray} {ret : Option FieldType} {own : String} {Ts : List Cond} {S : Type} {wd : S → va_W} {σ : S} {D : va_G} {cl : List vw_C} {tys : List (ClassId × FieldType)} {y : MethodName} {maxL : Nat} {rm : Room} {sz mc ms : Nat} {av : List Value} {Qc : Array Value → State → Outcome → State → Prop} {free : Addr → Prop} (hy : plainName y.cls = true) (ho : y.cls = own) (hlen : (lg_sl av).length ≤ maxL)
    (body : ∀ (p : Program) (e : Env) (s : State) (m : MethodId) (args : Array Value) (below : List Frame) (meth : Method) (c : Code) (ls : Array Slot), Cx p s m args meth c cc maxL ret own Ts → meth.name = y.name → s.heap.size = sz → va_K D cl tys s → va_P D cl (wd σ) s.heap → va_D (va_A (wd σ) sz) (wd σ) → lv_has ls maxL (lv_args 0 av) →
      W p l e rm s m args below meth c s.heap [] 0 0 (MQ below Qc args s mc ms free) (F0 m 0 ls [])) : Met l y (.code y cc maxL ret :: Ts) rm (kPre D cl tys wd sz σ av) Qc mc ms free := by
  refine Met.ofW (cc := cc) (maxL := maxL) (ret := ret) hy rfl ?_
  intro p e s m args below meth c s₁ B hml hv
  obtain ⟨rfl, hsz, hP, hK, hD0⟩ := hv
  have hts := atoms_spec (ws := .code y cc maxL ret :: Ts) B.pre
  have hown : s.vm.findClass y.cls = some m.cls := findClass_of_methodNamed B.named
  rw [ho] at hown
  have hl := lv_entry av (n := maxL) hlen
  rw [lg_entry_eq]
  exact body p e s m _ below meth c _ ⟨B.exec, B.bytes, B.returns, hml, hown, fun w h => hts w (List.mem_cons_of_mem _ h), B.notSynchronized⟩ (name_of_methodNamed B.named B.method).1 hsz hK hP hD0.self hl
theorem mul_le60 {C A : Nat} (hC : C ≤ 10) (hA : A ≤ 6) : C * A ≤ 60 := Nat.mul_le_mul hC hA
theorem mul_le36 {A : Nat} (hA : A ≤ 6) : A * A ≤ 36 := Nat.mul_le_mul hA hA
section KI
variable {p : Program} {l : Launch} {e : Env} {R : Room} {s : State} {m : MethodId} {args : Array Value} {below : List Frame} {meth : Method} {c : Code} {H : Heap} {locs : List Loc} {cells slots : Nat} {Q : State → Prop}
variable {cc : ByteArray} {pc : Nat} {ls : Array Slot} {rest : List Value} {D : va_G} {cl : List vw_C} {A : Nat → Prop} {cI cJ : ClassId} {ws : va_W}
theorem ra_int {U : State} {c1 c2 : ClassId} (h1 : va_RA U c1 .int) (h2 : va_RA U c2 .int) : c1 = c2 := by
  have e1 : U.vm.findClass ("[" ++ FieldType.int.toString) = some c1 := h1
  have e2 : U.vm.findClass ("[" ++ FieldType.int.toString) = some c2 := h2
  exact Option.some.inj (e1.symm.trans e2)
theorem ra_long {U : State} {c1 c2 : ClassId} (h1 : va_RA U c1 .long) (h2 : va_RA U c2 .long) : c1 = c2 := by
  have e1 : U.vm.findClass ("[" ++ FieldType.long.toString) = some c1 := h1
  have e2 : U.vm.findClass ("[" ++ FieldType.long.toString) = some c2 := h2
  exact Option.some.inj (e1.symm.trans e2)
theorem ki_newI (hx : p.tables.exec = Jvm.exec) (hb : c.code = cc) (harr : (Cond.arrayClass .int).before args s = true) (hK : va_K D cl [(cI, .int), (cJ, .long)] s) (hP : va_P D cl ws H) (hD : va_D A ws) (hS : va_S A s.heap H locs) (hA : ∀ q, s.heap.size ≤ q → A q) {N' : Nat} (hN : N' ≤ 300) (hcells : cells + 1 ≤ R.cells) (hslots : slots + N' ≤ R.slots) (hdg : decode cc pc = .ok (.newarray .int, 2))
    (kk : ∀ (q : Nat) (H1 : Heap), va_P D cl (ws ++ [(q, .inl (cI, N', .inl (fun _ => 0)))]) H1 → va_D A (ws ++ [(q, .inl (cI, N', .inl (fun _ => 0)))]) → va_S A s.heap H1 locs → W p l e R s m args below meth c H1 locs (cells + 1) (slots + N') Q (F0 m (pc + 2) ls (.ref q :: rest))) : W p l e R s m args below meth c H locs cells slots Q (F0 m pc ls (.int (nI N') :: rest)) := by
  have hl : N' < 2 ^ 31 := by omega
  refine va_newa (atype := .int) (a0 := (N', .inl (fun _ => 0))) (ty := .int) hx hb harr rfl hK hP hD hS hA ?_ (nI_pos hl) (nI_clamp hl) ?_ hcells hslots hdg ?_
  · intro cA
    rfl
  · show N' * 4 ≤ 536870912
    omega
  · intro q cA H1 hKn hP1 hD1 hS1
    have h0 := (hKn.2 0 (cI, .int) rfl).2
    have h2 := (hKn.2 2 (cA, .int) rfl).2
    have h3 := ra_int h0 h2
    subst h3
    exact kk q H1 hP1 hD1 hS1
theorem ki_newJ (hx : p.tables.exec = Jvm.exec) (hb : c.code = cc) (harr : (Cond.arrayClass .long).before args s = true) (hK : va_K D cl [(cI, .int), (cJ, .long)] s) (hP : va_P D cl ws H) (hD : va_D A ws) (hS : va_S A s.heap H locs) (hA : ∀ q, s.heap.size ≤ q → A q) {N' : Nat} (hN : N' ≤ 300) (hcells : cells + 1 ≤ R.cells) (hslots : slots + N' ≤ R.slots) (hdg : decode cc pc = .ok (.newarray .long, 2))
    (kk : ∀ (q : Nat) (H1 : Heap), va_P D cl (ws ++ [(q, .inl (cJ, N', .inr (.inl (fun _ => 0))))]) H1 → va_D A (ws ++ [(q, .inl (cJ, N', .inr (.inl (fun _ => 0))))]) → va_S A s.heap H1 locs → W p l e R s m args below meth c H1 locs (cells + 1) (slots + N') Q (F0 m (pc + 2) ls (.ref q :: rest))) : W p l e R s m args below meth c H locs cells slots Q (F0 m pc ls (.int (nI N') :: rest)) := by
  have hl : N' < 2 ^ 31 := by omega
  refine va_newa (atype := .long) (a0 := (N', .inr (.inl (fun _ => 0)))) (ty := .long) hx hb harr rfl hK hP hD hS hA ?_ (nI_pos hl) (nI_clamp hl) ?_ hcells hslots hdg ?_
  · intro cA
    rfl
  · show N' * 8 ≤ 536870912
    omega
  · intro q cA H1 hKn hP1 hD1 hS1
    have h0 := (hKn.2 1 (cJ, .long) rfl).2
    have h2 := (hKn.2 2 (cA, .long) rfl).2
    have h3 := ra_long h0 h2
    subst h3
    exact kk q H1 hP1 hD1 hS1
end KI
