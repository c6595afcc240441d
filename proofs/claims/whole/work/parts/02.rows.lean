/-! Rows of our own over the kit's: what an instruction does by Option functions; contracts whose worlds are a function of a state. -/
def kld {α : Type} (n : Nat) (f : Nat → α) (i : Int32) : Option α := if i < 0 ∨ n ≤ i.toNatClampNeg then none else some (f i.toNatClampNeg)
def kstI (n : Nat) (f : Nat → Int32) (i x : Int32) : Option (Nat → Int32) := if i < 0 ∨ n ≤ i.toNatClampNeg then none else some (upd f i.toNatClampNeg x)
def kstJ (n : Nat) (f : Nat → Int64) (i : Int32) (x : Int64) : Option (Nat → Int64) := if i < 0 ∨ n ≤ i.toNatClampNeg then none else some (vp_updL f i.toNatClampNeg x)
def kdivI (x y : Int32) : Option Int32 := if y = 0 then none else some (x / y)
def kremI (x y : Int32) : Option Int32 := if y = 0 then none else some (x - x / y * y)
def kdivJ (x y : Int64) : Option Int64 := if y = 0 then none else some (x / y)
def kremJ (x y : Int64) : Option Int64 := if y = 0 then none else some (x - x / y * y)
def kbool (v : Int32) : Option Int32 := if v = 0 ∨ v = 1 then some v else none
theorem kbool_some {v b : Int32} (h : kbool v = some b) : v = b ∧ narrow .boolean (.int v) = .int v := by
  unfold kbool at h
  split at h
  · rename_i hv
    refine ⟨Option.some.inj h, ?_⟩
    rcases hv with rfl | rfl <;> rfl
  · cases h
def kbind2 {α β γ : Type} (x : Option (α × β)) (f : α → β → Option γ) : Option γ := match x with
  | none => none
  | some (a, b) => f a b
theorem kb1 {α β : Type} {x : Option α} {f : α → Option β} {b : β} (h : x.bind f = some b) : ∃ a, x = some a ∧ f a = some b := by
  cases x with
  | none => cases h
  | some a => exact ⟨a, rfl, h⟩
theorem kb2 {α β γ : Type} {x : Option (α × β)} {f : α → β → Option γ} {c : γ} (h : kbind2 x f = some c) : ∃ a b, x = some (a, b) ∧ f a b = some c := by
  cases x with
  | none => cases h
  | some q => exact ⟨q.1, q.2, rfl, h⟩
theorem kld_some {α : Type} {n : Nat} {f : Nat → α} {i : Int32} {v : α} (h : kld n f i = some v) : vp_in i n ∧ f i.toNatClampNeg = v := by
  unfold kld at h
  split at h
  · cases h
  · rename_i hn
    exact ⟨hn, Option.some.inj h⟩
theorem kstI_some {n : Nat} {f : Nat → Int32} {i x : Int32} {v : Nat → Int32} (h : kstI n f i x = some v) : vp_in i n ∧ upd f i.toNatClampNeg x = v := by
  unfold kstI at h
  split at h
  · cases h
  · rename_i hn
    exact ⟨hn, Option.some.inj h⟩
theorem kstJ_some {n : Nat} {f : Nat → Int64} {i : Int32} {x : Int64} {v : Nat → Int64} (h : kstJ n f i x = some v) : vp_in i n ∧ vp_updL f i.toNatClampNeg x = v := by
  unfold kstJ at h
  split at h
  · cases h
  · rename_i hn
    exact ⟨hn, Option.some.inj h⟩
/-- what a method's body stands on -/
def Cx (p : Program) (s : State) (m : MethodId) (args : Array Value) (meth : Method) (c : Code) (cc : ByteArray) (nL : Nat) (ret : Option FieldType) (own : String) (Ts : List Cond) : Prop :=
  p.tables.exec = Jvm.exec ∧ c.code = cc ∧ meth.sig.returnType = ret ∧ c.maxLocals = nL ∧ s.vm.findClass own = some m.cls ∧ (∀ w ∈ Ts, w.before args s = true) ∧ meth.locks = false
abbrev kPre {S : Type} (D : va_G) (cl : List vw_C) (tys : List (ClassId × FieldType)) (wd : S → va_W) (sz : Nat) (σ : S) (av : List Value) : Array Value → State → Prop := va_Pc av (fun U => U.heap.size = sz ∧ va_P D cl (wd σ) U.heap ∧ va_K D cl tys U ∧ va_D (fun _ => True) (wd σ))
abbrev kB {S : Type} (D : va_G) (cl : List vw_C) (tys : List (ClassId × FieldType)) (wd : S → va_W) (A : Nat → Prop) (u : S) (t : State) : Prop := va_P D cl (wd u) t.heap ∧ va_K D cl tys t ∧ va_D A (wd u)
abbrev kQi {S : Type} (D : va_G) (cl : List vw_C) (tys : List (ClassId × FieldType)) (wd : S → va_W) (A : Nat → Prop) (r : Int32) (σ' : S) : Array Value → State → Outcome → State → Prop := va_Qi (fun (r2 : Int32) (u : S) => r2 = r ∧ u = σ') (kB D cl tys wd A) A
abbrev kQl {S : Type} (D : va_G) (cl : List vw_C) (tys : List (ClassId × FieldType)) (wd : S → va_W) (A : Nat → Prop) (r : Int64) (σ' : S) : Array Value → State → Outcome → State → Prop := va_Ql (fun (r2 : Int64) (u : S) => r2 = r ∧ u = σ') (kB D cl tys wd A) A
abbrev kQv {S : Type} (D : va_G) (cl : List vw_C) (tys : List (ClassId × FieldType)) (wd : S → va_W) (A : Nat → Prop) (σ' : S) : Array Value → State → Outcome → State → Prop := va_Qv (fun (u : S) => u = σ') (kB D cl tys wd A) A
theorem kgood_V {T : List Cond} {own C : String} {idx : Nat} {y : MethodName} {b : ByteArray} {n : Nat} {r : Option FieldType} (hT : GoodIn T T) (h : ∀ w ∈ ([.methodLink own idx y, .instanceMethod y, .selects C y y, .initialized C, .code y b n r] : List Cond), w ∈ T) : GoodIn T (wsV own idx C y (.code y b n r :: T)) := by
  intro w hw
  unfold wsV at hw
  have hin : w ∈ T := by
    rcases List.mem_append.mp hw with h1 | h1
    · exact h w (List.mem_append_left ([Cond.code y b n r] : List Cond) h1)
    · rcases List.mem_cons.mp h1 with h2 | h2
      · exact h w (by rw [h2]; simp)
      · exact h2
  exact hT w hin
theorem kgood_S {T : List Cond} {own : String} {idx : Nat} {y : MethodName} {b : ByteArray} {n : Nat} {r : Option FieldType} (hT : GoodIn T T) (h : ∀ w ∈ ([.methodLink own idx y, .static y, .initialized own, .code y b n r] : List Cond), w ∈ T) : GoodIn T (wsS own idx y (.code y b n r :: T)) := by
  intro w hw
  unfold wsS at hw
  have hin : w ∈ T := by
    rcases List.mem_append.mp hw with h1 | h1
    · exact h w (List.mem_append_left ([Cond.code y b n r] : List Cond) h1)
    · rcases List.mem_cons.mp h1 with h2 | h2
      · exact h w (by rw [h2]; simp)
      · exact h2
  exact hT w hin
section KR
variable {p : Program} {l : Launch} {e : Env} {R : Room} {s : State} {m : MethodId} {args : Array Value} {below : List Frame} {meth : Method} {c : Code} {H : Heap} {locs : List Loc} {cells slots : Nat} {Q : State → Prop}
variable {cc : ByteArray} {nL pc : Nat} {ret : Option FieldType} {own : String} {Ts : List Cond} {ls : Array Slot} {rest : List Value}
variable {S : Type} {wd : S → va_W} {σ σ' : S} {D : va_G} {cl : List vw_C} {tys : List (ClassId × FieldType)} {A : Nat → Prop}
theorem kr_start {y : MethodName} {maxL : Nat} {rm : Room} {sz mc ms : Nat} {av : List Value} {Qc : Array Value → State → Outcome → State → Prop} {free : Addr → Prop} (hy : plainName y.cls = true) (ho : y.cls = own) (hlen : (lg_sl av).length ≤ maxL)
    (body : ∀ (p : Program) (e : Env) (s : State) (m : MethodId) (args : Array Value) (below : List Frame) (meth : Method) (c : Code) (ls : Array Slot), Cx p s m args meth c cc maxL ret own Ts → s.heap.size = sz → va_K D cl tys s → va_P D cl (wd σ) s.heap → va_D (va_A (wd σ) sz) (wd σ) → lv_has ls maxL (lv_args 0 av) →
      W p l e rm s m args below meth c s.heap [] 0 0 (MQ below Qc args s mc ms free) (F0 m 0 ls [])) : Met l y (.code y cc maxL ret :: Ts) rm (kPre D cl tys wd sz σ av) Qc mc ms free := by
  refine Met.ofW (cc := cc) (maxL := maxL) (ret := ret) hy rfl ?_
  intro p e s m args below meth c s₁ B hml hv
  obtain ⟨rfl, hsz, hP, hK, hD0⟩ := hv
  have hts := atoms_spec (ws := .code y cc maxL ret :: Ts) B.pre
  have hown : s.vm.findClass y.cls = some m.cls := findClass_of_methodNamed B.named
  rw [ho] at hown
  have hl := lv_entry av (n := maxL) hlen
  rw [lg_entry_eq]
  exact body p e s m _ below meth c _ ⟨B.exec, B.bytes, B.returns, hml, hown, fun w h => hts w (List.mem_cons_of_mem _ h), B.notSynchronized⟩ hsz hK hP hD0.self hl
theorem kr_iret {v r : Int32} (C0 : Cx p s m args meth c cc nL (some .int) own Ts) (hK : va_K D cl tys s) (hP : va_P D cl (wd σ) H) (hD : va_D A (wd σ)) (hS : va_S A s.heap H locs) (hv : v = r) (hσ : σ = σ') (hdg : decode cc pc = .ok (.ireturn, 1)) :
    W p l e R s m args below meth c H locs cells slots (MQ below (kQi D cl tys wd A r σ') args s cells slots A) (F0 m pc ls [.int v]) := by
  obtain ⟨hx, hb, hr, hml, hown, hts, hlocks⟩ := C0
  exact W.iret hx hb hr (fun t ht hW => ⟨⟨v, σ, rfl, ⟨hv, hσ⟩, by rw [ht]; exact hP, va_K.moved hW.alike hK, hD⟩, hS.F ht⟩) hS.2.2 hdg hlocks
theorem kr_zret {v r : Int32} (C0 : Cx p s m args meth c cc nL (some .boolean) own Ts) (hK : va_K D cl tys s) (hP : va_P D cl (wd σ) H) (hD : va_D A (wd σ)) (hS : va_S A s.heap H locs) (hn : narrow .boolean (.int v) = .int v) (hv : v = r) (hσ : σ = σ') (hdg : decode cc pc = .ok (.ireturn, 1)) :
    W p l e R s m args below meth c H locs cells slots (MQ below (kQi D cl tys wd A r σ') args s cells slots A) (F0 m pc ls [.int v]) := by
  obtain ⟨hx, hb, hr, hml, hown, hts, hlocks⟩ := C0
  exact W.zret hx hb hr hn (fun t ht hW => ⟨⟨v, σ, rfl, ⟨hv, hσ⟩, by rw [ht]; exact hP, va_K.moved hW.alike hK, hD⟩, hS.F ht⟩) hS.2.2 hdg hlocks
theorem kr_lret {v r : Int64} (C0 : Cx p s m args meth c cc nL (some .long) own Ts) (hK : va_K D cl tys s) (hP : va_P D cl (wd σ) H) (hD : va_D A (wd σ)) (hS : va_S A s.heap H locs) (hv : v = r) (hσ : σ = σ') (hdg : decode cc pc = .ok (.lreturn, 1)) :
    W p l e R s m args below meth c H locs cells slots (MQ below (kQl D cl tys wd A r σ') args s cells slots A) (F0 m pc ls [.long v]) := by
  obtain ⟨hx, hb, hr, hml, hown, hts, hlocks⟩ := C0
  exact W.lret hx hb hr (fun t ht hW => ⟨⟨v, σ, rfl, ⟨hv, hσ⟩, by rw [ht]; exact hP, va_K.moved hW.alike hK, hD⟩, hS.F ht⟩) hS.2.2 hdg hlocks
theorem kr_vret (C0 : Cx p s m args meth c cc nL none own Ts) (hK : va_K D cl tys s) (hP : va_P D cl (wd σ) H) (hD : va_D A (wd σ)) (hS : va_S A s.heap H locs) (hσ : σ = σ') (hdg : decode cc pc = .ok (.return_, 1)) :
    W p l e R s m args below meth c H locs cells slots (MQ below (kQv D cl tys wd A σ') args s cells slots A) (F0 m pc ls []) := by
  obtain ⟨hx, hb, hr, hml, hown, hts, hlocks⟩ := C0
  exact W.vret hx hb hr (fun t ht hW => ⟨⟨σ, rfl, hσ, by rw [ht]; exact hP, va_K.moved hW.alike hK, hD⟩, hS.F ht⟩) hS.2.2 hdg hlocks
theorem kr_iaload (hx : p.tables.exec = Jvm.exec) (hb : c.code = cc) {ws : va_W} (hK : va_K D cl tys s) (hP : va_P D cl ws H) (q0 t0 : Nat) {cA : ClassId} {a n : Nat} {f : Nat → Int32} (ha : ws[q0]? = some (a, .inl (cA, n, .inl f))) (ht : tys[t0]? = some (cA, .int)) {i v : Int32} (h : kld n f i = some v) (hdg : decode cc pc = .ok (.iaload, 1))
    (kk : W p l e R s m args below meth c H locs cells slots Q (F0 m (pc + 1) ls (.int v :: rest))) : W p l e R s m args below meth c H locs cells slots Q (F0 m pc ls (.int i :: .ref a :: rest)) := by
  obtain ⟨h1, rfl⟩ := kld_some h
  exact va_iald hx hb hK hP q0 t0 ha ht h1 hdg kk
theorem kr_laload (hx : p.tables.exec = Jvm.exec) (hb : c.code = cc) {ws : va_W} (hK : va_K D cl tys s) (hP : va_P D cl ws H) (q0 t0 : Nat) {cA : ClassId} {a n : Nat} {f : Nat → Int64} (ha : ws[q0]? = some (a, .inl (cA, n, .inr (.inl f)))) (ht : tys[t0]? = some (cA, .long)) {i : Int32} {v : Int64} (h : kld n f i = some v) (hdg : decode cc pc = .ok (.laload, 1))
    (kk : W p l e R s m args below meth c H locs cells slots Q (F0 m (pc + 1) ls (.long v :: rest))) : W p l e R s m args below meth c H locs cells slots Q (F0 m pc ls (.int i :: .ref a :: rest)) := by
  obtain ⟨h1, rfl⟩ := kld_some h
  exact va_lald hx hb hK hP q0 t0 ha ht h1 hdg kk
theorem kr_iastore (hx : p.tables.exec = Jvm.exec) (hb : c.code = cc) (hK : va_K D cl tys s) (hP : va_P D cl (wd σ) H) (hD : va_D A (wd σ)) (hS : va_S A s.heap H locs) (q0 t0 : Nat) {cA : ClassId} {a n : Nat} {f f' : Nat → Int32} (ha : (wd σ)[q0]? = some (a, .inl (cA, n, .inl f))) (ht : tys[t0]? = some (cA, .int)) {i x : Int32} (h : kstI n f i x = some f') (hw : (wd σ).set q0 (a, .inl (cA, n, .inl f')) = wd σ') (hdg : decode cc pc = .ok (.iastore, 1))
    (kk : ∀ (H1 : Heap) (locs1 : List Loc), va_P D cl (wd σ') H1 → va_D A (wd σ') → va_S A s.heap H1 locs1 → W p l e R s m args below meth c H1 locs1 cells slots Q (F0 m (pc + 1) ls rest)) : W p l e R s m args below meth c H locs cells slots Q (F0 m pc ls (.int x :: .int i :: .ref a :: rest)) := by
  obtain ⟨h1, rfl⟩ := kstI_some h
  rw [← hw] at kk
  exact va_iast hx hb hK hP hD hS q0 t0 ha ht h1 hdg kk
theorem kr_lastore (hx : p.tables.exec = Jvm.exec) (hb : c.code = cc) (hK : va_K D cl tys s) (hP : va_P D cl (wd σ) H) (hD : va_D A (wd σ)) (hS : va_S A s.heap H locs) (q0 t0 : Nat) {cA : ClassId} {a n : Nat} {f f' : Nat → Int64} (ha : (wd σ)[q0]? = some (a, .inl (cA, n, .inr (.inl f)))) (ht : tys[t0]? = some (cA, .long)) {i : Int32} {x : Int64} (h : kstJ n f i x = some f') (hw : (wd σ).set q0 (a, .inl (cA, n, .inr (.inl f'))) = wd σ') (hdg : decode cc pc = .ok (.lastore, 1))
    (kk : ∀ (H1 : Heap) (locs1 : List Loc), va_P D cl (wd σ') H1 → va_D A (wd σ') → va_S A s.heap H1 locs1 → W p l e R s m args below meth c H1 locs1 cells slots Q (F0 m (pc + 1) ls rest)) : W p l e R s m args below meth c H locs cells slots Q (F0 m pc ls (.long x :: .int i :: .ref a :: rest)) := by
  obtain ⟨h1, rfl⟩ := kstJ_some h
  rw [← hw] at kk
  exact va_last hx hb hK hP hD hS q0 t0 ha ht h1 hdg kk
theorem kr_ldiv (hx : p.tables.exec = Jvm.exec) (hb : c.code = cc) {x y v : Int64} (h : kdivJ x y = some v) (hdg : decode cc pc = .ok (.ldiv, 1))
    (kk : W p l e R s m args below meth c H locs cells slots Q (F0 m (pc + 1) ls (.long v :: rest))) : W p l e R s m args below meth c H locs cells slots Q (F0 m pc ls (.long y :: .long x :: rest)) := by
  unfold kdivJ at h
  split at h
  · cases h
  · rename_i hn
    rw [← Option.some.inj h] at kk
    exact lv_ldiv hx hb hdg hn kk
theorem kr_lrem (hx : p.tables.exec = Jvm.exec) (hb : c.code = cc) {x y v : Int64} (h : kremJ x y = some v) (hdg : decode cc pc = .ok (.lrem, 1))
    (kk : W p l e R s m args below meth c H locs cells slots Q (F0 m (pc + 1) ls (.long v :: rest))) : W p l e R s m args below meth c H locs cells slots Q (F0 m pc ls (.long y :: .long x :: rest)) := by
  unfold kremJ at h
  split at h
  · cases h
  · rename_i hn
    rw [← Option.some.inj h] at kk
    exact lv_lrem hx hb hdg hn kk
theorem kr_idiv (hx : p.tables.exec = Jvm.exec) (hb : c.code = cc) {x y v : Int32} (h : kdivI x y = some v) (hdg : decode cc pc = .ok (.idiv, 1))
    (kk : W p l e R s m args below meth c H locs cells slots Q (F0 m (pc + 1) ls (.int v :: rest))) : W p l e R s m args below meth c H locs cells slots Q (F0 m pc ls (.int y :: .int x :: rest)) := by
  unfold kdivI at h
  split at h
  · cases h
  · rename_i hn
    rw [← Option.some.inj h] at kk
    exact lv_idiv hx hb hdg hn kk
theorem kr_irem (hx : p.tables.exec = Jvm.exec) (hb : c.code = cc) {x y v : Int32} (h : kremI x y = some v) (hdg : decode cc pc = .ok (.irem, 1))
    (kk : W p l e R s m args below meth c H locs cells slots Q (F0 m (pc + 1) ls (.int v :: rest))) : W p l e R s m args below meth c H locs cells slots Q (F0 m pc ls (.int y :: .int x :: rest)) := by
  unfold kremI at h
  split at h
  · cases h
  · rename_i hn
    rw [← Option.some.inj h] at kk
    exact lv_irem hx hb hdg hn kk
variable {y : MethodName} {ws : List Cond} {rm : Room} {bytes : ByteArray} {maxL index n a0 : Nat} {C : String} {rt : Option FieldType} {av st0 : List Value}
theorem kr_free (hD : va_D A (wd σ)) (hS : va_S A s.heap H locs) (hA : ∀ z, s.heap.size ≤ z → A z) : ∀ z, va_A (wd σ) H.size z → A z := by
  intro z h
  rcases h with ⟨k, e1, h⟩ | h
  · exact hD.2 k (z, e1) h
  · exact hA z (Nat.le_trans hS.1 h)
theorem kr_blind {sz : Nat} : FrameBlind (kPre D cl tys wd sz σ av) := fun a U g mk q => by
  obtain ⟨q0, q1, qP, qK, qD⟩ := q
  exact ⟨q0, q1, qP, va_K.moved (u := U) (U := U.calling g mk a) (Vm.Alike.refl U.vm) qK, qD⟩
theorem kr_callVi {r : Int32} (S0 : CallFix p m c cc nL s args Ts own) (hM : Met l y ws rm (kPre D cl tys wd H.size σ (.ref a0 :: av)) (kQi D cl tys wd (va_A (wd σ) H.size) r σ') 0 0 (va_A (wd σ) H.size)) (cw : CallW R s args own C index y bytes maxL rt ws rm 0 0 n)
    (hK : va_K D cl tys s) (hP : va_P D cl (wd σ) H) (hD : va_D A (wd σ)) (hS : va_S A s.heap H locs) (hA : ∀ z, s.heap.size ≤ z → A z) {ci q0 : Nat} {T : u_T} {N : Nat} {fs : List Value} (hc : cl[ci]? = some (C, T, N)) (he : (wd σ)[q0]? = some (a0, .inr (ci, fs)))
    (hn : av.length = n) (hsz : ls.size = nL) (hst : st0 = av.reverse ++ .ref a0 :: rest) (hcat : (rest.map fun v => v.category).sum ≤ 8) (hdg : decode cc pc = .ok (.invokevirtual index, 3)) (hfit : cells ≤ R.cells ∧ slots ≤ R.slots)
    (kk : ∀ (H1 : Heap) (locs1 : List Loc), va_P D cl (wd σ') H1 → va_D A (wd σ') → va_S A s.heap H1 locs1 → W p l e R s m args below meth c H1 locs1 cells slots Q (F0 m (pc + 3) ls (.int r :: rest))) : W p l e R s m args below meth c H locs cells slots Q (F0 m pc ls st0) := by
  have hF := kr_free hD hS hA
  refine va_calli (va_runV (As := av) (rest := rest) S0 hM cw ⟨kr_blind, va_recv hK hP hc he, fun U hU hW => ⟨rfl, by rw [hU], by rw [hU]; exact hP, va_K.moved hW.alike hK, hD.weaken (fun _ _ _ _ => trivial)⟩⟩ rfl hn hsz hst (lv_room hcat) hdg hfit) hS (fun z _ h => hF z h) hF (fun r2 u t H1 locs1 ht hvm hw hB hz1 hk1 hS1 => ?_)
  obtain ⟨rfl, rfl⟩ := hw
  obtain ⟨hP1, hK1, hD1⟩ := hB
  rw [ht] at hP1
  exact kk H1 locs1 hP1 (hD1.weaken (fun _ z _ h => hF z.1 h)) hS1
theorem kr_callVl {r : Int64} (S0 : CallFix p m c cc nL s args Ts own) (hM : Met l y ws rm (kPre D cl tys wd H.size σ (.ref a0 :: av)) (kQl D cl tys wd (va_A (wd σ) H.size) r σ') 0 0 (va_A (wd σ) H.size)) (cw : CallW R s args own C index y bytes maxL rt ws rm 0 0 n)
    (hK : va_K D cl tys s) (hP : va_P D cl (wd σ) H) (hD : va_D A (wd σ)) (hS : va_S A s.heap H locs) (hA : ∀ z, s.heap.size ≤ z → A z) {ci q0 : Nat} {T : u_T} {N : Nat} {fs : List Value} (hc : cl[ci]? = some (C, T, N)) (he : (wd σ)[q0]? = some (a0, .inr (ci, fs)))
    (hn : av.length = n) (hsz : ls.size = nL) (hst : st0 = av.reverse ++ .ref a0 :: rest) (hcat : (rest.map fun v => v.category).sum ≤ 8) (hdg : decode cc pc = .ok (.invokevirtual index, 3)) (hfit : cells ≤ R.cells ∧ slots ≤ R.slots)
    (kk : ∀ (H1 : Heap) (locs1 : List Loc), va_P D cl (wd σ') H1 → va_D A (wd σ') → va_S A s.heap H1 locs1 → W p l e R s m args below meth c H1 locs1 cells slots Q (F0 m (pc + 3) ls (.long r :: rest))) : W p l e R s m args below meth c H locs cells slots Q (F0 m pc ls st0) := by
  have hF := kr_free hD hS hA
  refine va_calll (va_runV (As := av) (rest := rest) S0 hM cw ⟨kr_blind, va_recv hK hP hc he, fun U hU hW => ⟨rfl, by rw [hU], by rw [hU]; exact hP, va_K.moved hW.alike hK, hD.weaken (fun _ _ _ _ => trivial)⟩⟩ rfl hn hsz hst (lv_room hcat) hdg hfit) hS (fun z _ h => hF z h) hF (fun r2 u t H1 locs1 ht hvm hw hB hz1 hk1 hS1 => ?_)
  obtain ⟨rfl, rfl⟩ := hw
  obtain ⟨hP1, hK1, hD1⟩ := hB
  rw [ht] at hP1
  exact kk H1 locs1 hP1 (hD1.weaken (fun _ z _ h => hF z.1 h)) hS1
theorem kr_callVv (S0 : CallFix p m c cc nL s args Ts own) (hM : Met l y ws rm (kPre D cl tys wd H.size σ (.ref a0 :: av)) (kQv D cl tys wd (va_A (wd σ) H.size) σ') 0 0 (va_A (wd σ) H.size)) (cw : CallW R s args own C index y bytes maxL rt ws rm 0 0 n)
    (hK : va_K D cl tys s) (hP : va_P D cl (wd σ) H) (hD : va_D A (wd σ)) (hS : va_S A s.heap H locs) (hA : ∀ z, s.heap.size ≤ z → A z) {ci q0 : Nat} {T : u_T} {N : Nat} {fs : List Value} (hc : cl[ci]? = some (C, T, N)) (he : (wd σ)[q0]? = some (a0, .inr (ci, fs)))
    (hn : av.length = n) (hsz : ls.size = nL) (hst : st0 = av.reverse ++ .ref a0 :: rest) (hcat : (rest.map fun v => v.category).sum ≤ 8) (hdg : decode cc pc = .ok (.invokevirtual index, 3)) (hfit : cells ≤ R.cells ∧ slots ≤ R.slots)
    (kk : ∀ (H1 : Heap) (locs1 : List Loc), va_P D cl (wd σ') H1 → va_D A (wd σ') → va_S A s.heap H1 locs1 → W p l e R s m args below meth c H1 locs1 cells slots Q (F0 m (pc + 3) ls rest)) : W p l e R s m args below meth c H locs cells slots Q (F0 m pc ls st0) := by
  have hF := kr_free hD hS hA
  refine va_callv (va_runV (As := av) (rest := rest) S0 hM cw ⟨kr_blind, va_recv hK hP hc he, fun U hU hW => ⟨rfl, by rw [hU], by rw [hU]; exact hP, va_K.moved hW.alike hK, hD.weaken (fun _ _ _ _ => trivial)⟩⟩ rfl hn hsz hst (lv_room hcat) hdg hfit) hS (fun z _ h => hF z h) hF (fun u t H1 locs1 ht hvm hw hB hz1 hk1 hS1 => ?_)
  obtain rfl := hw
  obtain ⟨hP1, hK1, hD1⟩ := hB
  rw [ht] at hP1
  exact kk H1 locs1 hP1 (hD1.weaken (fun _ z _ h => hF z.1 h)) hS1
theorem kr_callSi {r : Int32} (S0 : CallFix p m c cc nL s args Ts own) (hM : Met l y ws rm (kPre D cl tys wd H.size σ av) (kQi D cl tys wd (va_A (wd σ) H.size) r σ') 0 0 (va_A (wd σ) H.size)) (cw : CallB R s args own index y bytes maxL rt ws rm 0 0 n ∧ (Cond.static y).before args s = true)
    (hK : va_K D cl tys s) (hP : va_P D cl (wd σ) H) (hD : va_D A (wd σ)) (hS : va_S A s.heap H locs) (hA : ∀ z, s.heap.size ≤ z → A z)
    (hn : av.length = n) (hsz : ls.size = nL) (hst : st0 = av.reverse ++ rest) (hcat : (rest.map fun v => v.category).sum ≤ 8) (hdg : decode cc pc = .ok (.invokestatic index, 3)) (hfit : cells ≤ R.cells ∧ slots ≤ R.slots)
    (kk : ∀ (H1 : Heap) (locs1 : List Loc), va_P D cl (wd σ') H1 → va_D A (wd σ') → va_S A s.heap H1 locs1 → W p l e R s m args below meth c H1 locs1 cells slots Q (F0 m (pc + 3) ls (.int r :: rest))) : W p l e R s m args below meth c H locs cells slots Q (F0 m pc ls st0) := by
  have hF := kr_free hD hS hA
  refine va_calli (va_runS (As := av) (rest := rest) S0 hM cw ⟨kr_blind, fun U hU hW => ⟨rfl, by rw [hU], by rw [hU]; exact hP, va_K.moved hW.alike hK, hD.weaken (fun _ _ _ _ => trivial)⟩⟩ rfl hn hsz hst (lv_room hcat) hdg hfit) hS (fun z _ h => hF z h) hF (fun r2 u t H1 locs1 ht hvm hw hB hz1 hk1 hS1 => ?_)
  obtain ⟨rfl, rfl⟩ := hw
  obtain ⟨hP1, hK1, hD1⟩ := hB
  rw [ht] at hP1
  exact kk H1 locs1 hP1 (hD1.weaken (fun _ z _ h => hF z.1 h)) hS1
theorem kr_callSl {r : Int64} (S0 : CallFix p m c cc nL s args Ts own) (hM : Met l y ws rm (kPre D cl tys wd H.size σ av) (kQl D cl tys wd (va_A (wd σ) H.size) r σ') 0 0 (va_A (wd σ) H.size)) (cw : CallB R s args own index y bytes maxL rt ws rm 0 0 n ∧ (Cond.static y).before args s = true)
    (hK : va_K D cl tys s) (hP : va_P D cl (wd σ) H) (hD : va_D A (wd σ)) (hS : va_S A s.heap H locs) (hA : ∀ z, s.heap.size ≤ z → A z)
    (hn : av.length = n) (hsz : ls.size = nL) (hst : st0 = av.reverse ++ rest) (hcat : (rest.map fun v => v.category).sum ≤ 8) (hdg : decode cc pc = .ok (.invokestatic index, 3)) (hfit : cells ≤ R.cells ∧ slots ≤ R.slots)
    (kk : ∀ (H1 : Heap) (locs1 : List Loc), va_P D cl (wd σ') H1 → va_D A (wd σ') → va_S A s.heap H1 locs1 → W p l e R s m args below meth c H1 locs1 cells slots Q (F0 m (pc + 3) ls (.long r :: rest))) : W p l e R s m args below meth c H locs cells slots Q (F0 m pc ls st0) := by
  have hF := kr_free hD hS hA
  refine va_calll (va_runS (As := av) (rest := rest) S0 hM cw ⟨kr_blind, fun U hU hW => ⟨rfl, by rw [hU], by rw [hU]; exact hP, va_K.moved hW.alike hK, hD.weaken (fun _ _ _ _ => trivial)⟩⟩ rfl hn hsz hst (lv_room hcat) hdg hfit) hS (fun z _ h => hF z h) hF (fun r2 u t H1 locs1 ht hvm hw hB hz1 hk1 hS1 => ?_)
  obtain ⟨rfl, rfl⟩ := hw
  obtain ⟨hP1, hK1, hD1⟩ := hB
  rw [ht] at hP1
  exact kk H1 locs1 hP1 (hD1.weaken (fun _ z _ h => hF z.1 h)) hS1
end KR
