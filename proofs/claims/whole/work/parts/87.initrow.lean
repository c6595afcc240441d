/-! A constructor called beside another world. -/
section IR
variable {p : Program} {l : Launch} {e : Env} {R : Room} {s : State} {m : MethodId} {args : Array Value} {below : List Frame} {meth : Method} {c : Code} {H : Heap} {locs : List Loc} {cells slots mc ms : Nat} {Q : State → Prop}
variable {cc : ByteArray} {nL pc : Nat} {own : String} {Ts : List Cond} {ls : Array Slot} {rest : List Value}
variable {wf : (Nat → Nat) → va_W} {w0 wo : va_W} {D : va_G} {cl : List vw_C} {tys : List (ClassId × FieldType)} {A : Nat → Prop}
variable {y : MethodName} {ws : List Cond} {rm : Room} {bytes : ByteArray} {maxL index n a0 : Nat} {av st0 : List Value}
theorem lr_init (S0 : CallFix p m c cc nL s args Ts own) (hM : Met l y ws rm (kPre D cl tys (fun _ : Unit => w0) H.size () (.ref a0 :: av)) (va_Qv (fun q : Nat → Nat => q 0 = a0) (fun q t => va_P D cl (wf q) t.heap ∧ va_K D cl tys t ∧ va_D (va_A w0 H.size) (wf q)) (va_A w0 H.size)) mc ms (va_A w0 H.size)) (cw : CallB R s args own index y bytes maxL none ws rm mc ms n ∧ y.name = "<init>" ∧ (Cond.instanceMethod y).before args s = true)
    (hK : va_K D cl tys s) (hP : va_P D cl (wo ++ w0) H) (hD : va_D A (wo ++ w0)) (hS : va_S A s.heap H locs) (hA : ∀ z, s.heap.size ≤ z → A z)
    (hn : av.length = n) (hsz : ls.size = nL) (hst : st0 = av.reverse ++ .ref a0 :: rest) (hcat : (rest.map fun v => v.category).sum ≤ 8) (hdg : decode cc pc = .ok (.invokespecial index, 3)) (hfit : cells + mc ≤ R.cells ∧ slots + ms ≤ R.slots)
    (kk : ∀ (q : Nat → Nat) (H1 : Heap) (locs1 : List Loc), q 0 = a0 → va_P D cl (wo ++ wf q) H1 → va_D A (wo ++ wf q) → va_S A s.heap H1 locs1 → W p l e R s m args below meth c H1 locs1 (cells + mc) (slots + ms) Q (F0 m (pc + 3) ls rest)) : W p l e R s m args below meth c H locs cells slots Q (F0 m pc ls st0) := by
  have hP0 := ap_P2 hP
  have hD0 := ap_D2 hD
  have hF : ∀ z, va_A w0 H.size z → A z := kr_free (wd := fun _ : Unit => w0) (σ := ()) hD0 hS hA
  refine va_callv (va_runI (As := av) (rest := rest) S0 hM cw ⟨kr_blind, fun U hU hW => ⟨rfl, by rw [hU], by rw [hU]; exact hP0, va_K.moved hW.alike hK, hD0.weaken (fun _ _ _ _ => trivial)⟩⟩ rfl hn hsz hst (lv_room hcat) hdg hfit) hS (fun z _ h => hF z h) hF (fun u t H1 locs1 ht hvm hw hB hz1 hk1 hS1 => ?_)
  obtain ⟨hP1, hK1, hD1⟩ := hB
  rw [ht] at hP1
  obtain ⟨g1, g2⟩ := fr_R hP hD hk1 hF hP1 hD1
  exact kk u H1 locs1 hw g1 g2 hS1
end IR
