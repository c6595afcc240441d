/-! The law's cell(script, k); words of its calls; what holds between both systems. -/
theorem kgood_L {T T' : List Cond} {own C : String} {idx : Nat} {y : MethodName} {b : ByteArray} {n : Nat} {r : Option FieldType} (hT : GoodIn T T) (hin : ∀ w ∈ T, w ∈ T') (hl : Cond.methodLink own idx y ∈ T') (h : ∀ w ∈ ([.instanceMethod y, .selects C y y, .initialized C, .code y b n r] : List Cond), w ∈ T) : GoodIn T' (wsV own idx C y (.code y b n r :: T)) := by
  intro w hw
  unfold wsV at hw
  have up : ∀ w ∈ T, w ∈ T' ∧ ((w.onTables && w.keeps) = true ∨ ∃ ty, w = .arrayClass ty) := fun w q => ⟨hin w q, (hT w q).2⟩
  rcases List.mem_append.mp hw with h1 | h1
  · rcases List.mem_cons.mp h1 with h2 | h2
    · rw [h2]; exact ⟨hl, Or.inl rfl⟩
    · exact up w (h w (List.mem_append_left ([Cond.code y b n r] : List Cond) h2))
  · rcases List.mem_cons.mp h1 with h2 | h2
    · exact up w (h w (by rw [h2]; simp))
    · exact up w h2
set_option maxHeartbeats 400000 in
set_option maxRecDepth 100000 in
theorem mL_cell (l : Launch) (b L : Nat) (xs : Nat → Int32) (k : Int32) (hk : ¬ k < 0) (hL : L < 2 ^ 31) : Met l yL_cell (.code yL_cell cL_cell 2 (some .int) :: []) ({ frames := 0, cells := 0, slots := 0, locals := 0 }) (va_Pc [.ref b, .int k] (fun U => va_X b L xs U U.heap ∧ b < U.heap.size)) (vp_Si (fun r => r = if nI L ≤ k then 0 else xs k.toNatClampNeg)) 0 0 (fun _ => False) := by
  refine Met.ofW (cc := cL_cell) (maxL := 2) (ret := some .int) (by decide) rfl ?_
  intro p e s m args below meth c s₁ B hml hv
  obtain ⟨rfl, hX, hbl⟩ := hv
  have hx := B.exec
  have hb := B.bytes
  have hr := B.returns
  have hlocks := B.notSynchronized
  have hl := lv_entry ([.ref b, .int k]) (n := 2) (Nat.le_of_ble_eq_true rfl)
  rw [lg_entry_eq]
  generalize (lg_sl ([.ref b, .int k]) ++ List.replicate (2 - (lg_sl ([.ref b, .int k])).length) Slot.unset).toArray = ls at hl ⊢
  have hl : lv_has ls 2 [(0, .ref b), (1, .int k)] := hl
  have hS : va_S (fun _ => False) s.heap s.heap [] := va_S.rf
  have hbA : ¬ (fun _ : Nat => False) b := fun h => h
  refine lv_iload_n hx hb dL_cell_0 rfl (lv_at hl 1 rfl) ?_
  refine lv_aload_n hx hb dL_cell_1 rfl (lv_at hl 0 rfl) ?_
  refine va_slen hx hb hX hbl hbA hS dL_cell_2 ?_
  refine lv_icmp_ge (tgt := 12) hx hb dL_cell_3 (by decide) (fun c3 => ?_) (fun c3 => ?_)
  · refine lv_iconst (v := 0) hx hb dL_cell_12 (by decide) ?_
    exact W.iret hx hb hr (fun t ht hW => ⟨0, rfl, by rw [if_pos (show nI L ≤ k from c3)], ht⟩) (fun q h => by cases h) dL_cell_13 hlocks
  · have hin : vp_in k L := by
      obtain ⟨j, hj, rfl⟩ := nI_of hk
      have c3 : ¬ nI L ≤ nI j := c3
      rw [nI_leI hL hj] at c3
      exact vp_in_nI (by omega) hL
    refine lv_aload_n hx hb dL_cell_6 rfl (lv_at hl 0 rfl) ?_
    refine lv_iload_n hx hb dL_cell_7 rfl (lv_at hl 1 rfl) ?_
    refine va_sld hx hb hX hbl hbA hS hin dL_cell_8 ?_
    refine lv_goto (tgt := 13) hx hb dL_cell_9 (by decide) ?_
    exact W.iret hx hb hr (fun t ht hW => ⟨xs k.toNatClampNeg, rfl, by rw [if_neg (show ¬ nI L ≤ k from c3)], ht⟩) (fun q h => by cases h) dL_cell_13 hlocks
theorem blindX {b L : Nat} {xs : Nat → Int32} {av : List Value} : FrameBlind (va_Pc av (fun U => va_X b L xs U U.heap ∧ b < U.heap.size)) := fun a U g mk q => by
  obtain ⟨q0, q1, q2⟩ := q
  exact ⟨q0, va_X.moved (u := U) (U := U.calling g mk a) (Vm.Alike.refl U.vm) q1, q2⟩
/-- class and reference hold the same state -/
def Rel (k : kK) (σ : sK) (k2 : kM) (σ2 : sM) : Prop := ∃ (C A : Nat) (ct : Nat → Nat → Nat → Nat) (ch : Nat) (gr : Nat → Nat) (fl : Nat → Option Nat) (ms : Nat → Nat) (er : Nat → Nat → Nat) (ml lk : Nat → Nat), okS C A ct ch gr fl ms er ml lk ∧ repK k σ C A ct ch gr fl ms er ml lk ∧ repM k2 σ2 C A ct ch gr fl ms er ml lk
section RL
variable {k : kK} {σ : sK} {k2 : kM} {σ2 : sM} {fu : Nat}
theorem rl_read (h : Rel k σ k2 σ2) (hfu : 200 ≤ fu) (x1 x2 x3 : Int32) : ∃ r σ' σ2', fK_read k σ x1 x2 x3 = some (r, σ') ∧ fM_read fu k2 σ2 x1 x2 x3 = some (r, σ2') ∧ Rel k σ' k2 σ2' := by
  obtain ⟨C, A, ct, ch, gr, fl, ms, er, ml, lk, hO, hR, hM⟩ := h
  obtain ⟨r, σ', σ2', n, e1, e2, e3, e4, e5⟩ := op_read hO hR hM hfu x1 x2 x3
  exact ⟨r, σ', σ2', e1, e2, _, _, _, _, _, _, _, _, _, _, e3, e4, e5⟩
theorem rl_place (h : Rel k σ k2 σ2) (hfu : 200 ≤ fu) (x1 : Int32) : ∃ r σ' σ2', fK_place k σ x1 = some (r, σ') ∧ fM_place fu k2 σ2 x1 = some (r, σ2') ∧ Rel k σ' k2 σ2' := by
  obtain ⟨C, A, ct, ch, gr, fl, ms, er, ml, lk, hO, hR, hM⟩ := h
  obtain ⟨r, σ', σ2', n, e1, e2, e3, e4, e5⟩ := op_place hO hR hM hfu x1
  exact ⟨r, σ', σ2', e1, e2, _, _, _, _, _, _, _, _, _, _, e3, e4, e5⟩
theorem rl_share (h : Rel k σ k2 σ2) (hfu : 200 ≤ fu) (x1 x2 x3 : Int32) : ∃ r, fK_share fu k σ x1 x2 x3 = some r ∧ fM_share fu k2 σ2 x1 x2 x3 = some r := by
  obtain ⟨C, A, ct, ch, gr, fl, ms, er, ml, lk, hO, hR, hM⟩ := h
  exact op_share hO hR hM hfu x1 x2 x3
theorem rl_empty (h : Rel k σ k2 σ2) (hfu : 200 ≤ fu) (x1 : Int32) : ∃ r, fK_empty fu k σ x1 = some r ∧ fM_empty fu k2 σ2 x1 = some r := by
  obtain ⟨C, A, ct, ch, gr, fl, ms, er, ml, lk, hO, hR, hM⟩ := h
  exact op_empty hO hR hM hfu x1
theorem rl_fill (h : Rel k σ k2 σ2) (hfu : 200 ≤ fu) (x1 : Int32) : ∃ r σ' σ2', fK_fill fu k σ x1 = some (r, σ') ∧ fM_fill fu k2 σ2 x1 = some (r, σ2') ∧ Rel k σ' k2 σ2' := by
  obtain ⟨C, A, ct, ch, gr, fl, ms, er, ml, lk, hO, hR, hM⟩ := h
  obtain ⟨r, σ', σ2', n, e1, e2, e3, e4, e5⟩ := op_fill hO hR hM hfu x1
  exact ⟨r, σ', σ2', e1, e2, _, _, _, _, _, _, _, _, _, _, e3, e4, e5⟩
theorem rl_marked (h : Rel k σ k2 σ2) (hfu : 200 ≤ fu) (x1 : Int32) : ∃ r, fK_marked k σ x1 = some r ∧ fM_marked fu k2 σ2 x1 = some r := by
  obtain ⟨C, A, ct, ch, gr, fl, ms, er, ml, lk, hO, hR, hM⟩ := h
  exact op_marked hO hR hM hfu x1
theorem rl_joined (h : Rel k σ k2 σ2) (hfu : 200 ≤ fu) (x1 x2 : Int32) : ∃ r σ' σ2', fK_joined fu k σ x1 x2 = some (r, σ') ∧ fM_joined fu k2 σ2 x1 x2 = some (r, σ2') ∧ Rel k σ' k2 σ2' := by
  obtain ⟨C, A, ct, ch, gr, fl, ms, er, ml, lk, hO, hR, hM⟩ := h
  obtain ⟨r, σ', σ2', n, n2, e1, e2, e3, e4, e5⟩ := op_joined hO hR hM hfu x1 x2
  exact ⟨r, σ', σ2', e1, e2, _, _, _, _, _, _, _, _, _, _, e3, e4, e5⟩
theorem rl_sample (h : Rel k σ k2 σ2) (hfu : 200 ≤ fu) (x1 : Int32) (x2 : Int64) : ∃ r σ' σ2', fK_sample k σ x1 x2 = some (r, σ') ∧ fM_sample fu k2 σ2 x1 x2 = some (r, σ2') ∧ Rel k σ' k2 σ2' := by
  obtain ⟨C, A, ct, ch, gr, fl, ms, er, ml, lk, hO, hR, hM⟩ := h
  obtain ⟨r, σ', σ2', n, e1, e2, e3, e4, e5⟩ := op_sample hO hR hM hfu x1 x2
  exact ⟨r, σ', σ2', e1, e2, _, _, _, _, _, _, _, _, _, _, e3, e4, e5⟩
theorem rl_raised (h : Rel k σ k2 σ2) (hfu : 200 ≤ fu) (x1 : Int64) (x3 x4 : Int32) : ∃ r σ2', fK_raised fu k σ x1 x3 x4 = some r ∧ fM_raised fu k2 σ2 x1 x3 x4 = some (r, σ2') ∧ Rel k σ k2 σ2' := by
  obtain ⟨C, A, ct, ch, gr, fl, ms, er, ml, lk, hO, hR, hM⟩ := h
  obtain ⟨r, σ2', e1, e2, e5⟩ := op_raised hO hR hM hfu x1 x3 x4
  exact ⟨r, σ2', e1, e2, _, _, _, _, _, _, _, _, _, _, hO, hR, e5⟩
theorem rl_sums (h : Rel k σ k2 σ2) (hfu : 200 ≤ fu) (x1 : Int64) : ∃ r σ2', fK_sums fu k σ x1 = some r ∧ fM_sums fu k2 σ2 x1 = some (r, σ2') ∧ Rel k σ k2 σ2' := by
  obtain ⟨C, A, ct, ch, gr, fl, ms, er, ml, lk, hO, hR, hM⟩ := h
  obtain ⟨r, σ2', e1, e2, e5⟩ := op_sums hO hR hM hfu x1
  exact ⟨r, σ2', e1, e2, _, _, _, _, _, _, _, _, _, _, hO, hR, e5⟩
theorem rl_without (h : Rel k σ k2 σ2) (hfu : 200 ≤ fu) (x1 x2 x3 x4 : Int32) : ∃ r, fK_without fu k σ x1 x2 x3 x4 = some r ∧ fM_without fu k2 σ2 x1 x2 x3 x4 = some r := by
  obtain ⟨C, A, ct, ch, gr, fl, ms, er, ml, lk, hO, hR, hM⟩ := h
  exact op_without hO hR hM hfu x1 x2 x3 x4
theorem rl_error (h : Rel k σ k2 σ2) (x1 x2 x3 : Int32) : ∃ r σ' σ2', fK_error k σ x1 x2 x3 = some (r, σ') ∧ fM_error k2 σ2 x1 x2 x3 = some (r, σ2') ∧ Rel k σ' k2 σ2' := by
  obtain ⟨C, A, ct, ch, gr, fl, ms, er, ml, lk, hO, hR, hM⟩ := h
  obtain ⟨r, σ', σ2', n, e1, e2, e3, e4, e5⟩ := op_error hO hR hM x1 x2 x3
  exact ⟨r, σ', σ2', e1, e2, _, _, _, _, _, _, _, _, _, _, e3, e4, e5⟩
theorem rl_apart (h : Rel k σ k2 σ2) (hfu : 200 ≤ fu) (x1 x2 x3 : Int32) : ∃ r, fK_apart fu k σ x1 x2 x3 = some r ∧ fM_apart fu k2 σ2 x1 x2 x3 = some r := by
  obtain ⟨C, A, ct, ch, gr, fl, ms, er, ml, lk, hO, hR, hM⟩ := h
  exact op_apart hO hR hM hfu x1 x2 x3
theorem rl_sex (h : Rel k σ k2 σ2) (x1 x2 x3 : Int32) : ∃ r σ' σ2', fK_sex k σ x1 x2 x3 = some (r, σ') ∧ fM_sex k2 σ2 x1 x2 x3 = some (r, σ2') ∧ Rel k σ' k2 σ2' := by
  obtain ⟨C, A, ct, ch, gr, fl, ms, er, ml, lk, hO, hR, hM⟩ := h
  obtain ⟨r, σ', σ2', n, n2, e1, e2, e3, e4, e5⟩ := op_sex hO hR hM x1 x2 x3
  exact ⟨r, σ', σ2', e1, e2, _, _, _, _, _, _, _, _, _, _, e3, e4, e5⟩
theorem rl_males (h : Rel k σ k2 σ2) (hfu : 200 ≤ fu) (x1 x2 : Int32) : ∃ r, fK_males fu k σ x1 x2 = some r ∧ fM_males fu k2 σ2 x1 x2 = some r := by
  obtain ⟨C, A, ct, ch, gr, fl, ms, er, ml, lk, hO, hR, hM⟩ := h
  exact op_males hO hR hM hfu x1 x2
theorem rl_groups (h : Rel k σ k2 σ2) (hfu : 200 ≤ fu) : ∃ r, fK_groups fu k σ = some r ∧ fM_groups fu k2 σ2 = some r := by
  obtain ⟨C, A, ct, ch, gr, fl, ms, er, ml, lk, hO, hR, hM⟩ := h
  exact op_groups hO hR hM hfu
/-- what is still owed of undo, undone, length, pooled -/
def Owed4 : Prop := ∀ (fu : Nat) (k : kK) (σ : sK) (k2 : kM) (σ2 : sM), 200 ≤ fu → Rel k σ k2 σ2 → (∃ r σ' σ2', fK_undo fu k σ = some (r, σ') ∧ fM_undo fu k2 σ2 = some (r, σ2') ∧ Rel k σ' k2 σ2') ∧ (∀ x1 x2 x3 : Int32, ∃ r σ' σ2', fK_undone fu k σ x1 x2 x3 = some (r, σ') ∧ fM_undone fu k2 σ2 x1 x2 x3 = some (r, σ2') ∧ Rel k σ' k2 σ2') ∧ (∀ x1 x2 : Int32, ∃ r σ' σ2', fK_length fu k σ x1 x2 = some (r, σ') ∧ fM_length fu k2 σ2 x1 x2 = some (r, σ2') ∧ Rel k σ' k2 σ2') ∧ (∀ x1 : Int32, ∃ r σ' σ2', fK_pooled fu k σ x1 = some (r, σ') ∧ fM_pooled fu k2 σ2 x1 = some (r, σ2') ∧ Rel k σ' k2 σ2')
end RL
