/-! joined: two groups become one. -/
def jgr (gr : Nat → Nat) (i f : Nat) : Nat → Nat := fun c => if gr c = f then i else gr c
def jf1 (fl : Nat → Option Nat) (i f : Nat) : Nat → Option Nat := fun c => if c = i ∨ c = f then none else fl c
def jfl (fl : Nat → Option Nat) (i f : Nat) : Nat → Option Nat := fun c => if jf1 fl i f c = some i ∨ jf1 fl i f c = some f then none else jf1 fl i f c
/-- all but groups and fills -/
def sameA (σ' σ : sK) : Prop := sK_chosenRow σ' = sK_chosenRow σ ∧ sK_readings σ' = sK_readings σ ∧ sK_rowSize σ' = sK_rowSize σ ∧ sK_measured σ' = sK_measured σ ∧ sK_measuredInAll σ' = sK_measuredInAll σ ∧ sK_errors σ' = sK_errors σ ∧ sK_maleCount σ' = sK_maleCount σ ∧ sK_lookedAt σ' = sK_lookedAt σ
theorem sameA.tr {a b c : sK} (h : sameA a b) (g : sameA b c) : sameA a c := ⟨h.1.trans g.1, h.2.1.trans g.2.1, h.2.2.1.trans g.2.2.1, h.2.2.2.1.trans g.2.2.2.1, h.2.2.2.2.1.trans g.2.2.2.2.1, h.2.2.2.2.2.1.trans g.2.2.2.2.2.1, h.2.2.2.2.2.2.1.trans g.2.2.2.2.2.2.1, h.2.2.2.2.2.2.2.trans g.2.2.2.2.2.2.2⟩
theorem sameA.rf (a : sK) : sameA a a := ⟨rfl, rfl, rfl, rfl, rfl, rfl, rfl, rfl⟩
section JO
variable {C A : Nat} {k : kK} {k2 : kM} {fu i f : Nat}
theorem leC (hk : k = k0K C A) {a b : Nat} (ha : a < 2 ^ 31) (hC : C < 2 ^ 31) : kK_classes k ≤ nI a ↔ C ≤ a := by
  rw [show kK_classes k = nI C from by rw [hk]; rfl, nI_leI hC ha]
theorem leA (hk : k = k0K C A) {a : Nat} (ha : a < 2 ^ 31) (hC : A < 2 ^ 31) : kK_ages k ≤ nI a ↔ A ≤ a := by
  rw [show kK_ages k = nI A from by rw [hk]; rfl, nI_leI hC ha]
/-- the fills of both dropped, from class c on -/
theorem dropL (hk : k = k0K C A) (hC : C ≤ 10) (hi : i < C) (hf : f < C) (F : Nat → Option Nat) (hF : ∀ j g, j < C → F j = some g → g < C) : ∀ (d c n : Nat) (σ : sK), c + d = C → d < n → (∀ j, j < C → sK_filledBy σ j = oI (if j < c then (if F j = some i ∨ F j = some f then none else F j) else F j)) →
    ∃ σ', fK_dropFills_16 fu k n σ (nI i) (nI f) (nI c) = some σ' ∧ sameA σ' σ ∧ sK_groupOf σ' = sK_groupOf σ ∧ sK_groupReadings σ' = sK_groupReadings σ ∧ sK_groupSize σ' = sK_groupSize σ ∧ ∀ j, j < C → sK_filledBy σ' j = oI (if F j = some i ∨ F j = some f then none else F j)
  | 0, c, n + 1, σ, hc, hn, h => by
    rw [fK_dropFills_16, if_pos ((leC (b := 0) hk (by omega) (by omega)).mpr (by omega))]
    exact ⟨σ, rfl, sameA.rf σ, rfl, rfl, rfl, fun j hj => by rw [h j hj, if_pos (by omega)]⟩
  | d + 1, c, n + 1, σ, hc, hn, h => by
    have hcC : c < C := by omega
    have hFc := hF c
    have hb : ∀ b, F c = some b → b < 2 ^ 31 := fun b hb => by have := hFc b hcC hb; omega
    rw [fK_dropFills_16, if_neg (show ¬ kK_classes k ≤ nI c by rw [leC (b := 0) hk (by omega) (by omega)]; omega), show kK_n k 5 = C from by rw [hk]; rfl, kld_n hcC (by omega), h c hcC, if_neg (show ¬ c < c by omega)]
    simp only [Option.bind_some]
    have h44 : (F c = some i ∨ F c = some f) → ∃ σ', fK_dropFills_44 fu k (fK_dropFills_16 fu k n) σ (nI i) (nI f) (nI c) = some σ' ∧ sameA σ' σ ∧ sK_groupOf σ' = sK_groupOf σ ∧ sK_groupReadings σ' = sK_groupReadings σ ∧ sK_groupSize σ' = sK_groupSize σ ∧ ∀ j, j < C → sK_filledBy σ' j = oI (if F j = some i ∨ F j = some f then none else F j) := by
      intro hq
      unfold fK_dropFills_44
      rw [show kK_n k 5 = C from by rw [hk]; rfl, kstI_n hcC (by omega)]
      simp only [Option.bind_some]
      rw [nI_1]
      obtain ⟨σ', e1, e2, e3, e4, e5, e6⟩ := dropL hk hC hi hf F hF d (c + 1) n (uK_filledBy σ (upd (sK_filledBy σ) c (-1))) (by omega) (by omega) (fun j hj => by
        show upd (sK_filledBy σ) c (-1) j = _
        by_cases hjc : j = c
        · rw [hjc, upd_s, if_pos (by omega), if_pos hq]; rfl
        · rw [upd_n hjc, h j hj]
          by_cases hjl : j < c
          · rw [if_pos hjl, if_pos (show j < c + 1 by omega)]
          · rw [if_neg hjl, if_neg (show ¬ j < c + 1 by omega)])
      exact ⟨σ', e1, e2.tr ⟨rfl, rfl, rfl, rfl, rfl, rfl, rfl, rfl⟩, e3, e4, e5, e6⟩
    by_cases h1 : F c = some i
    · rw [if_pos ((oI_eq hb (by omega)).mpr h1)]; exact h44 (Or.inl h1)
    · rw [if_neg (show ¬ oI (F c) = nI i by rw [oI_eq hb (by omega)]; exact h1)]
      by_cases h2 : F c = some f
      · rw [if_pos ((oI_eq hb (by omega)).mpr h2)]; exact h44 (Or.inr h2)
      · rw [if_neg (show ¬ oI (F c) = nI f by rw [oI_eq hb (by omega)]; exact h2), nI_1]
        exact dropL hk hC hi hf F hF d (c + 1) n σ (by omega) (by omega) (fun j hj => by
          rw [h j hj]
          by_cases hjc : j = c
          · rw [hjc, if_neg (show ¬ c < c by omega), if_pos (show c < c + 1 by omega), if_neg (fun q => q.elim h1 h2)]
          · by_cases hjl : j < c
            · rw [if_pos hjl, if_pos (show j < c + 1 by omega)]
            · rw [if_neg hjl, if_neg (show ¬ j < c + 1 by omega)])
/-- the groups' names, from class c on -/
theorem nameL (hk : k = k0K C A) (hC : C ≤ 10) (hf : f < C) (gr : Nat → Nat) (hg : ∀ j, j < C → gr j < C) : ∀ (d c n : Nat) (σ : sK), c + d = C → d < n → (∀ j, j < C → sK_groupOf σ j = nI (if j < c then jgr gr i f j else gr j)) →
    ∃ σ', fK_joined_95 fu k n σ (nI i) (nI f) (nI c) = some (nI i, σ') ∧ sameA σ' σ ∧ sK_filledBy σ' = sK_filledBy σ ∧ sK_groupReadings σ' = sK_groupReadings σ ∧ sK_groupSize σ' = sK_groupSize σ ∧ ∀ j, j < C → sK_groupOf σ' j = nI (jgr gr i f j)
  | 0, c, n + 1, σ, hc, hn, h => by
    rw [fK_joined_95, if_pos ((leC (b := 0) hk (by omega) (by omega)).mpr (by omega))]
    exact ⟨σ, rfl, sameA.rf σ, rfl, rfl, rfl, fun j hj => by rw [h j hj, if_pos (by omega)]⟩
  | d + 1, c, n + 1, σ, hc, hn, h => by
    have hcC : c < C := by omega
    have hgc := hg c hcC
    rw [fK_joined_95, if_neg (show ¬ kK_classes k ≤ nI c by rw [leC (b := 0) hk (by omega) (by omega)]; omega), show kK_n k 4 = C from by rw [hk]; rfl, kld_n hcC (by omega), h c hcC, if_neg (show ¬ c < c by omega)]
    simp only [Option.bind_some]
    rw [nI_1]
    by_cases h1 : gr c = f
    · rw [if_pos (show nI (gr c) = nI f by rw [h1]), kstI_n hcC (by omega)]
      simp only [Option.bind_some]
      obtain ⟨σ', e1, e2, e3, e4, e5, e6⟩ := nameL hk hC hf gr hg d (c + 1) n (uK_groupOf σ (upd (sK_groupOf σ) c (nI i))) (by omega) (by omega) (fun j hj => by
        show upd (sK_groupOf σ) c (nI i) j = _
        by_cases hjc : j = c
        · rw [hjc, upd_s, if_pos (by omega)]; unfold jgr; rw [if_pos h1]
        · rw [upd_n hjc, h j hj]
          by_cases hjl : j < c
          · rw [if_pos hjl, if_pos (show j < c + 1 by omega)]
          · rw [if_neg hjl, if_neg (show ¬ j < c + 1 by omega)])
      exact ⟨σ', e1, e2.tr ⟨rfl, rfl, rfl, rfl, rfl, rfl, rfl, rfl⟩, e3, e4, e5, e6⟩
    · rw [if_neg (show ¬ nI (gr c) = nI f by rw [nI_eq (by omega) (by omega)]; exact h1)]
      exact nameL hk hC hf gr hg d (c + 1) n σ (by omega) (by omega) (fun j hj => by
        rw [h j hj]
        by_cases hjc : j = c
        · rw [hjc, if_neg (show ¬ c < c by omega), if_pos (show c < c + 1 by omega)]; unfold jgr; rw [if_neg h1]
        · by_cases hjl : j < c
          · rw [if_pos hjl, if_pos (show j < c + 1 by omega)]
          · rw [if_neg hjl, if_neg (show ¬ j < c + 1 by omega)])
end JO
