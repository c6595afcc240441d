/-! joined: the readings move; the reference's own loop; both together. -/
section J2
variable {C A : Nat} {k : kK} {k2 : kM} {fu i f : Nat}
def sameB (σ' σ : sK) : Prop := sameA σ' σ ∧ sK_groupOf σ' = sK_groupOf σ ∧ sK_filledBy σ' = sK_filledBy σ
theorem sameB.tr {a b c : sK} (h : sameB a b) (g : sameB b c) : sameB a c := ⟨h.1.tr g.1, h.2.1.trans g.2.1, h.2.2.trans g.2.2⟩
theorem sameB.rf (a : sK) : sameB a a := ⟨sameA.rf a, rfl, rfl⟩
/-- one row's readings, from age a on -/
theorem mvA (hk : k = k0K C A) (hC : C ≤ 10) (hA : A ≤ 6) (hi : i < C) (hf : f < C) (hif : i ≠ f) {r : Nat} (hr : r < 5) (h2 : sK → Int32 → Int32 → Int32 → Option sK) (Ni Nf : Nat → Nat) : ∀ (d a n : Nat) (σ : sK), a + d = A → d < n → (∀ b, b < A → sK_groupReadings σ ((r * C + f) * A + b) = nI (Nf b)) → (∀ b, b < A → sK_groupReadings σ ((r * C + i) * A + b) = nI (if b < a then Ni b + Nf b else Ni b)) →
    ∃ σ', fK_moveReadings_39 fu k h2 n σ (nI i) (nI f) (nI r) (nI a) = h2 σ' (nI i) (nI f) (nI (r + 1)) ∧ sameB σ' σ ∧ sK_groupSize σ' = sK_groupSize σ ∧ (∀ z, (∀ b, b < A → z ≠ (r * C + i) * A + b) → sK_groupReadings σ' z = sK_groupReadings σ z) ∧ (∀ b, b < A → sK_groupReadings σ' ((r * C + i) * A + b) = nI (Ni b + Nf b))
  | 0, a, n + 1, σ, ha, hn, q1, q2 => by
    rw [fK_moveReadings_39, if_pos ((leA hk (by omega) (by omega)).mpr (by omega)), nI_1]
    exact ⟨σ, rfl, sameB.rf σ, rfl, fun _ _ => rfl, fun b hb => by rw [q2 b hb, if_pos (by omega)]⟩
  | d + 1, a, n + 1, σ, ha, hn, q1, q2 => by
    have haA : a < A := by omega
    have hca : 5 * C * A < 2 ^ 31 := by
      have h := mul_le60 hC hA
      rw [Nat.mul_assoc]
      omega
    have cel : ∀ r c a : Nat, fK_cell k (nI r) (nI c) (nI a) = nI ((r * C + c) * A + a) := by
      intro r c a
      unfold fK_cell
      rw [hk]
      show ((nI r * nI C + nI c) * nI A) + nI a = _
      rw [pk_mul, nI_add, pk_mul, nI_add]
    have hne : ∀ b c, b < A → c < A → (r * C + f) * A + b ≠ (r * C + i) * A + c := fun b c hb hc e => hif (ix3_inj hf hi hb hc e).2.1.symm
    rw [fK_moveReadings_39, if_neg (show ¬ kK_ages k ≤ nI a by rw [leA hk (by omega) (by omega)]; omega), cel, cel, show kK_n k 2 = 5 * C * A from by rw [hk]; rfl, kld_n (ix_lt hr hi haA) hca, kld_n (ix_lt hr hf haA) hca, q2 a haA, if_neg (show ¬ a < a by omega), q1 a haA]
    simp only [Option.bind_some]
    rw [nI_add, kstI_n (ix_lt hr hi haA) hca]
    simp only [Option.bind_some]
    rw [nI_1]
    obtain ⟨σ', e1, e2, e3, e4, e5⟩ := mvA hk hC hA hi hf hif hr h2 Ni Nf d (a + 1) n (uK_groupReadings σ (upd (sK_groupReadings σ) ((r * C + i) * A + a) (nI (Ni a + Nf a)))) (by omega) (by omega)
      (fun b hb => by
        show upd (sK_groupReadings σ) _ _ _ = _
        rw [upd_n (hne b a hb haA)]
        exact q1 b hb)
      (fun b hb => by
        show upd (sK_groupReadings σ) _ _ _ = _
        by_cases hba : b = a
        · rw [hba, upd_s, if_pos (by omega)]
        · rw [upd_n (by omega), q2 b hb]
          by_cases hbl : b < a
          · rw [if_pos hbl, if_pos (show b < a + 1 by omega)]
          · rw [if_neg hbl, if_neg (show ¬ b < a + 1 by omega)])
    exact ⟨σ', e1, e2.tr ⟨⟨rfl, rfl, rfl, rfl, rfl, rfl, rfl, rfl⟩, rfl, rfl⟩, e3, fun z hz => (e4 z hz).trans (by
      show upd (sK_groupReadings σ) _ _ z = _
      rw [upd_n (hz a haA)]), e5⟩
/-- all rows, from row r on -/
theorem mvR (hk : k = k0K C A) (hC : C ≤ 10) (hA : A ≤ 6) (hfu : 200 ≤ fu) (hi : i < C) (hf : f < C) (hif : i ≠ f) (Ni Nf : Nat → Nat → Nat) (Gi Gf : Nat → Nat) : ∀ (d r n : Nat) (σ : sK), r + d = 5 → d < n → (∀ s b, s < 5 → b < A → sK_groupReadings σ ((s * C + f) * A + b) = nI (Nf s b)) → (∀ s b, r ≤ s → s < 5 → b < A → sK_groupReadings σ ((s * C + i) * A + b) = nI (Ni s b)) → (∀ s, s < 5 → sK_groupSize σ (s * C + f) = nI (Gf s)) → (∀ s, r ≤ s → s < 5 → sK_groupSize σ (s * C + i) = nI (Gi s)) →
    ∃ σ', fK_moveReadings_2 fu k n σ (nI i) (nI f) (nI r) = some σ' ∧ sameB σ' σ ∧ (∀ z, (∀ s b, r ≤ s → s < 5 → b < A → z ≠ (s * C + i) * A + b) → sK_groupReadings σ' z = sK_groupReadings σ z) ∧ (∀ s b, r ≤ s → s < 5 → b < A → sK_groupReadings σ' ((s * C + i) * A + b) = nI (Ni s b + Nf s b)) ∧ (∀ z, (∀ s, r ≤ s → s < 5 → z ≠ s * C + i) → sK_groupSize σ' z = sK_groupSize σ z) ∧ (∀ s, r ≤ s → s < 5 → sK_groupSize σ' (s * C + i) = nI (Gi s + Gf s))
  | 0, r, n + 1, σ, hr, hn, q1, q2, q3, q4 => by
    rw [fK_moveReadings_2, if_pos (show (5 : Int32) ≤ nI r by rw [show (5 : Int32) = nI 5 from rfl, nI_leI (by omega) (by omega)]; omega)]
    exact ⟨σ, rfl, sameB.rf σ, fun _ _ => rfl, fun s b h1 h2 => absurd h2 (by omega), fun _ _ => rfl, fun s h1 h2 => absurd h2 (by omega)⟩
  | d + 1, r, n + 1, σ, hr, hn, q1, q2, q3, q4 => by
    have hr5 : r < 5 := by omega
    rw [fK_moveReadings_2, if_neg (show ¬ (5 : Int32) ≤ nI r by rw [show (5 : Int32) = nI 5 from rfl, nI_leI (by omega) (by omega)]; omega), show kK_n k 3 = 5 * C from by rw [hk]; rfl, show kK_classes k = nI C from by rw [hk]; rfl, pk_mul, nI_add, nI_add, kld_n (ix2_lt hr5 hi) (by omega), kld_n (ix2_lt hr5 hf) (by omega), q4 r (Nat.le_refl r) hr5, q3 r hr5]
    simp only [Option.bind_some]
    rw [nI_add, kstI_n (ix2_lt hr5 hi) (by omega)]
    simp only [Option.bind_some]
    obtain ⟨σ1, e1, e2, e3, e4, e5⟩ := mvA (fu := fu) hk hC hA hi hf hif hr5 (fK_moveReadings_2 fu k n) (Ni r) (Nf r) A 0 fu (uK_groupSize σ (upd (sK_groupSize σ) (r * C + i) (nI (Gi r + Gf r)))) (by omega) (by omega) (fun b hb => q1 r b hr5 hb) (fun b hb => (q2 r b (Nat.le_refl r) hr5 hb).trans (by rw [if_neg (by omega)]))
    rw [show (0 : Int32) = nI 0 from rfl, e1]
    have hs1 : ∀ z, sK_groupSize σ1 z = upd (sK_groupSize σ) (r * C + i) (nI (Gi r + Gf r)) z := fun z => by rw [e3]; rfl
    have hg1 : ∀ z, (∀ b, b < A → z ≠ (r * C + i) * A + b) → sK_groupReadings σ1 z = sK_groupReadings σ z := e4
    obtain ⟨σ', t1, t2, t3, t4, t5, t6⟩ := mvR hk hC hA hfu hi hf hif Ni Nf Gi Gf d (r + 1) n σ1 (by omega) (by omega)
      (fun s b hs hb => by rw [hg1 _ (fun c hc e => hif (ix3_inj hf hi hb hc e).2.1.symm)]; exact q1 s b hs hb)
      (fun s b h1 hs hb => by rw [hg1 _ (fun c hc e => by have := (ix3_inj hi hi hb hc e).1; omega)]; exact q2 s b (by omega) hs hb)
      (fun s hs => by rw [hs1, upd_n (fun e => hif (ix_inj hf hi e).2.symm)]; exact q3 s hs)
      (fun s h1 hs => by rw [hs1, upd_n (fun e => by have := (ix_inj hi hi e).1; omega)]; exact q4 s (by omega) hs)
    refine ⟨σ', t1, t2.tr (e2.tr ⟨⟨rfl, rfl, rfl, rfl, rfl, rfl, rfl, rfl⟩, rfl, rfl⟩), fun z hz => ?_, fun s b h1 hs hb => ?_, fun z hz => ?_, fun s h1 hs => ?_⟩
    · rw [t3 z (fun s b h1 hs hb => hz s b (by omega) hs hb), hg1 z (fun b hb => hz r b (Nat.le_refl r) hr5 hb)]
    · by_cases hsr : s = r
      · rw [hsr, t3 _ (fun s' b' h1' hs' hb' e => by have := (ix3_inj hi hi hb hb' e).1; omega)]
        exact e5 b hb
      · exact t4 s b (by omega) hs hb
    · rw [t5 z (fun s h1 hs => hz s (by omega) hs), hs1, upd_n (hz r (Nat.le_refl r) hr5)]
    · by_cases hsr : s = r
      · rw [hsr, t5 _ (fun s' h1' hs' e => by have := (ix_inj hi hi e).1; omega), hs1, upd_s]
      · exact t6 s (by omega) hs
/-- the reference's loop over both -/
theorem joM (hk : k2 = (nI C, nI A, lenM)) (hC : C ≤ 10) (hi : i < C) (hf : f < C) (gr : Nat → Nat) (hg : ∀ j, j < C → gr j < C) (F : Nat → Option Nat) (hF : ∀ j g, j < C → F j = some g → g < C) : ∀ (d c n : Nat) (σ : sM), c + d = C → d < n → (∀ j, j < C → sM_filler σ j = oI (if j < c then (if F j = some i ∨ F j = some f then none else F j) else F j)) → (∀ j, j < C → sM_group σ j = nI (if j < c then jgr gr i f j else gr j)) →
    ∃ σ', fM_joined_129 fu k2 n σ (nI i) (nI f) (nI c) = some (nI i, σ') ∧ (sM_chosen σ' = sM_chosen σ ∧ sM_counts σ' = sM_counts σ ∧ sM_measured σ' = sM_measured σ ∧ sM_errors σ' = sM_errors σ ∧ sM_maleCount σ' = sM_maleCount σ ∧ sM_sexCount σ' = sM_sexCount σ) ∧ (∀ j, j < C → sM_filler σ' j = oI (if j = i ∨ j = f then none else if F j = some i ∨ F j = some f then none else F j)) ∧ ∀ j, j < C → sM_group σ' j = nI (jgr gr i f j)
  | 0, c, n + 1, σ, hc, hn, h, hgr => by
    rw [fM_joined_129, if_pos (show kM_classes k2 ≤ nI c by rw [show kM_classes k2 = nI C from by rw [hk]; rfl, nI_leI (by omega) (by omega)]; omega), show kM_n k2 2 = 10 from by rw [hk]; rfl, kstI_n (show i < 10 by omega) (by omega)]
    simp only [Option.bind_some]
    rw [kstI_n (show f < 10 by omega) (by omega)]
    simp only [Option.bind_some]
    refine ⟨_, rfl, ⟨rfl, rfl, rfl, rfl, rfl, rfl⟩, fun j hj => ?_, fun j hj => ?_⟩
    · show upd (upd (sM_filler σ) i (-1)) f (-1) j = _
      by_cases h1 : j = f
      · rw [h1, upd_s, if_pos (Or.inr rfl)]; rfl
      · rw [upd_n h1]
        by_cases h2 : j = i
        · rw [h2, upd_s, if_pos (Or.inl rfl)]; rfl
        · rw [upd_n h2, h j hj, if_pos (show j < c by omega), if_neg (show ¬ (j = i ∨ j = f) from fun q => q.elim h2 h1)]
    · show sM_group σ j = _
      rw [hgr j hj, if_pos (by omega)]
  | d + 1, c, n + 1, σ, hc, hn, h, hgr => by
    have hcC : c < C := by omega
    have hgc := hg c hcC
    have hb : ∀ b, F c = some b → b < 2 ^ 31 := fun b hb => by have := hF c b hcC hb; omega
    have nC : kM_n k2 2 = 10 := by rw [hk]; rfl
    have nG : kM_n k2 1 = 10 := by rw [hk]; rfl
    rw [fM_joined_129, if_neg (show ¬ kM_classes k2 ≤ nI c by rw [show kM_classes k2 = nI C from by rw [hk]; rfl, nI_leI (by omega) (by omega)]; omega), nC, kld_n (show c < 10 by omega) (by omega), h c hcC, if_neg (show ¬ c < c by omega)]
    simp only [Option.bind_some]
    have h178 : ∀ o : Option Nat, o = (if F c = some i ∨ F c = some f then none else F c) → ∃ σ', fM_joined_178 fu k2 (fM_joined_129 fu k2 n) σ (nI c) (oI o) (nI i) (nI f) (nI c) = some (nI i, σ') ∧ (sM_chosen σ' = sM_chosen σ ∧ sM_counts σ' = sM_counts σ ∧ sM_measured σ' = sM_measured σ ∧ sM_errors σ' = sM_errors σ ∧ sM_maleCount σ' = sM_maleCount σ ∧ sM_sexCount σ' = sM_sexCount σ) ∧ (∀ j, j < C → sM_filler σ' j = oI (if j = i ∨ j = f then none else if F j = some i ∨ F j = some f then none else F j)) ∧ ∀ j, j < C → sM_group σ' j = nI (jgr gr i f j) := by
      intro o ho
      unfold fM_joined_178 fM_joined_208
      rw [nC, nG, kstI_n (show c < 10 by omega) (by omega)]
      simp only [Option.bind_some]
      rw [show sM_group (uM_filler σ (upd (sM_filler σ) c (oI o))) = sM_group σ from rfl, kld_n (show c < 10 by omega) (by omega), hgr c hcC, if_neg (show ¬ c < c by omega)]
      simp only [Option.bind_some]
      have hfin : (if nI (gr c) = nI f then (kstI 10 (sM_group σ) (nI c) (nI i)).bind (fun a208 => fM_joined_129 fu k2 n (uM_group (uM_filler σ (upd (sM_filler σ) c (oI o))) a208) (nI i) (nI f) (nI c + 1)) else (kstI 10 (sM_group σ) (nI c) (nI (gr c))).bind (fun a208 => fM_joined_129 fu k2 n (uM_group (uM_filler σ (upd (sM_filler σ) c (oI o))) a208) (nI i) (nI f) (nI c + 1))) = fM_joined_129 fu k2 n (uM_group (uM_filler σ (upd (sM_filler σ) c (oI o))) (upd (sM_group σ) c (nI (jgr gr i f c)))) (nI i) (nI f) (nI (c + 1)) := by
        rw [kstI_n (show c < 10 by omega) (by omega), kstI_n (show c < 10 by omega) (by omega), nI_1]
        simp only [Option.bind_some]
        unfold jgr
        by_cases h1 : gr c = f
        · rw [if_pos (show nI (gr c) = nI f by rw [h1]), if_pos h1]
        · rw [if_neg (show ¬ nI (gr c) = nI f by rw [nI_eq (by omega) (by omega)]; exact h1), if_neg h1]
      rw [hfin]
      obtain ⟨σ', e1, e2, e3, e4⟩ := joM hk hC hi hf gr hg F hF d (c + 1) n (uM_group (uM_filler σ (upd (sM_filler σ) c (oI o))) (upd (sM_group σ) c (nI (jgr gr i f c)))) (by omega) (by omega)
        (fun j hj => by
          show upd (sM_filler σ) c (oI o) j = _
          by_cases hjc : j = c
          · rw [hjc, upd_s, if_pos (by omega), ho]
          · rw [upd_n hjc, h j hj]
            by_cases hjl : j < c
            · rw [if_pos hjl, if_pos (show j < c + 1 by omega)]
            · rw [if_neg hjl, if_neg (show ¬ j < c + 1 by omega)])
        (fun j hj => by
          show upd (sM_group σ) c (nI (jgr gr i f c)) j = _
          by_cases hjc : j = c
          · rw [hjc, upd_s, if_pos (by omega)]
          · rw [upd_n hjc, hgr j hj]
            by_cases hjl : j < c
            · rw [if_pos hjl, if_pos (show j < c + 1 by omega)]
            · rw [if_neg hjl, if_neg (show ¬ j < c + 1 by omega)])
      exact ⟨σ', e1, ⟨e2.1, e2.2.1, e2.2.2.1, e2.2.2.2.1, e2.2.2.2.2.1, e2.2.2.2.2.2⟩, e3, e4⟩
    unfold fM_joined_167
    by_cases h1 : F c = some i
    · rw [if_pos ((oI_eq hb (by omega)).mpr h1)]
      exact h178 none (by rw [if_pos (Or.inl h1)])
    · rw [if_neg (show ¬ oI (F c) = nI i by rw [oI_eq hb (by omega)]; exact h1)]
      by_cases h2 : F c = some f
      · rw [if_pos ((oI_eq hb (by omega)).mpr h2)]
        exact h178 none (by rw [if_pos (Or.inr h2)])
      · rw [if_neg (show ¬ oI (F c) = nI f by rw [oI_eq hb (by omega)]; exact h2)]
        exact h178 (F c) (by rw [if_neg (fun q => q.elim h1 h2)])
end J2
