/-! A new object: class and reference hold the same empty state. -/
def e0 (f t : Nat) : Nat := if f = t then 20 else 0
def zK (σ : sK) : Prop := sK_chosenRow σ = nI 4 ∧ (∀ z, sK_readings σ z = 0) ∧ (∀ z, sK_rowSize σ z = 0) ∧ (∀ z, sK_groupReadings σ z = 0) ∧ (∀ z, sK_groupSize σ z = 0) ∧ (∀ z, sK_measured σ z = 0) ∧ sK_measuredInAll σ = 0 ∧ (∀ z, sK_maleCount σ z = 0) ∧ (∀ z, sK_lookedAt σ z = 0)
section NW
variable {C A fu : Nat}
theorem nwK2 (hA : A ≤ 6) : ∀ (d a n : Nat) (σ : sK), a + d = A → d < n → zK σ → (∀ j, j < C → sK_groupOf σ j = nI j ∧ sK_filledBy σ j = -1) → (∀ f t, f < A → t < A → sK_errors σ (f * A + t) = nI (if f < a then e0 f t else 0)) → ∃ σ', fK_init_247 fu (k0K C A) n σ (nI a) = some σ' ∧ zK σ' ∧ (∀ j, j < C → sK_groupOf σ' j = nI j ∧ sK_filledBy σ' j = -1) ∧ (∀ f t, f < A → t < A → sK_errors σ' (f * A + t) = nI (e0 f t))
  | 0, a, n + 1, σ, ha, hn, h1, h2, h3 => by
    rw [fK_init_247, if_pos ((leA (C := C) (k := k0K C A) rfl (by omega) (by omega)).mpr (by omega))]
    exact ⟨σ, rfl, h1, h2, fun f t hf ht => by rw [h3 f t hf ht, if_pos (by omega)]⟩
  | d + 1, a, n + 1, σ, ha, hn, h1, h2, h3 => by
    have h36 := mul_le36 hA
    have haA : a < A := by omega
    rw [fK_init_247, if_neg (show ¬ kK_ages (k0K C A) ≤ nI a by rw [leA (C := C) rfl (by omega) (by omega)]; omega), show kK_ages (k0K C A) = nI A from rfl, show kK_n (k0K C A) 7 = A * A from rfl, pk_mul, nI_add, kstI_n (ix2_lt haA haA) (by omega)]
    simp only [Option.bind_some]
    rw [nI_1]
    exact nwK2 hA d (a + 1) n (uK_errors σ (upd (sK_errors σ) (a * A + a) 20)) (by omega) (by omega) h1 h2 (fun f t hf ht => by
      show upd (sK_errors σ) (a * A + a) 20 (f * A + t) = _
      by_cases h : f = a ∧ t = a
      · rw [h.1, h.2, upd_s, if_pos (by omega)]; unfold e0; rw [if_pos rfl]; rfl
      · rw [upd_n (fun e => h (ix_inj ht haA e)), h3 f t hf ht]
        by_cases hfa : f < a
        · rw [if_pos hfa, if_pos (by omega)]
        · rw [if_neg hfa]
          by_cases hf2 : f < a + 1
          · rw [if_pos hf2]; unfold e0; rw [if_neg (fun q => h ⟨by omega, by omega⟩)]
          · rw [if_neg hf2])
theorem nwK1 (hC : C ≤ 10) (hA : A ≤ 6) (hfu : 200 ≤ fu) : ∀ (d c n : Nat) (σ : sK), c + d = C → d < n → zK σ → (∀ j, j < c → sK_groupOf σ j = nI j ∧ sK_filledBy σ j = -1) → (∀ z, sK_errors σ z = 0) → ∃ σ', fK_init_217 fu (k0K C A) n σ (nI c) = some σ' ∧ zK σ' ∧ (∀ j, j < C → sK_groupOf σ' j = nI j ∧ sK_filledBy σ' j = -1) ∧ (∀ f t, f < A → t < A → sK_errors σ' (f * A + t) = nI (e0 f t))
  | 0, c, n + 1, σ, hc, hn, h1, h2, h3 => by
    rw [fK_init_217, if_pos ((leC (A := A) (k := k0K C A) (b := 0) rfl (by omega) (by omega)).mpr (by omega))]
    exact nwK2 hA A 0 fu σ (by omega) (by omega) h1 (fun j hj => h2 j (by omega)) (fun f t _ _ => by rw [h3, if_neg (by omega)]; rfl)
  | d + 1, c, n + 1, σ, hc, hn, h1, h2, h3 => by
    have hcC : c < C := by omega
    rw [fK_init_217, if_neg (show ¬ kK_classes (k0K C A) ≤ nI c by rw [leC (A := A) (b := 0) rfl (by omega) (by omega)]; omega), show kK_n (k0K C A) 4 = C from rfl, show kK_n (k0K C A) 5 = C from rfl, kstI_n hcC (by omega)]
    simp only [Option.bind_some]
    rw [kstI_n hcC (by omega)]
    simp only [Option.bind_some]
    rw [nI_1]
    exact nwK1 hC hA hfu d (c + 1) n _ (by omega) (by omega) h1 (fun j hj => by
      constructor
      · show upd (sK_groupOf σ) c (nI c) j = _
        by_cases h : j = c
        · rw [h, upd_s]
        · rw [upd_n h]; exact (h2 j (by omega)).1
      · show upd (sK_filledBy σ) c (-1) j = _
        by_cases h : j = c
        · rw [h, upd_s]
        · rw [upd_n h]; exact (h2 j (by omega)).2) h3
def zM (σ : sM) : Prop := sM_chosen σ = -1 ∧ (∀ z, sM_counts σ z = 0) ∧ (∀ z, sM_measured σ z = 0) ∧ (∀ z, sM_maleCount σ z = 0) ∧ (∀ z, sM_sexCount σ z = 0)
theorem nwM2 {k : kM} (hk : k.2.2 = lenM) : ∀ (d a n : Nat) (σ : sM), a + d = 6 → d < n → zM σ → (∀ j, j < 10 → sM_group σ j = nI j ∧ sM_filler σ j = -1) → (∀ f t, f < 6 → t < 6 → sM_errors σ (6 * f + t) = nI (if f < a then e0 f t else 0)) → ∃ σ', fM_init_154 fu k n σ (nI a) = some σ' ∧ zM σ' ∧ (∀ j, j < 10 → sM_group σ' j = nI j ∧ sM_filler σ' j = -1) ∧ (∀ f t, f < 6 → t < 6 → sM_errors σ' (6 * f + t) = nI (e0 f t))
  | 0, a, n + 1, σ, ha, hn, h1, h2, h3 => by
    rw [fM_init_154, if_pos (show (6 : Int32) ≤ nI a by rw [show (6 : Int32) = nI 6 from rfl, nI_leI (by omega) (by omega)]; omega)]
    exact ⟨σ, rfl, h1, h2, fun f t hf ht => by rw [h3 f t hf ht, if_pos (by omega)]⟩
  | d + 1, a, n + 1, σ, ha, hn, h1, h2, h3 => by
    rw [fM_init_154, if_neg (show ¬ (6 : Int32) ≤ nI a by rw [show (6 : Int32) = nI 6 from rfl, nI_leI (by omega) (by omega)]; omega), show kM_n k 4 = 36 from by unfold kM_n; rw [hk]; rfl, show (6 : Int32) = nI 6 from rfl, pk_mul, nI_add, kstI_n (show 6 * a + a < 36 by omega) (by omega)]
    simp only [Option.bind_some]
    rw [nI_1]
    exact nwM2 hk d (a + 1) n (uM_errors σ (upd (sM_errors σ) (6 * a + a) 20)) (by omega) (by omega) h1 h2 (fun f t hf ht => by
      show upd (sM_errors σ) (6 * a + a) 20 (6 * f + t) = _
      by_cases h : f = a ∧ t = a
      · rw [h.1, h.2, upd_s, if_pos (by omega)]; unfold e0; rw [if_pos rfl]; rfl
      · rw [upd_n (by omega), h3 f t hf ht]
        by_cases hfa : f < a
        · rw [if_pos hfa, if_pos (by omega)]
        · rw [if_neg hfa]
          by_cases hf2 : f < a + 1
          · rw [if_pos hf2]; unfold e0; rw [if_neg (fun q => h ⟨by omega, by omega⟩)]
          · rw [if_neg hf2])
theorem nwM1 {k : kM} (hk : k.2.2 = lenM) (hfu : 200 ≤ fu) : ∀ (d c n : Nat) (σ : sM), c + d = 10 → d < n → zM σ → (∀ j, j < c → sM_group σ j = nI j ∧ sM_filler σ j = -1) → (∀ z, sM_errors σ z = 0) → ∃ σ', fM_init_126 fu k n σ (nI c) = some σ' ∧ zM σ' ∧ (∀ j, j < 10 → sM_group σ' j = nI j ∧ sM_filler σ' j = -1) ∧ (∀ f t, f < 6 → t < 6 → sM_errors σ' (6 * f + t) = nI (e0 f t))
  | 0, c, n + 1, σ, hc, hn, h1, h2, h3 => by
    rw [fM_init_126, if_pos (show (10 : Int32) ≤ nI c by rw [show (10 : Int32) = nI 10 from rfl, nI_leI (by omega) (by omega)]; omega)]
    exact nwM2 hk 6 0 fu σ (by omega) (by omega) h1 (fun j hj => h2 j (by omega)) (fun f t _ _ => by rw [h3, if_neg (by omega)]; rfl)
  | d + 1, c, n + 1, σ, hc, hn, h1, h2, h3 => by
    rw [fM_init_126, if_neg (show ¬ (10 : Int32) ≤ nI c by rw [show (10 : Int32) = nI 10 from rfl, nI_leI (by omega) (by omega)]; omega), show kM_n k 1 = 10 from by unfold kM_n; rw [hk]; rfl, show kM_n k 2 = 10 from by unfold kM_n; rw [hk]; rfl, kstI_n (show c < 10 by omega) (by omega)]
    simp only [Option.bind_some]
    rw [kstI_n (show c < 10 by omega) (by omega)]
    simp only [Option.bind_some]
    rw [nI_1]
    exact nwM1 hk hfu d (c + 1) n _ (by omega) (by omega) h1 (fun j hj => by
      constructor
      · show upd (sM_group σ) c (nI c) j = _
        by_cases h : j = c
        · rw [h, upd_s]
        · rw [upd_n h]; exact (h2 j (by omega)).1
      · show upd (sM_filler σ) c (-1) j = _
        by_cases h : j = c
        · rw [h, upd_s]
        · rw [upd_n h]; exact (h2 j (by omega)).2) h3
/-- both clamp alike -/
theorem clampT (x : Int32) {B : Nat} (hB : 1 ≤ B) (hB2 : B ≤ 10) : ∃ C, 1 ≤ C ∧ C ≤ B ∧ (if (1 : Int32) < (if x < nI B then x else nI B) then (if x < nI B then x else nI B) else 1) = nI C ∧ clampM x (nI B) = nI C := by
  unfold clampM
  by_cases h1 : 1 ≤ x
  · have h0 : ¬ x < 0 := by
      intro q
      rw [Int32.lt_iff_toInt_lt, Int32.toInt_zero] at q
      rw [Int32.le_iff_toInt_le] at h1
      have : (1 : Int32).toInt = 1 := by decide
      omega
    obtain ⟨n, hn, rfl⟩ := nI_of h0
    have h1n : 1 ≤ n := by rw [show (1 : Int32) = nI 1 from rfl, nI_leI (by omega) hn] at h1; exact h1
    rw [if_pos h1]
    by_cases h2 : n ≤ B
    · refine ⟨n, h1n, h2, ?_, by rw [if_pos ((nI_leI hn (by omega)).mpr h2)]⟩
      have e : (if nI n < nI B then nI n else nI B) = nI n := by
        by_cases q : n < B
        · rw [if_pos ((nI_ltI hn (by omega)).mpr q)]
        · rw [if_neg (by rw [nI_ltI hn (by omega)]; exact q), show B = n by omega]
      rw [e]
      by_cases q : n = 1
      · rw [q, if_neg (by decide)]; rfl
      · rw [if_pos (show (1 : Int32) < nI n by rw [show (1 : Int32) = nI 1 from rfl, nI_ltI (by omega) hn]; omega)]
    · refine ⟨B, hB, Nat.le_refl B, ?_, by rw [if_neg (by rw [nI_leI hn (by omega)]; exact h2)]⟩
      rw [if_neg (show ¬ nI n < nI B by rw [nI_ltI hn (by omega)]; omega)]
      by_cases q : B = 1
      · rw [q, if_neg (by decide)]; rfl
      · rw [if_pos (show (1 : Int32) < nI B by rw [show (1 : Int32) = nI 1 from rfl, nI_ltI (by omega) (by omega)]; omega)]
  · refine ⟨1, Nat.le_refl 1, hB, ?_, by rw [if_neg h1]; rfl⟩
    have hx1 : x.toInt < 1 := by
      rw [Int32.le_iff_toInt_le] at h1
      have : (1 : Int32).toInt = 1 := by decide
      omega
    have e : (if x < nI B then x else nI B) = x := if_pos (by rw [Int32.lt_iff_toInt_lt, nI_toInt (by omega)]; omega)
    rw [e, if_neg (show ¬ (1 : Int32) < x by rw [Int32.lt_iff_toInt_lt]; have : (1 : Int32).toInt = 1 := by decide
                                             omega)]
    rfl
theorem op_new (hC1 : 1 ≤ C) (hC : C ≤ 10) (hA1 : 1 ≤ A) (hA : A ≤ 6) : ∃ σ' σ2', fK_init_217 200 (k0K C A) 200 s0K 0 = some σ' ∧ fM_init_126 200 (nI C, nI A, lenM) 200 s0M 0 = some σ2' ∧ Rel (k0K C A) σ' (nI C, nI A, lenM) σ2' := by
  obtain ⟨σ', a1, a2, a3, a4⟩ := nwK1 (C := C) (A := A) (fu := 200) hC hA (Nat.le_refl _) C 0 200 s0K (by omega) (by omega) ⟨rfl, fun _ => rfl, fun _ => rfl, fun _ => rfl, fun _ => rfl, fun _ => rfl, rfl, fun _ => rfl, fun _ => rfl⟩ (fun j hj => absurd hj (by omega)) (fun _ => rfl)
  obtain ⟨τ, b1, b2, b3, b4⟩ := nwM1 (fu := 200) (k := (nI C, nI A, lenM)) rfl (Nat.le_refl _) 10 0 200 s0M (by omega) (by omega) ⟨rfl, fun _ => rfl, fun _ => rfl, fun _ => rfl, fun _ => rfl⟩ (fun j hj => absurd hj (by omega)) (fun _ => rfl)
  refine ⟨σ', τ, a1, b1, C, A, fun _ _ _ => 0, 4, fun c => c, fun _ => none, fun _ => 0, e0, fun _ => 0, fun _ => 0, ?_, ?_, ?_⟩
  · have hrd : ∀ r c a : Nat, rd (fun _ _ _ => 0) r c a = 0 := fun r c a => by unfold rd; split <;> rfl
    have htt : tt C A (fun _ _ _ => 0) 4 = 0 := su_zero C 0 (fun c _ _ => su_zero A 0 (fun a _ _ => hrd _ _ _))
    refine ⟨⟨hC1, hC, hA1, hA, by omega⟩, fun c hc => ⟨hc, rfl⟩, fun c g _ h => (by cases h), (by rw [htt]; omega), fun g _ => ?_, ?_, fun f t _ _ => ?_, fun _ _ => ⟨Nat.le_refl _, Nat.zero_le _⟩⟩
    · rw [show gT C A (fun c => c) (fun _ _ _ => 0) 4 g = 0 from su_zero C 0 (fun c _ _ => by
        split
        · exact su_zero A 0 (fun a _ _ => hrd _ _ _)
        · rfl)]
      omega
    · rw [su_zero C 0 (fun _ _ _ => rfl)]; omega
    · unfold e0; split <;> omega
  · have hrd : ∀ r c a : Nat, rd (fun _ _ _ => 0) r c a = 0 := fun r c a => by unfold rd; split <;> rfl
    obtain ⟨z1, z2, z3, z4, z5, z6, z7, z8, z9⟩ := a2
    refine ⟨rfl, z1, fun r c a _ _ _ => by rw [z2, hrd]; rfl, fun r _ => ?_, fun r g a _ _ _ _ => ?_, fun r g _ _ _ => ?_, fun c hc => (a3 c hc).1, fun c hc => (a3 c hc).2, fun c _ => by rw [z6]; rfl, ?_, a4, fun c _ => by rw [z8]; rfl, fun c _ => by rw [z9]; rfl⟩
    · rw [z3, show tt C A (fun _ _ _ => 0) r = 0 from su_zero C 0 (fun c _ _ => su_zero A 0 (fun a _ _ => hrd _ _ _))]; rfl
    · rw [z4, show gN C (fun c => c) (fun _ _ _ => 0) r g a = 0 from su_zero C 0 (fun c _ _ => by
        split
        · exact hrd _ _ _
        · rfl)]; rfl
    · rw [z5, show gT C A (fun c => c) (fun _ _ _ => 0) r g = 0 from su_zero C 0 (fun c _ _ => by
        split
        · exact su_zero A 0 (fun a _ _ => hrd _ _ _)
        · rfl)]; rfl
    · rw [z7, su_zero C 0 (fun _ _ _ => rfl)]; rfl
  · obtain ⟨z1, z2, z3, z4, z5⟩ := b2
    exact ⟨rfl, z1, fun p c a _ _ _ => by rw [z2]; rfl, fun c hc => (b3 c (by omega)).1, fun c hc => (b3 c (by omega)).2, fun c _ => by rw [z3]; rfl, fun f t hf ht => b4 f t (by omega) (by omega), fun c _ => by rw [z4]; rfl, fun c _ => by rw [z5]; rfl⟩
end NW
