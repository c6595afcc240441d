/-! raised, sums: both together. -/
section R2
variable {C A : Nat} {ct : Nat → Nat → Nat → Nat} {ch : Nat} {gr : Nat → Nat} {fl : Nat → Option Nat} {ms : Nat → Nat} {er : Nat → Nat → Nat} {ml lk : Nat → Nat} {k : kK} {σ : sK} {k2 : kM} {σ2 : sM} {fu : Nat}
theorem r27 (hO : okS C A ct ch gr fl ms er ml lk) (hM : repM k2 σ2 C A ct ch gr fl ms er ml lk) (hfu : 200 ≤ fu) (x1 : Int64) (x3 : Int32) : ∃ σ', fM_raise_27 fu k2 σ2 x1 x3 = some (0, σ') ∧ repM k2 σ' C A ct ch gr fl ms er ml lk := by
  have hC := hO.1
  unfold fM_raise_27 fM_raise_28 fM_raise_53
  rw [if_pos (show (0 : Int32) = 0 from rfl)]
  obtain ⟨f2, rfl⟩ : ∃ f2, fu = f2 + 1 := ⟨fu - 1, by omega⟩
  rw [fM_raise_59, if_neg (show ¬ kM_classes k2 ≤ 0 by rw [show kM_classes k2 = nI C from by rw [hM.1]; rfl, pos_n (by omega)]; omega), if_pos (show (0 : Int32) = 0 from rfl)]
  exact ⟨_, rfl, hM⟩
/-- either both can, or neither -/
theorem canT (hO : okS C A ct ch gr fl ms er ml lk) (hR : repK k σ C A ct ch gr fl ms er ml lk) (hfu : 200 ≤ fu) (x1 : Int64) : (fK_canRaise fu k σ x1 = some 0 ∧ ∀ σ2 x3, repM k2 σ2 C A ct ch gr fl ms er ml lk → (∃ a, a < A ∧ x3 = nI a) → ∃ σ', fM_raise fu k2 σ2 x1 x3 = some (0, σ') ∧ repM k2 σ' C A ct ch gr fl ms er ml lk) ∨
    (fK_canRaise fu k σ x1 = some 1 ∧ 0 < su ms 0 C ∧ ∃ N, N ≤ 10000 ∧ x1 = lN N ∧ ∀ σ2 a, repM k2 σ2 C A ct ch gr fl ms er ml lk → a < A → ∃ σ', fM_raise fu k2 σ2 x1 (nI a) = some (1, σ') ∧ repM k2 σ' C A ct ch gr fl ms er ml lk ∧ sM_above σ' = lN (N * MO C A gr ct fl ms ch a) ∧ sM_below σ' = lN (su ms 0 C) * lN PP) := by
  have hC := hO.1
  have hS := hO.2.2.2.2.2.1
  unfold fK_canRaise fM_raise
  by_cases h1 : x1 < 0
  · rw [if_pos h1]
    exact Or.inl ⟨rfl, fun σ2 x3 hM _ => by rw [if_pos h1]; exact r27 hO hM hfu x1 x3⟩
  rw [if_neg h1]
  by_cases h2 : (10000 : Int64) < x1
  · rw [if_pos h2]
    exact Or.inl ⟨rfl, fun σ2 x3 hM _ => by rw [if_neg h1, if_pos h2]; exact r27 hO hM hfu x1 x3⟩
  rw [if_neg h2, hR.2.2.2.2.2.2.2.2.2.1]
  obtain ⟨N, hN, rfl⟩ := pk_lOf h1
  have hN2 : N ≤ 10000 := by
    rw [show (10000 : Int64) = lN 10000 from rfl, pk_lLT (by omega) hN] at h2
    omega
  by_cases h3 : su ms 0 C = 0
  · rw [if_pos ((ms0 hS).2.mpr h3)]
    exact Or.inl ⟨rfl, fun σ2 x3 hM _ => by
      rw [if_neg h1, if_neg h2, allM hO hM hfu]
      simp only [Option.bind_some]
      rw [if_pos ((ms0 hS).1.mpr h3)]
      exact r27 hO hM hfu _ x3⟩
  rw [if_neg (show ¬ lN (su ms 0 C) = 0 by rw [(ms0 hS).2]; exact h3)]
  have hcr := crK (fu := fu) hO hR C 0 fu (by omega) (by omega)
  have mm : ∀ σ2 a, repM k2 σ2 C A ct ch gr fl ms er ml lk → a < A → ∃ σ', repM k2 σ' C A ct ch gr fl ms er ml lk ∧ sM_below σ' = lN (su ms 0 C) * lN PP ∧ ((∀ j, 0 ≤ j → j < C → okc C A gr ct fl ms ch j) → (if lN N < 0 then fM_raise_27 fu k2 σ2 (lN N) (nI a) else if (10000 : Int64) < lN N then fM_raise_27 fu k2 σ2 (lN N) (nI a) else (fM_allMeasured fu k2 σ2).bind fun v15 => if v15 ≤ 0 then fM_raise_27 fu k2 σ2 (lN N) (nI a) else fM_raise_28 fu k2 σ2 1 (lN N) (nI a)) = some (1, σ') ∧ sM_above σ' = lN (0 + N * su (moF C A gr ct fl ms ch a) 0 C)) ∧ ((∃ j, 0 ≤ j ∧ j < C ∧ ¬ okc C A gr ct fl ms ch j) → (if lN N < 0 then fM_raise_27 fu k2 σ2 (lN N) (nI a) else if (10000 : Int64) < lN N then fM_raise_27 fu k2 σ2 (lN N) (nI a) else (fM_allMeasured fu k2 σ2).bind fun v15 => if v15 ≤ 0 then fM_raise_27 fu k2 σ2 (lN N) (nI a) else fM_raise_28 fu k2 σ2 1 (lN N) (nI a)) = some (0, σ')) := by
    intro σ2 a hM ha
    obtain ⟨σ', z1, z2, z3, z4⟩ := rM_loop (fu := fu) (k2 := k2) (N := N) (B := lN (su ms 0 C) * lN PP) hO hfu ha C 0 fu 0 (uM_below (uM_above σ2 0) (lN (su ms 0 C) * lN PP)) hM (by omega) (by omega) rfl rfl
    rw [if_neg h1, if_neg h2, allM hO hM hfu]
    simp only [Option.bind_some]
    rw [if_neg (show ¬ lN (su ms 0 C) ≤ 0 by rw [(ms0 hS).1]; exact h3)]
    unfold fM_raise_28 fM_raise_53
    rw [if_neg one_ne, show fM_allMeasured fu k2 (uM_above σ2 0) = some (lN (su ms 0 C)) from allM (σ2 := uM_above σ2 0) hO hM hfu]
    simp only [Option.bind_some]
    exact ⟨σ', z1, z2, z3, z4⟩
  by_cases hall : ∀ j, 0 ≤ j → j < C → okc C A gr ct fl ms ch j
  · refine Or.inr ⟨hcr.1 hall, by omega, N, hN2, rfl, fun σ2 a hM ha => ?_⟩
    obtain ⟨σ', z1, z2, z3, -⟩ := mm σ2 a hM ha
    obtain ⟨w1, w2⟩ := z3 hall
    rw [Nat.zero_add] at w2
    exact ⟨σ', w1, z1, w2, z2⟩
  · have hex : ∃ j, 0 ≤ j ∧ j < C ∧ ¬ okc C A gr ct fl ms ch j := by
      refine Classical.byContradiction (fun q => hall (fun j q1 q2 => ?_))
      exact Classical.byContradiction (fun w => q ⟨j, q1, q2, w⟩)
    refine Or.inl ⟨hcr.2 hex, fun σ2 x3 hM ⟨a, ha, hx⟩ => ?_⟩
    rw [hx]
    obtain ⟨σ', z1, z2, -, z4⟩ := mm σ2 a hM ha
    exact ⟨σ', z4 hex, z1⟩
theorem op_raised (hO : okS C A ct ch gr fl ms er ml lk) (hR : repK k σ C A ct ch gr fl ms er ml lk) (hM : repM k2 σ2 C A ct ch gr fl ms er ml lk) (hfu : 200 ≤ fu) (x1 : Int64) (x3 x4 : Int32) : ∃ r σ2', fK_raised fu k σ x1 x3 x4 = some r ∧ fM_raised fu k2 σ2 x1 x3 x4 = some (r, σ2') ∧ repM k2 σ2' C A ct ch gr fl ms er ml lk := by
  have hC := hO.1
  have hS := hO.2.2.2.2.2.1
  unfold fK_raised fM_raised
  rcases ageT hO hR hM x3 with ⟨a, ha, rfl, f1, f2⟩ | ⟨f1, f2⟩
  rotate_left
  · rw [f1, f2]; exact ⟨_, _, rfl, rfl, hM⟩
  rw [f1, f2, if_neg one_ne, if_neg one_ne, partT]
  rcases part01 x4 with ⟨p1, -⟩ | p1
  rotate_left
  · rw [p1]; exact ⟨_, _, rfl, rfl, hM⟩
  rw [p1, if_neg one_ne, if_neg one_ne]
  rcases canT (k2 := k2) hO hR hfu x1 with ⟨c1, c2⟩ | ⟨c1, c2, N, hN, rfl, c3⟩
  · obtain ⟨σ', w1, w2⟩ := c2 σ2 (nI a) hM ⟨a, ha, rfl⟩
    rw [c1, w1]
    exact ⟨_, σ', rfl, rfl, w2⟩
  · obtain ⟨σ', w1, w2, w3, w4⟩ := c3 σ2 a hM ha
    have hmo := MO_le hO ha
    have e1 : N * MO C A gr ct fl ms ch a ≤ 10000 * (PP * 10000) := Nat.mul_le_mul hN (Nat.le_trans hmo (Nat.mul_le_mul_left _ hS))
    have e2 : su ms 0 C * PP ≤ 10000 * PP := Nat.mul_le_mul_right _ hS
    have e3 : 0 < su ms 0 C * PP := Nat.mul_pos c2 (by decide)
    have e4 : PP = 232792560 := rfl
    have hmk := moK (fu := fu) hO hR ha C 0 0 fu (by omega) (by omega)
    rw [Nat.zero_add] at hmk
    unfold fK_measuredOfAge
    rw [c1, show (0 : Int32) = nI 0 from rfl, show (0 : Int64) = lN 0 from rfl, hmk, w1]
    simp only [Option.bind_some, kbind2]
    rw [if_neg (show ¬ (1 : Int32) = nI 0 from one_ne), if_neg (show ¬ (1 : Int32) = nI 0 from one_ne), w3, w4, hR.2.2.2.2.2.2.2.2.2.1, show (232792560 : Int64) = lN PP from rfl, lN_mul, lN_mul]
    rw [show su (moF C A gr ct fl ms ch a) 0 C = MO C A gr ct fl ms ch a from rfl, fracK hfu (by omega) e3 (by omega), fracM hfu (by omega) e3 (by omega)]
    exact ⟨_, σ', rfl, rfl, w2⟩
theorem suK (hO : okS C A ct ch gr fl ms er ml lk) (hR : repK k σ C A ct ch gr fl ms er ml lk) {N : Nat} : ∀ (d a acc n : Nat), fu = fu → 200 ≤ fu → a + d = A → d < n → fK_sums_15 fu k σ n (lN N) (lN acc) (nI a) = some (if lN (acc + su (fun a => N * MO C A gr ct fl ms ch a) a d) = lN (N * (su ms 0 C * PP)) then 1 else 0)
  | 0, a, acc, n + 1, _, hfu, ha, hn => by
    have hC := hO.1
    rw [fK_sums_15, if_pos ((leA hR.1 (by omega) (by omega)).mpr (by omega)), hR.2.2.2.2.2.2.2.2.2.1, show (232792560 : Int64) = lN PP from rfl, lN_mul, lN_mul, Nat.mul_assoc]
    show (if lN acc = lN (N * (su ms 0 C * PP)) then some 1 else some 0) = some (if lN acc = lN (N * (su ms 0 C * PP)) then 1 else 0)
    split <;> rfl
  | d + 1, a, acc, n + 1, _, hfu, ha, hn => by
    have hC := hO.1
    have hmk := moK (fu := fu) hO hR (show a < A by omega) C 0 0 fu (by omega) (by omega)
    rw [Nat.zero_add] at hmk
    rw [fK_sums_15, if_neg (show ¬ kK_ages k ≤ nI a by rw [leA hR.1 (by omega) (by omega)]; omega)]
    unfold fK_measuredOfAge
    rw [show (0 : Int32) = nI 0 from rfl, show (0 : Int64) = lN 0 from rfl, hmk]
    simp only [Option.bind_some]
    rw [lN_mul, lN_add, nI_1, suK hO hR d (a + 1) _ n rfl hfu (by omega) (by omega), Nat.add_assoc]
    rfl
theorem suM (hO : okS C A ct ch gr fl ms er ml lk) {N : Nat} {x1 : Int64} (hx : x1 = lN N) (hfu : 200 ≤ fu) (c3 : ∀ σ2 a, repM k2 σ2 C A ct ch gr fl ms er ml lk → a < A → ∃ σ', fM_raise fu k2 σ2 x1 (nI a) = some (1, σ') ∧ repM k2 σ' C A ct ch gr fl ms er ml lk ∧ sM_above σ' = lN (N * MO C A gr ct fl ms ch a) ∧ sM_below σ' = lN (su ms 0 C) * lN PP) : ∀ (d a acc n : Nat) (σ2 : sM), repM k2 σ2 C A ct ch gr fl ms er ml lk → a + d = A → d < n → (d = 0 → sM_below σ2 = lN (su ms 0 C) * lN PP) → ∃ σ', fM_sums_8 fu k2 n σ2 x1 1 (lN acc) (nI a) = some (if lN (acc + su (fun a => N * MO C A gr ct fl ms ch a) a d) = lN (N * (su ms 0 C * PP)) then 1 else 0, σ') ∧ repM k2 σ' C A ct ch gr fl ms er ml lk
  | 0, a, acc, n + 1, σ2, hM, ha, hn, hb => by
    have hC := hO.1
    rw [fM_sums_8, if_pos (show kM_ages k2 ≤ nI a by rw [show kM_ages k2 = nI A from by rw [hM.1]; rfl, nI_leI (by omega) (by omega)]; omega), if_neg one_ne, hb rfl, hx, lN_mul, lN_mul]
    refine ⟨σ2, ?_, hM⟩
    show (if lN acc = lN (N * (su ms 0 C * PP)) then some (1, σ2) else some (0, σ2)) = some (if lN acc = lN (N * (su ms 0 C * PP)) then 1 else 0, σ2)
    split <;> rfl
  | d + 1, a, acc, n + 1, σ2, hM, ha, hn, hb => by
    have hC := hO.1
    obtain ⟨σ', w1, w2, w3, w4⟩ := c3 σ2 a hM (by omega)
    rw [fM_sums_8, if_neg (show ¬ kM_ages k2 ≤ nI a by rw [show kM_ages k2 = nI A from by rw [hM.1]; rfl, nI_leI (by omega) (by omega)]; omega), if_neg one_ne, w1]
    simp only [kbind2]
    unfold fM_sums_36 fM_sums_51
    rw [if_neg one_ne, if_neg one_ne, w3, lN_add, nI_1]
    obtain ⟨τ, y1, y2⟩ := suM hO hx hfu c3 d (a + 1) (acc + N * MO C A gr ct fl ms ch a) n σ' w2 (by omega) (by omega) (fun _ => w4)
    refine ⟨τ, ?_, y2⟩
    rw [y1, Nat.add_assoc]
    rfl
theorem suM0 (hO : okS C A ct ch gr fl ms er ml lk) {x1 : Int64} : ∀ (d a n : Nat) (σ2 : sM) (y : Int64), repM k2 σ2 C A ct ch gr fl ms er ml lk → a + d = A → d < n → ∃ σ', fM_sums_8 fu k2 n σ2 x1 0 y (nI a) = some (0, σ') ∧ repM k2 σ' C A ct ch gr fl ms er ml lk
  | 0, a, n + 1, σ2, y, hM, ha, hn => by
    have hC := hO.1
    rw [fM_sums_8, if_pos (show kM_ages k2 ≤ nI a by rw [show kM_ages k2 = nI A from by rw [hM.1]; rfl, nI_leI (by omega) (by omega)]; omega), if_pos (show (0 : Int32) = 0 from rfl)]
    exact ⟨σ2, rfl, hM⟩
  | d + 1, a, n + 1, σ2, y, hM, ha, hn => by
    have hC := hO.1
    rw [fM_sums_8, if_neg (show ¬ kM_ages k2 ≤ nI a by rw [show kM_ages k2 = nI A from by rw [hM.1]; rfl, nI_leI (by omega) (by omega)]; omega), if_pos (show (0 : Int32) = 0 from rfl)]
    unfold fM_sums_35 fM_sums_36 fM_sums_51
    rw [if_pos (show (0 : Int32) = 0 from rfl), nI_1]
    exact suM0 hO d (a + 1) n σ2 _ hM (by omega) (by omega)
theorem op_sums (hO : okS C A ct ch gr fl ms er ml lk) (hR : repK k σ C A ct ch gr fl ms er ml lk) (hM : repM k2 σ2 C A ct ch gr fl ms er ml lk) (hfu : 200 ≤ fu) (x1 : Int64) : ∃ r σ2', fK_sums fu k σ x1 = some r ∧ fM_sums fu k2 σ2 x1 = some (r, σ2') ∧ repM k2 σ2' C A ct ch gr fl ms er ml lk := by
  have hC := hO.1
  unfold fK_sums fM_sums
  rcases canT (k2 := k2) hO hR hfu x1 with ⟨c1, c2⟩ | ⟨c1, c2, N, hN, hx, c3⟩
  · obtain ⟨f2, hf2⟩ : ∃ f2, fu = f2 + 1 := ⟨fu - 1, by omega⟩
    obtain ⟨σ', w1, w2⟩ := c2 σ2 (nI 0) hM ⟨0, by omega, rfl⟩
    rw [c1]
    simp only [Option.bind_some, if_true]
    have key : ∃ τ, fM_sums_8 fu k2 (f2 + 1) σ2 x1 1 0 (nI 0) = some (0, τ) ∧ repM k2 τ C A ct ch gr fl ms er ml lk := by
      rw [fM_sums_8, if_neg (show ¬ kM_ages k2 ≤ nI 0 by rw [show kM_ages k2 = nI A from by rw [hM.1]; rfl, nI_leI (by omega) (by omega)]; omega), if_neg one_ne, w1]
      simp only [kbind2, if_true]
      unfold fM_sums_35 fM_sums_36 fM_sums_51
      rw [if_pos (show (0 : Int32) = 0 from rfl), nI_1]
      exact suM0 hO (A - 1) 1 f2 σ' _ w2 (by omega) (by omega)
    obtain ⟨τ, y1, y2⟩ := key
    rw [← hf2] at y1
    exact ⟨_, τ, rfl, y1, y2⟩
  · rw [c1, hx]
    simp only [Option.bind_some]
    rw [if_neg one_ne]
    have s1 := suK (fu := fu) (N := N) hO hR A 0 0 fu rfl hfu (by omega) (by omega)
    obtain ⟨τ, s2, s3⟩ := suM (fu := fu) hO hx hfu c3 A 0 0 fu σ2 hM (by omega) (by omega) (fun h => absurd h (by omega))
    rw [hx] at s2
    exact ⟨_, τ, s1, s2, s3⟩
end R2
