/-! males, without. -/
section O4
variable {C A : Nat} {ct : Nat → Nat → Nat → Nat} {ch : Nat} {gr : Nat → Nat} {fl : Nat → Option Nat} {ms : Nat → Nat} {er : Nat → Nat → Nat} {ml lk : Nat → Nat} {k : kK} {σ : sK} {k2 : kM} {σ2 : sM} {fu : Nat}
theorem maT (hO : okS C A ct ch gr fl ms er ml lk) (hR : repK k σ C A ct ch gr fl ms er ml lk) (hM : repM k2 σ2 C A ct ch gr fl ms er ml lk) (hfu : 200 ≤ fu) {c0 : Nat} (h0 : c0 < C) (x2 : Int32) : ∀ (d c n u v : Nat), c + d = C → d < n → u ≤ v → v ≤ 100 * c → ∃ r, fK_males_27 fu k σ n (nI c0) x2 (nI u) (nI v) (nI c) = some r ∧ fM_males_27 fu k2 σ2 n (nI c0) x2 (nI u) (nI v) (nI c) = some r
  | 0, c, n + 1, u, v, hc, hn, huv, hv => by
    have hC := hO.1
    rw [fK_males_27, fM_males_27, if_pos (show kK_classes k ≤ nI c by rw [show kK_classes k = nI C from by rw [hR.1]; rfl, nI_leI (by omega) (by omega)]; omega), if_pos (show kM_classes k2 ≤ nI c by rw [show kM_classes k2 = nI C from by rw [hM.1]; rfl, nI_leI (by omega) (by omega)]; omega)]
    by_cases hz : v = 0
    · rw [if_pos (show nI v = 0 by rw [hz]; rfl), if_pos (show nI v = 0 by rw [hz]; rfl)]; exact ⟨_, rfl, rfl⟩
    · rw [if_neg (nI_ne0 (by omega) (by omega)), if_neg (nI_ne0 (by omega) (by omega)), i64 (by omega), i64 (by omega), fracK hfu (by omega) (by omega) (by omega), fracM hfu (by omega) (by omega) (by omega)]
      exact ⟨_, rfl, rfl⟩
  | d + 1, c, n + 1, u, v, hc, hn, huv, hv => by
    have hC := hO.1
    have hcC : c < C := by omega
    have hg := hO.2.1 c hcC
    have hg0 := hO.2.1 c0 h0
    have h8 := hO.2.2.2.2.2.2.2 c hcC
    have ih := fun u v h1 h2 => maT hO hR hM hfu h0 x2 d (c + 1) n u v (by omega) (by omega) h1 h2
    rw [fK_males_27, fM_males_27, if_neg (show ¬ kK_classes k ≤ nI c by rw [show kK_classes k = nI C from by rw [hR.1]; rfl, nI_leI (by omega) (by omega)]; omega), if_neg (show ¬ kM_classes k2 ≤ nI c by rw [show kM_classes k2 = nI C from by rw [hM.1]; rfl, nI_leI (by omega) (by omega)]; omega), grK hO hR hcC, grK hO hR h0, grM hO hM hcC, grM hO hM h0]
    show ∃ r, (if nI (gr c) = nI (gr c0) then (kld (kK_n k 13) (sK_maleCount σ) (nI c)).bind _ else fK_males_27 fu k σ n (nI c0) x2 (nI u) (nI v) (nI c + 1)) = some r ∧ (if nI (gr c) = nI (gr c0) then (kld (kM_n k2 5) (sM_maleCount σ2) (nI c)).bind _ else fM_males_64 fu k2 σ2 (fM_males_27 fu k2 σ2 n) (nI u) 0 (nI c0) x2 (nI v) (nI c)) = some r
    by_cases h : gr c = gr c0
    · have hq : nI (gr c) = nI (gr c0) := by rw [h]
      rw [if_pos hq, if_pos hq, show kK_n k 13 = C from by rw [hR.1]; rfl, show kM_n k2 5 = 10 from by rw [hM.1]; rfl, kld_n hcC (by omega), kld_n (show c < 10 by omega) (by omega), hR.2.2.2.2.2.2.2.2.2.2.2.1 c hcC, hM.2.2.2.2.2.2.2.1 c hcC]
      show ∃ r, (kld (kK_n k 14) (sK_lookedAt σ) (nI c)).bind _ = some r ∧ fM_males_64 fu k2 σ2 (fM_males_27 fu k2 σ2 n) (nI u) (nI (ml c)) (nI c0) x2 (nI v) (nI c) = some r
      unfold fM_males_64 fM_males_95
      rw [grM hO hM hcC, grM hO hM h0, show kK_n k 14 = C from by rw [hR.1]; rfl, kld_n hcC (by omega), hR.2.2.2.2.2.2.2.2.2.2.2.2 c hcC]
      show ∃ r, fK_males_27 fu k σ n (nI c0) x2 (nI u + nI (ml c)) (nI v + nI (lk c)) (nI c + 1) = some r ∧ (if nI (gr c) = nI (gr c0) then (kld (kM_n k2 6) (sM_sexCount σ2) (nI c)).bind _ else _) = some r
      rw [if_pos hq, show kM_n k2 6 = 10 from by rw [hM.1]; rfl, kld_n (show c < 10 by omega) (by omega), hM.2.2.2.2.2.2.2.2 c hcC]
      show ∃ r, fK_males_27 fu k σ n (nI c0) x2 (nI u + nI (ml c)) (nI v + nI (lk c)) (nI c + 1) = some r ∧ fM_males_27 fu k2 σ2 n (nI c0) x2 (nI u + nI (ml c)) (nI v + nI (lk c)) (nI c + 1) = some r
      rw [nI_add, nI_add, nI_1]
      exact ih _ _ (by omega) (by omega)
    · have hq : ¬ nI (gr c) = nI (gr c0) := by rw [nI_eq (by omega) (by omega)]; exact h
      rw [if_neg hq, if_neg hq]
      unfold fM_males_64 fM_males_95
      rw [grM hO hM hcC, grM hO hM h0]
      show ∃ r, fK_males_27 fu k σ n (nI c0) x2 (nI u) (nI v) (nI c + 1) = some r ∧ (if nI (gr c) = nI (gr c0) then _ else fM_males_27 fu k2 σ2 n (nI c0) x2 (nI u + nI 0) (nI v + nI 0) (nI c + 1)) = some r
      rw [if_neg hq, nI_add, nI_add, nI_1]
      exact ih _ _ (by omega) (by omega)
theorem op_males (hO : okS C A ct ch gr fl ms er ml lk) (hR : repK k σ C A ct ch gr fl ms er ml lk) (hM : repM k2 σ2 C A ct ch gr fl ms er ml lk) (hfu : 200 ≤ fu) (x1 x2 : Int32) : ∃ r, fK_males fu k σ x1 x2 = some r ∧ fM_males fu k2 σ2 x1 x2 = some r := by
  have hC := hO.1
  unfold fK_males fM_males
  rcases clsT hO hR hM x1 with ⟨c, hc, rfl, e1, e2⟩ | ⟨e1, e2⟩
  rotate_left
  · rw [e1, e2]; exact ⟨_, rfl, rfl⟩
  rw [e1, e2, partT, if_neg one_ne, if_neg one_ne]
  rcases part01 x2 with ⟨g1, -⟩ | g1
  rotate_left
  · rw [g1]; exact ⟨_, rfl, rfl⟩
  rw [g1, if_neg one_ne, if_neg one_ne]
  exact maT hO hR hM hfu hc x2 C 0 fu 0 0 (by omega) (by omega) (by omega) (by omega)
theorem end01 (x : Int32) : (fM_isPart x = 1 ∧ (x = 0 ∨ x = 1) ∧ ¬ x < 0 ∧ ¬ 1 < x) ∨ (fM_isPart x = 0 ∧ (x < 0 ∨ 1 < x)) := by
  rcases part01 x with ⟨h, h1⟩ | h
  · exact Or.inl ⟨h, h1, by rcases h1 with rfl | rfl <;> decide, by rcases h1 with rfl | rfl <;> decide⟩
  · refine Or.inr ⟨h, ?_⟩
    have h0 : ¬ x = 0 := fun q => by rw [q] at h; revert h; decide
    have h1 : ¬ x = 1 := fun q => by rw [q] at h; revert h; decide
    rw [Int32.lt_iff_toInt_lt, Int32.lt_iff_toInt_lt]
    have a0 : ¬ x.toInt = (0 : Int32).toInt := fun q => h0 (Int32.toInt_inj.mp q)
    have a1 : ¬ x.toInt = (1 : Int32).toInt := fun q => h1 (Int32.toInt_inj.mp q)
    have b1 : (1 : Int32).toInt = 1 := by decide
    have b0 : (0 : Int32).toInt = 0 := by decide
    omega
theorem op_without (hO : okS C A ct ch gr fl ms er ml lk) (hR : repK k σ C A ct ch gr fl ms er ml lk) (hM : repM k2 σ2 C A ct ch gr fl ms er ml lk) (hfu : 200 ≤ fu) (x1 x2 x3 x4 : Int32) : ∃ r, fK_without fu k σ x1 x2 x3 x4 = some r ∧ fM_without fu k2 σ2 x1 x2 x3 x4 = some r := by
  have hC := hO.1
  unfold fK_without fM_without
  rcases clsT hO hR hM x1 with ⟨c, hc, rfl, e1, e2⟩ | ⟨e1, e2⟩
  rotate_left
  · rw [e1, e2]; exact ⟨_, rfl, rfl⟩
  rcases ageT hO hR hM x2 with ⟨a, ha, rfl, f1, f2⟩ | ⟨f1, f2⟩
  rotate_left
  · rw [e1, e2, f1, f2]; exact ⟨_, rfl, rfl⟩
  rw [e1, e2, f1, f2, partT, partT, if_neg one_ne, if_neg one_ne, if_neg one_ne, if_neg one_ne]
  rcases end01 x3 with ⟨g1, g2, g3, g4⟩ | ⟨g1, g2⟩
  rotate_left
  · rw [g1, if_pos (show (0 : Int32) = 0 from rfl)]
    by_cases h : x3 < 0
    · rw [if_pos h]; exact ⟨_, rfl, rfl⟩
    · rw [if_neg h, if_pos (g2.resolve_left h)]; exact ⟨_, rfl, rfl⟩
  rw [g1, if_neg one_ne, if_neg g3, if_neg g4]
  rcases part01 x4 with ⟨p1, -⟩ | p1
  rotate_left
  · rw [p1]; exact ⟨_, rfl, rfl⟩
  have hg := hO.2.1 c hc
  have h20 := gT_lt hO (show ch < 5 by omega) hg.1
  have hle := gN_le C A gr ct ch (gr c) a ha
  rw [p1, if_neg one_ne, if_neg one_ne, grK hO hR hc, grM hO hM hc]
  simp only [Option.bind_some]
  rw [ownK hO hR hg.1 hg.2, ownM hO hM hfu (by omega), oaK hO hR hg.1 hg.2 ha, hM.2.1, igMa hO hM hfu (show ch < 5 by omega) (by omega) ha]
  simp only [Option.bind_some]
  by_cases h2 : 2 ≤ nI (gT C A gr ct ch (gr c))
  rotate_left
  · rw [if_neg h2, if_neg h2]; exact ⟨_, rfl, rfl⟩
  rw [if_pos h2, if_pos h2]
  have h2n : 2 ≤ gT C A gr ct ch (gr c) := by
    rw [show (2 : Int32) = nI 2 from rfl, nI_leI (by omega) (by omega)] at h2
    exact h2
  generalize gT C A gr ct ch (gr c) = n at *
  generalize gN C gr ct ch (gr c) a = h at *
  have fin : ∀ z : Nat, z ≤ n - 1 → fK_without_117 fu k σ (nI z).toInt64 x4 (nI n) = some (fr z (n - 1) x4) ∧ fM_without_127 fu k2 σ2 (nI z).toInt64 x4 (nI n) = some (fr z (n - 1) x4) := by
    intro z hz
    unfold fK_without_117 fM_without_127
    rw [show (1 : Int32) = nI 1 from rfl, pk_sub (by omega), i64 (by omega), i64 (by omega), fracK hfu (by omega) (by omega) (by omega), fracM hfu (by omega) (by omega) (by omega)]
    exact ⟨rfl, rfl⟩
  have hm : 0 < h → nI h - 1 = nI (h - 1) := fun hh => by rw [show (1 : Int32) = nI 1 from rfl, pk_sub (by omega)]
  have hz1 : ¬ (1 : Int32) = 0 := by decide
  unfold fK_without_99 fM_without_94 fM_without_112
  rw [if_pos (show (0 : Int32) = 0 from rfl), if_neg hz1]
  by_cases hx : x3 = 0
  · rw [if_pos hx]
    by_cases h0 : h = 0
    · have q : nI h ≤ 0 := (pos_n (by omega)).mpr h0
      rw [if_pos q, if_pos q, if_neg (show ¬ nI n ≤ nI h by rw [nI_leI (by omega) (by omega)]; omega), if_pos hx, (fin h (by omega)).1, (fin h (by omega)).2]
      exact ⟨_, rfl, rfl⟩
    · have q : ¬ nI h ≤ 0 := by rw [pos_n (by omega)]; exact h0
      rw [if_neg q, if_neg q, hm (by omega), (fin (h - 1) (by omega)).1]
      by_cases h9 : nI n ≤ nI h
      · rw [if_pos h9, if_pos hx, (fin (h - 1) (by omega)).2]; exact ⟨_, rfl, rfl⟩
      · rw [if_neg h9, if_pos hx, (fin (h - 1) (by omega)).2]; exact ⟨_, rfl, rfl⟩
  · rw [if_neg hx]
    by_cases hn : h = n
    · have q : ¬ nI h ≤ 0 := by rw [pos_n (by omega)]; omega
      rw [if_pos (show nI h = nI n by rw [hn]), if_neg q, if_pos (show nI n ≤ nI h by rw [nI_leI (by omega) (by omega)]; omega), if_neg hx, hm (by omega), (fin (h - 1) (by omega)).1, (fin (h - 1) (by omega)).2]
      exact ⟨_, rfl, rfl⟩
    · have q1 : ¬ nI h = nI n := by rw [nI_eq (by omega) (by omega)]; exact hn
      have q2 : ¬ nI n ≤ nI h := by rw [nI_leI (by omega) (by omega)]; omega
      rw [if_neg q1, (fin h (by omega)).1]
      by_cases h0 : nI h ≤ 0
      · rw [if_pos h0, if_neg q2, if_neg hx, (fin h (by omega)).2]; exact ⟨_, rfl, rfl⟩
      · rw [if_neg h0, if_neg q2, if_neg hx, (fin h (by omega)).2]; exact ⟨_, rfl, rfl⟩
end O4
