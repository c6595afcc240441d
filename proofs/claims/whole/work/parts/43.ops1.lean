/-! The calls, class and reference side by side: those that only tell. -/
section O1
variable {C A : Nat} {ct : Nat → Nat → Nat → Nat} {ch : Nat} {gr : Nat → Nat} {fl : Nat → Option Nat} {ms : Nat → Nat} {er : Nat → Nat → Nat} {ml lk : Nat → Nat} {k : kK} {σ : sK} {k2 : kM} {σ2 : sM} {fu : Nat}
theorem i64 {n : Nat} (h : n < 2 ^ 31) : (nI n).toInt64 = lN n := nI_l h
theorem op_share (hO : okS C A ct ch gr fl ms er ml lk) (hR : repK k σ C A ct ch gr fl ms er ml lk) (hM : repM k2 σ2 C A ct ch gr fl ms er ml lk) (hfu : 200 ≤ fu) (x1 x2 x3 : Int32) : ∃ r, fK_share fu k σ x1 x2 x3 = some r ∧ fM_share fu k2 σ2 x1 x2 x3 = some r := by
  have hC := hO.1
  unfold fK_share fM_share
  rcases clsT hO hR hM x1 with ⟨c, hc, rfl, e1, e2⟩ | ⟨e1, e2⟩
  rotate_left
  · rw [e1, e2]; exact ⟨_, rfl, rfl⟩
  rcases ageT hO hR hM x2 with ⟨a, ha, rfl, f1, f2⟩ | ⟨f1, f2⟩
  rotate_left
  · rw [e1, e2, f1, f2]; exact ⟨_, rfl, rfl⟩
  rw [e1, e2, f1, f2, partT, if_neg one_ne, if_neg one_ne, if_neg one_ne, if_neg one_ne]
  rcases part01 x3 with ⟨g1, -⟩ | g1
  rotate_left
  · rw [g1]; exact ⟨_, rfl, rfl⟩
  rw [g1, if_neg one_ne, if_neg one_ne, grK hO hR hc, grM hO hM hc]
  have hg := hO.2.1 c hc
  show ∃ r, (fK_sourceOf k σ (nI (gr c))).bind _ = some r ∧ (fM_source fu k2 σ2 (nI (gr c))).bind _ = some r
  rw [srcK hO hR hg.1 hg.2, srcM hO hM hfu hg.1]
  cases hs : srcA C A gr ct fl ch (gr c) with
  | none => exact ⟨_, rfl, rfl⟩
  | some s =>
    have hs2 := srcA_ok hO hg.1 hg.2 hs
    have h20 := gT_lt hO (show ch < 5 by omega) hs2.1
    have hle := gN_le C A gr ct ch s a ha
    show ∃ r, (if nI s = -1 then _ else (fK_ownOfAge k σ (nI s) (nI a)).bind _) = some r ∧ (if nI s = -1 then _ else (fM_inGroup fu k2 σ2 (nI s) (sM_chosen σ2) (nI a)).bind _) = some r
    rw [if_neg (m1_ne (by omega)), if_neg (m1_ne (by omega)), oaK hO hR hs2.1 hs2.2.1 ha, hM.2.1, igMa hO hM hfu (show ch < 5 by omega) (by omega) ha]
    show ∃ r, (fK_own k σ (nI s)).bind _ = some r ∧ (fM_own fu k2 σ2 (nI s)).bind _ = some r
    rw [ownK hO hR hs2.1 hs2.2.1, ownM hO hM hfu (by omega)]
    show ∃ r, (fK_fractionPart fu (nI (gN C gr ct ch s a)).toInt64 (nI (gT C A gr ct ch s)).toInt64 x3).bind _ = some r ∧ (fM_partOf fu (nI (gN C gr ct ch s a)).toInt64 (nI (gT C A gr ct ch s)).toInt64 x3).bind _ = some r
    rw [i64 (by omega), i64 (by omega), fracK hfu (by omega) hs2.2.2 (by omega), fracM hfu (by omega) hs2.2.2 (by omega)]
    exact ⟨_, rfl, rfl⟩
theorem op_marked (hO : okS C A ct ch gr fl ms er ml lk) (hR : repK k σ C A ct ch gr fl ms er ml lk) (hM : repM k2 σ2 C A ct ch gr fl ms er ml lk) (hfu : 200 ≤ fu) (x1 : Int32) : ∃ r, fK_marked k σ x1 = some r ∧ fM_marked fu k2 σ2 x1 = some r := by
  have hC := hO.1
  unfold fK_marked fM_marked
  rcases clsT hO hR hM x1 with ⟨c, hc, rfl, e1, e2⟩ | ⟨e1, e2⟩
  rotate_left
  · rw [e1, e2]; exact ⟨_, rfl, rfl⟩
  have hg := hO.2.1 c hc
  rw [e1, e2, if_neg one_ne, if_neg one_ne, grK hO hR hc, grM hO hM hc]
  show ∃ r, (kld (kK_n k 5) (sK_filledBy σ) (nI (gr c))).bind _ = some r ∧ (kld (kM_n k2 2) (sM_filler σ2) (nI (gr c))).bind _ = some r
  rw [flK hO hR hg.1, flM hO hM hg.1]
  show ∃ r, (if oI (fl (gr c)) = -1 then some 0 else (fK_own k σ (nI (gr c))).bind (fun v30 => if v30 = 0 then some 1 else some 0)) = some r ∧ (if oI (fl (gr c)) = -1 then some 0 else (fM_own fu k2 σ2 (nI (gr c))).bind (fun v30 => if v30 = 0 then some 1 else some 0)) = some r
  rw [ownK hO hR hg.1 hg.2, ownM hO hM hfu (by omega)]
  show ∃ r, (if oI (fl (gr c)) = -1 then some 0 else if nI (gT C A gr ct ch (gr c)) = 0 then some 1 else some 0) = some r ∧ (if oI (fl (gr c)) = -1 then some 0 else if nI (gT C A gr ct ch (gr c)) = 0 then some 1 else some 0) = some r
  split
  · exact ⟨_, rfl, rfl⟩
  · split <;> exact ⟨_, rfl, rfl⟩
theorem leastK (hO : okS C A ct ch gr fl ms er ml lk) (hR : repK k σ C A ct ch gr fl ms er ml lk) {c : Nat} (hc : c < C) : fK_isLeastOfGroup k σ (nI c) = some (if gr c = c then 1 else 0) := by
  have hC := hO.1
  have hg := hO.2.1 c hc
  unfold fK_isLeastOfGroup
  rw [grK hO hR hc]
  show (if nI (gr c) = nI c then some 1 else some 0) = _
  by_cases h : gr c = c
  · rw [if_pos (by rw [h]), if_pos h]
  · rw [if_neg (by rw [nI_eq (by omega) (by omega)]; exact h), if_neg h]
/-- groups told from class c on -/
theorem gsK (hO : okS C A ct ch gr fl ms er ml lk) (hR : repK k σ C A ct ch gr fl ms er ml lk) : ∀ (d c acc n : Nat), c + d = C → d < n → fK_groups_4 fu k σ n (nI acc) (nI c) = some (nI (acc + su (fun c => if gr c = c then 1 else 0) c d))
  | 0, c, acc, n + 1, hc, hn => by
    have hC := hO.1
    rw [fK_groups_4, if_pos (by rw [show kK_classes k = nI C from by rw [hR.1]; rfl, nI_leI (by omega) (by omega)]; omega)]
    rfl
  | d + 1, c, acc, n + 1, hc, hn => by
    have hC := hO.1
    have ih := fun acc => gsK hO hR d (c + 1) acc n (by omega) (by omega)
    rw [fK_groups_4, if_neg (by rw [show kK_classes k = nI C from by rw [hR.1]; rfl, nI_leI (by omega) (by omega)]; omega), leastK hO hR (show c < C by omega)]
    show (if (if gr c = c then (1 : Int32) else 0) = 0 then fK_groups_4 fu k σ n (nI acc) (nI c + 1) else fK_groups_4 fu k σ n (nI acc + 1) (nI c + 1)) = some (nI (acc + ((if gr c = c then 1 else 0) + su (fun c => if gr c = c then 1 else 0) (c + 1) d)))
    rw [nI_1, nI_1]
    by_cases h : gr c = c
    · rw [if_pos h, if_neg one_ne, if_pos h, ih, Nat.add_assoc]
    · rw [if_neg h, if_pos rfl, if_neg h, ih, Nat.zero_add]
theorem gsM (hO : okS C A ct ch gr fl ms er ml lk) (hM : repM k2 σ2 C A ct ch gr fl ms er ml lk) : ∀ (d c acc n : Nat), c + d = C → d < n → fM_groups_4 fu k2 σ2 n (nI acc) (nI c) = some (nI (acc + su (fun c => if gr c = c then 1 else 0) c d))
  | 0, c, acc, n + 1, hc, hn => by
    have hC := hO.1
    rw [fM_groups_4, if_pos (by rw [show kM_classes k2 = nI C from by rw [hM.1]; rfl, nI_leI (by omega) (by omega)]; omega)]
    rfl
  | d + 1, c, acc, n + 1, hc, hn => by
    have hC := hO.1
    have hg := hO.2.1 c (by omega)
    have ih := fun acc => gsM hO hM d (c + 1) acc n (by omega) (by omega)
    rw [fM_groups_4, if_neg (by rw [show kM_classes k2 = nI C from by rw [hM.1]; rfl, nI_leI (by omega) (by omega)]; omega), grM hO hM (show c < C by omega)]
    unfold fM_groups_28
    show (if nI (gr c) = nI c then fM_groups_4 fu k2 σ2 n (nI acc + nI 1) (nI c + 1) else fM_groups_4 fu k2 σ2 n (nI acc + nI 0) (nI c + 1)) = some (nI (acc + ((if gr c = c then 1 else 0) + su (fun c => if gr c = c then 1 else 0) (c + 1) d)))
    rw [nI_1, nI_add, nI_add]
    by_cases h : gr c = c
    · rw [if_pos (by rw [h]), if_pos h, ih, Nat.add_assoc]
    · rw [if_neg (by rw [nI_eq (by omega) (by omega)]; exact h), if_neg h, ih, Nat.add_zero, Nat.zero_add]
theorem op_groups (hO : okS C A ct ch gr fl ms er ml lk) (hR : repK k σ C A ct ch gr fl ms er ml lk) (hM : repM k2 σ2 C A ct ch gr fl ms er ml lk) (hfu : 200 ≤ fu) : ∃ r, fK_groups fu k σ = some r ∧ fM_groups fu k2 σ2 = some r := by
  have hC := hO.1
  unfold fK_groups fM_groups
  exact ⟨_, gsK hO hR C 0 0 fu (by omega) (by omega), gsM hO hM C 0 0 fu (by omega) (by omega)⟩
/-- empty groups, both at once -/
theorem emT (hO : okS C A ct ch gr fl ms er ml lk) (hR : repK k σ C A ct ch gr fl ms er ml lk) (hM : repM k2 σ2 C A ct ch gr fl ms er ml lk) (hfu : 200 ≤ fu) (x1 : Int32) : ∀ (d c n : Nat) (x2 : Int32), c + d = C → d < n → ∃ r, fK_empty_4 fu k σ n x1 x2 (nI c) = some r ∧ fM_empty_4 fu k2 σ2 n x1 x2 (nI c) = some r
  | 0, c, n + 1, x2, hc, hn => by
    have hC := hO.1
    rw [fK_empty_4, fM_empty_4, if_pos (by rw [show kK_classes k = nI C from by rw [hR.1]; rfl, nI_leI (by omega) (by omega)]; omega), if_pos (by rw [show kM_classes k2 = nI C from by rw [hM.1]; rfl, nI_leI (by omega) (by omega)]; omega)]
    exact ⟨_, rfl, rfl⟩
  | d + 1, c, n + 1, x2, hc, hn => by
    have hC := hO.1
    have hcC : c < C := by omega
    have hg := hO.2.1 c hcC
    have ih := fun x2 => emT hO hR hM hfu x1 d (c + 1) n x2 (by omega) (by omega)
    have q1 : ¬ kK_classes k ≤ nI c := by rw [show kK_classes k = nI C from by rw [hR.1]; rfl, nI_leI (by omega) (by omega)]; omega
    have q2 : ¬ kM_classes k2 ≤ nI c := by rw [show kM_classes k2 = nI C from by rw [hM.1]; rfl, nI_leI (by omega) (by omega)]; omega
    rw [fK_empty_4, fM_empty_4, if_neg q1, if_neg q2, leastK hO hR hcC, grM hO hM hcC, nI_1]
    by_cases h : gr c = c
    · show ∃ r, (if (if gr c = c then (1 : Int32) else 0) = 0 then _ else (fK_own k σ (nI c)).bind _) = some r ∧ (if nI (gr c) = nI c then (fM_own fu k2 σ2 (nI c)).bind _ else _) = some r
      rw [if_pos h, if_neg one_ne, if_pos (show nI (gr c) = nI c by rw [h]), ownK hO hR hcC h, ownM hO hM hfu (by omega)]
      show ∃ r, (if nI (gT C A gr ct ch c) = 0 then (kld (kK_n k 5) (sK_filledBy σ) (nI c)).bind _ else _) = some r ∧ (if nI (gT C A gr ct ch c) = 0 then (kld (kM_n k2 2) (sM_filler σ2) (nI c)).bind _ else _) = some r
      rw [flK hO hR hcC, flM hO hM hcC]
      by_cases h1 : nI (gT C A gr ct ch c) = 0
      · rw [if_pos h1, if_pos h1]
        show ∃ r, (if oI (fl c) = -1 then (if x2 = x1 then some (nI c) else _) else _) = some r ∧ (if oI (fl c) = -1 then (if x2 = x1 then some (nI c) else _) else _) = some r
        by_cases h2 : oI (fl c) = -1
        · rw [if_pos h2, if_pos h2]
          by_cases h3 : x2 = x1
          · rw [if_pos h3, if_pos h3]; exact ⟨_, rfl, rfl⟩
          · rw [if_neg h3, if_neg h3]; exact ih _
        · rw [if_neg h2, if_neg h2]; exact ih _
      · rw [if_neg h1, if_neg h1]; exact ih _
    · show ∃ r, (if (if gr c = c then (1 : Int32) else 0) = 0 then _ else _) = some r ∧ (if nI (gr c) = nI c then _ else _) = some r
      rw [if_neg h, if_pos (show (0 : Int32) = 0 from rfl), if_neg (show ¬ nI (gr c) = nI c by rw [nI_eq (by omega) (by omega)]; exact h)]
      exact ih _
theorem op_empty (hO : okS C A ct ch gr fl ms er ml lk) (hR : repK k σ C A ct ch gr fl ms er ml lk) (hM : repM k2 σ2 C A ct ch gr fl ms er ml lk) (hfu : 200 ≤ fu) (x1 : Int32) : ∃ r, fK_empty fu k σ x1 = some r ∧ fM_empty fu k2 σ2 x1 = some r := by
  have hC := hO.1
  unfold fK_empty fM_empty
  exact emT hO hR hM hfu x1 C 0 fu 0 (by omega) (by omega)
end O1
