/-! error, sample, place, males, without. -/
section O3
variable {C A : Nat} {ct : Nat → Nat → Nat → Nat} {ch : Nat} {gr : Nat → Nat} {fl : Nat → Option Nat} {ms : Nat → Nat} {er : Nat → Nat → Nat} {ml lk : Nat → Nat} {k : kK} {σ : sK} {k2 : kM} {σ2 : sM} {fu : Nat}
theorem ix_inj {f t f' t' A : Nat} (ht : t < A) (ht' : t' < A) (h : f * A + t = f' * A + t') : f = f' ∧ t = t' := by
  have h1 : f = f' := by
    rcases Nat.lt_trichotomy f f' with h2 | h2 | h2
    · have : (f + 1) * A ≤ f' * A := Nat.mul_le_mul_right A h2
      rw [Nat.add_mul, Nat.one_mul] at this
      omega
    · exact h2
    · have : (f' + 1) * A ≤ f * A := Nat.mul_le_mul_right A h2
      rw [Nat.add_mul, Nat.one_mul] at this
      omega
  subst h1
  exact ⟨rfl, by omega⟩
theorem op_error (hO : okS C A ct ch gr fl ms er ml lk) (hR : repK k σ C A ct ch gr fl ms er ml lk) (hM : repM k2 σ2 C A ct ch gr fl ms er ml lk) (x1 x2 x3 : Int32) : ∃ r σ' σ2' er', fK_error k σ x1 x2 x3 = some (r, σ') ∧ fM_error k2 σ2 x1 x2 x3 = some (r, σ2') ∧ okS C A ct ch gr fl ms er' ml lk ∧ repK k σ' C A ct ch gr fl ms er' ml lk ∧ repM k2 σ2' C A ct ch gr fl ms er' ml lk := by
  have hC := hO.1
  unfold fK_error fM_error
  rcases ageT hO hR hM x1 with ⟨f, hf, rfl, e1, e2⟩ | ⟨e1, e2⟩
  rotate_left
  · rw [e1, e2]; exact ⟨_, _, _, _, rfl, rfl, hO, hR, hM⟩
  rcases ageT hO hR hM x2 with ⟨t, ht, rfl, f1, f2⟩ | ⟨f1, f2⟩
  rotate_left
  · rw [e1, e2, f1, f2]; exact ⟨_, _, _, _, rfl, rfl, hO, hR, hM⟩
  rw [e1, e2, f1, f2, if_neg one_ne, if_neg one_ne, if_neg one_ne, if_neg one_ne]
  by_cases h1 : x3 < 0
  · rw [if_pos h1, if_pos h1]; exact ⟨_, _, _, _, rfl, rfl, hO, hR, hM⟩
  rw [if_neg h1, if_neg h1]
  by_cases h3 : x3 ≤ 20
  rotate_left
  · rw [if_neg h3, if_neg h3]; exact ⟨_, _, _, _, rfl, rfl, hO, hR, hM⟩
  rw [if_pos h3, if_pos h3]
  obtain ⟨n, hn, rfl⟩ := nI_of h1
  rw [show (20 : Int32) = nI 20 from rfl, nI_leI hn (by omega)] at h3
  have h36 := mul_le36 hC.2.2.2.1
  rw [show kK_ages k = nI A from by rw [hR.1]; rfl, show kK_n k 7 = A * A from by rw [hR.1]; rfl, pk_mul, nI_add, kstI_n (ix2_lt hf ht) (by omega), show kM_n k2 4 = 36 from by rw [hM.1]; rfl, show (6 : Int32) = nI 6 from rfl, pk_mul, nI_add, kstI_n (show 6 * f + t < 36 by omega) (by omega)]
  refine ⟨_, _, _, fun a b => if a = f ∧ b = t then n else er a b, rfl, rfl, ?_, ?_, ?_⟩
  · obtain ⟨o1, o2, o3, o4, o5, o6, o7, o8⟩ := hO
    refine ⟨o1, o2, o3, o4, o5, o6, fun a b ha hb => ?_, o8⟩
    show (if a = f ∧ b = t then n else er a b) ≤ 20
    split
    · exact h3
    · exact o7 a b ha hb
  · obtain ⟨r1, r2, r3, r4, r5, r6, r7, r8, r9, r10, r11, r12, r13⟩ := hR
    refine ⟨r1, r2, r3, r4, r5, r6, r7, r8, r9, r10, fun a b ha hb => ?_, r12, r13⟩
    show upd (sK_errors σ) (f * A + t) (nI n) (a * A + b) = nI (if a = f ∧ b = t then n else er a b)
    by_cases h : a = f ∧ b = t
    · rw [h.1, h.2, upd_s, if_pos ⟨rfl, rfl⟩]
    · rw [upd_n (fun h9 => h (ix_inj hb ht h9)), if_neg h]; exact r11 a b ha hb
  · obtain ⟨r1, r2, r3, r4, r5, r6, r7, r8, r9⟩ := hM
    refine ⟨r1, r2, r3, r4, r5, r6, fun a b ha hb => ?_, r8, r9⟩
    show upd (sM_errors σ2) (6 * f + t) (nI n) (6 * a + b) = nI (if a = f ∧ b = t then n else er a b)
    by_cases h : a = f ∧ b = t
    · rw [h.1, h.2, upd_s, if_pos ⟨rfl, rfl⟩]
    · rw [upd_n (by omega), if_neg h]; exact r7 a b ha hb
theorem amM (hO : okS C A ct ch gr fl ms er ml lk) (hM : repM k2 σ2 C A ct ch gr fl ms er ml lk) : ∀ (d c acc n : Nat), c + d = C → d < n → fM_allMeasured_4 fu k2 σ2 n (lN acc) (nI c) = some (lN (acc + su ms c d))
  | 0, c, acc, n + 1, hc, hn => by
    have hC := hO.1
    rw [fM_allMeasured_4, if_pos (by rw [show kM_classes k2 = nI C from by rw [hM.1]; rfl, nI_leI (by omega) (by omega)]; omega)]
    rfl
  | d + 1, c, acc, n + 1, hc, hn => by
    have hC := hO.1
    rw [fM_allMeasured_4, if_neg (by rw [show kM_classes k2 = nI C from by rw [hM.1]; rfl, nI_leI (by omega) (by omega)]; omega), show kM_n k2 3 = 10 from by rw [hM.1]; rfl, kld_n (show c < 10 by omega) (by omega), hM.2.2.2.2.2.1 c (by omega)]
    show fM_allMeasured_4 fu k2 σ2 n (lN acc + lN (ms c)) (nI c + 1) = _
    rw [lN_add, nI_1, amM hO hM d (c + 1) _ n (by omega) (by omega), Nat.add_assoc]
    rfl
theorem allM (hO : okS C A ct ch gr fl ms er ml lk) (hM : repM k2 σ2 C A ct ch gr fl ms er ml lk) (hfu : 200 ≤ fu) : fM_allMeasured fu k2 σ2 = some (lN (su ms 0 C)) := by
  have hC := hO.1
  unfold fM_allMeasured
  have h := amM (fu := fu) hO hM C 0 0 fu (by omega) (by omega)
  rw [Nat.zero_add] at h
  exact h
theorem op_sample (hO : okS C A ct ch gr fl ms er ml lk) (hR : repK k σ C A ct ch gr fl ms er ml lk) (hM : repM k2 σ2 C A ct ch gr fl ms er ml lk) (hfu : 200 ≤ fu) (x1 : Int32) (x2 : Int64) : ∃ r σ' σ2' ms', fK_sample k σ x1 x2 = some (r, σ') ∧ fM_sample fu k2 σ2 x1 x2 = some (r, σ2') ∧ okS C A ct ch gr fl ms' er ml lk ∧ repK k σ' C A ct ch gr fl ms' er ml lk ∧ repM k2 σ2' C A ct ch gr fl ms' er ml lk := by
  have hC := hO.1
  have hS := hO.2.2.2.2.2.1
  unfold fK_sample fM_sample
  rcases clsT hO hR hM x1 with ⟨c, hc, rfl, e1, e2⟩ | ⟨e1, e2⟩
  rotate_left
  · rw [e1, e2]; exact ⟨_, _, _, _, rfl, rfl, hO, hR, hM⟩
  rw [e1, e2, if_neg one_ne, if_neg one_ne]
  by_cases h1 : x2 < 0
  · rw [if_pos h1, if_pos h1]; exact ⟨_, _, _, _, rfl, rfl, hO, hR, hM⟩
  rw [if_neg h1, if_neg h1]
  obtain ⟨n, hn, rfl⟩ := pk_lOf h1
  rw [hR.2.2.2.2.2.2.2.2.2.1, show (10000 : Int64) = lN 10000 from rfl, lN_sub hS, allM hO hM hfu]
  by_cases h2 : n ≤ 10000 - su ms 0 C
  · rw [if_pos (show lN n ≤ lN (10000 - su ms 0 C) from (pk_lLE hn (by omega)).mpr h2), if_neg (show ¬ lN 10000 < lN n by rw [pk_lLT (by omega) hn]; omega)]
    show ∃ r σ' σ2' ms', (kld (kK_n k 6) (sK_measured σ) (nI c)).bind _ = _ ∧ (if lN (su ms 0 C) + lN n ≤ lN 10000 then _ else _) = _ ∧ _
    rw [lN_add, if_pos (show lN (su ms 0 C + n) ≤ lN 10000 from (pk_lLE (by omega) (by omega)).mpr (by omega)), show kK_n k 6 = C from by rw [hR.1]; rfl, show kM_n k2 3 = 10 from by rw [hM.1]; rfl, kld_n hc (by omega), kld_n (show c < 10 by omega) (by omega), hR.2.2.2.2.2.2.2.2.1 c hc, hM.2.2.2.2.2.1 c hc]
    show ∃ r σ' σ2' ms', (kstJ C (sK_measured σ) (nI c) (lN (ms c) + lN n)).bind _ = _ ∧ (kstJ 10 (sM_measured σ2) (nI c) (lN (ms c) + lN n)).bind _ = _ ∧ _
    rw [lN_add, kstJ_n hc (by omega), kstJ_n (show c < 10 by omega) (by omega)]
    have hsum : su (up1 ms c (ms c + n)) 0 C = su ms 0 C + n := su_bump (t := c) C 0 (by omega) (by omega) (by unfold up1; rw [if_pos rfl]) (fun j _ _ hj => by unfold up1; rw [if_neg hj])
    refine ⟨_, _, _, up1 ms c (ms c + n), rfl, rfl, ?_, ?_, ?_⟩
    · obtain ⟨o1, o2, o3, o4, o5, o6, o7, o8⟩ := hO
      exact ⟨o1, o2, o3, o4, o5, by rw [hsum]; omega, o7, o8⟩
    · obtain ⟨r1, r2, r3, r4, r5, r6, r7, r8, r9, r10, r11, r12, r13⟩ := hR
      refine ⟨r1, r2, r3, r4, r5, r6, r7, r8, fun d hd => ?_, ?_, r11, r12, r13⟩
      · show vp_updL (sK_measured σ) c (lN (ms c + n)) d = lN (up1 ms c (ms c + n) d)
        unfold up1
        by_cases h : d = c
        · rw [h, updL_s, if_pos rfl]
        · rw [updL_n h, if_neg h]; exact r9 d hd
      · show sK_measuredInAll σ + lN n = _
        rw [r10, lN_add, hsum]
    · obtain ⟨r1, r2, r3, r4, r5, r6, r7, r8, r9⟩ := hM
      refine ⟨r1, r2, r3, r4, r5, fun d hd => ?_, r7, r8, r9⟩
      show vp_updL (sM_measured σ2) c (lN (ms c + n)) d = lN (up1 ms c (ms c + n) d)
      unfold up1
      by_cases h : d = c
      · rw [h, updL_s, if_pos rfl]
      · rw [updL_n h, if_neg h]; exact r6 d hd
  · rw [if_neg (show ¬ lN n ≤ lN (10000 - su ms 0 C) by rw [pk_lLE hn (by omega)]; exact h2)]
    by_cases h3 : n ≤ 10000
    · rw [if_neg (show ¬ lN 10000 < lN n by rw [pk_lLT (by omega) hn]; omega)]
      show ∃ r σ' σ2' ms', _ ∧ (if lN (su ms 0 C) + lN n ≤ lN 10000 then _ else _) = _ ∧ _
      rw [lN_add, if_neg (show ¬ lN (su ms 0 C + n) ≤ lN 10000 by rw [pk_lLE (by omega) (by omega)]; omega)]
      exact ⟨_, _, _, _, rfl, rfl, hO, hR, hM⟩
    · rw [if_pos (show lN 10000 < lN n by rw [pk_lLT (by omega) hn]; omega)]
      exact ⟨_, _, _, _, rfl, rfl, hO, hR, hM⟩
theorem okS_ch (hO : okS C A ct ch gr fl ms er ml lk) {c2 : Nat} (h : c2 ≤ 4) : okS C A ct c2 gr fl ms er ml lk := ⟨⟨hO.1.1, hO.1.2.1, hO.1.2.2.1, hO.1.2.2.2.1, h⟩, hO.2⟩
theorem op_place (hO : okS C A ct ch gr fl ms er ml lk) (hR : repK k σ C A ct ch gr fl ms er ml lk) (hM : repM k2 σ2 C A ct ch gr fl ms er ml lk) (hfu : 200 ≤ fu) (x1 : Int32) : ∃ r σ' σ2' ch', fK_place k σ x1 = some (r, σ') ∧ fM_place fu k2 σ2 x1 = some (r, σ2') ∧ okS C A ct ch' gr fl ms er ml lk ∧ repK k σ' C A ct ch' gr fl ms er ml lk ∧ repM k2 σ2' C A ct ch' gr fl ms er ml lk := by
  have hC := hO.1
  have key : ∀ c2 : Nat, c2 ≤ 4 → fK_place_25 k σ (nI c2) = some (nI (tt C A ct c2), uK_chosenRow σ (nI c2)) ∧ ((fM_inAll fu k2 (uM_chosen σ2 (plI c2)) (plI c2)).bind fun v19 => some (v19, uM_chosen σ2 (plI c2))) = some (nI (tt C A ct c2), uM_chosen σ2 (plI c2)) ∧ repK k (uK_chosenRow σ (nI c2)) C A ct c2 gr fl ms er ml lk ∧ repM k2 (uM_chosen σ2 (plI c2)) C A ct c2 gr fl ms er ml lk := by
    intro c2 h2
    have q1 : repK k (uK_chosenRow σ (nI c2)) C A ct c2 gr fl ms er ml lk := ⟨hR.1, rfl, hR.2.2⟩
    have q2 : repM k2 (uM_chosen σ2 (plI c2)) C A ct c2 gr fl ms er ml lk := ⟨hM.1, rfl, hM.2.2⟩
    refine ⟨?_, ?_, q1, q2⟩
    · unfold fK_place_25
      rw [show kK_n k 1 = 5 from by rw [hR.1]; rfl]
      show (kld 5 (sK_rowSize σ) (nI c2)).bind _ = _
      rw [kld_n (by omega) (by omega), hR.2.2.2.1 c2 (by omega)]
      rfl
    · rw [iaM (okS_ch hO h2) q2 hfu (by omega)]
      rfl
  unfold fK_place fM_place fK_place_14
  by_cases h1 : x1 = -1
  · obtain ⟨k1, k2', k3, k4⟩ := key 4 (by omega)
    rw [if_pos h1, if_pos h1, if_neg (show ¬ x1 < -1 by rw [h1]; decide), if_pos (show x1 < 4 by rw [h1]; decide), h1]
    exact ⟨_, _, _, 4, k1, k2', okS_ch hO (by omega), k3, k4⟩
  · rw [if_neg h1, if_neg h1]
    rcases pk_ix x1 (show 4 < 2 ^ 31 by omega) with h | h | ⟨j, hj, rfl⟩
    · have e : fK_isPlace x1 = 0 := by unfold fK_isPlace; rw [if_pos h]
      have h9 : x1 < -1 := by
        rw [Int32.lt_iff_toInt_lt] at h ⊢
        have h8 : ¬ x1.toInt = (-1 : Int32).toInt := fun q => h1 (Int32.toInt_inj.mp q)
        have : (-1 : Int32).toInt = -1 := by decide
        rw [Int32.toInt_zero] at h
        omega
      rw [e, if_pos (show (0 : Int32) = 0 from rfl), if_pos h9]
      exact ⟨_, _, _, _, rfl, rfl, hO, hR, hM⟩
    · have h0 : ¬ x1 < 0 := by
        intro q
        rw [Int32.lt_iff_toInt_lt, Int32.toInt_zero] at q
        rw [Int32.le_iff_toInt_le, nI_toInt (by omega)] at h
        omega
      have e : fK_isPlace x1 = 0 := by unfold fK_isPlace; rw [if_neg h0, if_pos (show (4 : Int32) ≤ x1 from h)]
      have h9 : ¬ x1 < -1 := by
        intro q
        rw [Int32.lt_iff_toInt_lt] at q
        rw [Int32.le_iff_toInt_le, nI_toInt (by omega)] at h
        have : (-1 : Int32).toInt = -1 := by decide
        omega
      have h8 : ¬ x1 < 4 := by
        intro q
        rw [Int32.lt_iff_toInt_lt] at q
        rw [Int32.le_iff_toInt_le] at h
        have : (nI 4).toInt = (4 : Int32).toInt := rfl
        omega
      rw [e, if_pos (show (0 : Int32) = 0 from rfl), if_neg h9, if_neg h8]
      exact ⟨_, _, _, _, rfl, rfl, hO, hR, hM⟩
    · obtain ⟨k1, k2', k3, k4⟩ := key j (by omega)
      have e : fK_isPlace (nI j) = 1 := by
        unfold fK_isPlace
        rw [if_neg (nI_pos (by omega)), if_neg (show ¬ (4 : Int32) ≤ nI j by rw [show (4 : Int32) = nI 4 from rfl, nI_leI (by omega) (by omega)]; omega)]
      have h9 : ¬ nI j < -1 := by
        intro q
        rw [Int32.lt_iff_toInt_lt, nI_toInt (by omega)] at q
        have : (-1 : Int32).toInt = -1 := by decide
        omega
      have hpl : plI j = nI j := by unfold plI; rw [if_neg (by omega)]
      rw [hpl] at k2' k4
      rw [e, if_neg one_ne, if_neg h9, if_pos (show nI j < 4 by rw [show (4 : Int32) = nI 4 from rfl, nI_ltI (by omega) (by omega)]; omega)]
      exact ⟨_, _, _, j, k1, k2', okS_ch hO (by omega), k3, k4⟩
end O3
