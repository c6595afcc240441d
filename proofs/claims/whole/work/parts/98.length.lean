/-! length and pooled, side by side. -/
section LP
variable {C A : Nat} {ct : Nat → Nat → Nat → Nat} {ch : Nat} {gr : Nat → Nat} {fl : Nat → Option Nat} {ms : Nat → Nat} {er : Nat → Nat → Nat} {ml lk : Nat → Nat} {k : kK} {σ : sK} {k2 : kM} {σ2 : sM} {fu : Nat}
theorem po_no {x1 : Int32} (hi : fK_isAge k x1 = 0) : fK_poolOf fu k σ x1 = some (-1, σ) := by
  unfold fK_poolOf
  rw [hi, if_pos rfl]
theorem po_0 (hO : okS C A ct ch gr fl ms er ml lk) (hR : repK k σ C A ct ch gr fl ms er ml lk) (hfu : 200 ≤ fu) {a : Nat} (ha : a < A) (hi : fK_isAge k (nI a) = 1) (hn : nA C ct ch a = 0) : fK_poolOf fu k σ (nI a) = some (-1, σ) := by
  unfold fK_poolOf
  rw [hi, if_neg one_ne, roK hO hR hfu ha, hn]
  simp only [Option.bind_some]
  rw [if_pos nI_zero]
theorem op_length (hO : okS C A ct ch gr fl ms er ml lk) (hR : repK k σ C A ct ch gr fl ms er ml lk) (hM : repM k2 σ2 C A ct ch gr fl ms er ml lk) (hfu : 200 ≤ fu) (x1 x2 : Int32) : ∃ r σ' σ2', fK_length fu k σ x1 x2 = some (r, σ') ∧ fM_length fu k2 σ2 x1 x2 = some (r, σ2') ∧ repK k σ' C A ct ch gr fl ms er ml lk ∧ repM k2 σ2' C A ct ch gr fl ms er ml lk := by
  have hC := hO.1
  rcases part01 x2 with ⟨hp1, -⟩ | hp0
  rotate_left
  · refine ⟨-1, σ, σ2, ?_, ?_, hR, hM⟩
    · unfold fK_length
      rw [partT, hp0, if_pos rfl]
    · unfold fM_length
      rw [hp0]
      by_cases h : fM_isAge k2 x1 = 0
      · rw [if_pos h]
      · rw [if_neg h, if_pos rfl]
  rcases ageT hO hR hM x1 with ⟨a, ha, rfl, hi1, hi2⟩ | ⟨hi1, hi2⟩
  rotate_left
  · refine ⟨-1, σ, σ2, ?_, ?_, hR, hM⟩
    · unfold fK_length
      rw [partT, hp1, if_neg one_ne, po_no hi1]
      simp only [kbind2]
      rw [if_true]
    · unfold fM_length
      rw [hi2, if_pos rfl]
  by_cases h0 : nA C ct ch a = 0
  · refine ⟨-1, σ, σ2, ?_, ?_, hR, hM⟩
    · unfold fK_length
      rw [partT, hp1, if_neg one_ne, po_0 hO hR hfu ha hi1 h0]
      simp only [kbind2]
      rw [if_true]
    · unfold fM_length
      rw [hi2, if_neg one_ne, hp1, if_neg one_ne, ofAgeM hO hM hfu ha, h0]
      simp only [Option.bind_some]
      rw [if_pos nI_zero]
  have hn : 0 < nA C ct ch a := by omega
  have hn100 := nA_100 hO ha
  obtain ⟨σ', t, b, q, h1, h2, h3, h4, h5, q1, q2, q3, q4⟩ := poK hO hR hfu ha hi1 hn
  obtain ⟨σ2', u, w, e1, e2, e3, e4, e5, e6, e7, e8⟩ := meanM hO hM hfu h3 h4 ha hn q1 q2 q3
  obtain ⟨m1, m2, -, -⟩ := h5 q q1
  obtain ⟨g1, g2, g3, -⟩ := h3.2.2.2 q q1
  have f1 := F900 hO (show b (q + 1) ≤ A by omega)
  have f2 := G100 hO (show b (q + 1) ≤ A by omega)
  rw [dF_n (show b q ≤ b (q + 1) by omega), dG_n (show b q ≤ b (q + 1) by omega)] at e8
  rw [dG_n (show b q ≤ b (q + 1) by omega)] at g3
  have e9 : u * (sG C ct ch (b (q + 1)) - sG C ct ch (b q)) = (sF C ct ch (b (q + 1)) - sF C ct ch (b q)) * w := by exact_mod_cast e8
  have g4 : 0 < sG C ct ch (b (q + 1)) - sG C ct ch (b q) := by exact_mod_cast g3
  refine ⟨fr u w x2, σ', σ2', ?_, ?_, h2, e2⟩
  · unfold fK_length
    rw [partT, hp1, if_neg one_ne, q4]
    simp only [kbind2]
    rw [if_neg (m1_ne (show q < 2 ^ 31 by omega)), show kK_n k 9 = A from by rw [hR.1]; rfl, show kK_n k 10 = A from by rw [hR.1]; rfl, kld_n (show q < A by omega) (by omega), kld_n (show q < A by omega) (by omega), m1, m2]
    simp only [Option.bind_some]
    rw [i64 (by omega), i64 (by omega), fracK hfu (by omega) g4 (by omega) x2]
    simp only [Option.bind_some]
    rw [fr_eq g4 e5 e9.symm x2]
  · unfold fM_length
    rw [hi2, if_neg one_ne, hp1, if_neg one_ne, ofAgeM hO hM hfu ha]
    simp only [Option.bind_some]
    rw [if_neg (nI_ne0 hn (by omega)), e1]
    simp only [Option.bind_some]
    rw [e3, e4, fracM hfu (by omega) e5 (by omega) x2]
    rfl
theorem pool_of {t : Nat} {b : Nat → Nat} (hp : pm (zF C ct ch) (zG C ct ch) t A b) {a : Nat} (ha : a < A) (hn : 0 < nA C ct ch a) : ∀ (d p : Nat), p + d = t → b p ≤ a → ∃ q, q < t ∧ b q ≤ a ∧ a < b (q + 1)
  | 0, p, hpd, hb => by
    have : p = t := by omega
    subst this
    obtain ⟨-, q1⟩ := hp.2.2.1 a hb (by omega)
    obtain ⟨-, q2⟩ := hp.2.2.1 (a + 1) (by omega) (by omega)
    rw [zG_s] at q2
    exact absurd hn (by omega)
  | d + 1, p, hpd, hb => by
    by_cases hl : b (p + 1) ≤ a
    · exact pool_of hp ha hn d (p + 1) (by omega) hl
    · exact ⟨p, by omega, hb, by omega⟩
theorem al_eq {u w v z S N : Int} (hN : 0 < N) (h1 : u * N = S * w) (h2 : v * N = S * z) : u * z = v * w := by
  refine Int.eq_of_mul_eq_mul_left (show N ≠ 0 by omega) ?_
  grind
theorem al_ne {u w v z S N T M : Int} (hN : 0 < N) (hM : 0 < M) (hw : 0 < w) (hz : 0 < z) (h1 : u * N = S * w) (h2 : v * M = T * z) (h : S * M < T * N) : u * z < v * w := by
  have a1 : 0 < w * z := Int.mul_pos hw hz
  have a2 : w * z * (S * M) < w * z * (T * N) := Int.mul_lt_mul_of_pos_left h a1
  have a3 : 0 < N * M := Int.mul_pos hN hM
  refine Int.lt_of_mul_lt_mul_left (a := N * M) ?_ (by omega)
  have e1 : N * M * (u * z) = w * z * (S * M) := by grind
  have e2 : N * M * (v * w) = w * z * (T * N) := by grind
  omega
theorem same (hO : okS C A ct ch gr fl ms er ml lk) (hM : repM k2 σ2 C A ct ch gr fl ms er ml lk) (hfu : 200 ≤ fu) {t : Nat} {b : Nat → Nat} (hp : pm (zF C ct ch) (zG C ct ch) t A b) (hs : slo (zF C ct ch) (zG C ct ch) t b) {a q : Nat} (ha : a < A) (hn : 0 < nA C ct ch a) (hq : q < t) (hq1 : b q ≤ a) (hq2 : a < b (q + 1)) {y : Nat} (hy : y < A) (hny : 0 < nA C ct ch y) :
    ∃ (σ2' : sM), repM k2 σ2' C A ct ch gr fl ms er ml lk ∧ fM_isSame fu k2 σ2 (nI a) (nI y) = some (if b q ≤ y ∧ y < b (q + 1) then 1 else 0, σ2') := by
  obtain ⟨p, p1, p2, p3⟩ := pool_of hp hy hny t 0 (by omega) (by rw [hp.1]; omega)
  obtain ⟨s1, u, w, e1, e2, e3, e4, e5, e6, e7, e8⟩ := meanM hO hM hfu hp hs ha hn hq hq1 hq2
  obtain ⟨s2, v, z, d1, d2, d3, d4, d5, d6, d7, d8⟩ := meanM hO e2 hfu hp hs hy hny p1 p2 p3
  have gq := (hp.2.2.2 q hq).2.2.1
  have gp := (hp.2.2.2 p p1).2.2.1
  have b1 : u * z ≤ 900 * 100 := Nat.mul_le_mul e7 d6
  have b2 : v * w ≤ 900 * 100 := Nat.mul_le_mul d7 e6
  have key : lN u * lN z = lN v * lN w ↔ (u : Int) * (z : Int) = (v : Int) * (w : Int) := by
    rw [← lZ_n, ← lZ_n, ← lZ_n, ← lZ_n, lZ_mul, lZ_mul]
    refine lZ_inj ?_ ?_
    · rw [Int.natAbs_mul]
      show u * z < 2 ^ 63
      omega
    · rw [Int.natAbs_mul]
      show v * w < 2 ^ 63
      omega
  refine ⟨s2, d2, ?_⟩
  unfold fM_isSame
  rw [e1]
  simp only [Option.bind_some]
  rw [d1]
  simp only [Option.bind_some]
  rw [e3, e4, d3, d4]
  rcases Nat.lt_trichotomy p q with h | h | h
  · have hm := b_mono hp (q - (p + 1)) (p + 1) (by omega)
    rw [show p + 1 + (q - (p + 1)) = q by omega] at hm
    have hl := sl_lt hp hs (q - p - 1) p (by omega)
    rw [show p + (q - p - 1 + 1) = q by omega] at hl
    have := al_ne gp gq (show (0 : Int) < z by omega) (show (0 : Int) < w by omega) d8 e8 hl
    rw [if_neg (show ¬ lN u * lN z = lN v * lN w by rw [key]; omega), if_neg (show ¬ (b q ≤ y ∧ y < b (q + 1)) by omega)]
  · subst h
    rw [if_pos (key.mpr (al_eq gq e8 d8)), if_pos ⟨p2, p3⟩]
  · have hm := b_mono hp (p - (q + 1)) (q + 1) (by omega)
    rw [show q + 1 + (p - (q + 1)) = p by omega] at hm
    have hl := sl_lt hp hs (p - q - 1) q (by omega)
    rw [show q + (p - q - 1 + 1) = p by omega] at hl
    have := al_ne gq gp (show (0 : Int) < w by omega) (show (0 : Int) < z by omega) e8 d8 hl
    rw [if_neg (show ¬ lN u * lN z = lN v * lN w by rw [key]; omega), if_neg (show ¬ (b q ≤ y ∧ y < b (q + 1)) by omega)]
/-- an age with readings, of the pool -/
def inP (C : Nat) (ct : Nat → Nat → Nat → Nat) (ch L R y : Nat) : Nat := if nA C ct ch y = 0 then 0 else if L ≤ y ∧ y < R then 1 else 0
theorem pl22 (hO : okS C A ct ch gr fl ms er ml lk) (hfu : 200 ≤ fu) {t : Nat} {b : Nat → Nat} (hp : pm (zF C ct ch) (zG C ct ch) t A b) (hs : slo (zF C ct ch) (zG C ct ch) t b) {a q : Nat} (ha : a < A) (hn : 0 < nA C ct ch a) (hq : q < t) (hq1 : b q ≤ a) (hq2 : a < b (q + 1)) : ∀ (d x n acc : Nat) (σ2 : sM), x + d = A → d < n → repM k2 σ2 C A ct ch gr fl ms er ml lk → ∃ σ2', repM k2 σ2' C A ct ch gr fl ms er ml lk ∧ fM_pooled_22 fu k2 n σ2 (nI a) (nI acc) (nI x) = some (nI (acc + su (inP C ct ch (b q) (b (q + 1))) x d), σ2')
  | 0, x, n + 1, acc, σ2, hx, hnn, hM => by
    have h := szM_of hO hM
    refine ⟨σ2, hM, ?_⟩
    rw [fM_pooled_22, if_pos ((mz_le h (by omega)).mpr (by omega))]
    rfl
  | d + 1, x, n + 1, acc, σ2, hx, hnn, hM => by
    have hC := hO.1
    have h := szM_of hO hM
    have hn100 := nA_100 hO (show x < A by omega)
    have fin : ∀ (σ3 : sM) (v : Nat), repM k2 σ3 C A ct ch gr fl ms er ml lk → inP C ct ch (b q) (b (q + 1)) x = v → ∃ σ2', repM k2 σ2' C A ct ch gr fl ms er ml lk ∧ fM_pooled_22 fu k2 n σ3 (nI a) (nI acc + nI v) (nI x + 1) = some (nI (acc + su (inP C ct ch (b q) (b (q + 1))) x (d + 1)), σ2') := by
      intro σ3 v h3 hv
      obtain ⟨σ4, r1, r2⟩ := pl22 hO hfu hp hs ha hn hq hq1 hq2 d (x + 1) n (acc + v) σ3 (by omega) (by omega) h3
      refine ⟨σ4, r1, ?_⟩
      rw [nI_add, nI_1, r2, Nat.add_assoc, ← hv]
      rfl
    rw [fM_pooled_22, if_neg (show ¬ kM_ages k2 ≤ nI x by rw [mz_le h (by omega)]; omega), ofAgeM hO hM hfu (show x < A by omega)]
    simp only [Option.bind_some]
    by_cases h0 : nA C ct ch x = 0
    · rw [if_pos ((pos_n (by omega)).mpr h0)]
      exact fin σ2 0 hM (by unfold inP; rw [if_pos h0])
    · rw [if_neg (show ¬ nI (nA C ct ch x) ≤ 0 by rw [pos_n (by omega)]; exact h0)]
      obtain ⟨σ3, r1, r2⟩ := same hO hM hfu hp hs ha hn hq hq1 hq2 (show x < A by omega) (show 0 < nA C ct ch x by omega)
      rw [r2]
      simp only [kbind2]
      by_cases hI : b q ≤ x ∧ x < b (q + 1)
      · rw [if_pos hI, if_neg one_ne]
        exact fin σ3 1 r1 (by unfold inP; rw [if_neg h0, if_pos hI])
      · rw [if_neg hI, if_pos rfl]
        exact fin σ3 0 r1 (by unfold inP; rw [if_neg h0, if_neg hI])
theorem su_in {L R : Nat} (h : L ≤ R) : ∀ x : Nat, (x ≤ L → su (inP C ct ch L R) 0 x = 0) ∧ (L ≤ x → x ≤ R → su (inP C ct ch L R) 0 x + kN C ct ch L = kN C ct ch x) ∧ (R ≤ x → su (inP C ct ch L R) 0 x + kN C ct ch L = kN C ct ch R)
  | 0 => by
    refine ⟨fun _ => rfl, fun h1 _ => ?_, fun h1 => ?_⟩
    · have : L = 0 := by omega
      subst this
      rfl
    · have h2 : L = 0 := by omega
      have h3 : R = 0 := by omega
      subst h2 h3
      rfl
  | x + 1 => by
    obtain ⟨i1, i2, i3⟩ := su_in h x
    have A1 : x + 1 ≤ L → su (inP C ct ch L R) 0 (x + 1) = 0 := by
      intro h1
      rw [su_d, i1 (by omega)]
      unfold inP
      rw [if_neg (show ¬ (L ≤ x ∧ x < R) by omega)]
      split <;> rfl
    have A2 : L ≤ x + 1 → x + 1 ≤ R → su (inP C ct ch L R) 0 (x + 1) + kN C ct ch L = kN C ct ch (x + 1) := by
      intro h1 h2
      by_cases e : L = x + 1
      · rw [A1 (by omega), e, Nat.zero_add]
      · have := i2 (by omega) (by omega)
        rw [su_d, kN_s, ← this]
        unfold inP
        rw [if_pos (show L ≤ x ∧ x < R by omega)]
        omega
    refine ⟨A1, A2, fun h1 => ?_⟩
    by_cases e : R = x + 1
    · rw [e] at A2 ⊢
      exact A2 (by omega) (Nat.le_refl _)
    · have := i3 (by omega)
      rw [su_d, ← this]
      unfold inP
      rw [if_neg (show ¬ (L ≤ x ∧ x < R) by omega)]
      have e0 : (if nA C ct ch x = 0 then 0 else 0) = 0 := by split <;> rfl
      rw [e0]
      omega
theorem op_pooled (hO : okS C A ct ch gr fl ms er ml lk) (hR : repK k σ C A ct ch gr fl ms er ml lk) (hM : repM k2 σ2 C A ct ch gr fl ms er ml lk) (hfu : 200 ≤ fu) (x1 : Int32) : ∃ r σ' σ2', fK_pooled fu k σ x1 = some (r, σ') ∧ fM_pooled fu k2 σ2 x1 = some (r, σ2') ∧ repK k σ' C A ct ch gr fl ms er ml lk ∧ repM k2 σ2' C A ct ch gr fl ms er ml lk := by
  have hC := hO.1
  rcases ageT hO hR hM x1 with ⟨a, ha, rfl, hi1, hi2⟩ | ⟨hi1, hi2⟩
  rotate_left
  · refine ⟨0, σ, σ2, ?_, ?_, hR, hM⟩
    · unfold fK_pooled
      rw [po_no hi1]
      simp only [kbind2]
      rw [if_true]
    · unfold fM_pooled
      rw [hi2, if_pos rfl]
  by_cases h0 : nA C ct ch a = 0
  · refine ⟨0, σ, σ2, ?_, ?_, hR, hM⟩
    · unfold fK_pooled
      rw [po_0 hO hR hfu ha hi1 h0]
      simp only [kbind2]
      rw [if_true]
    · unfold fM_pooled
      rw [hi2, if_neg one_ne, ofAgeM hO hM hfu ha, h0]
      simp only [Option.bind_some]
      rw [if_pos nI_zero]
  have hn : 0 < nA C ct ch a := by omega
  have hn100 := nA_100 hO ha
  obtain ⟨σ', t, b, q, h1, h2, h3, h4, h5, q1, q2, q3, q4⟩ := poK hO hR hfu ha hi1 hn
  obtain ⟨-, -, m3, -⟩ := h5 q q1
  obtain ⟨g1, g2, g3, -⟩ := h3.2.2.2 q q1
  obtain ⟨σ2', r1, r2⟩ := pl22 (fu := fu) hO hfu h3 h4 ha hn q1 q2 q3 A 0 fu 0 σ2 (by omega) (by omega) hM
  have hsum := (su_in (C := C) (ct := ct) (ch := ch) (show b q ≤ b (q + 1) by omega) A).2.2 g2
  refine ⟨nI (kN C ct ch (b (q + 1)) - kN C ct ch (b q)), σ', σ2', ?_, ?_, h2, r1⟩
  · unfold fK_pooled
    rw [q4]
    simp only [kbind2]
    rw [if_neg (m1_ne (show q < 2 ^ 31 by omega)), show kK_n k 11 = A from by rw [hR.1]; rfl, kld_n (show q < A by omega) (by omega), m3]
    rfl
  · unfold fM_pooled
    rw [hi2, if_neg one_ne, ofAgeM hO hM hfu ha]
    simp only [Option.bind_some]
    rw [if_neg (nI_ne0 hn (by omega))]
    rw [show (0 : Int32) = nI 0 from rfl, r2, ← hsum, Nat.add_sub_cancel, Nat.zero_add]
theorem owed : Owed4 := by
  intro fu k σ k2 σ2 hfu h
  obtain ⟨C, A, ct, ch, gr, fl, ms, er, ml, lk, hO, hR, hM⟩ := h
  refine ⟨?_, fun x1 x2 x3 => ?_, fun x1 x2 => ?_, fun x1 => ?_⟩
  · obtain ⟨r, σ', σ2', e1, e2, e4, e5⟩ := op_undo hO hR hM hfu
    exact ⟨r, σ', σ2', e1, e2, _, _, _, _, _, _, _, _, _, _, hO, e4, e5⟩
  · obtain ⟨r, σ', σ2', e1, e2, e4, e5⟩ := op_undone hO hR hM hfu x1 x2 x3
    exact ⟨r, σ', σ2', e1, e2, _, _, _, _, _, _, _, _, _, _, hO, e4, e5⟩
  · obtain ⟨r, σ', σ2', e1, e2, e4, e5⟩ := op_length hO hR hM hfu x1 x2
    exact ⟨r, σ', σ2', e1, e2, _, _, _, _, _, _, _, _, _, _, hO, e4, e5⟩
  · obtain ⟨r, σ', σ2', e1, e2, e4, e5⟩ := op_pooled hO hR hM hfu x1
    exact ⟨r, σ', σ2', e1, e2, _, _, _, _, _, _, _, _, _, _, hO, e4, e5⟩
end LP
