/-! The reference's determinant. -/
section DM
variable {k : kM} {σ : sM} {A fu : Nat}
theorem ce_2 (σ : sM) (f g : Nat → Int64) : uM_cells (uM_cells σ f) g = uM_cells σ g := by
  have e : va_up (va_up σ.2.2.2 1 f) 1 g = va_up σ.2.2.2 1 g := up_2 _ 1 f g
  unfold uM_cells
  exact congrArg (fun z => (σ.1, σ.2.1, σ.2.2.1, z)) e
theorem ce_0 (σ : sM) : σ = uM_cells σ (sM_cells σ) := by
  obtain ⟨a, b, c, d⟩ := σ
  exact congrArg (fun z => (a, b, c, z)) (up_0 d 1)
/-- the reference's sizes -/
def szM (k : kM) (A : Nat) : Prop := kM_ages k = nI A ∧ kM_n k 7 = 36 ∧ kM_n k 4 = 36 ∧ 1 ≤ A ∧ A ≤ 6
theorem mz_i (i j : Nat) : 6 * nI i + nI j = nI (6 * i + j) := by rw [show (6 : Int32) = nI 6 from rfl, pk_mul, nI_add]
theorem ce_ld (h : szM k A) (f : Nat → Int64) {i j : Nat} (hi : i < A) (hj : j < A) : kld (kM_n k 7) (sM_cells (uM_cells σ f)) (6 * nI i + nI j) = some (f (6 * i + j)) := by
  have hA := h.2.2.2.2
  rw [mz_i, h.2.1, kld_n (show 6 * i + j < 36 by omega) (by omega)]
  rfl
theorem ce_st (h : szM k A) (f : Nat → Int64) {i j : Nat} (hi : i < A) (hj : j < A) (z : Int64) : kstJ (kM_n k 7) (sM_cells (uM_cells σ f)) (6 * nI i + nI j) z = some (vp_updL f (6 * i + j) z) := by
  have hA := h.2.2.2.2
  rw [mz_i, h.2.1, kstJ_n (show 6 * i + j < 36 by omega) (by omega)]
  rfl
theorem mz_le (h : szM k A) {i : Nat} (hi : i ≤ A) : kM_ages k ≤ nI i ↔ A ≤ i := by
  have := h.2.2.2.2
  rw [h.1, nI_leI (by omega) (by omega)]
theorem pivM (h : szM k A) {f : Nat → Int64} {kk : Nat} {B : Nat → Nat → Int} (h7 : sM → Int64 → Int64 → Int32 → Option (Int64 × sM)) (x1 x3 : Int64) (hv : vw 6 A kk f B) (hkk : kk < A) (hb : ∀ i, kk ≤ i → i < A → (B i kk).natAbs < 2 ^ 63) : ∀ (d i n : Nat), i + d = A → d < n → kk ≤ i → (∃ p, i ≤ p ∧ p < A ∧ B p kk ≠ 0 ∧ fM_determinant_20 fu k h7 n (uM_cells σ f) x1 x3 (nI kk) (nI i) = fM_determinant_53 fu k h7 (uM_cells σ f) x1 x3 (nI kk) (nI p)) ∨ ((∀ p, i ≤ p → p < A → B p kk = 0) ∧ fM_determinant_20 fu k h7 n (uM_cells σ f) x1 x3 (nI kk) (nI i) = fM_determinant_53 fu k h7 (uM_cells σ f) x1 x3 (nI kk) (nI A))
  | 0, i, n + 1, hi, hn, hki => by
    refine Or.inr ⟨fun p h1 h2 => absurd h2 (by omega), ?_⟩
    have : i = A := by omega
    subst this
    rw [fM_determinant_20, if_pos ((mz_le h (by omega)).mpr (by omega))]
  | d + 1, i, n + 1, hi, hn, hki => by
    rw [fM_determinant_20, if_neg (show ¬ kM_ages k ≤ nI i by rw [mz_le h (by omega)]; omega), ce_ld h f (by omega) hkk, hv i kk hki (by omega) (by omega) hkk]
    simp only [Option.bind_some]
    by_cases hz : B i kk = 0
    · rw [if_pos (show lZ (B i kk) = 0 by rw [hz]; rfl), nI_1]
      rcases pivM h h7 x1 x3 hv hkk hb d (i + 1) n (by omega) (by omega) (by omega) with ⟨p, h1, h2, h3, h4⟩ | ⟨h1, h2⟩
      · exact Or.inl ⟨p, by omega, h2, h3, h4⟩
      · refine Or.inr ⟨fun p h3 h4 => ?_, h2⟩
        by_cases e : p = i
        · rw [e]; exact hz
        · exact h1 p (by omega) h4
    · rw [if_neg (show ¬ lZ (B i kk) = 0 by rw [lZ_eq0 (hb i hki (by omega))]; exact hz)]
      exact Or.inl ⟨i, by omega, by omega, hz, rfl⟩
theorem swM (h : szM k A) (h7 : sM → Int64 → Int64 → Int32 → Option (Int64 × sM)) (x1 x3 : Int64) {g : Nat → Int64} {a b : Nat} (hab : a ≠ b) (ha : a < A) (hb : b < A) : ∀ (d j n : Nat) (f : Nat → Int64), j + d = A → d < n → swm 6 A a b j f g → ∃ f', fM_determinant_67 fu k h7 n (uM_cells σ f) x1 x3 (nI a) (nI b) (nI j) = fM_determinant_145 fu k h7 (uM_cells σ f') x1 x3 (nI a) (nI b) ∧ swm 6 A a b A f' g
  | 0, j, n + 1, f, hj, hn, hf => by
    refine ⟨f, ?_, ?_⟩
    · rw [fM_determinant_67, if_pos ((mz_le h (by omega)).mpr (by omega))]
    · have : j = A := by omega
      subst this
      exact hf
  | d + 1, j, n + 1, f, hj, hn, hf => by
    have hA := h.2.2.2.2
    obtain ⟨f', e1, e2⟩ := swM h h7 x1 x3 hab ha hb d (j + 1) n _ (by omega) (by omega) (swm_put hA hab ha hb (show j < A by omega) hf)
    refine ⟨f', ?_, e2⟩
    rw [fM_determinant_67, if_neg (show ¬ kM_ages k ≤ nI j by rw [mz_le h (by omega)]; omega), if_neg (show ¬ nI b = nI a by rw [nI_eq (by omega) (by omega)]; omega), ce_ld h f ha (by omega), ce_ld h f hb (by omega)]
    simp only [Option.bind_some]
    rw [ce_st h f ha (by omega)]
    simp only [Option.bind_some]
    rw [ce_2, ce_st h _ hb (by omega)]
    simp only [Option.bind_some]
    rw [ce_2, nI_1]
    exact e1
theorem c180 (h : szM k A) {X B : Nat → Nat → Int} {P : Int} {kk : Nat} (hI : binv A kk X B P) (hT : tiny A X) (hk : kk < A) (hp : B kk kk ≠ 0) {i : Nat} (hi : kk < i) (hin : i < A) (h7 : sM → Int64 → Int64 → Int32 → Option (Int64 × sM)) (h165 : sM → Int64 → Int64 → Int32 → Int32 → Option (Int64 × sM)) (x3 : Int64) : ∀ (d j n : Nat) (f : Nat → Int64), j + d = A → d < n → kk + 1 ≤ j → vw 6 A kk f (st B (bm X (kk + 1)) kk (kk + 1) i j) → ∃ f', fM_determinant_180 fu k h7 h165 n (uM_cells σ f) (lZ P) x3 (nI kk) (nI i) (nI j) = h165 (uM_cells σ f') (lZ P) x3 (nI kk) (nI (i + 1)) ∧ vw 6 A kk f' (st B (bm X (kk + 1)) kk (kk + 1) (i + 1) (kk + 1))
  | 0, j, n + 1, f, hj, hn, hkj, hf => by
    refine ⟨f, ?_, ?_⟩
    · rw [fM_determinant_180, if_pos ((mz_le h (by omega)).mpr (by omega)), nI_1]
    · have : j = A := by omega
      subst this
      exact vw_end (by omega) hf
  | d + 1, j, n + 1, f, hj, hn, hkj, hf => by
    have hA := h.2.2.2.2
    obtain ⟨f', e1, e2⟩ := c180 h hI hT hk hp hi hin h7 h165 x3 d (j + 1) n _ (by omega) (by omega) (by omega) (vw_put hA hi hkj (show j < A by omega) hf)
    refine ⟨f', ?_, e2⟩
    have v1 : f (6 * i + j) = lZ (B i j) := by
      rw [hf i j (by omega) hin (by omega) (by omega)]
      unfold st
      rw [if_neg (by omega)]
    have v2 : f (6 * kk + j) = lZ (B kk j) := by
      rw [hf kk j (by omega) hk (by omega) (by omega)]
      unfold st
      rw [if_neg (by omega)]
    have v3 : f (6 * kk + kk) = lZ (B kk kk) := by
      rw [hf kk kk (by omega) hk (by omega) (by omega)]
      unfold st
      rw [if_neg (by omega)]
    have v4 : f (6 * i + kk) = lZ (B i kk) := by
      rw [hf i kk (by omega) hin (by omega) (by omega)]
      unfold st
      rw [if_neg (by omega)]
    rw [fM_determinant_180, if_neg (show ¬ kM_ages k ≤ nI j by rw [mz_le h (by omega)]; omega), ce_ld h f hin (by omega), ce_ld h f hk hk, ce_ld h f hin hk, ce_ld h f hk (by omega)]
    simp only [Option.bind_some]
    rw [v1, v2, v3, v4, Int64.mul_comm (lZ (B i j)), step_val hI hT hk hp hi hin (by omega) (by omega)]
    simp only [Option.bind_some]
    rw [ce_st h f hin (by omega)]
    simp only [Option.bind_some]
    rw [ce_2, nI_1]
    exact e1
theorem c165 (h : szM k A) (hfu : 200 ≤ fu) {X B : Nat → Nat → Int} {P : Int} {kk : Nat} (hI : binv A kk X B P) (hT : tiny A X) (hk : kk < A) (hp : B kk kk ≠ 0) (h7 : sM → Int64 → Int64 → Int32 → Option (Int64 × sM)) (x3 : Int64) : ∀ (d i n : Nat) (f : Nat → Int64), i + d = A → d < n → kk < i → vw 6 A kk f (st B (bm X (kk + 1)) kk (kk + 1) i (kk + 1)) → ∃ f', fM_determinant_165 fu k h7 n (uM_cells σ f) (lZ P) x3 (nI kk) (nI i) = h7 (uM_cells σ f') (lZ (B kk kk)) x3 (nI (kk + 1)) ∧ vw 6 A (kk + 1) f' (bm X (kk + 1))
  | 0, i, n + 1, f, hi, hn, hki, hf => by
    have : i = A := by omega
    subst this
    refine ⟨f, ?_, vw_last (by omega) hf⟩
    have v3 : f (6 * kk + kk) = lZ (B kk kk) := by
      rw [hf kk kk (by omega) hk (by omega) (by omega)]
      unfold st
      rw [if_neg (by omega)]
    rw [fM_determinant_165, if_pos ((mz_le h (by omega)).mpr (by omega)), ce_ld h f hk hk, v3]
    simp only [Option.bind_some]
    rw [nI_1]
  | d + 1, i, n + 1, f, hi, hn, hki, hf => by
    have hA := h.2.2.2.2
    obtain ⟨f1, e1, e2⟩ := c180 (σ := σ) (fu := fu) h hI hT hk hp hki (show i < A by omega) h7 (fM_determinant_165 fu k h7 n) x3 (A - (kk + 1)) (kk + 1) fu f (by omega) (by omega) (by omega) hf
    obtain ⟨f2, e3, e4⟩ := c165 h hfu hI hT hk hp h7 x3 d (i + 1) n f1 (by omega) (by omega) (by omega) e2
    refine ⟨f2, ?_, e4⟩
    rw [fM_determinant_165, if_neg (show ¬ kM_ages k ≤ nI i by rw [mz_le h (by omega)]; omega), nI_1, e1, e3]
theorem d158 (h : szM k A) (hfu : 200 ≤ fu) {X B : Nat → Nat → Int} {P : Int} {kk : Nat} (hI : binv A kk X B P) (hT : tiny A X) (hk : kk < A) (hp : B kk kk ≠ 0) {f : Nat → Int64} (hf : vw 6 A kk f B) (h7 : sM → Int64 → Int64 → Int32 → Option (Int64 × sM)) (x3 : Int64) : ∃ f', fM_determinant_158 fu k h7 (uM_cells σ f) x3 (lZ P) (nI kk) = h7 (uM_cells σ f') (lZ (B kk kk)) x3 (nI (kk + 1)) ∧ vw 6 A (kk + 1) f' (bm X (kk + 1)) := by
  have hA := h.2.2.2.2
  obtain ⟨f', e1, e2⟩ := c165 (σ := σ) (fu := fu) h hfu hI hT hk hp h7 x3 (A - (kk + 1)) (kk + 1) fu f (by omega) (by omega) (by omega) (vw_first hf)
  refine ⟨f', ?_, e2⟩
  unfold fM_determinant_158
  rw [nI_1, e1]
theorem d7M (h : szM k A) (hfu : 200 ≤ fu) {Z : Nat → Nat → Int} : ∀ (d kk n : Nat) (f : Nat → Int64) (X B : Nat → Nat → Int) (P s : Int), kk + d = A → d < n → binv A kk X B P → tiny A X → vw 6 A kk f B → dt A X = s * dt A Z → s * s = 1 → ∃ f', fM_determinant_7 fu k n (uM_cells σ f) (lZ P) (lZ s) (nI kk) = some (lZ (dt A Z), uM_cells σ f')
  | 0, kk, n + 1, f, X, B, P, s, hkk, hn, hI, hT, hf, hs, hss => by
    have : kk = A := by omega
    subst this
    refine ⟨f, ?_⟩
    rw [fM_determinant_7, if_pos ((mz_le h (by omega)).mpr (by omega)), lZ_mul, hI.1, hs, ← Int.mul_assoc, hss, Int.one_mul]
  | d + 1, kk, n + 1, f, X, B, P, s, hkk, hn, hI, hT, hf, hs, hss => by
    have hA := h.2.2.2.2
    have hk : kk < A := by omega
    rw [fM_determinant_7, if_neg (show ¬ kM_ages k ≤ nI kk by rw [mz_le h (by omega)]; omega)]
    rcases pivM (σ := σ) (fu := fu) h (fM_determinant_7 fu k n) (lZ P) (lZ s) hf hk (fun i h1 h2 => b_abs hI hT h1 h2 (by omega) hk) (A - kk) kk fu (by omega) (by omega) (by omega) with ⟨p, h1, h2, h3, h4⟩ | ⟨h1, h2⟩
    · rw [h4]
      unfold fM_determinant_53
      rw [if_neg (show ¬ nI p = kM_ages k by rw [h.1, nI_eq (by omega) (by omega)]; omega)]
      by_cases hpk : p = kk
      · subst hpk
        obtain ⟨f1, e1, e2⟩ := d158 (σ := σ) (fu := fu) h hfu hI hT hk h3 hf (fM_determinant_7 fu k n) (lZ s)
        obtain ⟨f2, e3⟩ := d7M h hfu d (p + 1) n f1 X (bm X (p + 1)) (B p p) s (by omega) (by omega) (step_inv hI hk h3) hT e2 hs hss
        refine ⟨f2, ?_⟩
        obtain ⟨fz, rfl⟩ : ∃ fz, fu = fz + 1 := ⟨fu - 1, by omega⟩
        rw [fM_determinant_67, if_neg (show ¬ kM_ages k ≤ 0 by rw [← nI_zero, mz_le h (by omega)]; omega), if_pos (show nI p = nI p from rfl)]
        unfold fM_determinant_145
        rw [if_pos (show nI p = nI p from rfl), e1, e3]
      · obtain ⟨f0, e5, e6⟩ := swM (σ := σ) (fu := fu) h (fM_determinant_7 fu k n) (lZ P) (lZ s) (show kk ≠ p by omega) hk h2 A 0 fu f (by omega) (by omega) (swm_0 6 A kk p f)
        have hv0 := swm_vw (Nat.le_refl kk) hk h1 h2 e6 hf
        have hI0 := b_swap hI (Nat.le_refl kk) h1 hk h2
        have hT0 := tiny_sw hT hk h2
        have hp0 : sw B kk p kk kk ≠ 0 := by
          unfold sw
          rw [if_pos rfl]
          exact h3
        have hd : dt A (sw X kk p) = (- s) * dt A Z := by
          rw [sw_dt X (show kk < p by omega) h2, hs, Int.neg_mul]
        rw [show (0 : Int32) = nI 0 from rfl, e5]
        unfold fM_determinant_145
        rw [if_neg (show ¬ nI p = nI kk by rw [nI_eq (by omega) (by omega)]; exact hpk)]
        obtain ⟨f1, e1, e2⟩ := d158 (σ := σ) (fu := fu) h hfu hI0 hT0 hk hp0 hv0 (fM_determinant_7 fu k n) (lZ (- s))
        obtain ⟨f2, e3⟩ := d7M h hfu d (kk + 1) n f1 (sw X kk p) (bm (sw X kk p) (kk + 1)) (sw B kk p kk kk) (- s) (by omega) (by omega) (step_inv hI0 hk hp0) hT0 e2 hd (by rw [Int.neg_mul_neg]; exact hss)
        exact ⟨f2, by rw [lZ_neg, e1, e3]⟩
    · rw [h2]
      unfold fM_determinant_53
      have hz := b_stuck hI hk h1
      have hz2 : dt A Z = 0 := by
        rw [hz] at hs
        rcases Int.mul_eq_zero.mp hs.symm with q | q
        · rw [q] at hss
          exact absurd hss (by decide)
        · exact q
      refine ⟨f, ?_⟩
      rw [if_pos (show nI A = kM_ages k from h.1.symm), hz2]
      rfl
theorem detM (h : szM k A) (hfu : 200 ≤ fu) {X : Nat → Nat → Int} {f : Nat → Int64} (hT : tiny A X) (hf : vw 6 A 0 f X) : ∃ f', fM_determinant fu k (uM_cells σ f) = some (lZ (dt A X), uM_cells σ f') := by
  have hA := h.2.2.2.2
  exact d7M h hfu A 0 fu f X X 1 1 (by omega) (by omega) (b_start A X) hT hf (by rw [Int.one_mul]) rfl
end DM
