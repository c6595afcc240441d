/-! The class's determinant. -/
section DK
variable {k : kK} {σ : sK} {A fu : Nat}
theorem up_2 {α : Type} (h : Nat → α) (j : Nat) (f g : α) : va_up (va_up h j f) j g = va_up h j g := by
  funext i
  unfold va_up
  split <;> rfl
theorem up_0 {α : Type} (h : Nat → α) (j : Nat) : h = va_up h j (h j) := by
  funext i
  unfold va_up
  split
  · rename_i q; rw [q]
  · rfl
theorem sq_2 (σ : sK) (f g : Nat → Int64) : uK_square (uK_square σ f) g = uK_square σ g := by
  have e : va_up (va_up σ.2.2.2 1 f) 1 g = va_up σ.2.2.2 1 g := up_2 _ 1 f g
  unfold uK_square
  exact congrArg (fun z => (σ.1, σ.2.1, σ.2.2.1, z)) e
theorem sq_0 (σ : sK) : σ = uK_square σ (sK_square σ) := by
  obtain ⟨a, b, c, d⟩ := σ
  exact congrArg (fun z => (a, b, c, z)) (up_0 d 1)
/-- the class's sizes -/
def szK (k : kK) (A : Nat) : Prop := kK_ages k = nI A ∧ kK_n k 8 = A * A ∧ kK_n k 7 = A * A ∧ 1 ≤ A ∧ A ≤ 6
theorem sz_36 (h : szK k A) : A * A < 2 ^ 31 := by
  have := Nat.mul_le_mul h.2.2.2.2 h.2.2.2.2
  omega
theorem sz_ix (h : szK k A) {i j : Nat} (hi : i < A) (hj : j < A) : A * i + j < A * A := by
  have : A * (i + 1) ≤ A * A := Nat.mul_le_mul_left A hi
  rw [Nat.mul_add, Nat.mul_one] at this
  omega
theorem sz_i (h : szK k A) (i j : Nat) : nI i * kK_ages k + nI j = nI (A * i + j) := by rw [h.1, pk_mul, nI_add, Nat.mul_comm i A]
theorem sq_ld (h : szK k A) (f : Nat → Int64) {i j : Nat} (hi : i < A) (hj : j < A) : kld (kK_n k 8) (sK_square (uK_square σ f)) (nI i * kK_ages k + nI j) = some (f (A * i + j)) := by
  rw [sz_i h, h.2.1, kld_n (sz_ix h hi hj) (sz_36 h)]
  rfl
theorem sq_st (h : szK k A) (f : Nat → Int64) {i j : Nat} (hi : i < A) (hj : j < A) (z : Int64) : kstJ (kK_n k 8) (sK_square (uK_square σ f)) (nI i * kK_ages k + nI j) z = some (vp_updL f (A * i + j) z) := by
  rw [sz_i h, h.2.1, kstJ_n (sz_ix h hi hj) (sz_36 h)]
  rfl
theorem sz_le (h : szK k A) {i : Nat} (hi : i ≤ A) : kK_ages k ≤ nI i ↔ A ≤ i := by
  have := h.2.2.2.2
  rw [h.1, nI_leI (by omega) (by omega)]
theorem pivK (h : szK k A) {f : Nat → Int64} {kk : Nat} {B : Nat → Nat → Int} (hv : vw A A kk f B) (hkk : kk < A) (hb : ∀ i, kk ≤ i → i < A → (B i kk).natAbs < 2 ^ 63) : ∀ (d i n : Nat), i + d = A → d < n → kk ≤ i → (∃ p, i ≤ p ∧ p < A ∧ B p kk ≠ 0 ∧ fK_pivotRow_2 fu k (uK_square σ f) n (nI kk) (nI i) = some (nI p)) ∨ ((∀ p, i ≤ p → p < A → B p kk = 0) ∧ fK_pivotRow_2 fu k (uK_square σ f) n (nI kk) (nI i) = some (-1))
  | 0, i, n + 1, hi, hn, hki => by
    refine Or.inr ⟨fun p h1 h2 => absurd h2 (by omega), ?_⟩
    rw [fK_pivotRow_2, if_pos ((sz_le h (by omega)).mpr (by omega))]
  | d + 1, i, n + 1, hi, hn, hki => by
    rw [fK_pivotRow_2, if_neg (show ¬ kK_ages k ≤ nI i by rw [sz_le h (by omega)]; omega), sq_ld h f (by omega) hkk, hv i kk hki (by omega) (by omega) hkk]
    simp only [Option.bind_some]
    by_cases hz : B i kk = 0
    · rw [if_pos (show lZ (B i kk) = 0 by rw [hz]; rfl), nI_1]
      rcases pivK h hv hkk hb d (i + 1) n (by omega) (by omega) (by omega) with ⟨p, h1, h2, h3, h4⟩ | ⟨h1, h2⟩
      · exact Or.inl ⟨p, by omega, h2, h3, h4⟩
      · refine Or.inr ⟨fun p h3 h4 => ?_, h2⟩
        by_cases e : p = i
        · rw [e]; exact hz
        · exact h1 p (by omega) h4
    · rw [if_neg (show ¬ lZ (B i kk) = 0 by rw [lZ_eq0 (hb i hki (by omega))]; exact hz)]
      exact Or.inl ⟨i, by omega, by omega, hz, rfl⟩
theorem swK (h : szK k A) {g : Nat → Int64} {a b : Nat} (hab : a ≠ b) (ha : a < A) (hb : b < A) : ∀ (d j n : Nat) (f : Nat → Int64), j + d = A → d < n → swm A A a b j f g → ∃ f', fK_swapRows_2 fu k n (uK_square σ f) (nI a) (nI b) (nI j) = some (uK_square σ f') ∧ swm A A a b A f' g
  | 0, j, n + 1, f, hj, hn, hf => by
    refine ⟨f, ?_, ?_⟩
    · rw [fK_swapRows_2, if_pos ((sz_le h (by omega)).mpr (by omega))]
    · have : j = A := by omega
      subst this
      exact hf
  | d + 1, j, n + 1, f, hj, hn, hf => by
    obtain ⟨f', e1, e2⟩ := swK h hab ha hb d (j + 1) n _ (by omega) (by omega) (swm_put (Nat.le_refl A) hab ha hb (show j < A by omega) hf)
    refine ⟨f', ?_, e2⟩
    rw [fK_swapRows_2, if_neg (show ¬ kK_ages k ≤ nI j by rw [sz_le h (by omega)]; omega), sq_ld h f ha (by omega), sq_ld h f hb (by omega)]
    simp only [Option.bind_some]
    rw [sq_st h f ha (by omega)]
    simp only [Option.bind_some]
    rw [sq_2, sq_st h _ hb (by omega)]
    simp only [Option.bind_some]
    rw [sq_2, nI_1]
    exact e1
theorem c55 (h : szK k A) {X B : Nat → Nat → Int} {P : Int} {kk : Nat} (hI : binv A kk X B P) (hT : tiny A X) (hk : kk < A) (hp : B kk kk ≠ 0) {i : Nat} (hi : kk < i) (hin : i < A) (h27 : sK → Int32 → Int64 → Int64 → Int32 → Option sK) : ∀ (d j n : Nat) (f : Nat → Int64), j + d = A → d < n → kk ≤ j → vw A A kk f (st B (bm X (kk + 1)) kk kk i j) → ∃ f', fK_clearBelow_55 fu k h27 n (uK_square σ f) (nI kk) (lZ P) (lZ (B kk kk)) (nI i) (lZ (B i kk)) (nI j) = h27 (uK_square σ f') (nI kk) (lZ P) (lZ (B kk kk)) (nI (i + 1)) ∧ vw A A kk f' (st B (bm X (kk + 1)) kk kk (i + 1) kk)
  | 0, j, n + 1, f, hj, hn, hkj, hf => by
    refine ⟨f, ?_, ?_⟩
    · rw [fK_clearBelow_55, if_pos ((sz_le h (by omega)).mpr (by omega)), nI_1]
    · have : j = A := by omega
      subst this
      exact vw_end (Nat.le_refl _) hf
  | d + 1, j, n + 1, f, hj, hn, hkj, hf => by
    obtain ⟨f', e1, e2⟩ := c55 h hI hT hk hp hi hin h27 d (j + 1) n _ (by omega) (by omega) (by omega) (vw_put (Nat.le_refl A) hi hkj (show j < A by omega) hf)
    refine ⟨f', ?_, e2⟩
    have v1 : f (A * i + j) = lZ (B i j) := by
      rw [hf i j (by omega) hin hkj (by omega)]
      unfold st
      rw [if_neg (by omega)]
    have v2 : f (A * kk + j) = lZ (B kk j) := by
      rw [hf kk j (by omega) hk hkj (by omega)]
      unfold st
      rw [if_neg (by omega)]
    rw [fK_clearBelow_55, if_neg (show ¬ kK_ages k ≤ nI j by rw [sz_le h (by omega)]; omega), sq_ld h f hin (by omega), sq_ld h f hk (by omega)]
    simp only [Option.bind_some]
    rw [v1, v2, step_val hI hT hk hp hi hin hkj (by omega)]
    simp only [Option.bind_some]
    rw [sq_st h f hin (by omega)]
    simp only [Option.bind_some]
    rw [sq_2, nI_1]
    exact e1
theorem c27 (h : szK k A) (hfu : 200 ≤ fu) {X B : Nat → Nat → Int} {P : Int} {kk : Nat} (hI : binv A kk X B P) (hT : tiny A X) (hk : kk < A) (hp : B kk kk ≠ 0) : ∀ (d i n : Nat) (f : Nat → Int64), i + d = A → d < n → kk < i → vw A A kk f (st B (bm X (kk + 1)) kk kk i kk) → ∃ f', fK_clearBelow_27 fu k n (uK_square σ f) (nI kk) (lZ P) (lZ (B kk kk)) (nI i) = some (uK_square σ f') ∧ vw A A kk f' (st B (bm X (kk + 1)) kk kk A kk)
  | 0, i, n + 1, f, hi, hn, hki, hf => by
    refine ⟨f, ?_, ?_⟩
    · rw [fK_clearBelow_27, if_pos ((sz_le h (by omega)).mpr (by omega))]
    · have : i = A := by omega
      subst this
      exact hf
  | d + 1, i, n + 1, f, hi, hn, hki, hf => by
    have hA := h.2.2.2.2
    obtain ⟨f1, e1, e2⟩ := c55 (σ := σ) (fu := fu) h hI hT hk hp hki (show i < A by omega) (fK_clearBelow_27 fu k n) (A - kk) kk fu f (by omega) (by omega) (by omega) hf
    obtain ⟨f2, e3, e4⟩ := c27 h hfu hI hT hk hp d (i + 1) n f1 (by omega) (by omega) (by omega) e2
    refine ⟨f2, ?_, e4⟩
    have v1 : f (A * i + kk) = lZ (B i kk) := by
      rw [hf i kk (by omega) (by omega) (by omega) (by omega)]
      unfold st
      rw [if_neg (by omega)]
    rw [fK_clearBelow_27, if_neg (show ¬ kK_ages k ≤ nI i by rw [sz_le h (by omega)]; omega), sq_ld h f (by omega) hk]
    simp only [Option.bind_some]
    rw [v1, e1, e3]
theorem b_abs {n kk : Nat} {X B : Nat → Nat → Int} {P : Int} (hI : binv n kk X B P) (hT : tiny n X) {i j : Nat} (hi : kk ≤ i) (hin : i < n) (hj : kk ≤ j) (hjn : j < n) : (B i j).natAbs < 2 ^ 63 := by
  rw [b_bord hI hi hin hjn]
  have := tiny_bm hT hi hin hj hjn
  omega
theorem d50 (h : szK k A) (hfu : 200 ≤ fu) {X B : Nat → Nat → Int} {P : Int} {kk : Nat} (hI : binv A kk X B P) (hT : tiny A X) (hk : kk < A) (hp : B kk kk ≠ 0) {f : Nat → Int64} (hf : vw A A kk f B) (h7 : sK → Int64 → Int64 → Int32 → Option (Int64 × sK)) (x1 : Int64) : ∃ f', fK_determinant_50 fu k h7 (uK_square σ f) x1 (lZ P) (nI kk) = h7 (uK_square σ f') x1 (lZ (B kk kk)) (nI (kk + 1)) ∧ vw A A (kk + 1) f' (bm X (kk + 1)) := by
  have hA := h.2.2.2.2
  obtain ⟨f', e1, e2⟩ := c27 (σ := σ) (fu := fu) h hfu hI hT hk hp (A - (kk + 1)) (kk + 1) fu f (by omega) (by omega) (by omega) (vw_first hf)
  refine ⟨f', ?_, vw_last (by omega) e2⟩
  have hPb : P.natAbs < 2 ^ 63 := by
    rw [hI.1]
    have := tiny_dt hT (show kk ≤ A by omega)
    omega
  have v1 : f' (A * kk + kk) = lZ (B kk kk) := by
    rw [e2 kk kk (by omega) (by omega) (by omega) (by omega)]
    unfold st
    rw [if_neg (by omega)]
  unfold fK_determinant_50 fK_clearBelow
  rw [if_neg (show ¬ lZ P = 0 by rw [lZ_eq0 hPb]; exact hI.2.1), sq_ld h f hk hk, hf kk kk (by omega) hk (by omega) hk]
  simp only [Option.bind_some]
  rw [nI_1, e1]
  simp only [Option.bind_some]
  rw [sq_ld h f' hk hk, v1]
  simp only [Option.bind_some]
theorem d7K (h : szK k A) (hfu : 200 ≤ fu) {Z : Nat → Nat → Int} : ∀ (d kk n : Nat) (f : Nat → Int64) (X B : Nat → Nat → Int) (P s : Int), kk + d = A → d < n → binv A kk X B P → tiny A X → vw A A kk f B → dt A X = s * dt A Z → s * s = 1 → ∃ f', fK_determinant_7 fu k n (uK_square σ f) (lZ s) (lZ P) (nI kk) = some (lZ (dt A Z), uK_square σ f')
  | 0, kk, n + 1, f, X, B, P, s, hkk, hn, hI, hT, hf, hs, hss => by
    have : kk = A := by omega
    subst this
    refine ⟨f, ?_⟩
    rw [fK_determinant_7, if_pos ((sz_le h (by omega)).mpr (by omega)), lZ_mul, hI.1, hs, ← Int.mul_assoc, hss, Int.one_mul]
  | d + 1, kk, n + 1, f, X, B, P, s, hkk, hn, hI, hT, hf, hs, hss => by
    have hA := h.2.2.2.2
    have hk : kk < A := by omega
    rw [fK_determinant_7, if_neg (show ¬ kK_ages k ≤ nI kk by rw [sz_le h (by omega)]; omega)]
    unfold fK_pivotRow
    rcases pivK (σ := σ) (fu := fu) h hf hk (fun i h1 h2 => b_abs hI hT h1 h2 (by omega) hk) (A - kk) kk fu (by omega) (by omega) (by omega) with ⟨p, h1, h2, h3, h4⟩ | ⟨h1, h2⟩
    · rw [h4]
      simp only [Option.bind_some]
      rw [if_neg (m1_ne (by omega))]
      by_cases hpk : p = kk
      · subst hpk
        rw [if_pos rfl]
        obtain ⟨f1, e1, e2⟩ := d50 (σ := σ) (fu := fu) h hfu hI hT hk h3 hf (fK_determinant_7 fu k n) (lZ s)
        obtain ⟨f2, e3⟩ := d7K h hfu d (p + 1) n f1 X (bm X (p + 1)) (B p p) s (by omega) (by omega) (step_inv hI hk h3) hT e2 hs hss
        exact ⟨f2, by rw [e1, e3]⟩
      · rw [if_neg (show ¬ nI p = nI kk by rw [nI_eq (by omega) (by omega)]; exact hpk)]
        unfold fK_swapRows
        obtain ⟨f0, e5, e6⟩ := swK (σ := σ) (fu := fu) h hpk h2 hk A 0 fu f (by omega) (by omega) (swm_0 A A p kk f)
        have hv0 := swm_vw h1 h2 (Nat.le_refl kk) hk e6 hf
        have hI0 := b_swap hI h1 (Nat.le_refl kk) h2 hk
        have hT0 := tiny_sw hT h2 hk
        have hp0 : sw B p kk kk kk ≠ 0 := by
          unfold sw
          rw [if_neg (by omega), if_pos rfl]
          exact h3
        have hd : dt A (sw X p kk) = (- s) * dt A Z := by
          have e : sw X p kk = sw X kk p := by
            funext r
            unfold sw
            by_cases q1 : r = p
            · rw [if_pos q1, if_neg (by omega), if_pos q1]
            · by_cases q2 : r = kk
              · rw [if_neg q1, if_pos q2, if_pos q2]
              · rw [if_neg q1, if_neg q2, if_neg q2, if_neg q1]
          rw [e, sw_dt X (show kk < p by omega) h2, hs, Int.neg_mul]
        rw [show (0 : Int32) = nI 0 from rfl, e5]
        simp only [Option.bind_some]
        obtain ⟨f1, e1, e2⟩ := d50 (σ := σ) (fu := fu) h hfu hI0 hT0 hk hp0 hv0 (fK_determinant_7 fu k n) (lZ (- s))
        obtain ⟨f2, e3⟩ := d7K h hfu d (kk + 1) n f1 (sw X p kk) (bm (sw X p kk) (kk + 1)) (sw B p kk kk kk) (- s) (by omega) (by omega) (step_inv hI0 hk hp0) hT0 e2 hd (by rw [Int.neg_mul_neg]; exact hss)
        exact ⟨f2, by rw [lZ_neg, e1, e3]⟩
    · rw [h2]
      simp only [Option.bind_some]
      have hz := b_stuck hI hk h1
      have hz2 : dt A Z = 0 := by
        rw [hz] at hs
        rcases Int.mul_eq_zero.mp hs.symm with q | q
        · rw [q] at hss
          exact absurd hss (by decide)
        · exact q
      refine ⟨f, ?_⟩
      rw [if_true, hz2]
      rfl
theorem detK (h : szK k A) (hfu : 200 ≤ fu) {X : Nat → Nat → Int} {f : Nat → Int64} (hT : tiny A X) (hf : vw A A 0 f X) : ∃ f', fK_determinant fu k (uK_square σ f) = some (lZ (dt A X), uK_square σ f') := by
  have hA := h.2.2.2.2
  exact d7K h hfu A 0 fu f X X 1 1 (by omega) (by omega) (b_start A X) hT hf (by rw [Int.one_mul]) rfl
end DK
