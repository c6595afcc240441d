/-! Pools whose means rise: the points (G k, F k) and the line below them. -/
theorem al_1 {s1 n1 s2 n2 y z : Int} (h1 : 0 < n1) (hy : 0 ≤ y) (hp : s1 * y ≤ n1 * z) (h2 : 0 < n2) (hd : s2 * n1 ≤ s1 * n2) : (s1 + s2) * y ≤ (n1 + n2) * z := by
  have a1 : s2 * n1 * y ≤ s1 * n2 * y := Int.mul_le_mul_of_nonneg_right hd hy
  have a2 : (n1 + n2) * (s1 * y) ≤ (n1 + n2) * (n1 * z) := Int.mul_le_mul_of_nonneg_left hp (by omega)
  refine Int.le_of_mul_le_mul_left (a := n1) ?_ h1
  grind
theorem al_2 {s1 n1 s2 n2 y z : Int} (h1 : 0 < n1) (h2 : 0 < n2) (hy : y ≤ n2) (hp : s2 * y ≤ n2 * z) (hd : s2 * n1 ≤ s1 * n2) : (s1 + s2) * (n1 + y) ≤ (n1 + n2) * (s1 + z) := by
  have a1 : 0 ≤ (s1 * n2 - s2 * n1) * (n2 - y) := Int.mul_nonneg (by omega) (by omega)
  have a2 : (n1 + n2) * (s2 * y) ≤ (n1 + n2) * (n2 * z) := Int.mul_le_mul_of_nonneg_left hp (by omega)
  refine Int.le_of_mul_le_mul_left (a := n2) ?_ h2
  grind
theorem al_up {sp np sq nq y z : Int} (h1 : 0 < np) (h2 : 0 < nq) (hy : 0 ≤ y) (hp : sq * y ≤ nq * z) (hd : sp * nq ≤ sq * np) : sp * y ≤ np * z := by
  have a1 : sp * nq * y ≤ sq * np * y := Int.mul_le_mul_of_nonneg_right hd hy
  have a2 : np * (sq * y) ≤ np * (nq * z) := Int.mul_le_mul_of_nonneg_left hp (by omega)
  refine Int.le_of_mul_le_mul_left (a := nq) ?_ h2
  grind
theorem al_dn {sp np sq nq y z : Int} (h1 : 0 < np) (h2 : 0 < nq) (hy : y ≤ 0) (hp : sq * y ≤ nq * z) (hd : sq * np ≤ sp * nq) : sp * y ≤ np * z := by
  have a1 : 0 ≤ (sp * nq - sq * np) * (0 - y) := Int.mul_nonneg (by omega) (by omega)
  have a2 : np * (sq * y) ≤ np * (nq * z) := Int.mul_le_mul_of_nonneg_left hp (by omega)
  refine Int.le_of_mul_le_mul_left (a := nq) ?_ h2
  grind
theorem al_tr {sp np sq nq sr nr : Int} (h1 : 0 < np) (h2 : 0 < nq) (h3 : 0 < nr) (ha : sp * nq ≤ sq * np) (hb : sq * nr < sr * nq) : sp * nr < sr * np := by
  have a1 : nr * (sp * nq) ≤ nr * (sq * np) := Int.mul_le_mul_of_nonneg_left ha (by omega)
  have a2 : np * (sq * nr) < np * (sr * nq) := Int.mul_lt_mul_of_pos_left hb h1
  refine Int.lt_of_mul_lt_mul_left (a := nq) ?_ (by omega)
  grind
theorem al_sub {s n y z : Int} (h : s * y ≤ n * z) : s * (y - n) ≤ n * (z - s) := by
  rw [Int.mul_sub, Int.mul_sub, Int.mul_comm s n]
  omega
section PM
variable {F G : Nat → Int}
/-- pool p holds the ages from b p on, below b (p + 1) -/
def dS (F : Nat → Int) (b : Nat → Nat) (p : Nat) : Int := F (b (p + 1)) - F (b p)
def pm (F G : Nat → Int) (t x : Nat) (b : Nat → Nat) : Prop := b 0 = 0 ∧ b t ≤ x ∧ (∀ k, b t ≤ k → k ≤ x → F k = F (b t) ∧ G k = G (b t)) ∧ ∀ p, p < t → b p < b (p + 1) ∧ b (p + 1) ≤ x ∧ 0 < dS G b p ∧ ∀ k, b p ≤ k → k ≤ b (p + 1) → dS F b p * (G k - G (b p)) ≤ dS G b p * (F k - F (b p))
def slo (F G : Nat → Int) (t : Nat) (b : Nat → Nat) : Prop := ∀ p, p + 1 < t → dS F b p * dS G b (p + 1) < dS F b (p + 1) * dS G b p
def mono (G : Nat → Int) : Prop := ∀ i j, i ≤ j → G i ≤ G j
theorem pm_0 (x : Nat) (hF : ∀ k, k ≤ x → F k = F 0) (hG : ∀ k, k ≤ x → G k = G 0) (b : Nat → Nat) (hb : b 0 = 0) : pm F G 0 x b := by
  refine ⟨hb, by omega, fun k _ h => ?_, fun p h => absurd h (by omega)⟩
  rw [hb]
  exact ⟨hF k h, hG k h⟩
theorem pm_skip {t x : Nat} {b : Nat → Nat} (h : pm F G t x b) (hF : F (x + 1) = F x) (hG : G (x + 1) = G x) : pm F G t (x + 1) b := by
  obtain ⟨h0, h1, h2, h3⟩ := h
  refine ⟨h0, by omega, fun k hk hx => ?_, fun p hp => ?_⟩
  · by_cases e : k = x + 1
    · rw [e, hF, hG]
      exact h2 x h1 (Nat.le_refl x)
    · exact h2 k hk (by omega)
  · obtain ⟨a, b, c⟩ := h3 p hp
    exact ⟨a, by omega, c⟩
theorem up_ne {α : Type} (h : Nat → α) {j i : Nat} (v : α) (hi : i ≠ j) : va_up h j v i = h i := by
  unfold va_up
  rw [if_neg hi]
theorem up_eq {α : Type} (h : Nat → α) (j : Nat) (v : α) : va_up h j v j = v := by
  unfold va_up
  rw [if_pos rfl]
theorem dS_up {b : Nat → Nat} {t v p : Nat} (hp : p < t) (F : Nat → Int) : dS F (va_up b (t + 1) v) p = dS F b p := by
  unfold dS
  rw [up_ne b v (by omega), up_ne b v (by omega)]
theorem dS_t {b : Nat → Nat} {t v : Nat} (F : Nat → Int) : dS F (va_up b (t + 1) v) t = F v - F (b t) := by
  unfold dS
  rw [up_ne b v (show t ≠ t + 1 by omega), up_eq]
theorem slo_up {t v : Nat} {b : Nat → Nat} (h : slo F G t b) : slo F G t (va_up b (t + 1) v) := by
  intro p hp
  rw [dS_up (by omega), dS_up (by omega), dS_up (by omega), dS_up (by omega)]
  exact h p hp
theorem pm_open {t x : Nat} {b : Nat → Nat} (h : pm F G t x b) (hG : G x < G (x + 1)) : pm F G (t + 1) (x + 1) (va_up b (t + 1) (x + 1)) := by
  obtain ⟨h0, h1, h2, h3⟩ := h
  refine ⟨by rw [up_ne b _ (by omega)]; exact h0, by rw [up_eq]; exact Nat.le_refl _, fun k hk hx => ?_, fun p hp => ?_⟩
  · rw [up_eq] at hk ⊢
    have : k = x + 1 := by omega
    rw [this]
    exact ⟨rfl, rfl⟩
  · by_cases e : p = t
    · subst e
      rw [dS_t, dS_t, up_eq, up_ne b _ (show p ≠ p + 1 by omega)]
      obtain ⟨g1, g2⟩ := h2 x h1 (Nat.le_refl x)
      refine ⟨by omega, Nat.le_refl _, by omega, fun k hk hx => ?_⟩
      by_cases ek : k = x + 1
      · rw [ek, Int.mul_comm]
        exact Int.le_refl _
      · obtain ⟨q1, q2⟩ := h2 k hk (by omega)
        rw [q1, q2, Int.sub_self, Int.sub_self, Int.mul_zero, Int.mul_zero]
        exact Int.le_refl _
    · obtain ⟨a, c, d, e⟩ := h3 p (by omega)
      rw [dS_up (by omega), dS_up (by omega), up_ne b _ (show p ≠ t + 1 by omega), up_ne b _ (show p + 1 ≠ t + 1 by omega)]
      exact ⟨a, by omega, d, e⟩
theorem pm_merge {t x : Nat} {b : Nat → Nat} (h : pm F G (t + 2) x b) (hm : mono G) (hd : dS F b (t + 1) * dS G b t ≤ dS F b t * dS G b (t + 1)) : pm F G (t + 1) x (va_up b (t + 1) (b (t + 2))) := by
  obtain ⟨h0, h1, h2, h3⟩ := h
  refine ⟨by rw [up_ne b _ (by omega)]; exact h0, by rw [up_eq]; exact h1, fun k hk hx => ?_, fun p hp => ?_⟩
  · rw [up_eq] at hk ⊢
    exact h2 k hk hx
  · by_cases e : p = t
    · subst e
      rw [dS_t, dS_t, up_eq, up_ne b _ (show p ≠ p + 1 by omega)]
      obtain ⟨a1, c1, d1, e1⟩ := h3 p (by omega)
      obtain ⟨a2, c2, d2, e2⟩ := h3 (p + 1) (by omega)
      have sF : F (b (p + 2)) - F (b p) = dS F b p + dS F b (p + 1) := by
        show _ = (F (b (p + 1)) - F (b p)) + (F (b (p + 2)) - F (b (p + 1)))
        omega
      have sG : G (b (p + 2)) - G (b p) = dS G b p + dS G b (p + 1) := by
        show _ = (G (b (p + 1)) - G (b p)) + (G (b (p + 2)) - G (b (p + 1)))
        omega
      have a2 : b (p + 1) < b (p + 2) := a2
      have c2 : b (p + 2) ≤ x := c2
      rw [sF, sG]
      refine ⟨by omega, c2, by omega, fun k hk hx => ?_⟩
      by_cases ek : k ≤ b (p + 1)
      · refine al_1 d1 ?_ (e1 k hk ek) d2 hd
        have := hm _ _ hk
        omega
      · have e3 := e2 k (by omega) hx
        have q1 : G k - G (b p) = dS G b p + (G k - G (b (p + 1))) := by unfold dS; omega
        have q2 : F k - F (b p) = dS F b p + (F k - F (b (p + 1))) := by unfold dS; omega
        rw [q1, q2]
        refine al_2 d1 d2 ?_ e3 hd
        have := hm _ _ hx
        unfold dS
        show G k - G (b (p + 1)) ≤ G (b (p + 2)) - G (b (p + 1))
        omega
    · obtain ⟨a, c, d, e⟩ := h3 p (by omega)
      rw [dS_up (by omega), dS_up (by omega), up_ne b _ (show p ≠ t + 1 by omega), up_ne b _ (show p + 1 ≠ t + 1 by omega)]
      exact ⟨a, c, d, e⟩
theorem slo_rise {t : Nat} {b : Nat → Nat} (h : slo F G (t + 1) b) (hd : dS F b t * dS G b (t + 1) < dS F b (t + 1) * dS G b t) : slo F G (t + 2) b := by
  intro p hp
  by_cases e : p = t
  · rw [e]; exact hd
  · exact h p (by omega)
theorem slo_less {t : Nat} {b : Nat → Nat} (h : slo F G (t + 1) b) : slo F G t b := fun p hp => h p (by omega)
theorem b_mono {t x : Nat} {b : Nat → Nat} (h : pm F G t x b) : ∀ (d p : Nat), p + d ≤ t → b p ≤ b (p + d)
  | 0, p, _ => Nat.le_refl _
  | d + 1, p, hp => by
    have h1 := b_mono h d p (by omega)
    have h2 := (h.2.2.2 (p + d) (by omega)).1
    show b p ≤ b (p + d + 1)
    omega
theorem sl_lt {t x : Nat} {b : Nat → Nat} (h : pm F G t x b) (hs : slo F G t b) : ∀ (d p : Nat), p + (d + 1) < t → dS F b p * dS G b (p + (d + 1)) < dS F b (p + (d + 1)) * dS G b p
  | 0, p, hp => hs p hp
  | d + 1, p, hp => by
    have h1 := sl_lt h hs d p (by omega)
    exact al_tr (h.2.2.2 p (by omega)).2.2.1 (h.2.2.2 (p + (d + 1)) (by omega)).2.2.1 (h.2.2.2 (p + (d + 1 + 1)) (by omega)).2.2.1 (Int.le_of_lt h1) (hs (p + (d + 1)) hp)
theorem sl_le {t x : Nat} {b : Nat → Nat} (h : pm F G t x b) (hs : slo F G t b) {p q : Nat} (hpq : p ≤ q) (hq : q < t) : dS F b p * dS G b q ≤ dS F b q * dS G b p := by
  by_cases e : p = q
  · rw [e]; exact Int.le_refl _
  · have := sl_lt h hs (q - p - 1) p (by omega)
    rw [show p + (q - p - 1 + 1) = q by omega] at this
    exact Int.le_of_lt this
theorem hull_up {t x : Nat} {b : Nat → Nat} (h : pm F G t x b) (hs : slo F G t b) (hm : mono G) {p : Nat} (hp : p < t) : ∀ (d : Nat), p + d ≤ t → ∀ k, b p ≤ k → k ≤ b (p + d) → dS F b p * (G k - G (b p)) ≤ dS G b p * (F k - F (b p))
  | 0, _, k, h1, h2 => by
    have : k = b p := by
      have : k ≤ b p := h2
      omega
    rw [this, Int.sub_self, Int.sub_self, Int.mul_zero, Int.mul_zero]
    exact Int.le_refl _
  | d + 1, hd, k, h1, h2 => by
    by_cases hk : k ≤ b (p + d)
    · exact hull_up h hs hm hp d (by omega) k h1 hk
    · have ih := hull_up h hs hm hp d (by omega) (b (p + d)) (b_mono h d p (by omega)) (Nat.le_refl _)
      have hq := h.2.2.2 (p + d) (by omega)
      have e := hq.2.2.2 k (by omega) h2
      have u := al_up (h.2.2.2 p hp).2.2.1 hq.2.2.1 (by have := hm (b (p + d)) k (by omega); omega) e (sl_le h hs (show p ≤ p + d by omega) (by omega))
      have s1 : G k - G (b p) = (G (b (p + d)) - G (b p)) + (G k - G (b (p + d))) := by omega
      have s2 : F k - F (b p) = (F (b (p + d)) - F (b p)) + (F k - F (b (p + d))) := by omega
      rw [s1, s2, Int.mul_add, Int.mul_add]
      omega
theorem hull_dn {t x : Nat} {b : Nat → Nat} (h : pm F G t x b) (hs : slo F G t b) (hm : mono G) {p : Nat} (hp : p < t) : ∀ (d q : Nat), q + d = p → ∀ k, b q ≤ k → k ≤ b p → dS F b p * (G k - G (b p)) ≤ dS G b p * (F k - F (b p))
  | 0, q, hq, k, h1, h2 => by
    have hqp : q = p := by omega
    rw [hqp] at h1
    have : k = b p := by omega
    rw [this, Int.sub_self, Int.sub_self, Int.mul_zero, Int.mul_zero]
    exact Int.le_refl _
  | d + 1, q, hq, k, h1, h2 => by
    by_cases hk : b (q + 1) ≤ k
    · exact hull_dn h hs hm hp d (q + 1) (by omega) k hk h2
    · have hbm : b (q + 1) ≤ b p := by
        have := b_mono h d (q + 1) (by omega)
        rwa [show q + 1 + d = p by omega] at this
      have ih := hull_dn h hs hm hp d (q + 1) (by omega) (b (q + 1)) (Nat.le_refl _) hbm
      have hq2 := h.2.2.2 q (by omega)
      have e := hq2.2.2.2 k h1 (by omega)
      have e2 : dS F b q * (G k - G (b (q + 1))) ≤ dS G b q * (F k - F (b (q + 1))) := by
        have s1 : G k - G (b (q + 1)) = (G k - G (b q)) - dS G b q := by unfold dS; omega
        have s2 : F k - F (b (q + 1)) = (F k - F (b q)) - dS F b q := by unfold dS; omega
        rw [s1, s2]
        exact al_sub e
      have u := al_dn (h.2.2.2 p hp).2.2.1 hq2.2.2.1 (by have := hm k (b (q + 1)) (by omega); omega) e2 (sl_le h hs (show q ≤ p by omega) hp)
      have s1 : G k - G (b p) = (G (b (q + 1)) - G (b p)) + (G k - G (b (q + 1))) := by omega
      have s2 : F k - F (b p) = (F (b (q + 1)) - F (b p)) + (F k - F (b (q + 1))) := by omega
      rw [s1, s2, Int.mul_add, Int.mul_add]
      omega
/-- every point lies on or above each pool's line -/
theorem hull {t x : Nat} {b : Nat → Nat} (h : pm F G t x b) (hs : slo F G t b) (hm : mono G) {p : Nat} (hp : p < t) (k : Nat) (hk : k ≤ x) : dS F b p * (G k - G (b p)) ≤ dS G b p * (F k - F (b p)) := by
  by_cases h1 : k ≤ b p
  · exact hull_dn h hs hm hp p 0 (by omega) k (by rw [h.1]; omega) h1
  · have hup := hull_up h hs hm hp (t - p) (by omega)
    rw [show p + (t - p) = t by omega] at hup
    by_cases h2 : k ≤ b t
    · exact hup k (by omega) h2
    · obtain ⟨q1, q2⟩ := h.2.2.1 k (by omega) hk
      rw [q1, q2]
      have := b_mono h (t - p) p (by omega)
      rw [show p + (t - p) = t by omega] at this
      exact hup (b t) this (Nat.le_refl _)
end PM
theorem fr_eq {a b c d : Nat} (hb : 0 < b) (hd : 0 < d) (h : a * d = c * b) (x : Int32) : fr a b x = fr c d x := by
  have hg := gcd_p (a := a) hb
  have hh := gcd_p (a := c) hd
  have e1 : Nat.gcd a b * d = b * Nat.gcd c d := by
    rw [← Nat.gcd_mul_right, h, Nat.mul_comm b d, Nat.mul_comm b (Nat.gcd c d), ← Nat.gcd_mul_right]
  have e2 : a * Nat.gcd c d = Nat.gcd a b * c := by
    refine Nat.eq_of_mul_eq_mul_left hb ?_
    calc b * (a * Nat.gcd c d) = a * (b * Nat.gcd c d) := by rw [Nat.mul_left_comm]
      _ = a * (Nat.gcd a b * d) := by rw [e1]
      _ = Nat.gcd a b * (a * d) := by rw [Nat.mul_left_comm]
      _ = Nat.gcd a b * (c * b) := by rw [h]
      _ = b * (Nat.gcd a b * c) := by rw [Nat.mul_comm c b, Nat.mul_left_comm]
  have d1 : a / Nat.gcd a b = c / Nat.gcd c d := by
    obtain ⟨a', ha'⟩ := Nat.gcd_dvd_left a b
    have q : c = a' * Nat.gcd c d := by
      refine (Nat.eq_of_mul_eq_mul_left hg ?_)
      rw [← e2, ← Nat.mul_assoc, ← ha']
    have z1 : a / Nat.gcd a b = a' := Nat.div_eq_of_eq_mul_right hg ha'
    have z2 : c / Nat.gcd c d = a' := Nat.div_eq_of_eq_mul_left hh q
    rw [z1, z2]
  have d2 : b / Nat.gcd a b = d / Nat.gcd c d := by
    obtain ⟨b', hb'⟩ := Nat.gcd_dvd_right a b
    have q : d = b' * Nat.gcd c d := by
      refine (Nat.eq_of_mul_eq_mul_left hg ?_)
      rw [e1, ← Nat.mul_assoc, ← hb']
    have z1 : b / Nat.gcd a b = b' := Nat.div_eq_of_eq_mul_right hg hb'
    have z2 : d / Nat.gcd c d = b' := Nat.div_eq_of_eq_mul_left hh q
    rw [z1, z2]
  unfold fr
  rw [d1, d2]
