/-! Elimination without fractions: each number on the way is the determinant of a part. -/
def cs (k j c : Nat) : Nat := if c < k then c else j
/-- the leading part of size k, with row i and column j behind it -/
def bm (A : Nat → Nat → Int) (k i j : Nat) : Int := dt (k + 1) (fun r c => A (cs k i r) (cs k j c))
def binv (n k : Nat) (A B : Nat → Nat → Int) (P : Int) : Prop := P = dt k A ∧ P ≠ 0 ∧ ∀ i, k ≤ i → i < n → (∀ c, c < k → B i c = 0) ∧ ∃ (s : Int) (x : Nat → Int), s ≠ 0 ∧ ∀ c, c < n → s * B i c = s * P * A i c + sm k (fun t => x t * A t c)
theorem cs_lt {k j c : Nat} (h : c < k) : cs k j c = c := by unfold cs; rw [if_pos h]
theorem cs_k (k j : Nat) : cs k j k = j := by unfold cs; rw [if_neg (by omega)]
theorem int_cancel {a b c : Int} (ha : a ≠ 0) (h : a * b = a * c) : b = c := Int.eq_of_mul_eq_mul_left ha h
/-- a row that is a combination, zero ahead of column j, in the bordered part -/
theorem bm_comb {n k : Nat} {A : Nat → Nat → Int} {i j : Nat} (hk : k < n) (hjn : j < n) {a : Int} {x : Nat → Int} {v : Nat → Int} (hv : ∀ c, c < n → v c = a * A i c + sm k (fun t => x t * A t c)) (hz : ∀ c, c < k → v c = 0) : a * bm A k i j = v j * dt k A := by
  have h1 := dt_comb (n := k + 1) (fun r c => A (cs k i r) (cs k j c)) (i := k) (by omega) a x k (by omega)
  have hl : ∀ c, c ≤ k → cs k j c < n := fun c hc => by unfold cs; split <;> omega
  have e : ∀ c, c ≤ k → a * A (cs k i k) (cs k j c) + sm k (fun t => x t * A (cs k i t) (cs k j c)) = v (cs k j c) := by
    intro c hc
    rw [hv _ (hl c hc), cs_k]
    congr 1
    refine sm_congr (fun t ht => ?_)
    rw [cs_lt ht]
  unfold bm
  rw [← h1, dt_last0]
  · rw [show (rs (fun r c => A (cs k i r) (cs k j c)) k (fun c => a * A (cs k i k) (cs k j c) + sm k (fun t => x t * A (cs k i t) (cs k j c)))) k k = v j from by
      show (if k = k then _ else _) = _
      rw [if_pos rfl]
      exact (e k (by omega)).trans (by rw [cs_k])]
    congr 1
    refine dt_congr k _ _ (fun r c hr hc => ?_)
    show (if r = k then _ else A (cs k i r) (cs k j c)) = _
    rw [if_neg (by omega), cs_lt hr, cs_lt hc]
  · intro c hc
    show (if k = k then _ else _) = _
    rw [if_pos rfl]
    exact (e c (by omega)).trans (by rw [cs_lt hc, hz c hc])
theorem b_bord {n k : Nat} {A B : Nat → Nat → Int} {P : Int} (h : binv n k A B P) {i j : Nat} (hi : k ≤ i) (hin : i < n) (hjn : j < n) : B i j = bm A k i j := by
  obtain ⟨hP, hP0, hr⟩ := h
  obtain ⟨hz, s, x, hs, hx⟩ := hr i hi hin
  have h1 := bm_comb (A := A) (i := i) (j := j) (k := k) (n := n) (by omega) hjn (a := s * P) (x := x) (v := fun c => s * B i c) (fun c hc => hx c hc) (fun c hc => by show s * B i c = 0; rw [hz c hc, Int.mul_zero])
  rw [← hP] at h1
  have h2 : (s * P) * bm A k i j = (s * P) * B i j := by rw [h1]; grind
  exact (int_cancel (Int.mul_ne_zero hs hP0) h2).symm
theorem bm_lead (A : Nat → Nat → Int) (k : Nat) : bm A k k k = dt (k + 1) A := by
  refine dt_congr (k + 1) _ _ (fun r c hr hc => ?_)
  have e : ∀ z, z < k + 1 → cs k k z = z := fun z hz => by unfold cs; split <;> omega
  rw [e r hr, e c hc]
/-- what a step makes of a row: a combination of one row more -/
theorem b_row {n k : Nat} {A B : Nat → Nat → Int} {P : Int} (h : binv n k A B P) (hk : k < n) {i : Nat} (hi : k < i) (hin : i < n) : ∃ (s : Int) (x : Nat → Int), s ≠ 0 ∧ ∀ c, c < n → s * (B k k * B i c - B i k * B k c) = s * (P * B k k) * A i c + sm (k + 1) (fun t => x t * A t c) := by
  obtain ⟨hP, hP0, hr⟩ := h
  obtain ⟨hz1, s1, x1, hs1, hx1⟩ := hr i (by omega) hin
  obtain ⟨hz2, s2, x2, hs2, hx2⟩ := hr k (by omega) hk
  refine ⟨s1 * s2, fun t => if t = k then - (B i k * s1 * s2 * P) else B k k * s2 * x1 t - B i k * s1 * x2 t, Int.mul_ne_zero hs1 hs2, fun c hc => ?_⟩
  have e1 := hx1 c hc
  have e2 := hx2 c hc
  show _ = _ + (sm k (fun t => (if t = k then - (B i k * s1 * s2 * P) else B k k * s2 * x1 t - B i k * s1 * x2 t) * A t c) + (if k = k then - (B i k * s1 * s2 * P) else _) * A k c)
  rw [if_pos rfl]
  have e3 : sm k (fun t => (if t = k then - (B i k * s1 * s2 * P) else B k k * s2 * x1 t - B i k * s1 * x2 t) * A t c) = B k k * s2 * sm k (fun t => x1 t * A t c) + (- (B i k * s1)) * sm k (fun t => x2 t * A t c) := by
    rw [← sm_mul, ← sm_mul, ← sm_add]
    refine sm_congr (fun t ht => ?_)
    show (if t = k then _ else _) * _ = _
    rw [if_neg (by omega)]
    grind
  rw [e3]
  have e4 : sm k (fun t => x1 t * A t c) = s1 * B i c - s1 * P * A i c := by omega
  have e5 : sm k (fun t => x2 t * A t c) = s2 * B k c - s2 * P * A k c := by omega
  rw [e4, e5]
  grind
theorem b_exact {n k : Nat} {A B : Nat → Nat → Int} {P : Int} (h : binv n k A B P) (hk : k < n) (hp : B k k ≠ 0) {i j : Nat} (hi : k < i) (hin : i < n) (hjn : j < n) : B k k * B i j - B i k * B k j = P * bm A (k + 1) i j := by
  obtain ⟨s, x, hs, hx⟩ := b_row h hk hi hin
  have hpl : B k k = dt (k + 1) A := by rw [b_bord h (Nat.le_refl k) hk hk, bm_lead]
  have hzk : ∀ c, c < k + 1 → s * (B k k * B i c - B i k * B k c) = 0 := by
    intro c hc
    by_cases hck : c = k
    · subst hck; grind
    · obtain ⟨-, -, hr⟩ := id h
      rw [(hr i (by omega) hin).1 c (by omega), (hr k (by omega) hk).1 c (by omega)]
      simp
  have h1 := bm_comb (A := A) (i := i) (j := j) (k := k + 1) (n := n) (by omega) hjn (a := s * (P * B k k)) (x := x) (v := fun c => s * (B k k * B i c - B i k * B k c)) (fun c hc => hx c hc) hzk
  rw [← hpl] at h1
  have h2 : (s * B k k) * (B k k * B i j - B i k * B k j) = (s * B k k) * (P * bm A (k + 1) i j) := by grind
  exact int_cancel (Int.mul_ne_zero hs hp) h2
theorem b_step {n k : Nat} {A B B' : Nat → Nat → Int} {P : Int} (h : binv n k A B P) (hk : k < n) (hp : B k k ≠ 0) (hB : ∀ i, k < i → i < n → ∀ c, c < n → P * B' i c = B k k * B i c - B i k * B k c) : binv n (k + 1) A B' (B k k) := by
  have hpl : B k k = dt (k + 1) A := by rw [b_bord h (Nat.le_refl k) hk hk, bm_lead]
  refine ⟨hpl, hp, fun i hi hin => ⟨fun c hc => ?_, ?_⟩⟩
  · have h1 := hB i (by omega) hin c (by omega)
    have h2 : B k k * B i c - B i k * B k c = 0 := by
      by_cases hck : c = k
      · subst hck; grind
      · rw [(h.2.2 i (by omega) hin).1 c (by omega), (h.2.2 k (by omega) hk).1 c (by omega)]
        simp
    rw [h2] at h1
    exact int_cancel h.2.1 (by rw [h1, Int.mul_zero])
  · obtain ⟨s, x, hs, hx⟩ := b_row h hk (show k < i by omega) hin
    refine ⟨s * P, x, Int.mul_ne_zero hs h.2.1, fun c hc => ?_⟩
    have h1 := hx c hc
    rw [← hB i (by omega) hin c hc] at h1
    grind
theorem b_start (n : Nat) (A : Nat → Nat → Int) : binv n 0 A A 1 := by
  refine ⟨rfl, by decide, fun i _ _ => ⟨fun c hc => absurd hc (by omega), 1, fun _ => 0, by decide, fun c _ => ?_⟩⟩
  show 1 * A i c = 1 * 1 * A i c + 0
  omega
/-- nothing in the column: the determinant is 0 -/
theorem b_stuck {n k : Nat} {A B : Nat → Nat → Int} {P : Int} (h : binv n k A B P) (hk : k < n) (h0 : ∀ i, k ≤ i → i < n → B i k = 0) : dt n A = 0 := by
  -- the rows from the last down to k are replaced, one behind the other
  have key : ∀ d, k + d ≤ n → ∃ (a : Int) (N : Nat → Nat → Int), a ≠ 0 ∧ dt n N = a * dt n A ∧ (∀ r, r < n - d → ∀ c, N r c = A r c) ∧ ∀ r c, n - d ≤ r → r < n → c ≤ k → N r c = 0 := by
    intro d
    induction d with
    | zero => exact fun _ => ⟨1, A, by decide, by omega, fun r _ c => rfl, fun r c h1 h2 => absurd h2 (by omega)⟩
    | succ d ih =>
      intro hd
      obtain ⟨a, N, ha, hN, hlo, hhi⟩ := ih (by omega)
      have hi : n - (d + 1) < n := by omega
      obtain ⟨hz, s, x, hs, hx⟩ := h.2.2 (n - (d + 1)) (by omega) hi
      have h1 := dt_comb (n := n) N hi (s * P) x k (by omega)
      refine ⟨s * P * a, rs N (n - (d + 1)) (fun c => s * P * N (n - (d + 1)) c + sm k (fun t => x t * N t c)), Int.mul_ne_zero (Int.mul_ne_zero hs h.2.1) ha, ?_, fun r hr c => ?_, fun r c h2 h3 h4 => ?_⟩
      · rw [h1, hN]; grind
      · show (if r = _ then _ else N r c) = _
        rw [if_neg (by omega), hlo r (by omega)]
      · show (if r = n - (d + 1) then _ else N r c) = 0
        by_cases hr : r = n - (d + 1)
        · rw [if_pos hr]
          show s * P * N (n - (d + 1)) c + sm k (fun t => x t * N t c) = 0
          rw [hlo (n - (d + 1)) (by omega)]
          have e : sm k (fun t => x t * N t c) = sm k (fun t => x t * A t c) := sm_congr (fun t ht => by rw [hlo t (by omega)])
          rw [e, ← hx c (by omega)]
          by_cases hck : c < k
          · rw [hz c hck, Int.mul_zero]
          · have : c = k := by omega
            subst this
            rw [h0 _ (by omega) hi, Int.mul_zero]
        · rw [if_neg hr]
          exact hhi r c (by omega) h3 h4
  obtain ⟨a, N, ha, hN, -, hhi⟩ := key (n - k) (by omega)
  have hz := dt_low0 (k := k) n N hk (fun r c h1 h2 h3 => hhi r c (by omega) h2 h3)
  rw [hz] at hN
  rcases Int.mul_eq_zero.mp hN.symm with h1 | h1
  · exact absurd h1 ha
  · exact h1
def sw (M : Nat → Nat → Int) (a b : Nat) : Nat → Nat → Int := fun r => if r = a then M b else if r = b then M a else M r
theorem sw_dt {n : Nat} (M : Nat → Nat → Int) {a b : Nat} (hab : a < b) (hb : b < n) : dt n (sw M a b) = - dt n M := by
  have e : sw M a b = rs (rs M a (M b)) b (M a) := by
    funext r c
    show (if r = a then M b else if r = b then M a else M r) c = (if r = b then M a c else if r = a then M b c else M r c)
    by_cases h1 : r = a
    · rw [if_pos h1, if_neg (by omega), if_pos h1]
    · by_cases h2 : r = b
      · rw [if_neg h1, if_pos h2, if_pos h2]
      · rw [if_neg h1, if_neg h2, if_neg h2, if_neg h1]
  rw [e, dt_swap M hab hb, rs_self, rs_self]
theorem b_swap {n k : Nat} {A B : Nat → Nat → Int} {P : Int} (h : binv n k A B P) {a b : Nat} (ha : k ≤ a) (hb : k ≤ b) (han : a < n) (hbn : b < n) : binv n k (sw A a b) (sw B a b) P := by
  have hl : ∀ t, t < k → sw A a b t = A t := fun t ht => by
    unfold sw
    rw [if_neg (by omega), if_neg (by omega)]
  refine ⟨?_, h.2.1, fun i hi hin => ?_⟩
  · rw [h.1]
    exact dt_congr k _ _ (fun r c hr _ => by rw [hl r hr])
  · have hsel : ∃ j, k ≤ j ∧ j < n ∧ sw A a b i = A j ∧ sw B a b i = B j := by
      by_cases h1 : i = a
      · exact ⟨b, hb, hbn, by unfold sw; rw [if_pos h1], by unfold sw; rw [if_pos h1]⟩
      · by_cases h2 : i = b
        · exact ⟨a, ha, han, by unfold sw; rw [if_neg h1, if_pos h2], by unfold sw; rw [if_neg h1, if_pos h2]⟩
        · exact ⟨i, hi, hin, by unfold sw; rw [if_neg h1, if_neg h2], by unfold sw; rw [if_neg h1, if_neg h2]⟩
    obtain ⟨j, h1, h2, h3, h4⟩ := hsel
    obtain ⟨hz, s, x, hs, hx⟩ := h.2.2 j h1 h2
    refine ⟨fun c hc => by rw [h4]; exact hz c hc, s, x, hs, fun c hc => ?_⟩
    rw [h3, h4, hx c hc]
    congr 1
    exact sm_congr (fun t ht => by rw [hl t ht])
