/-! Determinants of whole numbers, by the last row. -/
def sm : Nat → (Nat → Int) → Int
  | 0, _ => 0
  | n + 1, f => sm n f + f n
theorem sm_congr {f g : Nat → Int} : ∀ {n : Nat}, (∀ j, j < n → f j = g j) → sm n f = sm n g
  | 0, _ => rfl
  | n + 1, h => by
    show sm n f + f n = sm n g + g n
    rw [sm_congr (n := n) (fun j hj => h j (by omega)), h n (by omega)]
theorem sm_add (f g : Nat → Int) : ∀ n : Nat, sm n (fun j => f j + g j) = sm n f + sm n g
  | 0 => rfl
  | n + 1 => by
    show sm n (fun j => f j + g j) + (f n + g n) = sm n f + f n + (sm n g + g n)
    rw [sm_add f g n]; omega
theorem sm_mul (a : Int) (f : Nat → Int) : ∀ n : Nat, sm n (fun j => a * f j) = a * sm n f
  | 0 => (Int.mul_zero a).symm
  | n + 1 => by
    show sm n (fun j => a * f j) + a * f n = a * (sm n f + f n)
    rw [sm_mul a f n, Int.mul_add]
theorem sm_zero {f : Nat → Int} : ∀ {n : Nat}, (∀ j, j < n → f j = 0) → sm n f = 0
  | 0, _ => rfl
  | n + 1, h => by
    show sm n f + f n = 0
    rw [sm_zero (n := n) (fun j hj => h j (by omega)), h n (by omega)]; rfl
def sg (n : Nat) : Int := if n % 2 = 0 then 1 else -1
theorem sg_mul (a b : Nat) : sg a * sg b = sg (a + b) := by
  unfold sg
  rcases Nat.mod_two_eq_zero_or_one a with h | h <;> rcases Nat.mod_two_eq_zero_or_one b with h2 | h2 <;> simp [h, h2, Nat.add_mod]
theorem sg_succ (a : Nat) : sg (a + 1) = - sg a := by
  unfold sg
  rcases Nat.mod_two_eq_zero_or_one a with h | h <;> simp [h, Nat.add_mod]
theorem sg_2 (a : Nat) : sg (a + a) = 1 := by
  unfold sg
  rw [if_pos (by omega)]
def sk (j c : Nat) : Nat := if c < j then c else c + 1
def dt : Nat → (Nat → Nat → Int) → Int
  | 0, _ => 1
  | n + 1, M => sm (n + 1) (fun j => sg (n + j) * M n j * dt n (fun r c => M r (sk j c)))
theorem dt_congr : ∀ (n : Nat) (M N : Nat → Nat → Int), (∀ r c, r < n → c < n → M r c = N r c) → dt n M = dt n N
  | 0, _, _, _ => rfl
  | n + 1, M, N, h => by
    refine sm_congr (fun j hj => ?_)
    rw [h n j (by omega) hj, dt_congr n (fun r c => M r (sk j c)) (fun r c => N r (sk j c)) (fun r c hr hc => h r _ (by omega) (by unfold sk; split <;> omega))]
/-- a row put in -/
def rs (M : Nat → Nat → Int) (i : Nat) (v : Nat → Int) : Nat → Nat → Int := fun r c => if r = i then v c else M r c
theorem rs_self (M : Nat → Nat → Int) (i : Nat) : rs M i (M i) = M := by
  funext r c
  unfold rs
  split
  · rename_i h; rw [h]
  · rfl
theorem rs_comm (M : Nat → Nat → Int) {i j : Nat} (h : i ≠ j) (u v : Nat → Int) : rs (rs M i u) j v = rs (rs M j v) i u := by
  funext r c
  show (if r = j then v c else if r = i then u c else M r c) = (if r = i then u c else if r = j then v c else M r c)
  by_cases h1 : r = i
  · have h2 : ¬ r = j := fun h3 => h (h1.symm.trans h3)
    rw [if_neg h2, if_pos h1, if_pos h1]
  · by_cases h2 : r = j
    · rw [if_pos h2, if_neg h1, if_pos h2]
    · rw [if_neg h2, if_neg h1, if_neg h1, if_neg h2]
theorem rs_rs (M : Nat → Nat → Int) (i : Nat) (u v : Nat → Int) : rs (rs M i u) i v = rs M i v := by
  funext r c
  unfold rs
  split <;> rfl
theorem dt_lin : ∀ (n : Nat) (M : Nat → Nat → Int) (i : Nat) (u v : Nat → Int) (a b : Int), i < n → dt n (rs M i (fun c => a * u c + b * v c)) = a * dt n (rs M i u) + b * dt n (rs M i v)
  | 0, _, i, _, _, _, _, h => absurd h (by omega)
  | n + 1, M, i, u, v, a, b, h => by
    show sm (n + 1) _ = a * sm (n + 1) _ + b * sm (n + 1) _
    rw [← sm_mul, ← sm_mul, ← sm_add]
    refine sm_congr (fun j hj => ?_)
    by_cases hi : i = n
    · subst hi
      have e : ∀ w : Nat → Int, dt i (fun r c => rs M i w r (sk j c)) = dt i (fun r c => M r (sk j c)) := fun w => dt_congr i _ _ (fun r c hr _ => by
        show (if r = i then _ else _) = _
        rw [if_neg (by omega)])
      rw [e, e, e]
      have e2 : ∀ w : Nat → Int, rs M i w i j = w j := fun w => by
        show (if i = i then _ else _) = _
        rw [if_pos rfl]
      rw [e2, e2, e2]
      grind
    · have e : ∀ w : Nat → Int, (fun r c => rs M i w r (sk j c)) = rs (fun r c => M r (sk j c)) i (fun c => w (sk j c)) := fun w => rfl
      have e2 : ∀ w : Nat → Int, rs M i w n j = M n j := fun w => by
        show (if n = i then _ else _) = _
        rw [if_neg (by omega)]
      rw [e, e, e, e2, e2, e2, dt_lin n (fun r c => M r (sk j c)) i (fun c => u (sk j c)) (fun c => v (sk j c)) a b (by omega)]
      grind
theorem sm_anti (F : Nat → Nat → Int) : ∀ (N : Nat), (∀ j c, j ≤ c → c < N → F j c + F (c + 1) j = 0) → sm (N + 1) (fun j => sm N (fun c => F j c)) = 0
  | 0, _ => rfl
  | N + 1, h => by
    have ih := sm_anti F N (fun j c h1 h2 => h j c h1 (by omega))
    have e1 : sm (N + 1) (fun j => sm (N + 1) (fun c => F j c)) = sm (N + 1) (fun j => sm N (fun c => F j c)) + sm (N + 1) (fun j => F j N) := by
      rw [← sm_add]; rfl
    show sm (N + 1) (fun j => sm (N + 1) (fun c => F j c)) + sm (N + 1) (fun c => F (N + 1) c) = 0
    rw [e1, ih]
    have e2 : sm (N + 1) (fun j => F j N) + sm (N + 1) (fun c => F (N + 1) c) = sm (N + 1) (fun j => F j N + F (N + 1) j) := (sm_add _ _ _).symm
    have e3 : sm (N + 1) (fun j => F j N + F (N + 1) j) = 0 := sm_zero (fun j hj => h j N (by omega) (by omega))
    omega
theorem sk_sk {j c : Nat} (h : j ≤ c) (d : Nat) : sk j (sk c d) = sk (c + 1) (sk j d) := by
  unfold sk
  by_cases h1 : d < j
  · rw [if_pos (show d < c by omega), if_pos h1, if_pos (show d < c + 1 by omega)]
  · by_cases h2 : d < c
    · rw [if_pos h2, if_neg h1, if_pos (show d + 1 < c + 1 by omega)]
    · rw [if_neg h2, if_neg (show ¬ d + 1 < j by omega), if_neg h1, if_neg (show ¬ d + 1 < c + 1 by omega)]
theorem dt_adj {n : Nat} {M : Nat → Nat → Int} (h : ∀ c, c < n + 2 → M (n + 1) c = M n c) : dt (n + 2) M = 0 := by
  have e : dt (n + 2) M = sm (n + 2) (fun j => sm (n + 1) (fun c => sg (n + 1 + j) * M (n + 1) j * (sg (n + c) * M n (sk j c) * dt n (fun r d => M r (sk j (sk c d)))))) := by
    refine sm_congr (fun j hj => ?_)
    show sg (n + 1 + j) * M (n + 1) j * sm (n + 1) (fun c => sg (n + c) * M n (sk j c) * dt n (fun r d => M r (sk j (sk c d)))) = _
    rw [← sm_mul]
  rw [e]
  refine sm_anti (fun j c => sg (n + 1 + j) * M (n + 1) j * (sg (n + c) * M n (sk j c) * dt n (fun r d => M r (sk j (sk c d))))) (n + 1) (fun j c h1 h2 => ?_)
  have e1 : sk j c = c + 1 := by unfold sk; rw [if_neg (by omega)]
  have e2 : sk (c + 1) j = j := by unfold sk; rw [if_pos (by omega)]
  have e3 : (fun r d => M r (sk j (sk c d))) = (fun r d => M r (sk (c + 1) (sk j d))) := by
    funext r d
    rw [sk_sk h1]
  show sg (n + 1 + j) * M (n + 1) j * (sg (n + c) * M n (sk j c) * dt n (fun r d => M r (sk j (sk c d)))) + sg (n + 1 + (c + 1)) * M (n + 1) (c + 1) * (sg (n + j) * M n (sk (c + 1) j) * dt n (fun r d => M r (sk (c + 1) (sk j d)))) = 0
  rw [e1, e2, e3, h j (by omega), h (c + 1) (by omega)]
  have s1 : sg (n + 1 + j) = - sg (n + j) := by rw [show n + 1 + j = n + j + 1 by omega, sg_succ]
  have s2 : sg (n + 1 + (c + 1)) = sg (n + c) := by rw [show n + 1 + (c + 1) = n + c + 1 + 1 by omega, sg_succ, sg_succ, Int.neg_neg]
  rw [s1, s2]
  grind
theorem dt_swap_last {n : Nat} (M : Nat → Nat → Int) (u v : Nat → Int) : dt (n + 2) (rs (rs M n u) (n + 1) v) = - dt (n + 2) (rs (rs M n v) (n + 1) u) := by
  have hz : ∀ w : Nat → Int, dt (n + 2) (rs (rs M n w) (n + 1) w) = 0 := fun w => dt_adj (fun c _ => by
    show (if n + 1 = n + 1 then w c else _) = (if n = n + 1 then _ else (if n = n then w c else _))
    rw [if_pos rfl, if_neg (by omega), if_pos rfl])
  have h1 := hz (fun c => 1 * u c + 1 * v c)
  rw [dt_lin (n + 2) (rs M n (fun c => 1 * u c + 1 * v c)) (n + 1) u v 1 1 (by omega)] at h1
  rw [rs_comm M (show n ≠ n + 1 by omega), rs_comm M (show n ≠ n + 1 by omega), dt_lin (n + 2) (rs M (n + 1) u) n u v 1 1 (by omega), dt_lin (n + 2) (rs M (n + 1) v) n u v 1 1 (by omega)] at h1
  rw [← rs_comm M (show n ≠ n + 1 by omega), ← rs_comm M (show n ≠ n + 1 by omega), ← rs_comm M (show n ≠ n + 1 by omega), ← rs_comm M (show n ≠ n + 1 by omega), hz u, hz v] at h1
  omega
theorem dt_eqrows : ∀ (n : Nat) (M : Nat → Nat → Int) (a b : Nat), a < b → b < n → (∀ c, c < n → M a c = M b c) → dt n M = 0
  | 0, _, _, _, _, h, _ => absurd h (by omega)
  | n + 1, M, a, b, hab, hb, h => by
    have low : ∀ (M : Nat → Nat → Int) (a b : Nat), a < b → b < n → (∀ c, c < n + 1 → M a c = M b c) → dt (n + 1) M = 0 := by
      intro M a b hab hb h
      refine sm_zero (fun j hj => ?_)
      rw [dt_eqrows n (fun r c => M r (sk j c)) a b hab hb (fun c hc => h _ (by unfold sk; split <;> omega)), Int.mul_zero]
    by_cases hbn : b < n
    · exact low M a b hab hbn h
    · have hb2 : b = n := by omega
      subst hb2
      obtain ⟨k, rfl⟩ : ∃ k, b = k + 1 := ⟨b - 1, by omega⟩
      by_cases hak : a = k
      · subst hak
        exact dt_adj (fun c hc => (h c hc).symm)
      · have e : M = rs (rs M k (M k)) (k + 1) (M (k + 1)) := by rw [rs_self, rs_self]
        rw [e, dt_swap_last, low _ a k (by omega) (by omega) (fun c hc => ?_)]
        · rfl
        · show (if a = k + 1 then _ else (if a = k then _ else M a c)) = (if k = k + 1 then _ else (if k = k then M (k + 1) c else _))
          rw [if_neg (by omega), if_neg (by omega), if_neg (by omega), if_pos rfl, h c hc]
theorem dt_swap {n : Nat} (M : Nat → Nat → Int) {a b : Nat} (hab : a < b) (hb : b < n) (u v : Nat → Int) : dt n (rs (rs M a u) b v) = - dt n (rs (rs M a v) b u) := by
  have hne : a ≠ b := by omega
  have hz : ∀ w : Nat → Int, dt n (rs (rs M a w) b w) = 0 := fun w => dt_eqrows n _ a b hab hb (fun c _ => by
    show (if a = b then _ else (if a = a then w c else _)) = (if b = b then w c else _)
    rw [if_neg hne, if_pos rfl, if_pos rfl])
  have h1 := hz (fun c => 1 * u c + 1 * v c)
  rw [dt_lin n (rs M a (fun c => 1 * u c + 1 * v c)) b u v 1 1 hb] at h1
  rw [rs_comm M hne, rs_comm M hne, dt_lin n (rs M b u) a u v 1 1 (by omega), dt_lin n (rs M b v) a u v 1 1 (by omega)] at h1
  rw [← rs_comm M hne, ← rs_comm M hne, ← rs_comm M hne, ← rs_comm M hne, hz u, hz v] at h1
  omega
/-- a row that is a multiple of itself and of rows before it -/
theorem dt_comb {n : Nat} (M : Nat → Nat → Int) {i : Nat} (hi : i < n) (a : Int) (x : Nat → Int) : ∀ (m : Nat), m ≤ i → dt n (rs M i (fun c => a * M i c + sm m (fun t => x t * M t c))) = a * dt n M
  | 0, _ => by
    have h := dt_lin n M i (M i) (M i) a 0 hi
    rw [rs_self] at h
    have e : (fun c => a * M i c + sm 0 (fun t => x t * M t c)) = (fun c => a * M i c + 0 * M i c) := by
      funext c
      show a * M i c + 0 = _
      omega
    rw [e, h]
    omega
  | m + 1, hm => by
    have ih := dt_comb M hi a x m (by omega)
    have e : (fun c => a * M i c + sm (m + 1) (fun t => x t * M t c)) = (fun c => 1 * (a * M i c + sm m (fun t => x t * M t c)) + x m * M m c) := by
      funext c
      show a * M i c + (sm m (fun t => x t * M t c) + x m * M m c) = _
      omega
    rw [e, dt_lin n M i (fun c => a * M i c + sm m (fun t => x t * M t c)) (M m) 1 (x m) hi, ih]
    have hz : dt n (rs M i (M m)) = 0 := dt_eqrows n _ m i (by omega) hi (fun c _ => by
      show (if m = i then _ else M m c) = (if i = i then M m c else _)
      rw [if_neg (by omega), if_pos rfl])
    rw [hz]
    omega
/-- a last row with nothing but its last -/
theorem dt_last0 {n : Nat} {M : Nat → Nat → Int} (h : ∀ c, c < n → M n c = 0) : dt (n + 1) M = M n n * dt n M := by
  show sm n (fun j => sg (n + j) * M n j * dt n (fun r c => M r (sk j c))) + sg (n + n) * M n n * dt n (fun r c => M r (sk n c)) = _
  rw [sm_zero (fun j hj => by rw [h j hj, Int.mul_zero, Int.zero_mul]), sg_2, dt_congr n (fun r c => M r (sk n c)) M (fun r c _ hc => by
    show M r (sk n c) = M r c
    unfold sk
    rw [if_pos hc])]
  rw [Int.zero_add, Int.one_mul]
/-- too few columns for the last rows -/
theorem dt_low0 {k : Nat} : ∀ (n : Nat) (M : Nat → Nat → Int), k < n → (∀ r c, k ≤ r → r < n → c ≤ k → M r c = 0) → dt n M = 0
  | 0, _, h, _ => absurd h (by omega)
  | n + 1, M, hk, h => by
    refine sm_zero (fun j hj => ?_)
    by_cases hjk : j ≤ k
    · rw [h n j (by omega) (by omega) hjk, Int.mul_zero, Int.zero_mul]
    · rw [dt_low0 (k := k) n (fun r c => M r (sk j c)) (by omega) (fun r c h1 h2 h3 => ?_), Int.mul_zero]
      show M r (sk j c) = 0
      have : sk j c = c := by unfold sk; rw [if_pos (by omega)]
      rw [this]
      exact h r c h1 (by omega) h3
