/-! A determinant is that of the rows as columns. -/
theorem sm_comm (g : Nat → Nat → Int) (b : Nat) : ∀ a : Nat, sm a (fun i => sm b (fun j => g i j)) = sm b (fun j => sm a (fun i => g i j))
  | 0 => (sm_zero (n := b) (fun _ _ => rfl)).symm
  | a + 1 => by
    show sm a (fun i => sm b (fun j => g i j)) + sm b (fun j => g a j) = sm b (fun j => sm a (fun i => g i j) + g a j)
    rw [sm_add, sm_comm g b a]
/-- by the last row, then the last column -/
theorem dt_two {n : Nat} (M : Nat → Nat → Int) (ih : ∀ N : Nat → Nat → Int, dt (n + 1) N = dt (n + 1) (fun r c => N c r)) :
    dt (n + 2) M = sm (n + 1) (fun j => sm (n + 1) (fun i => sg (n + 1 + j) * M (n + 1) j * (sg (n + i) * M i (n + 1) * dt n (fun r c => M (sk i c) (sk j r))))) + M (n + 1) (n + 1) * dt (n + 1) M := by
  show sm (n + 1) (fun j => sg (n + 1 + j) * M (n + 1) j * dt (n + 1) (fun r c => M r (sk j c))) + sg (n + 1 + (n + 1)) * M (n + 1) (n + 1) * dt (n + 1) (fun r c => M r (sk (n + 1) c)) = _
  rw [sg_2, Int.one_mul, dt_congr (n + 1) (fun r c => M r (sk (n + 1) c)) M (fun r c _ hc => by
    show M r (sk (n + 1) c) = M r c
    unfold sk
    rw [if_pos hc])]
  congr 1
  refine sm_congr (fun j hj => ?_)
  rw [ih, sm_mul]
  congr 1
  refine sm_congr (fun i hi => ?_)
  show sg (n + i) * M i (sk j n) * dt n (fun r c => M (sk i c) (sk j r)) = _
  rw [show sk j n = n + 1 from by unfold sk; rw [if_neg (by omega)]]
theorem dt_tr : ∀ (n : Nat) (M : Nat → Nat → Int), dt n M = dt n (fun r c => M c r)
  | 0, _ => rfl
  | 1, _ => rfl
  | n + 2, M => by
    rw [dt_two M (fun N => dt_tr (n + 1) N), dt_two (fun r c => M c r) (fun N => dt_tr (n + 1) N), dt_tr (n + 1) M]
    congr 1
    rw [sm_comm]
    refine sm_congr (fun i _ => sm_congr (fun j _ => ?_))
    show sg (n + 1 + j) * M (n + 1) j * (sg (n + i) * M i (n + 1) * dt n (fun r c => M (sk i c) (sk j r))) = sg (n + 1 + i) * M i (n + 1) * (sg (n + j) * M (n + 1) j * dt n (fun r c => M (sk i r) (sk j c)))
    rw [dt_tr n (fun r c => M (sk i r) (sk j c))]
    have s1 : sg (n + 1 + j) = - sg (n + j) := by rw [show n + 1 + j = n + j + 1 by omega, sg_succ]
    have s2 : sg (n + 1 + i) = - sg (n + i) := by rw [show n + 1 + i = n + i + 1 by omega, sg_succ]
    rw [s1, s2]
    grind
/-- how large it can be: each row's numbers together -/
def pr (b : Nat → Nat) : Nat → Nat
  | 0 => 1
  | n + 1 => pr b n * b n
theorem sm_abs {f : Nat → Int} {g : Nat → Nat} : ∀ {n : Nat}, (∀ j, j < n → (f j).natAbs ≤ g j) → (sm n f).natAbs ≤ su g 0 n
  | 0, _ => Nat.le_refl _
  | n + 1, h => by
    rw [su_snoc]
    have h1 := sm_abs (n := n) (fun j hj => h j (by omega))
    have h2 := h n (by omega)
    have h3 := Int.natAbs_add_le (sm n f) (f n)
    show (sm n f + f n).natAbs ≤ _
    rw [Nat.zero_add]
    omega
theorem sg_abs (a : Nat) : (sg a).natAbs = 1 := by
  unfold sg
  split <;> rfl
theorem sk_inj {j a b : Nat} (h : sk j a = sk j b) : a = b := by
  unfold sk at h
  split at h <;> split at h <;> omega
theorem su_sk (f : Nat → Nat) (j : Nat) : ∀ n : Nat, su (fun c => f (sk j c)) 0 n ≤ su f 0 (n + 1)
  | 0 => Nat.zero_le _
  | n + 1 => by
    rw [su_snoc, su_snoc (g := f) (d := n + 1)]
    rcases Nat.lt_or_ge n j with h | h
    · have e : su (fun c => f (sk j c)) 0 n = su f 0 n := su_congr n 0 (fun c _ hc => by
        show f (sk j c) = f c
        unfold sk
        rw [if_pos (by omega)])
      rw [e, su_snoc]
      show su f 0 n + f (sk j (0 + n)) ≤ su f 0 n + f (0 + n) + f (0 + (n + 1))
      have : sk j (0 + n) = 0 + n := by unfold sk; rw [if_pos (by omega)]
      rw [this]; omega
    · have h1 := su_sk f j n
      show su (fun c => f (sk j c)) 0 n + f (sk j (0 + n)) ≤ su f 0 (n + 1) + f (0 + (n + 1))
      have : sk j (0 + n) = 0 + (n + 1) := by unfold sk; rw [if_neg (by omega)]; omega
      rw [this]; omega
theorem dt_bound : ∀ (n : Nat) (M : Nat → Nat → Int) (b : Nat → Nat), (∀ r, r < n → su (fun c => (M r c).natAbs) 0 n ≤ b r) → (dt n M).natAbs ≤ pr b n
  | 0, _, _, _ => Nat.le_refl _
  | n + 1, M, b, h => by
    have h1 : ∀ j, j < n + 1 → (sg (n + j) * M n j * dt n (fun r c => M r (sk j c))).natAbs ≤ pr b n * (M n j).natAbs := by
      intro j _
      rw [Int.natAbs_mul, Int.natAbs_mul, sg_abs, Nat.one_mul, Nat.mul_comm]
      refine Nat.mul_le_mul_right _ (dt_bound n (fun r c => M r (sk j c)) b (fun r hr => ?_))
      exact Nat.le_trans (su_sk (fun c => (M r c).natAbs) j n) (h r (by omega))
    have h2 := sm_abs (f := fun j => sg (n + j) * M n j * dt n (fun r c => M r (sk j c))) (g := fun j => pr b n * (M n j).natAbs) h1
    rw [su_mul] at h2
    exact Nat.le_trans h2 (Nat.mul_le_mul_left _ (h n (by omega)))
