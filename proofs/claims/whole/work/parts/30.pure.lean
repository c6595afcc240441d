/-! Pure rows: elements by number, sums, Euclid's way. -/
theorem kld_n {α : Type} {n i : Nat} {f : Nat → α} (h : i < n) (hn : n < 2 ^ 31) : kld n f (nI i) = some (f i) := by
  unfold kld
  rw [if_neg (nI_in h hn), nI_clamp (by omega)]
theorem kstI_n {n i : Nat} {f : Nat → Int32} {x : Int32} (h : i < n) (hn : n < 2 ^ 31) : kstI n f (nI i) x = some (upd f i x) := by
  unfold kstI
  rw [if_neg (nI_in h hn), nI_clamp (by omega)]
theorem kstJ_n {n i : Nat} {f : Nat → Int64} {x : Int64} (h : i < n) (hn : n < 2 ^ 31) : kstJ n f (nI i) x = some (vp_updL f i x) := by
  unfold kstJ
  rw [if_neg (nI_in h hn), nI_clamp (by omega)]
theorem lN_ne0 {b : Nat} (h0 : 0 < b) (hb : b < 2 ^ 63) : ¬ lN b = 0 := by
  intro h
  have h1 := (pk_lEQ hb (show 0 < 2 ^ 63 by omega)).mp (h.trans (show (0 : Int64) = lN 0 from rfl))
  omega
theorem kremJ_n {a b : Nat} (ha : a < 2 ^ 63) (h0 : 0 < b) (hb : b < 2 ^ 63) : kremJ (lN a) (lN b) = some (lN (a % b)) := by
  unfold kremJ
  rw [if_neg (lN_ne0 h0 hb), pk_lRem ha h0 hb]
theorem kdivJ_n {a b : Nat} (ha : a < 2 ^ 63) (h0 : 0 < b) (hb : b < 2 ^ 63) : kdivJ (lN a) (lN b) = some (lN (a / b)) := by
  unfold kdivJ
  rw [if_neg (lN_ne0 h0 hb), pk_lDiv ha h0 hb]
theorem half_mod {b r : Nat} (hr : 0 < r) (h : r < b) {m : Nat} (hb : b < 2 ^ (m + 1)) : b % r < 2 ^ m := by
  have h1 : b % r < r := Nat.mod_lt _ hr
  rw [Nat.pow_succ] at hb
  rcases Nat.lt_or_ge b (2 * r) with h2 | h2
  rotate_left
  · omega
  · have h3 : b % r = b - r := by
      rw [Nat.mod_eq_sub_mod (Nat.le_of_lt h)]
      exact Nat.mod_eq_of_lt (by omega)
    omega
/-- g i + .. + g (i + d - 1) -/
def su (g : Nat → Nat) : Nat → Nat → Nat
  | _, 0 => 0
  | i, d + 1 => g i + su g (i + 1) d
theorem su_congr {g h : Nat → Nat} : ∀ (d i : Nat), (∀ j, i ≤ j → j < i + d → g j = h j) → su g i d = su h i d
  | 0, _, _ => rfl
  | d + 1, i, e => by
    show g i + su g (i + 1) d = h i + su h (i + 1) d
    rw [e i (by omega) (by omega), su_congr d (i + 1) (fun j h1 h2 => e j (by omega) (by omega))]
theorem su_add (g h : Nat → Nat) : ∀ (d i : Nat), su (fun j => g j + h j) i d = su g i d + su h i d
  | 0, _ => rfl
  | d + 1, i => by
    show g i + h i + su (fun j => g j + h j) (i + 1) d = g i + su g (i + 1) d + (h i + su h (i + 1) d)
    rw [su_add g h d (i + 1)]; omega
theorem su_zero {g : Nat → Nat} : ∀ (d i : Nat), (∀ j, i ≤ j → j < i + d → g j = 0) → su g i d = 0
  | 0, _, _ => rfl
  | d + 1, i, e => by
    show g i + su g (i + 1) d = 0
    rw [e i (by omega) (by omega), su_zero d (i + 1) (fun j h1 h2 => e j (by omega) (by omega))]
theorem su_le {g h : Nat → Nat} : ∀ (d i : Nat), (∀ j, i ≤ j → j < i + d → g j ≤ h j) → su g i d ≤ su h i d
  | 0, _, _ => Nat.le_refl _
  | d + 1, i, e => by
    show g i + su g (i + 1) d ≤ h i + su h (i + 1) d
    have h1 := e i (by omega) (by omega)
    have h2 := su_le d (i + 1) (fun j h1 h2 => e j (by omega) (by omega))
    omega
theorem su_mem {g : Nat → Nat} : ∀ (d i j : Nat), i ≤ j → j < i + d → g j ≤ su g i d
  | 0, i, j, h1, h2 => absurd h2 (by omega)
  | d + 1, i, j, h1, h2 => by
    show g j ≤ g i + su g (i + 1) d
    rcases Nat.eq_or_lt_of_le h1 with h3 | h3
    · subst h3; omega
    · have := su_mem (g := g) d (i + 1) j h3 (by omega)
      omega
/-- one place more by x -/
theorem su_bump {g h : Nat → Nat} {x t : Nat} : ∀ (d i : Nat), i ≤ t → t < i + d → h t = g t + x → (∀ j, i ≤ j → j < i + d → j ≠ t → h j = g j) → su h i d = su g i d + x
  | 0, i, h1, h2, _, _ => absurd h2 (by omega)
  | d + 1, i, h1, h2, e, ne => by
    show h i + su h (i + 1) d = g i + su g (i + 1) d + x
    rcases Nat.eq_or_lt_of_le h1 with h3 | h3
    · subst h3
      rw [e, su_congr d (i + 1) (fun j a b => ne j (by omega) (by omega) (by omega))]; omega
    · rw [ne i (by omega) (by omega) (by omega), su_bump d (i + 1) h3 (by omega) e (fun j a b c => ne j (by omega) (by omega) c)]; omega
theorem su_snoc (g : Nat → Nat) : ∀ (d i : Nat), su g i (d + 1) = su g i d + g (i + d)
  | 0, i => by show g i + 0 = 0 + g i; omega
  | d + 1, i => by
    show g i + su g (i + 1) (d + 1) = g i + su g (i + 1) d + g (i + (d + 1))
    rw [su_snoc g d (i + 1), show i + 1 + d = i + (d + 1) by omega]; omega
theorem su_comm (g : Nat → Nat → Nat) (i e : Nat) : ∀ (d j : Nat), su (fun a => su (g a) i e) j d = su (fun b => su (fun a => g a b) j d) i e
  | 0, j => (su_zero e i (fun _ _ _ => rfl)).symm
  | d + 1, j => by
    show su (g j) i e + su (fun a => su (g a) i e) (j + 1) d = su (fun b => g j b + su (fun a => g a b) (j + 1) d) i e
    rw [su_add, su_comm g i e d (j + 1)]
theorem su_mul (x : Nat) (g : Nat → Nat) : ∀ (d i : Nat), su (fun j => x * g j) i d = x * su g i d
  | 0, _ => (Nat.mul_zero x).symm
  | d + 1, i => by
    show x * g i + su (fun j => x * g j) (i + 1) d = x * (g i + su g (i + 1) d)
    rw [su_mul x g d (i + 1), Nat.mul_add]
theorem lN_zero : lN 0 = 0 := rfl
theorem nI_zero : nI 0 = 0 := rfl
/-- Euclid's way in the class -/
theorem gcdK {fu : Nat} : ∀ (m a b t n : Nat), a < 2 ^ 63 → b < 2 ^ m → m ≤ 63 → t + 2 * m ≤ 99 → 2 * m + 2 ≤ n → fK_commonDivisor_9 fu n (lN a) (lN b) (nI t) = some (lN (Nat.gcd a b))
  | 0, a, b, t, n + 1, ha, hb, _, ht, hn => by
    have hb0 : b = 0 := by simpa using hb
    subst hb0
    rw [fK_commonDivisor_9, if_neg (by rw [show (100 : Int32) = nI 100 from rfl, nI_leI (by omega) (by omega)]; omega), if_pos lN_zero, Nat.gcd_zero_right]
  | m + 1, a, b, t, n + 1, ha, hb, hm, ht, hn => by
    have hb63 : b < 2 ^ 63 := Nat.lt_of_lt_of_le hb (Nat.pow_le_pow_right (by omega) hm)
    rw [fK_commonDivisor_9, if_neg (by rw [show (100 : Int32) = nI 100 from rfl, nI_leI (by omega) (by omega)]; omega)]
    by_cases hb0 : b = 0
    · subst hb0
      rw [if_pos lN_zero, Nat.gcd_zero_right]
    · have hr : a % b < b := Nat.mod_lt _ (by omega)
      rw [if_neg (lN_ne0 (by omega) hb63), kremJ_n ha (by omega) hb63]
      show fK_commonDivisor_9 fu n (lN b) (lN (a % b)) (nI t + 1) = _
      rw [nI_1]
      obtain ⟨n2, rfl⟩ : ∃ n2, n = n2 + 1 := ⟨n - 1, by omega⟩
      rw [fK_commonDivisor_9, if_neg (by rw [show (100 : Int32) = nI 100 from rfl, nI_leI (by omega) (by omega)]; omega)]
      by_cases hr0 : a % b = 0
      · rw [hr0, if_pos lN_zero, Nat.gcd_comm, Nat.gcd_rec, hr0, Nat.gcd_zero_left]
      · rw [if_neg (lN_ne0 (by omega) (by omega)), kremJ_n hb63 (by omega) (by omega)]
        show fK_commonDivisor_9 fu n2 (lN (a % b)) (lN (b % (a % b))) (nI (t + 1) + 1) = _
        rw [nI_1, gcdK m (a % b) (b % (a % b)) (t + 1 + 1) n2 (by omega) (half_mod (by omega) hr hb) (by omega) (by omega) (by omega)]
        rw [show Nat.gcd a b = Nat.gcd (b % (a % b)) (a % b) from by rw [← Nat.gcd_rec (a % b) b, Nat.gcd_comm a b, Nat.gcd_rec b a], Nat.gcd_comm]
