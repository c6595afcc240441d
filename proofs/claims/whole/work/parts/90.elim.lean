/-! Whole numbers of 64 bits with a sign; small minors; the square in an array. -/
def lZ (z : Int) : Int64 := Int64.ofInt z
theorem lZ_toInt {z : Int} (h : z.natAbs < 2 ^ 63) : (lZ z).toInt = z := Int64.toInt_ofInt_of_le (by show -(2 ^ 63 : Int) ≤ z; omega) (by show z < (2 ^ 63 : Int); omega)
theorem lZ_inj {a b : Int} (ha : a.natAbs < 2 ^ 63) (hb : b.natAbs < 2 ^ 63) : lZ a = lZ b ↔ a = b := by
  constructor
  · intro h
    have h1 := congrArg Int64.toInt h
    rwa [lZ_toInt ha, lZ_toInt hb] at h1
  · intro h
    rw [h]
theorem lZ_0 : lZ 0 = 0 := rfl
theorem lZ_1 : lZ 1 = 1 := rfl
theorem lZ_eq0 {a : Int} (ha : a.natAbs < 2 ^ 63) : lZ a = 0 ↔ a = 0 := by
  rw [← lZ_0]
  exact lZ_inj ha (by decide)
theorem lZ_add (a b : Int) : lZ a + lZ b = lZ (a + b) := (Int64.ofInt_add a b).symm
theorem lZ_sub (a b : Int) : lZ a - lZ b = lZ (a - b) := (Int64.ofInt_sub a b).symm
theorem lZ_mul (a b : Int) : lZ a * lZ b = lZ (a * b) := (Int64.ofInt_mul a b).symm
theorem lZ_neg (a : Int) : - lZ a = lZ (- a) := (Int64.ofInt_neg a).symm
theorem lZ_n (n : Nat) : lZ (n : Int) = lN n := rfl
theorem lZ_le {a b : Int} (ha : a.natAbs < 2 ^ 63) (hb : b.natAbs < 2 ^ 63) : lZ a ≤ lZ b ↔ a ≤ b := by
  rw [Int64.le_iff_toInt_le, lZ_toInt ha, lZ_toInt hb]
theorem abs_le_mul {P q : Int} (hP : P ≠ 0) : q.natAbs ≤ (P * q).natAbs := by
  rw [Int.natAbs_mul]
  have : 1 ≤ P.natAbs := by omega
  exact Nat.le_mul_of_pos_left _ this
theorem lZ_div {P q : Int} (hP : P ≠ 0) (hPb : P.natAbs < 2 ^ 63) (hb : (P * q).natAbs < 2 ^ 63) : kdivJ (lZ (P * q)) (lZ P) = some (lZ q) := by
  have hq : q.natAbs < 2 ^ 63 := Nat.lt_of_le_of_lt (abs_le_mul hP) hb
  unfold kdivJ
  rw [if_neg (show ¬ lZ P = 0 by rw [lZ_eq0 hPb]; exact hP)]
  congr 1
  rw [← Int64.toInt_inj, Int64.toInt_div, lZ_toInt hb, lZ_toInt hPb, lZ_toInt hq, Int.mul_tdiv_cancel_left q hP]
  rw [Int.bmod_eq_of_le]
  · show -(((2 ^ 64 : Nat) : Int) / 2) ≤ q
    omega
  · show q < (((2 ^ 64 : Nat) : Int) + 1) / 2
    omega
/-- distinct places below n -/
def inj (p : Nat → Nat) (m n : Nat) : Prop := (∀ i, i < m → p i < n) ∧ ∀ i j, i < m → j < m → p i = p j → i = j
theorem su_inj {n : Nat} : ∀ (m : Nat) (p : Nat → Nat) (f : Nat → Nat), inj p m n → su (fun c => f (p c)) 0 m ≤ su f 0 n
  | 0, _, _, _ => Nat.zero_le _
  | m + 1, p, f, h => by
    rw [su_snoc, Nat.zero_add]
    have hm := h.1 m (by omega)
    have ih := su_inj m p (fun c => if c = p m then 0 else f c) ⟨fun i hi => h.1 i (by omega), fun i j hi hj => h.2 i j (by omega) (by omega)⟩
    have e1 : su (fun c => (fun c => if c = p m then 0 else f c) (p c)) 0 m = su (fun c => f (p c)) 0 m := su_congr m 0 (fun c _ hc => by
      show (if p c = p m then 0 else f (p c)) = f (p c)
      rw [if_neg (fun q => by have := h.2 c m (by omega) (by omega) q; omega)])
    have e2 : su f 0 n = su (fun c => if c = p m then 0 else f c) 0 n + f (p m) := su_bump (g := fun c => if c = p m then 0 else f c) (h := f) (x := f (p m)) (t := p m) n 0 (by omega) (by omega) (by
      show f (p m) = (if p m = p m then 0 else f (p m)) + f (p m)
      rw [if_pos rfl, Nat.zero_add]) (fun j _ _ hj => by
      show f j = if j = p m then 0 else f j
      rw [if_neg hj])
    have ih2 := Nat.le_trans (Nat.le_of_eq e1.symm) ih
    omega
theorem pr_20 : ∀ (m : Nat) (b : Nat → Nat), (∀ r, r < m → b r ≤ 20) → pr b m ≤ 20 ^ m
  | 0, _, _ => Nat.le_refl _
  | m + 1, b, h => by
    rw [Nat.pow_succ]
    exact Nat.mul_le_mul (pr_20 m b (fun r hr => h r (by omega))) (h m (by omega))
theorem pr_400 : ∀ (m : Nat) (b : Nat → Nat) (q : Nat), (∀ r, r < m → b r ≤ if r = q then 400 else 20) → pr b m ≤ 20 * 20 ^ m
  | 0, _, _, _ => by show 1 ≤ 20 * 1; omega
  | m + 1, b, q, h => by
    show pr b m * b m ≤ _
    by_cases hq : m = q
    · have h1 := pr_20 m b (fun r hr => by have := h r (by omega); rwa [if_neg (by omega)] at this)
      have h2 := h m (by omega)
      rw [if_pos hq] at h2
      have h3 := Nat.mul_le_mul h1 h2
      rw [Nat.pow_succ]
      omega
    · have h1 := pr_400 m b q (fun r hr => h r (by omega))
      have h2 := h m (by omega)
      rw [if_neg hq] at h2
      have h3 := Nat.mul_le_mul h1 h2
      rw [Nat.pow_succ]
      omega
/-- all parts are small -/
def tiny (n : Nat) (X : Nat → Nat → Int) : Prop := ∀ (m : Nat) (p q : Nat → Nat), m ≤ n → inj p m n → inj q m n → (dt m (fun r c => X (p r) (q c))).natAbs ≤ 1280000000
theorem tiny_rows {n : Nat} (hn : n ≤ 6) {X : Nat → Nat → Int} {t : Nat} (h : ∀ r, r < n → su (fun c => (X r c).natAbs) 0 n ≤ if r = t then 400 else 20) : tiny n X := by
  intro m p q hm hp hq
  have h1 := dt_bound m (fun r c => X (p r) (q c)) (fun r => if p r = t then 400 else 20) (fun r hr => Nat.le_trans (su_inj m q (fun c => (X (p r) c).natAbs) hq) (h (p r) (hp.1 r hr)))
  have h2 : pr (fun r => if p r = t then 400 else 20) m ≤ 20 * 20 ^ m := by
    by_cases hex : ∃ r, r < m ∧ p r = t
    · obtain ⟨r0, hr0, e0⟩ := hex
      refine pr_400 m _ r0 (fun r hr => ?_)
      show (if p r = t then 400 else 20) ≤ _
      by_cases e : p r = t
      · rw [if_pos e, if_pos (hp.2 r r0 hr hr0 (e.trans e0.symm))]
        exact Nat.le_refl _
      · rw [if_neg e]
        split <;> omega
    · refine Nat.le_trans (pr_20 m _ (fun r hr => ?_)) (by omega)
      show (if p r = t then 400 else 20) ≤ 20
      rw [if_neg (fun e => hex ⟨r, hr, e⟩)]
      exact Nat.le_refl _
  have h3 : 20 ^ m ≤ 20 ^ 6 := Nat.pow_le_pow_right (by omega) (by omega)
  have h4 : 20 ^ 6 = 64000000 := by decide
  omega
theorem tiny_tr {n : Nat} {X : Nat → Nat → Int} (h : tiny n X) : tiny n (fun r c => X c r) := by
  intro m p q hm hp hq
  rw [dt_tr]
  exact h m q p hm hq hp
theorem tiny_sw {n : Nat} {X : Nat → Nat → Int} (h : tiny n X) {a b : Nat} (ha : a < n) (hb : b < n) : tiny n (sw X a b) := by
  intro m p q hm hp hq
  have e : (fun r c => sw X a b (p r) (q c)) = (fun r c => X ((fun r => if p r = a then b else if p r = b then a else p r) r) (q c)) := by
    funext r c
    show sw X a b (p r) (q c) = X (if p r = a then b else if p r = b then a else p r) (q c)
    unfold sw
    split
    · rfl
    · split <;> rfl
  rw [e]
  refine h m _ q hm ⟨fun i hi => ?_, fun i j hi hj e => ?_⟩ hq
  · have := hp.1 i hi
    show (if p i = a then b else if p i = b then a else p i) < n
    split
    · exact hb
    · split
      · exact ha
      · exact this
  · refine hp.2 i j hi hj ?_
    have e : (if p i = a then b else if p i = b then a else p i) = (if p j = a then b else if p j = b then a else p j) := e
    split at e <;> split at e <;> (try split at e) <;> (try split at e) <;> omega
theorem tiny_dt {n k : Nat} {X : Nat → Nat → Int} (h : tiny n X) (hk : k ≤ n) : (dt k X).natAbs ≤ 1280000000 :=
  h k (fun r => r) (fun c => c) hk ⟨fun i hi => (show i < n by omega), fun i j _ _ e => e⟩ ⟨fun i hi => (show i < n by omega), fun i j _ _ e => e⟩
theorem tiny_bm {n k : Nat} {X : Nat → Nat → Int} (h : tiny n X) {i j : Nat} (hi : k ≤ i) (hin : i < n) (hj : k ≤ j) (hjn : j < n) : (bm X k i j).natAbs ≤ 1280000000 := by
  have hc : ∀ z, k ≤ z → z < n → inj (cs k z) (k + 1) n := by
    intro z hz hzn
    refine ⟨fun t ht => ?_, fun s t hs ht e => ?_⟩
    · unfold cs
      split <;> omega
    · unfold cs at e
      split at e <;> split at e <;> omega
  exact h (k + 1) (cs k i) (cs k j) (by omega) (hc i hi hin) (hc j hj hjn)
theorem iw_inj {w r c r' c' : Nat} (hc : c < w) (hc' : c' < w) : w * r + c = w * r' + c' ↔ r = r' ∧ c = c' := by
  constructor
  · intro h
    have h1 : (w * r + c) / w = (w * r' + c') / w := by rw [h]
    have hw : 0 < w := by omega
    rw [Nat.mul_add_div hw, Nat.mul_add_div hw, Nat.div_eq_of_lt hc, Nat.div_eq_of_lt hc', Nat.add_zero, Nat.add_zero] at h1
    subst h1
    exact ⟨rfl, by omega⟩
  · rintro ⟨rfl, rfl⟩
    rfl
/-- rows and columns from k on, as they stand in the array -/
def vw (w n k : Nat) (f : Nat → Int64) (B : Nat → Nat → Int) : Prop := ∀ i j, k ≤ i → i < n → k ≤ j → j < n → f (w * i + j) = lZ (B i j)
def st (B B' : Nat → Nat → Int) (k s i j : Nat) : Nat → Nat → Int := fun r c => if k < r ∧ s ≤ c ∧ (r < i ∨ (r = i ∧ c < j)) then B' r c else B r c
theorem vw_put {w n k s : Nat} {f : Nat → Int64} {B B' : Nat → Nat → Int} {i j : Nat} (hnw : n ≤ w) (hki : k < i) (hs : s ≤ j) (hjn : j < n) (hv : vw w n k f (st B B' k s i j)) : vw w n k (vp_updL f (w * i + j) (lZ (B' i j))) (st B B' k s i (j + 1)) := by
  intro r c h1 h2 h3 h4
  unfold vp_updL
  by_cases e : r = i ∧ c = j
  · obtain ⟨rfl, rfl⟩ := e
    rw [if_pos rfl]
    unfold st
    rw [if_pos ⟨by omega, by omega, by omega⟩]
  · rw [if_neg (fun q => e ((iw_inj (by omega) (by omega)).mp q)), hv r c h1 h2 h3 h4]
    congr 1
    unfold st
    by_cases e2 : k < r ∧ s ≤ c ∧ (r < i ∨ (r = i ∧ c < j))
    · rw [if_pos e2, if_pos (by omega)]
    · rw [if_neg e2, if_neg (by omega)]
theorem vw_end {w n k s : Nat} {f : Nat → Int64} {B B' : Nat → Nat → Int} {i : Nat} (hs : k ≤ s) (hv : vw w n k f (st B B' k s i n)) : vw w n k f (st B B' k s (i + 1) s) := by
  intro r c h1 h2 h3 h4
  rw [hv r c h1 h2 h3 h4]
  congr 1
  unfold st
  by_cases e2 : k < r ∧ s ≤ c ∧ (r < i ∨ (r = i ∧ c < n))
  · rw [if_pos e2, if_pos (by omega)]
  · rw [if_neg e2, if_neg (by omega)]
theorem vw_first {w n k s : Nat} {f : Nat → Int64} {B B' : Nat → Nat → Int} (hv : vw w n k f B) : vw w n k f (st B B' k s (k + 1) s) := by
  intro r c h1 h2 h3 h4
  rw [hv r c h1 h2 h3 h4]
  congr 1
  unfold st
  rw [if_neg (by omega)]
theorem vw_last {w n k s : Nat} {f : Nat → Int64} {B B' : Nat → Nat → Int} (hs : s ≤ k + 1) (hv : vw w n k f (st B B' k s n s)) : vw w n (k + 1) f B' := by
  intro r c h1 h2 h3 h4
  rw [hv r c (by omega) h2 (by omega) h4]
  congr 1
  unfold st
  rw [if_pos (by omega)]
/-- what a step lays down -/
theorem step_val {n k : Nat} {X B : Nat → Nat → Int} {P : Int} (h : binv n k X B P) (ht : tiny n X) (hk : k < n) (hp : B k k ≠ 0) {i j : Nat} (hi : k < i) (hin : i < n) (hj : k ≤ j) (hjn : j < n) : kdivJ (lZ (B k k) * lZ (B i j) - lZ (B i k) * lZ (B k j)) (lZ P) = some (lZ (bm X (k + 1) i j)) := by
  have b1 : ∀ r c, k ≤ r → r < n → k ≤ c → c < n → (B r c).natAbs ≤ 1280000000 := fun r c h1 h2 h3 h4 => by
    rw [b_bord h h1 h2 h4]
    exact tiny_bm ht h1 h2 h3 h4
  have e := b_exact h hk hp hi hin hjn
  have hPb : P.natAbs < 2 ^ 63 := by
    rw [h.1]
    have := tiny_dt ht (show k ≤ n by omega)
    omega
  rw [lZ_mul, lZ_mul, lZ_sub, e]
  refine lZ_div h.2.1 hPb ?_
  rw [← e]
  have m1 : (B k k * B i j).natAbs ≤ 1280000000 * 1280000000 := by
    rw [Int.natAbs_mul]
    exact Nat.mul_le_mul (b1 k k (by omega) hk (by omega) hk) (b1 i j (by omega) hin hj hjn)
  have m2 : (B i k * B k j).natAbs ≤ 1280000000 * 1280000000 := by
    rw [Int.natAbs_mul]
    exact Nat.mul_le_mul (b1 i k (by omega) hin (by omega) hk) (b1 k j (by omega) hk hj hjn)
  omega
theorem step_inv {n k : Nat} {X B : Nat → Nat → Int} {P : Int} (h : binv n k X B P) (hk : k < n) (hp : B k k ≠ 0) : binv n (k + 1) X (bm X (k + 1)) (B k k) :=
  b_step h hk hp (fun i hi hin c hc => (b_exact h hk hp hi hin hc).symm)
/-- rows a and b changed, columns below j -/
def swm (w n a b j : Nat) (f g : Nat → Int64) : Prop := ∀ r c, r < n → c < n → f (w * r + c) = g (w * (if c < j then (if r = a then b else if r = b then a else r) else r) + c)
theorem swm_put {w n a b j : Nat} {f g : Nat → Int64} (hnw : n ≤ w) (hab : a ≠ b) (ha : a < n) (hb : b < n) (hj : j < n) (h : swm w n a b j f g) : swm w n a b (j + 1) (vp_updL (vp_updL f (w * a + j) (f (w * b + j))) (w * b + j) (f (w * a + j))) g := by
  intro r c hr hc
  have fa := h a j ha hj
  have fb := h b j hb hj
  rw [if_neg (by omega)] at fa fb
  unfold vp_updL
  by_cases ec : c = j
  · subst ec
    rw [if_pos (show c < c + 1 by omega)]
    by_cases e1 : r = b
    · rw [if_pos (by rw [e1]), fa]
      rw [if_neg (by omega), if_pos e1]
    · rw [if_neg (fun q => e1 ((iw_inj (by omega) (by omega)).mp q).1)]
      by_cases e2 : r = a
      · rw [if_pos (by rw [e2]), fb, if_pos e2]
      · rw [if_neg (fun q => e2 ((iw_inj (by omega) (by omega)).mp q).1), if_neg e2, if_neg e1, h r c hr hc, if_neg (by omega)]
  · rw [if_neg (fun q => ec ((iw_inj (by omega) (by omega)).mp q).2), if_neg (fun q => ec ((iw_inj (by omega) (by omega)).mp q).2), h r c hr hc]
    by_cases e3 : c < j
    · rw [if_pos e3, if_pos (show c < j + 1 by omega)]
    · rw [if_neg e3, if_neg (show ¬ c < j + 1 by omega)]
theorem swm_0 (w n a b : Nat) (f : Nat → Int64) : swm w n a b 0 f f := fun r c _ _ => by rw [if_neg (by omega)]
theorem swm_vw {w n a b k : Nat} {f g : Nat → Int64} {B : Nat → Nat → Int} (ha : k ≤ a) (han : a < n) (hb : k ≤ b) (hbn : b < n) (h : swm w n a b n f g) (hv : vw w n k g B) : vw w n k f (sw B a b) := by
  intro r c h1 h2 h3 h4
  rw [h r c h2 h4, if_pos h4]
  unfold sw
  by_cases e1 : r = a
  · rw [if_pos e1, if_pos e1]
    exact hv b c hb hbn h3 h4
  · by_cases e2 : r = b
    · rw [if_neg e1, if_pos e2, if_neg e1, if_pos e2]
      exact hv a c ha han h3 h4
    · rw [if_neg e1, if_neg e2, if_neg e1, if_neg e2]
      exact hv r c h1 h2 h3 h4
