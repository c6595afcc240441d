/-! What a state IS: counts by place, class and age; groups; fills; fish measured; errors; sexes. And how class and reference hold it. -/
/-- readings of a row: a place's, or (row 4) all -/
def rd (ct : Nat → Nat → Nat → Nat) (r c a : Nat) : Nat := if r < 4 then ct r c a else ct 0 c a + ct 1 c a + ct 2 c a + ct 3 c a
def tt (C A : Nat) (ct : Nat → Nat → Nat → Nat) (r : Nat) : Nat := su (fun c => su (fun a => rd ct r c a) 0 A) 0 C
def gN (C : Nat) (gr : Nat → Nat) (ct : Nat → Nat → Nat → Nat) (r g a : Nat) : Nat := su (fun c => if gr c = g then rd ct r c a else 0) 0 C
def gT (C A : Nat) (gr : Nat → Nat) (ct : Nat → Nat → Nat → Nat) (r g : Nat) : Nat := su (fun c => if gr c = g then su (fun a => rd ct r c a) 0 A else 0) 0 C
def oI (o : Option Nat) : Int32 := match o with
  | none => -1
  | some g => nI g
/-- a row as the reference tells it -/
def plI (r : Nat) : Int32 := if r = 4 then -1 else nI r
def okS (C A : Nat) (ct : Nat → Nat → Nat → Nat) (ch : Nat) (gr : Nat → Nat) (fl : Nat → Option Nat) (ms : Nat → Nat) (er : Nat → Nat → Nat) (ml lk : Nat → Nat) : Prop :=
  (1 ≤ C ∧ C ≤ 10 ∧ 1 ≤ A ∧ A ≤ 6 ∧ ch ≤ 4) ∧ (∀ c, c < C → gr c < C ∧ gr (gr c) = gr c) ∧ (∀ c g, c < C → fl c = some g → g < C ∧ gr g = g) ∧ tt C A ct 4 ≤ 100 ∧ (∀ g, g < C → gT C A gr ct 4 g ≤ 20) ∧ su ms 0 C ≤ 10000 ∧ (∀ f t, f < A → t < A → er f t ≤ 20) ∧ (∀ c, c < C → ml c ≤ lk c ∧ lk c ≤ 100)
def repK (k : kK) (σ : sK) (C A : Nat) (ct : Nat → Nat → Nat → Nat) (ch : Nat) (gr : Nat → Nat) (fl : Nat → Option Nat) (ms : Nat → Nat) (er : Nat → Nat → Nat) (ml lk : Nat → Nat) : Prop :=
  k = k0K C A ∧ sK_chosenRow σ = nI ch ∧ (∀ r c a, r < 5 → c < C → a < A → sK_readings σ ((r * C + c) * A + a) = nI (rd ct r c a)) ∧ (∀ r, r < 5 → sK_rowSize σ r = nI (tt C A ct r)) ∧
  (∀ r g a, r < 5 → g < C → gr g = g → a < A → sK_groupReadings σ ((r * C + g) * A + a) = nI (gN C gr ct r g a)) ∧ (∀ r g, r < 5 → g < C → gr g = g → sK_groupSize σ (r * C + g) = nI (gT C A gr ct r g)) ∧
  (∀ c, c < C → sK_groupOf σ c = nI (gr c)) ∧ (∀ c, c < C → sK_filledBy σ c = oI (fl c)) ∧ (∀ c, c < C → sK_measured σ c = lN (ms c)) ∧ sK_measuredInAll σ = lN (su ms 0 C) ∧
  (∀ f t, f < A → t < A → sK_errors σ (f * A + t) = nI (er f t)) ∧ (∀ c, c < C → sK_maleCount σ c = nI (ml c)) ∧ (∀ c, c < C → sK_lookedAt σ c = nI (lk c))
def repM (k : kM) (σ : sM) (C A : Nat) (ct : Nat → Nat → Nat → Nat) (ch : Nat) (gr : Nat → Nat) (fl : Nat → Option Nat) (ms : Nat → Nat) (er : Nat → Nat → Nat) (ml lk : Nat → Nat) : Prop :=
  k = (nI C, nI A, lenM) ∧ sM_chosen σ = plI ch ∧ (∀ p c a, p < 4 → c < C → a < A → sM_counts σ (60 * p + 6 * c + a) = nI (ct p c a)) ∧
  (∀ c, c < C → sM_group σ c = nI (gr c)) ∧ (∀ c, c < C → sM_filler σ c = oI (fl c)) ∧ (∀ c, c < C → sM_measured σ c = lN (ms c)) ∧
  (∀ f t, f < A → t < A → sM_errors σ (6 * f + t) = nI (er f t)) ∧ (∀ c, c < C → sM_maleCount σ c = nI (ml c)) ∧ (∀ c, c < C → sM_sexCount σ c = nI (lk c))
theorem m1_ne {n : Nat} (h : n < 2 ^ 31) : ¬ nI n = -1 := by
  intro q
  have a := nI_toInt h
  rw [q] at a
  have : (-1 : Int32).toInt = -1 := by decide
  omega
theorem m1_lt (n : Nat) (h : n < 2 ^ 31) : (-1 : Int32) < nI n := by
  rw [Int32.lt_iff_toInt_lt, nI_toInt h]
  have : (-1 : Int32).toInt = -1 := by decide
  omega
theorem gT_gN (C A : Nat) (gr : Nat → Nat) (ct : Nat → Nat → Nat → Nat) (r g : Nat) : gT C A gr ct r g = su (fun a => gN C gr ct r g a) 0 A := by
  unfold gT gN
  rw [su_comm (fun a c => if gr c = g then rd ct r c a else 0) 0 C A 0]
  refine su_congr C 0 (fun c _ _ => ?_)
  split
  · rfl
  · exact (su_zero A 0 (fun _ _ _ => rfl)).symm
theorem rd_le (ct : Nat → Nat → Nat → Nat) (r c a : Nat) (hr : r < 5) : rd ct r c a ≤ rd ct 4 c a := by
  unfold rd
  rw [if_neg (show ¬ 4 < 4 by omega)]
  split
  · rename_i h
    rcases (show r = 0 ∨ r = 1 ∨ r = 2 ∨ r = 3 by omega) with rfl | rfl | rfl | rfl <;> omega
  · omega
theorem tt_le (C A : Nat) (ct : Nat → Nat → Nat → Nat) (r : Nat) (hr : r < 5) : tt C A ct r ≤ tt C A ct 4 := su_le C 0 (fun c _ _ => su_le A 0 (fun a _ _ => rd_le ct r c a hr))
theorem gT_le (C A : Nat) (gr : Nat → Nat) (ct : Nat → Nat → Nat → Nat) (r g : Nat) (hr : r < 5) : gT C A gr ct r g ≤ gT C A gr ct 4 g := su_le C 0 (fun c _ _ => by
  show (if gr c = g then su (fun a => rd ct r c a) 0 A else 0) ≤ (if gr c = g then su (fun a => rd ct 4 c a) 0 A else 0)
  split
  · exact su_le A 0 (fun a _ _ => rd_le ct r c a hr)
  · exact Nat.le_refl _)
theorem gN_le (C A : Nat) (gr : Nat → Nat) (ct : Nat → Nat → Nat → Nat) (r g a : Nat) (ha : a < A) : gN C gr ct r g a ≤ gT C A gr ct r g := by
  rw [gT_gN]
  exact su_mem (g := fun a => gN C gr ct r g a) A 0 a (by omega) (by omega)
theorem rd_tt (C A : Nat) (ct : Nat → Nat → Nat → Nat) (r c a : Nat) (hc : c < C) (ha : a < A) : rd ct r c a ≤ tt C A ct r :=
  Nat.le_trans (su_mem (g := fun a => rd ct r c a) A 0 a (by omega) (by omega)) (su_mem (g := fun c => su (fun a => rd ct r c a) 0 A) C 0 c (by omega) (by omega))
section MC
variable {C A : Nat} {ct : Nat → Nat → Nat → Nat} {ch : Nat} {gr : Nat → Nat} {fl : Nat → Option Nat} {ms : Nat → Nat} {er : Nat → Nat → Nat} {ml lk : Nat → Nat} {k : kM} {σ : sM} {fu : Nat}
theorem at_n (p c a : Nat) : fM_at (nI p) (nI c) (nI a) = nI (60 * p + 6 * c + a) := by
  unfold fM_at
  rw [show (60 : Int32) = nI 60 from rfl, show (6 : Int32) = nI 6 from rfl, pk_mul, pk_mul, nI_add, nI_add]
theorem cM_loop (hO : okS C A ct ch gr fl ms er ml lk) (hR : repM k σ C A ct ch gr fl ms er ml lk) {r c a : Nat} (hr : r < 5) (hc : c < C) (ha : a < A) : ∀ (d p acc n : Nat), p + d = 4 → d < n → fM_count_6 fu k σ n (plI r) (nI c) (nI a) (nI acc) (nI p) = some (nI (acc + su (fun p => if r = 4 ∨ r = p then ct p c a else 0) p d))
  | 0, p, acc, n + 1, hp, hn => by
    rw [fM_count_6, if_pos (by rw [show (4 : Int32) = nI 4 from rfl, nI_leI (by omega) (by omega)]; omega)]
    rfl
  | d + 1, p, acc, n + 1, hp, hn => by
    have hC := hO.1
    have hk : kM_n k 0 = 240 := by rw [hR.1]; rfl
    have hld : kld (kM_n k 0) (sM_counts σ) (fM_at (nI p) (nI c) (nI a)) = some (nI (ct p c a)) := by
      rw [at_n, hk, kld_n (by omega) (by omega), hR.2.2.1 p c a (by omega) hc ha]
    have ih := fun acc => cM_loop hO hR hr hc ha d (p + 1) acc n (by omega) (by omega)
    rw [fM_count_6, if_neg (by rw [show (4 : Int32) = nI 4 from rfl, nI_leI (by omega) (by omega)]; omega)]
    have h41 : ∀ x : Nat, fM_count_41 fu k σ (fM_count_6 fu k σ n) (nI acc) (nI x) (plI r) (nI c) (nI a) (nI p) = some (nI (acc + x + su (fun p => if r = 4 ∨ r = p then ct p c a else 0) (p + 1) d)) := by
      intro x
      unfold fM_count_41
      rw [nI_add, nI_1, ih]
    have h25 : fM_count_25 fu k σ (fM_count_6 fu k σ n) (nI acc) (plI r) (nI c) (nI a) (nI p) = some (nI (acc + ct p c a + su (fun p => if r = 4 ∨ r = p then ct p c a else 0) (p + 1) d)) := by
      unfold fM_count_25
      rw [hld]
      exact h41 _
    show (if plI r = -1 then _ else _) = some (nI (acc + ((if r = 4 ∨ r = p then ct p c a else 0) + su (fun p => if r = 4 ∨ r = p then ct p c a else 0) (p + 1) d)))
    by_cases h4 : r = 4
    · rw [if_pos (by unfold plI; rw [if_pos h4]), h25, if_pos (Or.inl h4), Nat.add_assoc]
    · have hpl : plI r = nI r := by unfold plI; rw [if_neg h4]
      rw [if_neg (by rw [hpl]; exact m1_ne (by omega))]
      by_cases hrp : r = p
      · rw [if_pos (by rw [hpl, hrp]), h25, if_pos (Or.inr hrp), Nat.add_assoc]
      · rw [if_neg (by rw [hpl, nI_eq (by omega) (by omega)]; exact hrp), if_neg (by omega)]
        have := h41 0
        rw [Nat.add_zero] at this
        rw [Nat.zero_add]
        exact this
theorem rd_su (ct : Nat → Nat → Nat → Nat) (r c a : Nat) (hr : r < 5) : su (fun p => if r = 4 ∨ r = p then ct p c a else 0) 0 4 = rd ct r c a := by
  rcases (show r = 0 ∨ r = 1 ∨ r = 2 ∨ r = 3 ∨ r = 4 by omega) with rfl | rfl | rfl | rfl | rfl <;> simp [su, rd] <;> omega
theorem cM (hO : okS C A ct ch gr fl ms er ml lk) (hR : repM k σ C A ct ch gr fl ms er ml lk) (hfu : 200 ≤ fu) {r c a : Nat} (hr : r < 5) (hc : c < C) (ha : a < A) : fM_count fu k σ (plI r) (nI c) (nI a) = some (nI (rd ct r c a)) := by
  unfold fM_count
  have h := cM_loop (fu := fu) hO hR hr hc ha 4 0 0 fu (by omega) (by omega)
  rw [Nat.zero_add, rd_su ct r c a hr] at h
  exact h
end MC
