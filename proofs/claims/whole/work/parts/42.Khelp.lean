/-! The class's own helpers, by the state; fractions of both. -/
def fr (a b : Nat) (part : Int32) : Int64 := if part = 0 then lN (a / Nat.gcd a b) else lN (b / Nat.gcd a b)
theorem lN_le0 {n : Nat} (h : n < 2 ^ 63) : (0 : Int64) ≤ lN n := by
  rw [← lN_zero, pk_lLE (by omega) h]
  omega
theorem lN_pos {n : Nat} (h0 : 0 < n) (h : n < 2 ^ 63) : (0 : Int64) < lN n := by
  rw [← lN_zero, pk_lLT (by omega) h]
  exact h0
theorem gcd_lt {a b : Nat} (h0 : 0 < b) (hb : b < 2 ^ 63) : Nat.gcd a b < 2 ^ 63 := Nat.lt_of_le_of_lt (Nat.gcd_le_right a h0) hb
theorem gcd_p {a b : Nat} (h0 : 0 < b) : 0 < Nat.gcd a b := Nat.gcd_pos_of_pos_right a h0
theorem fracK {fu a b : Nat} (hfu : 200 ≤ fu) (ha : a < 2 ^ 63) (h0 : 0 < b) (hb : b < 2 ^ 48) (x : Int32) : fK_fractionPart fu (lN a) (lN b) x = some (fr a b x) := by
  have hb63 : b < 2 ^ 63 := Nat.lt_of_lt_of_le hb (by decide)
  have habs : (if 0 < lN a then lN a else -lN a) = lN a := by
    by_cases h : a = 0
    · subst h; rfl
    · rw [if_pos (lN_pos (by omega) ha)]
  unfold fK_fractionPart fK_commonDivisor
  rw [habs, show (0 : Int32) = nI 0 from rfl, gcdK 48 a b 0 fu ha hb (by omega) (by omega) (by omega)]
  show (if (0 : Int64) < lN (Nat.gcd a b) then _ else _) = _
  rw [if_pos (lN_pos (gcd_p h0) (gcd_lt h0 hb63)), kdivJ_n ha (gcd_p h0) (gcd_lt h0 hb63), kdivJ_n hb63 (gcd_p h0) (gcd_lt h0 hb63)]
  unfold fr
  show (if x = nI 0 then some _ else some _) = some (if x = 0 then _ else _)
  by_cases hx : x = 0
  · rw [if_pos hx, if_pos (show x = nI 0 from hx)]
  · rw [if_neg hx, if_neg (show ¬ x = nI 0 from hx)]
theorem gcdM {fu : Nat} (x0 x2 : Int64) (x4 : Int32) (x9 : Int64) : ∀ (m a b n : Nat), a < 2 ^ 63 → b < 2 ^ m → m ≤ 63 → 2 * m + 2 ≤ n → fM_partOf_32 fu n x0 x2 x4 (lN a) (lN b) x9 = (if (0 : Int64) ≤ x0 then fM_partOf_68 fu 0 x0 x2 x4 (lN (Nat.gcd a b)) x9 else fM_partOf_68 fu 1 x0 x2 x4 (lN (Nat.gcd a b)) x9)
  | 0, a, b, n + 1, ha, hb, _, hn => by
    have hb0 : b = 0 := by simpa using hb
    subst hb0
    rw [fM_partOf_32, if_pos lN_zero, Nat.gcd_zero_right]
  | m + 1, a, b, n + 1, ha, hb, hm, hn => by
    have hb63 : b < 2 ^ 63 := Nat.lt_of_lt_of_le hb (Nat.pow_le_pow_right (by omega) hm)
    rw [fM_partOf_32]
    by_cases hb0 : b = 0
    · subst hb0
      rw [if_pos lN_zero, Nat.gcd_zero_right]
    · have hr : a % b < b := Nat.mod_lt _ (by omega)
      rw [if_neg (lN_ne0 (by omega) hb63), kremJ_n ha (by omega) hb63]
      show fM_partOf_32 fu n x0 x2 x4 (lN b) (lN (a % b)) x9 = _
      obtain ⟨n2, rfl⟩ : ∃ n2, n = n2 + 1 := ⟨n - 1, by omega⟩
      rw [fM_partOf_32]
      by_cases hr0 : a % b = 0
      · rw [hr0, if_pos lN_zero, show Nat.gcd a b = b from by rw [Nat.gcd_comm, Nat.gcd_rec, hr0, Nat.gcd_zero_left]]
      · rw [if_neg (lN_ne0 (by omega) (by omega)), kremJ_n hb63 (by omega) (by omega)]
        show fM_partOf_32 fu n2 x0 x2 x4 (lN (a % b)) (lN (b % (a % b))) x9 = _
        rw [gcdM x0 x2 x4 x9 m (a % b) (b % (a % b)) n2 (by omega) (half_mod (by omega) hr hb) (by omega) (by omega)]
        rw [show Nat.gcd a b = Nat.gcd (a % b) (b % (a % b)) from by rw [Nat.gcd_comm (a % b), ← Nat.gcd_rec (a % b) b, Nat.gcd_comm a b, Nat.gcd_rec b a]]
theorem fracM {fu a b : Nat} (hfu : 200 ≤ fu) (ha : a < 2 ^ 63) (h0 : 0 < b) (hb : b < 2 ^ 63) (x : Int32) : fM_partOf fu (lN a) (lN b) x = some (fr a b x) := by
  unfold fM_partOf fM_partOf_12 fM_partOf_26
  rw [if_pos (lN_le0 ha), if_pos (lN_le0 hb), gcdM (lN a) (lN b) x (lN b) 63 a b fu ha hb (by omega) (by omega), if_pos (lN_le0 ha)]
  unfold fM_partOf_68 fM_partOf_79 fM_partOf_89 fM_partOf_110
  rw [if_pos (lN_le0 hb), if_pos rfl, if_pos (lN_le0 ha), kdivJ_n ha (gcd_p h0) (gcd_lt h0 hb), kdivJ_n hb (gcd_p h0) (gcd_lt h0 hb)]
  unfold fr
  show (if x = 0 then some ((1 : Int64) * _) else some _) = some (if x = 0 then _ else _)
  by_cases hx : x = 0
  · rw [if_pos hx, if_pos hx, Int64.one_mul]
  · rw [if_neg hx, if_neg hx]
section KH
variable {C A : Nat} {ct : Nat → Nat → Nat → Nat} {ch : Nat} {gr : Nat → Nat} {fl : Nat → Option Nat} {ms : Nat → Nat} {er : Nat → Nat → Nat} {ml lk : Nat → Nat} {k : kK} {σ : sK} {fu : Nat}
/-- a place in a table of rows -/
theorem ix_lt {r c a C A R : Nat} (hr : r < R) (hc : c < C) (ha : a < A) : (r * C + c) * A + a < R * C * A := by
  have h1 : r * C + c < R * C := by
    have : (r + 1) * C ≤ R * C := Nat.mul_le_mul_right C hr
    rw [Nat.add_mul, Nat.one_mul] at this
    omega
  have h2 : (r * C + c + 1) * A ≤ R * C * A := Nat.mul_le_mul_right A h1
  rw [Nat.add_mul, Nat.one_mul] at h2
  omega
theorem ix2_lt {r c C R : Nat} (hr : r < R) (hc : c < C) : r * C + c < R * C := by
  have : (r + 1) * C ≤ R * C := Nat.mul_le_mul_right C hr
  rw [Nat.add_mul, Nat.one_mul] at this
  omega
theorem cellK (hR : repK k σ C A ct ch gr fl ms er ml lk) (r c a : Nat) : fK_cell k (nI r) (nI c) (nI a) = nI ((r * C + c) * A + a) := by
  unfold fK_cell
  rw [hR.1]
  show ((nI r * nI C + nI c) * nI A) + nI a = _
  rw [pk_mul, nI_add, pk_mul, nI_add]
theorem ca_300 (hO : okS C A ct ch gr fl ms er ml lk) : 5 * C * A < 2 ^ 31 := by
  have h := mul_le60 hO.1.2.1 hO.1.2.2.2.1
  rw [Nat.mul_assoc]
  omega
theorem grK (hO : okS C A ct ch gr fl ms er ml lk) (hR : repK k σ C A ct ch gr fl ms er ml lk) {c : Nat} (hc : c < C) : kld (kK_n k 4) (sK_groupOf σ) (nI c) = some (nI (gr c)) := by
  have hC := hO.1
  rw [show kK_n k 4 = C from by rw [hR.1]; rfl, kld_n hc (by omega), hR.2.2.2.2.2.2.1 c hc]
theorem flK (hO : okS C A ct ch gr fl ms er ml lk) (hR : repK k σ C A ct ch gr fl ms er ml lk) {c : Nat} (hc : c < C) : kld (kK_n k 5) (sK_filledBy σ) (nI c) = some (oI (fl c)) := by
  have hC := hO.1
  rw [show kK_n k 5 = C from by rw [hR.1]; rfl, kld_n hc (by omega), hR.2.2.2.2.2.2.2.1 c hc]
theorem sizeK (hO : okS C A ct ch gr fl ms er ml lk) (hR : repK k σ C A ct ch gr fl ms er ml lk) {r g : Nat} (hr : r < 5) (hg : g < C) (hgg : gr g = g) : fK_sizeIn k σ (nI r) (nI g) = some (nI (gT C A gr ct r g)) := by
  have hC := hO.1
  unfold fK_sizeIn
  rw [show kK_classes k = nI C from by rw [hR.1]; rfl, show kK_n k 3 = 5 * C from by rw [hR.1]; rfl, pk_mul, nI_add, kld_n (ix2_lt hr hg) (by omega), hR.2.2.2.2.2.1 r g hr hg hgg]
  rfl
theorem ownK (hO : okS C A ct ch gr fl ms er ml lk) (hR : repK k σ C A ct ch gr fl ms er ml lk) {g : Nat} (hg : g < C) (hgg : gr g = g) : fK_own k σ (nI g) = some (nI (gT C A gr ct ch g)) := by
  have hC := hO.1
  unfold fK_own
  rw [hR.2.1, sizeK hO hR (show ch < 5 by omega) hg hgg]
  rfl
theorem oaK (hO : okS C A ct ch gr fl ms er ml lk) (hR : repK k σ C A ct ch gr fl ms er ml lk) {g a : Nat} (hg : g < C) (hgg : gr g = g) (ha : a < A) : fK_ownOfAge k σ (nI g) (nI a) = some (nI (gN C gr ct ch g a)) := by
  have hC := hO.1
  unfold fK_ownOfAge
  rw [hR.2.1, cellK hR, show kK_n k 2 = 5 * C * A from by rw [hR.1]; rfl, kld_n (ix_lt (show ch < 5 by omega) hg ha) (ca_300 hO), hR.2.2.2.2.1 ch g a (by omega) hg hgg ha]
  rfl
theorem srcK (hO : okS C A ct ch gr fl ms er ml lk) (hR : repK k σ C A ct ch gr fl ms er ml lk) {g : Nat} (hg : g < C) (hgg : gr g = g) : fK_sourceOf k σ (nI g) = some (oI (srcA C A gr ct fl ch g)) := by
  have hC := hO.1
  have h20 := gT_lt hO (show ch < 5 by omega) hg
  unfold fK_sourceOf srcA
  rw [ownK hO hR hg hgg]
  show (if nI (gT C A gr ct ch g) ≤ 0 then _ else some (nI g)) = _
  by_cases h0 : gT C A gr ct ch g = 0
  · rw [if_pos ((pos_n (by omega)).mpr h0), if_neg (show ¬ 0 < gT C A gr ct ch g by omega), flK hO hR hg]
    cases hfl : fl g with
    | none => rfl
    | some h =>
      have hh := hO.2.2.1 g h hg hfl
      have h21 := gT_lt hO (show ch < 5 by omega) hh.1
      show (if nI h = -1 then some (-1) else (fK_own k σ (nI h)).bind _) = _
      rw [if_neg (m1_ne (by omega)), ownK hO hR hh.1 hh.2]
      show (if nI (gT C A gr ct ch h) ≤ 0 then some (-1) else some (nI h)) = some (oI (if 0 < gT C A gr ct ch h then some h else none))
      by_cases h1 : gT C A gr ct ch h = 0
      · rw [if_pos ((pos_n (by omega)).mpr h1), if_neg (by omega)]; rfl
      · rw [if_neg (by rw [pos_n (by omega)]; exact h1), if_pos (by omega)]; rfl
  · rw [if_neg (by rw [pos_n (by omega)]; exact h0), if_pos (by omega)]; rfl
theorem srcA_ok (hO : okS C A ct ch gr fl ms er ml lk) {g s : Nat} (hg : g < C) (hgg : gr g = g) (h : srcA C A gr ct fl ch g = some s) : s < C ∧ gr s = s ∧ 0 < gT C A gr ct ch s := by
  unfold srcA at h
  split at h
  · rename_i h1
    cases h
    exact ⟨hg, hgg, h1⟩
  · split at h
    · cases h
    · rename_i q hq
      split at h
      · rename_i h1
        cases h
        exact ⟨(hO.2.2.1 g s hg hq).1, (hO.2.2.1 g s hg hq).2, h1⟩
      · cases h
end KH
/-- an index of both, or of neither -/
theorem ix_two (x : Int32) {n : Nat} (hn : n < 2 ^ 31) : (∃ c, c < n ∧ x = nI c ∧ (if x < 0 then (0 : Int32) else if nI n ≤ x then 0 else 1) = 1) ∨ (if x < 0 then (0 : Int32) else if nI n ≤ x then 0 else 1) = 0 := by
  rcases pk_ix x hn with h | h | ⟨j, hj, rfl⟩
  · exact Or.inr (by rw [if_pos h])
  · by_cases h0 : x < 0
    · exact Or.inr (by rw [if_pos h0])
    · exact Or.inr (by rw [if_neg h0, if_pos h])
  · exact Or.inl ⟨j, hj, rfl, by rw [if_neg (nI_pos (by omega)), if_neg (nI_ge hj hn)]⟩
section TW
variable {C A : Nat} {ct : Nat → Nat → Nat → Nat} {ch : Nat} {gr : Nat → Nat} {fl : Nat → Option Nat} {ms : Nat → Nat} {er : Nat → Nat → Nat} {ml lk : Nat → Nat} {k : kK} {σ : sK} {k2 : kM} {σ2 : sM}
theorem clsT (hO : okS C A ct ch gr fl ms er ml lk) (hR : repK k σ C A ct ch gr fl ms er ml lk) (hM : repM k2 σ2 C A ct ch gr fl ms er ml lk) (x : Int32) : (∃ c, c < C ∧ x = nI c ∧ fK_isClass k x = 1 ∧ fM_isClass k2 x = 1) ∨ (fK_isClass k x = 0 ∧ fM_isClass k2 x = 0) := by
  have hC := hO.1
  have e1 : fK_isClass k x = (if x < 0 then (0 : Int32) else if nI C ≤ x then 0 else 1) := by rw [hR.1]; rfl
  have e2 : fM_isClass k2 x = (if x < 0 then (0 : Int32) else if nI C ≤ x then 0 else 1) := by rw [hM.1]; rfl
  rcases ix_two x (show C < 2 ^ 31 by omega) with ⟨c, h1, h2, h3⟩ | h3
  · exact Or.inl ⟨c, h1, h2, e1.trans h3, e2.trans h3⟩
  · exact Or.inr ⟨e1.trans h3, e2.trans h3⟩
theorem ageT (hO : okS C A ct ch gr fl ms er ml lk) (hR : repK k σ C A ct ch gr fl ms er ml lk) (hM : repM k2 σ2 C A ct ch gr fl ms er ml lk) (x : Int32) : (∃ a, a < A ∧ x = nI a ∧ fK_isAge k x = 1 ∧ fM_isAge k2 x = 1) ∨ (fK_isAge k x = 0 ∧ fM_isAge k2 x = 0) := by
  have hC := hO.1
  have e1 : fK_isAge k x = (if x < 0 then (0 : Int32) else if nI A ≤ x then 0 else 1) := by rw [hR.1]; rfl
  have e2 : fM_isAge k2 x = (if x < 0 then (0 : Int32) else if nI A ≤ x then 0 else 1) := by rw [hM.1]; rfl
  rcases ix_two x (show A < 2 ^ 31 by omega) with ⟨c, h1, h2, h3⟩ | h3
  · exact Or.inl ⟨c, h1, h2, e1.trans h3, e2.trans h3⟩
  · exact Or.inr ⟨e1.trans h3, e2.trans h3⟩
theorem partT (x : Int32) : fK_isZeroOrOne x = fM_isPart x := rfl
theorem part01 (x : Int32) : (fM_isPart x = 1 ∧ (x = 0 ∨ x = 1)) ∨ fM_isPart x = 0 := by
  unfold fM_isPart fM_isPart_9
  by_cases h : x = 0
  · exact Or.inl ⟨by rw [if_pos h], Or.inl h⟩
  · by_cases h1 : x = 1
    · exact Or.inl ⟨by rw [if_neg h, if_pos h1], Or.inr h1⟩
    · exact Or.inr (by rw [if_neg h, if_neg h1])
theorem one_ne : ¬ (1 : Int32) = 0 := by decide
end TW
