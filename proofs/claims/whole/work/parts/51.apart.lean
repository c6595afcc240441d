/-! apart: two places compared. -/
def ad (x y : Nat) : Nat := if y ≤ x then x - y else y - x
theorem absI {x y : Nat} (hx : x < 2 ^ 30) (hy : y < 2 ^ 30) : (if 0 ≤ (nI x - nI y) then (nI x - nI y) else 0 - (nI x - nI y)) = nI (ad x y) := by
  unfold ad
  by_cases h : y ≤ x
  · rw [if_pos h, pk_sub h, if_pos (nI_pos' (by omega))]
  · have h1 := pk_sneg (a := x) (b := y) hy (by omega)
    rw [if_neg h, if_neg (by rw [Int32.le_iff_toInt_le, Int32.toInt_zero]; rw [Int32.lt_iff_toInt_lt, Int32.toInt_zero] at h1; omega), Int32.zero_sub, Int32.neg_sub, pk_sub (by omega)]
theorem lsub_toInt {a b : Nat} (ha : a < 2 ^ 30) (hb : b < 2 ^ 30) (h : a < b) : lN a - lN b < 0 := by
  have h1 : lN a - lN b = -(lN (b - a)) := by rw [← lN_sub (by omega), Int64.neg_sub]
  rw [h1, Int64.lt_iff_toInt_lt, Int64.toInt_neg, pk_lT (by omega)]
  have : (0 : Int64).toInt = 0 := by decide
  rw [this, Int.bmod_eq_of_le (by omega) (by omega)]
  omega
theorem absJ {x y : Nat} (hx : x < 2 ^ 30) (hy : y < 2 ^ 30) : (0 ≤ (lN x - lN y) → lN x - lN y = lN (ad x y)) ∧ (¬ 0 ≤ (lN x - lN y) → -(lN x - lN y) = lN (ad x y)) := by
  unfold ad
  by_cases h : y ≤ x
  · rw [if_pos h, lN_sub h]
    exact ⟨fun _ => rfl, fun q => absurd (lN_le0 (by omega)) q⟩
  · have h1 := lsub_toInt hx hy (by omega)
    rw [if_neg h]
    refine ⟨fun q => ?_, fun _ => ?_⟩
    · rw [Int64.le_iff_toInt_le] at q
      rw [Int64.lt_iff_toInt_lt] at h1
      omega
    · rw [Int64.neg_sub, lN_sub (by omega)]
theorem su_bd {g : Nat → Nat} {b : Nat} : ∀ (d i : Nat), (∀ j, i ≤ j → j < i + d → g j ≤ b) → su g i d ≤ d * b
  | 0, _, _ => Nat.zero_le _
  | d + 1, i, h => by
    have h1 := h i (by omega) (by omega)
    have h2 := su_bd (g := g) (b := b) d (i + 1) (fun j q1 q2 => h j (by omega) (by omega))
    show g i + su g (i + 1) d ≤ (d + 1) * b
    rw [Nat.add_mul, Nat.one_mul]
    omega
section AP
variable {C A : Nat} {ct : Nat → Nat → Nat → Nat} {ch : Nat} {gr : Nat → Nat} {fl : Nat → Option Nat} {ms : Nat → Nat} {er : Nat → Nat → Nat} {ml lk : Nat → Nat} {k : kK} {σ : sK} {k2 : kM} {σ2 : sM} {fu : Nat}
def apT (C A : Nat) (ct : Nat → Nat → Nat → Nat) (p q c a : Nat) : Nat := ad (rd ct p c a * tt C A ct q) (rd ct q c a * tt C A ct p)
theorem apb (hO : okS C A ct ch gr fl ms er ml lk) {p q c a : Nat} (hp : p < 5) (hq : q < 5) (hc : c < C) (ha : a < A) : rd ct p c a * tt C A ct q ≤ 10000 := by
  have h1 := Nat.le_trans (rd_tt C A ct p c a hc ha) (Nat.le_trans (tt_le C A ct p hp) hO.2.2.2.1)
  have h2 := Nat.le_trans (tt_le C A ct q hq) hO.2.2.2.1
  exact Nat.mul_le_mul h1 h2
theorem apT_le (hO : okS C A ct ch gr fl ms er ml lk) {p q c a : Nat} (hp : p < 5) (hq : q < 5) (hc : c < C) (ha : a < A) : apT C A ct p q c a ≤ 10000 := by
  have h1 := apb hO hp hq hc ha
  have h2 := apb hO hq hp hc ha
  unfold apT ad
  split <;> omega
theorem apK_in (hO : okS C A ct ch gr fl ms er ml lk) (hR : repK k σ C A ct ch gr fl ms er ml lk) {p q c : Nat} (hp : p < 5) (hq : q < 5) (hc : c < C) (x3 : Int32) (h61 : Int32 → Int32 → Int32 → Int32 → Int32 → Int32 → Int32 → Option Int64) : ∀ (d a acc n : Nat), a + d = A → d < n → fK_apart_73 fu k σ h61 n (nI p) (nI q) x3 (nI (tt C A ct p)) (nI (tt C A ct q)) (nI acc) (nI c) (nI a) = h61 (nI p) (nI q) x3 (nI (tt C A ct p)) (nI (tt C A ct q)) (nI (acc + su (fun a => apT C A ct p q c a) a d)) (nI (c + 1))
  | 0, a, acc, n + 1, ha, hn => by
    have hC := hO.1
    rw [fK_apart_73, if_pos ((leA hR.1 (by omega) (by omega)).mpr (by omega)), nI_1]; rfl
  | d + 1, a, acc, n + 1, ha, hn => by
    have hC := hO.1
    have haA : a < A := by omega
    have b1 := apb hO hp hq hc haA
    have b2 := apb hO hq hp hc haA
    rw [fK_apart_73, if_neg (show ¬ kK_ages k ≤ nI a by rw [leA hR.1 (by omega) (by omega)]; omega), cellK hR, cellK hR, show kK_n k 0 = 5 * C * A from by rw [hR.1]; rfl, kld_n (ix_lt hp hc haA) (ca_300 hO), kld_n (ix_lt hq hc haA) (ca_300 hO), hR.2.2.1 p c a hp hc haA, hR.2.2.1 q c a hq hc haA]
    simp only [Option.bind_some]
    rw [pk_mul, pk_mul, absI (by omega) (by omega), nI_add, nI_1, apK_in hO hR hp hq hc x3 h61 d (a + 1) _ n (by omega) (by omega), Nat.add_assoc]
    rfl
theorem apM_in (hO : okS C A ct ch gr fl ms er ml lk) (hM : repM k2 σ2 C A ct ch gr fl ms er ml lk) (hfu : 200 ≤ fu) {p q c : Nat} (hp : p < 4) (hq : q < 4) (hc : c < C) (x3 : Int32) (h67 : Int32 → Int32 → Int32 → Int64 → Int64 → Int64 → Int32 → Option Int64) : ∀ (d a acc n : Nat), a + d = A → d < n → fM_apart_79 fu k2 σ2 h67 n (nI p) (nI q) x3 (lN (tt C A ct p)) (lN (tt C A ct q)) (lN acc) (nI c) (nI a) = h67 (nI p) (nI q) x3 (lN (tt C A ct p)) (lN (tt C A ct q)) (lN (acc + su (fun a => apT C A ct p q c a) a d)) (nI (c + 1))
  | 0, a, acc, n + 1, ha, hn => by
    have hC := hO.1
    rw [fM_apart_79, if_pos (show kM_ages k2 ≤ nI a by rw [show kM_ages k2 = nI A from by rw [hM.1]; rfl, nI_leI (by omega) (by omega)]; omega), nI_1]; rfl
  | d + 1, a, acc, n + 1, ha, hn => by
    have hC := hO.1
    have haA : a < A := by omega
    have b1 := apb hO (show p < 5 by omega) (show q < 5 by omega) hc haA
    have b2 := apb hO (show q < 5 by omega) (show p < 5 by omega) hc haA
    have l1 := Nat.le_trans (rd_tt C A ct p c a hc haA) (Nat.le_trans (tt_le C A ct p (by omega)) hO.2.2.2.1)
    have l2 := Nat.le_trans (rd_tt C A ct q c a hc haA) (Nat.le_trans (tt_le C A ct q (by omega)) hO.2.2.2.1)
    have pp : nI p = plI p := by unfold plI; rw [if_neg (by omega)]
    have pq : nI q = plI q := by unfold plI; rw [if_neg (by omega)]
    have ih := fun acc => apM_in hO hM hfu hp hq hc x3 h67 d (a + 1) acc n (by omega) (by omega)
    rw [fM_apart_79, if_neg (show ¬ kM_ages k2 ≤ nI a by rw [show kM_ages k2 = nI A from by rw [hM.1]; rfl, nI_leI (by omega) (by omega)]; omega), show fM_count fu k2 σ2 (nI p) (nI c) (nI a) = some (nI (rd ct p c a)) from by rw [pp]; exact cM hO hM hfu (by omega) hc haA, show fM_count fu k2 σ2 (nI q) (nI c) (nI a) = some (nI (rd ct q c a)) from by rw [pq]; exact cM hO hM hfu (by omega) hc haA]
    simp only [Option.bind_some]
    rw [i64 (by omega), i64 (by omega), lN_mul, lN_mul]
    obtain ⟨j1, j2⟩ := absJ (x := rd ct p c a * tt C A ct q) (y := rd ct q c a * tt C A ct p) (by omega) (by omega)
    unfold fM_apart_134
    by_cases h : (0 : Int64) ≤ lN (rd ct p c a * tt C A ct q) - lN (rd ct q c a * tt C A ct p)
    · rw [if_pos h, j1 h, lN_add, nI_1, ih, Nat.add_assoc]; rfl
    · rw [if_neg h, j2 h, lN_add, nI_1, ih, Nat.add_assoc]; rfl
theorem apT_out (hO : okS C A ct ch gr fl ms er ml lk) (hR : repK k σ C A ct ch gr fl ms er ml lk) (hM : repM k2 σ2 C A ct ch gr fl ms er ml lk) (hfu : 200 ≤ fu) {p q : Nat} (hp : p < 4) (hq : q < 4) (h1 : 0 < tt C A ct p) (h2 : 0 < tt C A ct q) (x3 : Int32) : ∀ (d c acc n : Nat), c + d = C → d < n → acc ≤ c * 60000 → ∃ r, fK_apart_61 fu k σ n (nI p) (nI q) x3 (nI (tt C A ct p)) (nI (tt C A ct q)) (nI acc) (nI c) = some r ∧ fM_apart_67 fu k2 σ2 n (nI p) (nI q) x3 (lN (tt C A ct p)) (lN (tt C A ct q)) (lN acc) (nI c) = some r
  | 0, c, acc, n + 1, hc, hn, hacc => by
    have hC := hO.1
    have t1 := Nat.le_trans (tt_le C A ct p (by omega)) hO.2.2.2.1
    have t2 := Nat.le_trans (tt_le C A ct q (by omega)) hO.2.2.2.1
    have t3 : tt C A ct p * tt C A ct q ≤ 10000 := Nat.mul_le_mul t1 t2
    have t4 : 0 < tt C A ct p * tt C A ct q := Nat.mul_pos h1 h2
    rw [fK_apart_61, fM_apart_67, if_pos ((leC (b := 0) hR.1 (by omega) (by omega)).mpr (by omega)), if_pos (show kM_classes k2 ≤ nI c by rw [show kM_classes k2 = nI C from by rw [hM.1]; rfl, nI_leI (by omega) (by omega)]; omega), pk_mul, lN_mul, i64 (by omega), i64 (by omega), fracK hfu (by omega) t4 (by omega), fracM hfu (by omega) t4 (by omega)]
    exact ⟨_, rfl, rfl⟩
  | d + 1, c, acc, n + 1, hc, hn, hacc => by
    have hC := hO.1
    have hcC : c < C := by omega
    rw [fK_apart_61, fM_apart_67, if_neg (show ¬ kK_classes k ≤ nI c by rw [leC (b := 0) hR.1 (by omega) (by omega)]; omega), if_neg (show ¬ kM_classes k2 ≤ nI c by rw [show kM_classes k2 = nI C from by rw [hM.1]; rfl, nI_leI (by omega) (by omega)]; omega), show (0 : Int32) = nI 0 from rfl, apK_in hO hR (by omega) (by omega) hcC x3 _ A 0 acc fu (by omega) (by omega), apM_in hO hM hfu hp hq hcC x3 _ A 0 acc fu (by omega) (by omega)]
    have hb := su_bd (g := fun a => apT C A ct p q c a) (b := 10000) A 0 (fun j _ hj => apT_le hO (by omega) (by omega) hcC (by omega))
    exact apT_out hO hR hM hfu hp hq h1 h2 x3 d (c + 1) _ n (by omega) (by omega) (by omega)
theorem op_apart (hO : okS C A ct ch gr fl ms er ml lk) (hR : repK k σ C A ct ch gr fl ms er ml lk) (hM : repM k2 σ2 C A ct ch gr fl ms er ml lk) (hfu : 200 ≤ fu) (x1 x2 x3 : Int32) : ∃ r, fK_apart fu k σ x1 x2 x3 = some r ∧ fM_apart fu k2 σ2 x1 x2 x3 = some r := by
  have hC := hO.1
  have pl : ∀ x : Int32, (∃ p, p < 4 ∧ x = nI p ∧ fK_isPlace x = 1 ∧ ¬ x < 0 ∧ ¬ 4 ≤ x) ∨ (fK_isPlace x = 0 ∧ (x < 0 ∨ (¬ x < 0 ∧ 4 ≤ x))) := by
    intro x
    unfold fK_isPlace
    by_cases h : x < 0
    · exact Or.inr ⟨by rw [if_pos h], Or.inl h⟩
    · by_cases h4 : 4 ≤ x
      · exact Or.inr ⟨by rw [if_neg h, if_pos h4], Or.inr ⟨h, h4⟩⟩
      · obtain ⟨p, hp, rfl⟩ := nI_of h
        refine Or.inl ⟨p, ?_, rfl, by rw [if_neg h, if_neg h4], h, h4⟩
        rw [show (4 : Int32) = nI 4 from rfl, nI_leI (by omega) hp] at h4
        omega
  unfold fK_apart fM_apart
  rcases pl x1 with ⟨p, hp, rfl, e1, e2, e3⟩ | ⟨e1, e2 | ⟨e2, e3⟩⟩
  rotate_left
  · rw [e1, if_pos (show (0 : Int32) = 0 from rfl), if_pos e2]; exact ⟨_, rfl, rfl⟩
  · rw [e1, if_pos (show (0 : Int32) = 0 from rfl), if_neg e2, if_pos e3]; exact ⟨_, rfl, rfl⟩
  rw [e1, if_neg one_ne, if_neg e2, if_neg e3]
  rcases pl x2 with ⟨q, hq, rfl, f1, f2, f3⟩ | ⟨f1, f2 | ⟨f2, f3⟩⟩
  rotate_left
  · rw [f1, if_pos (show (0 : Int32) = 0 from rfl), if_pos f2]; exact ⟨_, rfl, rfl⟩
  · rw [f1, if_pos (show (0 : Int32) = 0 from rfl), if_neg f2, if_pos f3]; exact ⟨_, rfl, rfl⟩
  rw [f1, if_neg one_ne, if_neg f2, if_neg f3, partT]
  rcases part01 x3 with ⟨g1, -⟩ | g1
  rotate_left
  · rw [g1]; exact ⟨_, rfl, rfl⟩
  have t1 := Nat.le_trans (tt_le C A ct p (by omega)) hO.2.2.2.1
  have t2 := Nat.le_trans (tt_le C A ct q (by omega)) hO.2.2.2.1
  rw [g1, if_neg one_ne, if_neg one_ne, show kK_n k 1 = 5 from by rw [hR.1]; rfl, kld_n (show p < 5 by omega) (by omega), kld_n (show q < 5 by omega) (by omega), hR.2.2.2.1 p (by omega), hR.2.2.2.1 q (by omega), show fM_inAll fu k2 σ2 (nI p) = some (nI (tt C A ct p)) from by rw [show nI p = plI p from by unfold plI; rw [if_neg (by omega)]]; exact iaM hO hM hfu (by omega), show fM_inAll fu k2 σ2 (nI q) = some (nI (tt C A ct q)) from by rw [show nI q = plI q from by unfold plI; rw [if_neg (by omega)]]; exact iaM hO hM hfu (by omega)]
  simp only [Option.bind_some]
  by_cases z1 : tt C A ct p = 0
  · rw [if_pos (show nI (tt C A ct p) = 0 by rw [z1]; rfl), if_pos (show nI (tt C A ct p) = 0 by rw [z1]; rfl)]; exact ⟨_, rfl, rfl⟩
  have y1 : ¬ nI (tt C A ct p) = 0 := nI_ne0 (by omega) (by omega)
  rw [if_neg y1, if_neg y1]
  by_cases z2 : tt C A ct q = 0
  · rw [if_pos (show nI (tt C A ct q) = 0 by rw [z2]; rfl), if_pos (show nI (tt C A ct q) = 0 by rw [z2]; rfl)]; exact ⟨_, rfl, rfl⟩
  have y2 : ¬ nI (tt C A ct q) = 0 := nI_ne0 (by omega) (by omega)
  rw [if_neg y2, if_neg y2, i64 (by omega), i64 (by omega)]
  exact apT_out hO hR hM hfu hp hq (by omega) (by omega) x3 C 0 0 fu (by omega) (by omega) (by omega)
end AP
