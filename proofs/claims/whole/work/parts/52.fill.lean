/-! fill: the nearest group that has readings. -/
def mn (f : Nat → Nat) : Nat → Nat → Nat → Nat
  | acc, _, 0 => acc
  | acc, i, d + 1 => mn f (if f i < acc then f i else acc) (i + 1) d
theorem mn_acc (f : Nat → Nat) : ∀ (d i acc : Nat), mn f acc i d ≤ acc
  | 0, _, _ => Nat.le_refl _
  | d + 1, i, acc => by
    have h := mn_acc f d (i + 1) (if f i < acc then f i else acc)
    show mn f (if f i < acc then f i else acc) (i + 1) d ≤ acc
    split at h <;> rename_i q
    · rw [if_pos q]; omega
    · rw [if_neg q]; exact h
theorem mn_le (f : Nat → Nat) : ∀ (d i acc j : Nat), i ≤ j → j < i + d → mn f acc i d ≤ f j
  | 0, i, _, j, h1, h2 => absurd h2 (by omega)
  | d + 1, i, acc, j, h1, h2 => by
    show mn f (if f i < acc then f i else acc) (i + 1) d ≤ f j
    by_cases h : j = i
    · subst h
      have h3 := mn_acc f d (j + 1) (if f j < acc then f j else acc)
      by_cases q : f j < acc
      · rw [if_pos q] at h3 ⊢; exact h3
      · rw [if_neg q] at h3 ⊢; omega
    · exact mn_le f d (i + 1) _ j (by omega) (by omega)
theorem mn_at (f : Nat → Nat) : ∀ (d i acc : Nat), mn f acc i d = acc ∨ ∃ j, i ≤ j ∧ j < i + d ∧ mn f acc i d = f j
  | 0, _, _ => Or.inl rfl
  | d + 1, i, acc => by
    rcases mn_at f d (i + 1) (if f i < acc then f i else acc) with h | ⟨j, h1, h2, h3⟩
    · by_cases q : f i < acc
      · refine Or.inr ⟨i, by omega, by omega, ?_⟩
        show mn f (if f i < acc then f i else acc) (i + 1) d = _
        rw [h, if_pos q]
      · refine Or.inl ?_
        show mn f (if f i < acc then f i else acc) (i + 1) d = _
        rw [h, if_neg q]
    · exact Or.inr ⟨j, by omega, by omega, h3⟩
/-- from a group to a class -/
def D1 (C : Nat) (gr : Nat → Nat) (g c : Nat) : Nat := mn (fun o => if gr o = g then ad o c else C) C 0 C
section FI
variable {C A : Nat} {ct : Nat → Nat → Nat → Nat} {ch : Nat} {gr : Nat → Nat} {fl : Nat → Option Nat} {ms : Nat → Nat} {er : Nat → Nat → Nat} {ml lk : Nat → Nat} {k : kK} {σ : sK} {k2 : kM} {σ2 : sM} {fu : Nat}
theorem D1_le {g c o : Nat} (ho : o < C) (h : gr o = g) : D1 C gr g c ≤ ad o c := by
  have h1 := mn_le (fun o => if gr o = g then ad o c else C) C 0 C o (by omega) (by omega)
  rw [if_pos h] at h1
  exact h1
theorem ad_lt {o c : Nat} (ho : o < C) (hc : c < C) : ad o c < C := by
  unfold ad
  split <;> omega
theorem D1_at {g c : Nat} (hg : g < C) (hgg : gr g = g) (hc : c < C) : ∃ o, o < C ∧ gr o = g ∧ D1 C gr g c = ad o c := by
  have h2 := D1_le (c := c) hg hgg
  have h3 := ad_lt hg hc
  rcases mn_at (fun o => if gr o = g then ad o c else C) C 0 C with h | ⟨j, h4, h5, h6⟩
  · unfold D1 at h2
    omega
  · by_cases q : gr j = g
    · rw [if_pos q] at h6
      exact ⟨j, by omega, q, h6⟩
    · rw [if_neg q] at h6
      unfold D1 at h2
      omega
theorem dK_loop (hO : okS C A ct ch gr fl ms er ml lk) (hR : repK k σ C A ct ch gr fl ms er ml lk) {g c : Nat} (hg : g < C) (hc : c < C) : ∀ (d o acc n : Nat), o + d = C → d < n → acc ≤ C → fK_distanceTo_8 fu k σ n (nI g) (nI c) (nI acc) (nI o) = some (nI (mn (fun o => if gr o = g then ad o c else C) acc o d))
  | 0, o, acc, n + 1, ho, hn, ha => by
    have hC := hO.1
    rw [fK_distanceTo_8, if_pos ((leC (b := 0) hR.1 (by omega) (by omega)).mpr (by omega))]; rfl
  | d + 1, o, acc, n + 1, ho, hn, ha => by
    have hC := hO.1
    have hoC : o < C := by omega
    have hgo := hO.2.1 o hoC
    rw [fK_distanceTo_8, if_neg (show ¬ kK_classes k ≤ nI o by rw [leC (b := 0) hR.1 (by omega) (by omega)]; omega), grK hO hR hoC]
    simp only [Option.bind_some]
    have had := ad_lt hoC hc
    show _ = some (nI (mn (fun o => if gr o = g then ad o c else C) (if (if gr o = g then ad o c else C) < acc then (if gr o = g then ad o c else C) else acc) (o + 1) d))
    rw [nI_1]
    by_cases h : gr o = g
    · rw [if_pos (show nI (gr o) = nI g by rw [h]), if_pos h, absI (by omega) (by omega)]
      by_cases q : ad o c < acc
      · rw [if_pos (show nI (ad o c) < nI acc by rw [nI_ltI (by omega) (by omega)]; exact q), if_pos q]
        exact dK_loop hO hR hg hc d (o + 1) _ n (by omega) (by omega) (by omega)
      · rw [if_neg (show ¬ nI (ad o c) < nI acc by rw [nI_ltI (by omega) (by omega)]; exact q), if_neg q]
        exact dK_loop hO hR hg hc d (o + 1) _ n (by omega) (by omega) ha
    · rw [if_neg (show ¬ nI (gr o) = nI g by rw [nI_eq (by omega) (by omega)]; exact h), if_neg h, if_neg (by omega)]
      exact dK_loop hO hR hg hc d (o + 1) _ n (by omega) (by omega) ha
theorem dK (hO : okS C A ct ch gr fl ms er ml lk) (hR : repK k σ C A ct ch gr fl ms er ml lk) (hfu : 200 ≤ fu) {g c : Nat} (hg : g < C) (hc : c < C) : fK_distanceTo fu k σ (nI g) (nI c) = some (nI (D1 C gr g c)) := by
  have hC := hO.1
  unfold fK_distanceTo
  rw [show kK_classes k = nI C from by rw [hR.1]; rfl]
  exact dK_loop hO hR hg hc C 0 C fu (by omega) (by omega) (Nat.le_refl C)
/-- what stands in the loop over the classes: the nearest up to class c -/
def nrI (C A : Nat) (gr : Nat → Nat) (ct : Nat → Nat → Nat → Nat) (ch g c : Nat) (o : Option Nat) (l : Nat) : Prop := (o = none ∧ l = C ∧ ∀ j, j < c → gT C A gr ct ch (gr j) = 0) ∨ ∃ h c0, o = some h ∧ c0 < c ∧ gr c0 = h ∧ 0 < gT C A gr ct ch h ∧ l = D1 C gr g c0 ∧ ∀ j, j < c → 0 < gT C A gr ct ch (gr j) → D1 C gr g c0 < D1 C gr g j ∨ (D1 C gr g c0 = D1 C gr g j ∧ h ≤ gr j)
theorem nK_loop (hO : okS C A ct ch gr fl ms er ml lk) (hR : repK k σ C A ct ch gr fl ms er ml lk) (hfu : 200 ≤ fu) {g : Nat} (hg : g < C) (hgg : gr g = g) : ∀ (d c n : Nat) (o : Option Nat) (l : Nat), c + d = C → d < n → nrI C A gr ct ch g c o l → ∃ o' l', fK_nearestWithReadings_10 fu k σ n (nI g) (oI o) (nI l) (nI c) = some (oI o') ∧ nrI C A gr ct ch g C o' l'
  | 0, c, n + 1, o, l, hc, hn, hI => by
    have hC := hO.1
    have : c = C := by omega
    subst this
    rw [fK_nearestWithReadings_10, if_pos ((leC (b := 0) hR.1 (by omega) (by omega)).mpr (by omega))]
    exact ⟨o, l, rfl, hI⟩
  | d + 1, c, n + 1, o, l, hc, hn, hI => by
    have hC := hO.1
    have hcC : c < C := by omega
    have hgc := hO.2.1 c hcC
    have h20 := gT_lt hO (show ch < 5 by omega) hgc.1
    obtain ⟨o1, ho1, -, ho3⟩ := D1_at (gr := gr) hg hgg hcC
    have hDc : D1 C gr g c < C := by rw [ho3]; exact ad_lt ho1 hcC
    have hl : l ≤ C := by
      rcases hI with ⟨-, h, -⟩ | ⟨h, c0, -, q1, -, -, q2, -⟩
      · omega
      · obtain ⟨o2, ho2, -, ho4⟩ := D1_at (gr := gr) (c := c0) hg hgg (by omega)
        have := ad_lt (o := o2) (c := c0) ho2 (show c0 < C by omega)
        omega
    rw [fK_nearestWithReadings_10, if_neg (show ¬ kK_classes k ≤ nI c by rw [leC (b := 0) hR.1 (by omega) (by omega)]; omega), grK hO hR hcC]
    simp only [Option.bind_some]
    rw [ownK hO hR hgc.1 hgc.2, dK hO hR hfu hg hcC]
    simp only [Option.bind_some]
    unfold fK_nearestWithReadings_67
    rw [nI_1]
    have skip : ∀ (hs : (gT C A gr ct ch (gr c) = 0) ∨ (∃ h c0, o = some h ∧ c0 < c ∧ gr c0 = h ∧ 0 < gT C A gr ct ch h ∧ l = D1 C gr g c0 ∧ (D1 C gr g c0 < D1 C gr g c ∨ (D1 C gr g c0 = D1 C gr g c ∧ h ≤ gr c)))), nrI C A gr ct ch g (c + 1) o l := by
      intro hs
      rcases hI with ⟨q1, q2, q3⟩ | ⟨h, c0, q1, q2, q3, q4, q5, q6⟩
      · rcases hs with hs | ⟨h, c0, p1, -⟩
        · exact Or.inl ⟨q1, q2, fun j hj => by
            rcases Nat.lt_or_ge j c with z | z
            · exact q3 j z
            · have : j = c := by omega
              rw [this]; exact hs⟩
        · rw [q1] at p1; cases p1
      · refine Or.inr ⟨h, c0, q1, by omega, q3, q4, q5, fun j hj hpos => ?_⟩
        rcases Nat.lt_or_ge j c with z | z
        · exact q6 j z hpos
        · have hjc : j = c := by omega
          rw [hjc] at hpos ⊢
          rcases hs with hs | ⟨h', c0', p1, p2, p3, p4, p5, p6⟩
          · omega
          · rw [q1] at p1
            cases p1
            rw [← p5, q5] at p6
            exact p6
    by_cases z0 : gT C A gr ct ch (gr c) = 0
    · rw [if_pos (show nI (gT C A gr ct ch (gr c)) = 0 by rw [z0]; rfl)]
      exact nK_loop hO hR hfu hg hgg d (c + 1) n o l (by omega) (by omega) (skip (Or.inl z0))
    · rw [if_neg (nI_ne0 (by omega) (by omega))]
      have take : (∀ h c0, o = some h → c0 < c → l = D1 C gr g c0 → gr c0 = h → D1 C gr g c < D1 C gr g c0 ∨ (D1 C gr g c = D1 C gr g c0 ∧ gr c < h)) → nrI C A gr ct ch g (c + 1) (some (gr c)) (D1 C gr g c) := by
        intro hs
        refine Or.inr ⟨gr c, c, rfl, by omega, rfl, by omega, rfl, fun j hj hpos => ?_⟩
        rcases Nat.lt_or_ge j c with z | z
        · rcases hI with ⟨q1, q2, q3⟩ | ⟨h, c0, q1, q2, q3, q4, q5, q6⟩
          · have := q3 j z; omega
          · have h1 := hs h c0 q1 q2 q5 q3
            have h2 := q6 j z hpos
            omega
        · have hjc : j = c := by omega
          rw [hjc]
          exact Or.inr ⟨rfl, Nat.le_refl _⟩
      by_cases z1 : D1 C gr g c < l
      · rw [if_pos (show nI (D1 C gr g c) < nI l by rw [nI_ltI (by omega) (by omega)]; exact z1)]
        exact nK_loop hO hR hfu hg hgg d (c + 1) n (some (gr c)) (D1 C gr g c) (by omega) (by omega) (take (fun h c0 _ _ q _ => Or.inl (by omega)))
      · rw [if_neg (show ¬ nI (D1 C gr g c) < nI l by rw [nI_ltI (by omega) (by omega)]; exact z1)]
        rcases id hI with ⟨q1, q2, q3⟩ | ⟨h, c0, q1, q2, q3, q4, q5, q6⟩
        · omega
        · have hhC : h < C := by rw [← q3]; exact (hO.2.1 c0 (by omega)).1
          by_cases z2 : D1 C gr g c = l
          · rw [if_pos (show nI (D1 C gr g c) = nI l by rw [z2])]
            by_cases z3 : h ≤ gr c
            · rw [if_pos (show oI o ≤ nI (gr c) by rw [q1]; show nI h ≤ _; rw [nI_leI (by omega) (by omega)]; exact z3)]
              exact nK_loop hO hR hfu hg hgg d (c + 1) n o l (by omega) (by omega) (skip (Or.inr ⟨h, c0, q1, q2, q3, q4, q5, Or.inr ⟨by omega, z3⟩⟩))
            · rw [if_neg (show ¬ oI o ≤ nI (gr c) by rw [q1]; show ¬ nI h ≤ _; rw [nI_leI (by omega) (by omega)]; exact z3)]
              exact nK_loop hO hR hfu hg hgg d (c + 1) n (some (gr c)) (D1 C gr g c) (by omega) (by omega) (take (fun h' c0' p1 _ p3 _ => by
                rw [q1] at p1
                cases p1
                exact Or.inr ⟨by omega, by omega⟩))
          · rw [if_neg (show ¬ nI (D1 C gr g c) = nI l by rw [nI_eq (by omega) (by omega)]; exact z2)]
            exact nK_loop hO hR hfu hg hgg d (c + 1) n o l (by omega) (by omega) (skip (Or.inr ⟨h, c0, q1, q2, q3, q4, q5, Or.inl (by omega)⟩))
end FI
