/-! fill: the reference's side, and both. -/
section F2
variable {C A : Nat} {ct : Nat → Nat → Nat → Nat} {ch : Nat} {gr : Nat → Nat} {fl : Nat → Option Nat} {ms : Nat → Nat} {er : Nat → Nat → Nat} {ml lk : Nat → Nat} {k : kK} {σ : sK} {k2 : kM} {σ2 : sM} {fu : Nat}
def dF (gr : Nat → Nat) (g h c d : Nat) : Nat := if gr c = g ∧ gr d = h then ad c d else 100
def D2 (C : Nat) (gr : Nat → Nat) (g h : Nat) : Nat → Nat → Nat → Nat
  | acc, _, 0 => acc
  | acc, c, e + 1 => D2 C gr g h (mn (dF gr g h c) acc 0 C) (c + 1) e
theorem D2_acc (g h : Nat) : ∀ (e c acc : Nat), D2 C gr g h acc c e ≤ acc
  | 0, _, _ => Nat.le_refl _
  | e + 1, c, acc => Nat.le_trans (D2_acc g h e (c + 1) _) (mn_acc _ _ _ _)
theorem D2_le (g h : Nat) {j : Nat} (hj : j < C) : ∀ (e c acc i : Nat), c ≤ i → i < c + e → D2 C gr g h acc c e ≤ dF gr g h i j
  | 0, c, _, i, h1, h2 => absurd h2 (by omega)
  | e + 1, c, acc, i, h1, h2 => by
    show D2 C gr g h (mn (dF gr g h c) acc 0 C) (c + 1) e ≤ _
    by_cases hi : i = c
    · subst hi
      exact Nat.le_trans (D2_acc g h e (i + 1) _) (mn_le _ C 0 acc j (by omega) (by omega))
    · exact D2_le g h hj e (c + 1) _ i (by omega) (by omega)
theorem D2_at (g h : Nat) : ∀ (e c acc : Nat), D2 C gr g h acc c e = acc ∨ ∃ i j, c ≤ i ∧ i < c + e ∧ j < C ∧ D2 C gr g h acc c e = dF gr g h i j
  | 0, _, _ => Or.inl rfl
  | e + 1, c, acc => by
    rcases D2_at g h e (c + 1) (mn (dF gr g h c) acc 0 C) with q | ⟨i, j, q1, q2, q3, q4⟩
    · rcases mn_at (dF gr g h c) C 0 acc with z | ⟨j, z1, z2, z3⟩
      · exact Or.inl (q.trans z)
      · exact Or.inr ⟨c, j, by omega, by omega, by omega, q.trans z3⟩
    · exact Or.inr ⟨i, j, by omega, by omega, q3, q4⟩
/-- the distance of two groups -/
def DD (C : Nat) (gr : Nat → Nat) (g h : Nat) : Nat := D2 C gr g h 100 0 C
theorem DD_le {g h c : Nat} (hC : C ≤ 10) (hg : g < C) (hgg : gr g = g) (hc : c < C) (hh : gr c = h) : DD C gr g h ≤ D1 C gr g c := by
  obtain ⟨o, h1, h2, h3⟩ := D1_at (gr := gr) hg hgg hc
  have h4 := D2_le (C := C) (gr := gr) g h (j := c) hc C 0 100 o (by omega) (by omega)
  unfold dF at h4
  rw [if_pos ⟨h2, hh⟩] at h4
  rw [h3]
  exact h4
theorem DD_at {g h : Nat} (hC : C ≤ 10) (hg : g < C) (hgg : gr g = g) (hh : h < C) (hhh : gr h = h) : ∃ c, c < C ∧ gr c = h ∧ DD C gr g h = D1 C gr g c := by
  have h0 := DD_le hC hg hgg hh hhh
  obtain ⟨o, h1, h2, h3⟩ := D1_at (gr := gr) hg hgg hh
  have h5 := ad_lt h1 hh
  rcases D2_at (C := C) (gr := gr) g h C 0 100 with q | ⟨i, j, q1, q2, q3, q4⟩
  · unfold DD at h0
    omega
  · unfold dF at q4
    by_cases z : gr i = g ∧ gr j = h
    · rw [if_pos z] at q4
      refine ⟨j, q3, z.2, Nat.le_antisymm (DD_le hC hg hgg q3 z.2) ?_⟩
      unfold DD
      rw [q4]
      exact D1_le (by omega) z.1
    · rw [if_neg z] at q4
      unfold DD at h0
      omega
theorem dM_in (hO : okS C A ct ch gr fl ms er ml lk) (hM : repM k2 σ2 C A ct ch gr fl ms er ml lk) {g h c : Nat} (hg : g < C) (hh : h < C) (hc : c < C) (h6 : Int32 → Int32 → Int32 → Int32 → Option Int32) : ∀ (e d acc n : Nat), d + e = C → e < n → acc ≤ 100 → fM_distance_18 fu k2 σ2 h6 n (nI g) (nI h) (nI acc) (nI c) (nI d) = h6 (nI g) (nI h) (nI (mn (dF gr g h c) acc d e)) (nI (c + 1))
  | 0, d, acc, n + 1, hd, hn, ha => by
    have hC := hO.1
    rw [fM_distance_18, if_pos (show kM_classes k2 ≤ nI d by rw [show kM_classes k2 = nI C from by rw [hM.1]; rfl, nI_leI (by omega) (by omega)]; omega), nI_1]; rfl
  | e + 1, d, acc, n + 1, hd, hn, ha => by
    have hC := hO.1
    have hdC : d < C := by omega
    have g1 := hO.2.1 c hc
    have g2 := hO.2.1 d hdC
    have ih := fun acc q => dM_in hO hM hg hh hc h6 e (d + 1) acc n (by omega) (by omega) q
    rw [fM_distance_18, if_neg (show ¬ kM_classes k2 ≤ nI d by rw [show kM_classes k2 = nI C from by rw [hM.1]; rfl, nI_leI (by omega) (by omega)]; omega)]
    have had := ad_lt hc hdC
    have h47 : fM_distance_47 fu k2 σ2 h6 (fM_distance_18 fu k2 σ2 h6 n) (nI (ad c d)) (nI g) (nI h) (nI acc) (nI c) (nI d) = h6 (nI g) (nI h) (nI (mn (dF gr g h c) acc d (e + 1))) (nI (c + 1)) := by
      unfold fM_distance_47 fM_distance_82 fM_distance_83
      rw [grM hO hM hc, grM hO hM hdC]
      simp only [Option.bind_some]
      rw [nI_1]
      show _ = h6 (nI g) (nI h) (nI (mn (dF gr g h c) (if dF gr g h c d < acc then dF gr g h c d else acc) (d + 1) e)) (nI (c + 1))
      have e1 : gr c = g ∧ gr d = h → dF gr g h c d = ad c d := fun q => by unfold dF; rw [if_pos q]
      have e2 : ¬ (gr c = g ∧ gr d = h) → dF gr g h c d = 100 := fun q => by unfold dF; rw [if_neg q]
      by_cases z1 : gr c = g
      · rw [if_pos (show nI (gr c) = nI g by rw [z1])]
        by_cases z2 : gr d = h
        · rw [if_pos (show nI (gr d) = nI h by rw [z2]), e1 ⟨z1, z2⟩]
          by_cases z3 : acc ≤ ad c d
          · rw [if_pos (show nI acc ≤ nI (ad c d) by rw [nI_leI (by omega) (by omega)]; exact z3), if_neg (show ¬ ad c d < acc by omega)]
            exact ih acc ha
          · rw [if_neg (show ¬ nI acc ≤ nI (ad c d) by rw [nI_leI (by omega) (by omega)]; exact z3), if_pos (show ad c d < acc by omega)]
            exact ih _ (by omega)
        · rw [if_neg (show ¬ nI (gr d) = nI h by rw [nI_eq (by omega) (by omega)]; exact z2), e2 (fun q => z2 q.2), if_neg (show ¬ 100 < acc by omega)]
          exact ih acc ha
      · rw [if_neg (show ¬ nI (gr c) = nI g by rw [nI_eq (by omega) (by omega)]; exact z1), e2 (fun q => z1 q.1), if_neg (show ¬ 100 < acc by omega)]
        exact ih acc ha
    have hadd : ad c d = if d ≤ c then c - d else d - c := rfl
    by_cases z : d ≤ c
    · rw [if_pos (show nI d ≤ nI c by rw [nI_leI (by omega) (by omega)]; exact z), pk_sub z]
      rw [hadd, if_pos z] at h47
      exact h47
    · rw [if_neg (show ¬ nI d ≤ nI c by rw [nI_leI (by omega) (by omega)]; exact z), pk_sub (by omega)]
      rw [hadd, if_neg z] at h47
      exact h47
theorem dM_out (hO : okS C A ct ch gr fl ms er ml lk) (hM : repM k2 σ2 C A ct ch gr fl ms er ml lk) (hfu : 200 ≤ fu) {g h : Nat} (hg : g < C) (hh : h < C) : ∀ (e c acc n : Nat), c + e = C → e < n → acc ≤ 100 → fM_distance_6 fu k2 σ2 n (nI g) (nI h) (nI acc) (nI c) = some (nI (D2 C gr g h acc c e))
  | 0, c, acc, n + 1, hc, hn, ha => by
    have hC := hO.1
    rw [fM_distance_6, if_pos (show kM_classes k2 ≤ nI c by rw [show kM_classes k2 = nI C from by rw [hM.1]; rfl, nI_leI (by omega) (by omega)]; omega)]; rfl
  | e + 1, c, acc, n + 1, hc, hn, ha => by
    have hC := hO.1
    rw [fM_distance_6, if_neg (show ¬ kM_classes k2 ≤ nI c by rw [show kM_classes k2 = nI C from by rw [hM.1]; rfl, nI_leI (by omega) (by omega)]; omega), show (0 : Int32) = nI 0 from rfl, dM_in hO hM hg hh (show c < C by omega) _ C 0 acc fu (by omega) (by omega) ha]
    exact dM_out hO hM hfu hg hh e (c + 1) _ n (by omega) (by omega) (Nat.le_trans (mn_acc _ _ _ _) ha)
theorem dM (hO : okS C A ct ch gr fl ms er ml lk) (hM : repM k2 σ2 C A ct ch gr fl ms er ml lk) (hfu : 200 ≤ fu) {g h : Nat} (hg : g < C) (hh : h < C) : fM_distance fu k2 σ2 (nI g) (nI h) = some (nI (DD C gr g h)) := by
  have hC := hO.1
  unfold fM_distance
  exact dM_out hO hM hfu hg hh C 0 100 fu (by omega) (by omega) (by omega)
/-- what stands in the reference's loop over the groups -/
def bsI (C A : Nat) (gr : Nat → Nat) (ct : Nat → Nat → Nat → Nat) (ch g c : Nat) (o : Option Nat) : Prop := (o = none ∧ ∀ j, j < c → gr j = j → gT C A gr ct ch j = 0) ∨ ∃ h, o = some h ∧ h < c ∧ gr h = h ∧ 0 < gT C A gr ct ch h ∧ ∀ j, j < c → gr j = j → 0 < gT C A gr ct ch j → DD C gr g h < DD C gr g j ∨ (DD C gr g h = DD C gr g j ∧ h ≤ j)
theorem bM_loop (hO : okS C A ct ch gr fl ms er ml lk) (hM : repM k2 σ2 C A ct ch gr fl ms er ml lk) (hfu : 200 ≤ fu) {x : Nat} (hx : x < C) : ∀ (d c n : Nat) (o : Option Nat), c + d = C → d < n → bsI C A gr ct ch (gr x) c o → ∃ o', fM_fill_27 fu k2 n σ2 (nI x) (oI o) (nI c) = (if o' = none then some (-1, σ2) else some (oI o', uM_filler σ2 (upd (sM_filler σ2) (gr x) (oI o')))) ∧ bsI C A gr ct ch (gr x) C o'
  | 0, c, n + 1, o, hc, hn, hI => by
    have hC := hO.1
    have hgx := hO.2.1 x hx
    have : c = C := by omega
    subst this
    rw [fM_fill_27, if_pos (show kM_classes k2 ≤ nI c by rw [show kM_classes k2 = nI c from by rw [hM.1]; rfl, nI_leI (by omega) (by omega)]; omega)]
    refine ⟨o, ?_, hI⟩
    rcases hI with ⟨h, -⟩ | ⟨h, h1, h2, -⟩
    · rw [h, if_pos (show oI none = -1 from rfl), if_pos (show (none : Option Nat) = none from rfl)]; rfl
    · rw [h1, if_neg (show ¬ oI (some h) = -1 from m1_ne (by omega)), if_neg (by simp), grM hO hM hx]
      simp only [Option.bind_some]
      rw [show kM_n k2 2 = 10 from by rw [hM.1]; rfl, kstI_n (show gr x < 10 by omega) (by omega)]
      rfl
  | d + 1, c, n + 1, o, hc, hn, hI => by
    have hC := hO.1
    have hcC : c < C := by omega
    have hgx := hO.2.1 x hx
    have hgc := hO.2.1 c hcC
    have h20 := gT_lt hO (show ch < 5 by omega) hcC
    rw [fM_fill_27, if_neg (show ¬ kM_classes k2 ≤ nI c by rw [show kM_classes k2 = nI C from by rw [hM.1]; rfl, nI_leI (by omega) (by omega)]; omega), grM hO hM hcC, grM hO hM hx]
    simp only [Option.bind_some]
    unfold fM_fill_83
    rw [nI_1]
    have skip : (gr c = c → gT C A gr ct ch c = 0 ∨ ∃ h, o = some h ∧ (DD C gr (gr x) h < DD C gr (gr x) c ∨ (DD C gr (gr x) h = DD C gr (gr x) c ∧ h ≤ c))) → bsI C A gr ct ch (gr x) (c + 1) o := by
      intro hs
      rcases hI with ⟨q1, q2⟩ | ⟨h, q1, q2, q3, q4, q5⟩
      · refine Or.inl ⟨q1, fun j hj hgj => ?_⟩
        rcases Nat.lt_or_ge j c with z | z
        · exact q2 j z hgj
        · have hjc : j = c := by omega
          rw [hjc] at hgj ⊢
          rcases hs hgj with w | ⟨h, w, -⟩
          · exact w
          · rw [q1] at w; cases w
      · refine Or.inr ⟨h, q1, by omega, q3, q4, fun j hj hgj hp => ?_⟩
        rcases Nat.lt_or_ge j c with z | z
        · exact q5 j z hgj hp
        · have hjc : j = c := by omega
          rw [hjc] at hgj hp ⊢
          rcases hs hgj with w | ⟨h', w, w2⟩
          · omega
          · rw [q1] at w; cases w; exact w2
    have take : gr c = c → 0 < gT C A gr ct ch c → (∀ h, o = some h → DD C gr (gr x) c < DD C gr (gr x) h) → bsI C A gr ct ch (gr x) (c + 1) (some c) := by
      intro s1 s2 s3
      refine Or.inr ⟨c, rfl, by omega, s1, s2, fun j hj hgj hp => ?_⟩
      rcases Nat.lt_or_ge j c with z | z
      · rcases hI with ⟨q1, q2⟩ | ⟨h, q1, q2, q3, q4, q5⟩
        · have := q2 j z hgj; omega
        · have h1 := s3 h q1
          have h2 := q5 j z hgj hp
          omega
      · exact Or.inr ⟨by rw [show j = c by omega], by omega⟩
    by_cases z0 : gr c = c
    · rw [if_pos (show nI (gr c) = nI c by rw [z0]), ownM hO hM hfu (by omega)]
      simp only [Option.bind_some]
      by_cases z1 : gT C A gr ct ch c = 0
      · rw [if_pos ((pos_n (by omega)).mpr z1)]
        exact bM_loop hO hM hfu hx d (c + 1) n o (by omega) (by omega) (skip (fun _ => Or.inl z1))
      · rw [if_neg (show ¬ nI (gT C A gr ct ch c) ≤ 0 by rw [pos_n (by omega)]; exact z1)]
        rcases id hI with ⟨q1, q2⟩ | ⟨h, q1, q2, q3, q4, q5⟩
        · rw [if_pos (show oI o = -1 by rw [q1]; rfl)]
          exact bM_loop hO hM hfu hx d (c + 1) n (some c) (by omega) (by omega) (take z0 (by omega) (fun h w => by rw [q1] at w; cases w))
        · have hdc : DD C gr (gr x) c ≤ 100 := D2_acc _ _ _ _ _
          have hdh : DD C gr (gr x) h ≤ 100 := D2_acc _ _ _ _ _
          rw [q1, show oI (some h) = nI h from rfl, if_neg (show ¬ nI h = -1 from m1_ne (by omega)), dM hO hM hfu hgx.1 hcC, dM hO hM hfu hgx.1 (by omega)]
          simp only [Option.bind_some]
          by_cases z2 : DD C gr (gr x) h ≤ DD C gr (gr x) c
          · rw [if_pos (show nI (DD C gr (gr x) h) ≤ nI (DD C gr (gr x) c) by rw [nI_leI (by omega) (by omega)]; exact z2)]
            have := bM_loop hO hM hfu hx d (c + 1) n o (by omega) (by omega) (skip (fun _ => Or.inr ⟨h, q1, by omega⟩))
            rw [q1] at this
            exact this
          · rw [if_neg (show ¬ nI (DD C gr (gr x) h) ≤ nI (DD C gr (gr x) c) by rw [nI_leI (by omega) (by omega)]; exact z2)]
            exact bM_loop hO hM hfu hx d (c + 1) n (some c) (by omega) (by omega) (take z0 (by omega) (fun h' w => by rw [q1] at w; cases w; omega))
    · rw [if_neg (show ¬ nI (gr c) = nI c by rw [nI_eq (by omega) (by omega)]; exact z0)]
      exact bM_loop hO hM hfu hx d (c + 1) n o (by omega) (by omega) (skip (fun w => absurd w z0))
theorem same_near (hO : okS C A ct ch gr fl ms er ml lk) {g : Nat} (hg : g < C) (hgg : gr g = g) {o o' : Option Nat} {l : Nat} (h1 : nrI C A gr ct ch g C o l) (h2 : bsI C A gr ct ch g C o') : o = o' := by
  have hC := hO.1
  rcases h1 with ⟨a1, a2, a3⟩ | ⟨h, c0, a1, a2, a3, a4, a5, a6⟩
  · rcases h2 with ⟨b1, b2⟩ | ⟨h', b1, b2, b3, b4, b5⟩
    · rw [a1, b1]
    · have := a3 h' b2
      rw [b3] at this
      omega
  · have hh := hO.2.1 c0 a2
    rw [a3] at hh
    rcases h2 with ⟨b1, b2⟩ | ⟨h', b1, b2, b3, b4, b5⟩
    · have := b2 h hh.1 hh.2
      omega
    · rw [a1, b1]
      congr 1
      obtain ⟨c1, e1, e2, e3⟩ := DD_at hC.2.1 hg hgg b2 b3
      obtain ⟨c2, f1, f2, f3⟩ := DD_at hC.2.1 hg hgg hh.1 hh.2
      have g1 := DD_le hC.2.1 hg hgg a2 a3
      have g2 := a6 c1 e1 (by rw [e2]; exact b4)
      have g3 := b5 h hh.1 hh.2 a4
      rw [e2] at g2
      omega
theorem op_fill (hO : okS C A ct ch gr fl ms er ml lk) (hR : repK k σ C A ct ch gr fl ms er ml lk) (hM : repM k2 σ2 C A ct ch gr fl ms er ml lk) (hfu : 200 ≤ fu) (x1 : Int32) : ∃ r σ' σ2' fl', fK_fill fu k σ x1 = some (r, σ') ∧ fM_fill fu k2 σ2 x1 = some (r, σ2') ∧ okS C A ct ch gr fl' ms er ml lk ∧ repK k σ' C A ct ch gr fl' ms er ml lk ∧ repM k2 σ2' C A ct ch gr fl' ms er ml lk := by
  have hC := hO.1
  unfold fK_fill fM_fill
  rcases clsT hO hR hM x1 with ⟨x, hx, rfl, e1, e2⟩ | ⟨e1, e2⟩
  rotate_left
  · rw [e1, e2]; exact ⟨_, _, _, _, rfl, rfl, hO, hR, hM⟩
  have hg := hO.2.1 x hx
  have h20 := gT_lt hO (show ch < 5 by omega) hg.1
  rw [e1, e2, if_neg one_ne, if_neg one_ne, grK hO hR hx, grM hO hM hx]
  simp only [Option.bind_some]
  rw [ownK hO hR hg.1 hg.2, ownM hO hM hfu (by omega)]
  simp only [Option.bind_some]
  by_cases z : nI (gT C A gr ct ch (gr x)) ≤ 0
  rotate_left
  · rw [if_neg z, if_neg z]; exact ⟨_, _, _, _, rfl, rfl, hO, hR, hM⟩
  rw [if_pos z, if_pos z]
  obtain ⟨o, l, k1, k2'⟩ := nK_loop (fu := fu) hO hR hfu hg.1 hg.2 C 0 fu none C (by omega) (by omega) (Or.inl ⟨rfl, rfl, fun j hj => absurd hj (by omega)⟩)
  obtain ⟨o', m1, m2⟩ := bM_loop (fu := fu) hO hM hfu hx C 0 fu none (by omega) (by omega) (Or.inl ⟨rfl, fun j hj => absurd hj (by omega)⟩)
  have he := same_near hO hg.1 hg.2 k2' m2
  subst he
  unfold fK_nearestWithReadings
  rw [show kK_classes k = nI C from by rw [hR.1]; rfl, show (-1 : Int32) = oI none from rfl, show (0 : Int32) = nI 0 from rfl, k1, m1]
  simp only [Option.bind_some]
  rcases k2' with ⟨q1, -, -⟩ | ⟨h, c0, q1, q2, q3, q4, -, -⟩
  · rw [q1, if_pos rfl, if_pos rfl]; exact ⟨_, _, _, _, rfl, rfl, hO, hR, hM⟩
  · have hh := hO.2.1 c0 q2
    rw [q3] at hh
    rw [q1, if_neg (show ¬ oI (some h) = oI none from m1_ne (by omega)), if_neg (by simp), show kK_n k 5 = C from by rw [hR.1]; rfl, kstI_n hg.1 (by omega)]
    simp only [Option.bind_some]
    refine ⟨_, _, _, up1 fl (gr x) (some h), rfl, rfl, ?_, ?_, ?_⟩
    · obtain ⟨o1, o2, o3, o4, o5, o6, o7, o8⟩ := hO
      refine ⟨o1, o2, fun c g hc w => ?_, o4, o5, o6, o7, o8⟩
      unfold up1 at w
      split at w
      · cases w; exact hh
      · exact o3 c g hc w
    · obtain ⟨r1, r2, r3, r4, r5, r6, r7, r8, r9, r10, r11, r12, r13⟩ := hR
      refine ⟨r1, r2, r3, r4, r5, r6, r7, fun c hc => ?_, r9, r10, r11, r12, r13⟩
      show upd (sK_filledBy σ) (gr x) (oI (some h)) c = oI (up1 fl (gr x) (some h) c)
      unfold up1
      by_cases w : c = gr x
      · rw [w, upd_s, if_pos rfl]
      · rw [upd_n w, if_neg w]; exact r8 c hc
    · obtain ⟨r1, r2, r3, r4, r5, r6, r7, r8, r9⟩ := hM
      refine ⟨r1, r2, r3, r4, fun c hc => ?_, r6, r7, r8, r9⟩
      show upd (sM_filler σ2) (gr x) (oI (some h)) c = oI (up1 fl (gr x) (some h) c)
      unfold up1
      by_cases w : c = gr x
      · rw [w, upd_s, if_pos rfl]
      · rw [upd_n w, if_neg w]; exact r5 c hc
end F2
