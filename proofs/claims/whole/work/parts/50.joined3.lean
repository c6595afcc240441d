/-! joined, both together. -/
section J3
variable {C A : Nat} {ct : Nat → Nat → Nat → Nat} {ch : Nat} {gr : Nat → Nat} {fl : Nat → Option Nat} {ms : Nat → Nat} {er : Nat → Nat → Nat} {ml lk : Nat → Nat} {k : kK} {σ : sK} {k2 : kM} {σ2 : sM} {fu : Nat}
theorem su_join {i f : Nat} (hif : i ≠ f) (x : Nat → Nat) : su (fun c => if jgr gr i f c = i then x c else 0) 0 C = su (fun c => if gr c = i then x c else 0) 0 C + su (fun c => if gr c = f then x c else 0) 0 C := by
  rw [← su_add]
  refine su_congr C 0 (fun c _ _ => ?_)
  show (if jgr gr i f c = i then x c else 0) = (if gr c = i then x c else 0) + (if gr c = f then x c else 0)
  unfold jgr
  by_cases h : gr c = f
  · rw [if_pos h, if_pos rfl, if_neg (show ¬ gr c = i by omega), if_pos h, Nat.zero_add]
  · rw [if_neg h, if_neg h, Nat.add_zero]
theorem su_join_o {i f g : Nat} (hi : g ≠ i) (hf : g ≠ f) (x : Nat → Nat) : su (fun c => if jgr gr i f c = g then x c else 0) 0 C = su (fun c => if gr c = g then x c else 0) 0 C := by
  refine su_congr C 0 (fun c _ _ => ?_)
  show (if jgr gr i f c = g then x c else 0) = (if gr c = g then x c else 0)
  unfold jgr
  by_cases h : gr c = f
  · rw [if_pos h, if_neg (by omega), if_neg (by omega)]
  · rw [if_neg h]
theorem su_join_f {i f : Nat} (hif : i ≠ f) (x : Nat → Nat) : su (fun c => if jgr gr i f c = f then x c else 0) 0 C = 0 := su_zero C 0 (fun c _ _ => by
  show (if jgr gr i f c = f then x c else 0) = 0
  unfold jgr
  by_cases h : gr c = f
  · rw [if_pos h, if_neg hif]
  · rw [if_neg h, if_neg h])
theorem jgr_least {i f g : Nat} (hif : i ≠ f) (hi : gr i = i) (h : jgr gr i f g = g) : g ≠ f ∧ gr g = g := by
  unfold jgr at h
  by_cases h1 : gr g = f
  · rw [if_pos h1] at h
    subst h
    exact ⟨hif, hi⟩
  · rw [if_neg h1] at h
    exact ⟨fun q => h1 (by rw [h, q]), h⟩
theorem core (hO : okS C A ct ch gr fl ms er ml lk) (hR : repK k σ C A ct ch gr fl ms er ml lk) (hM : repM k2 σ2 C A ct ch gr fl ms er ml lk) (hfu : 200 ≤ fu) {i f : Nat} (hi : i < C) (hf : f < C) (hif : i ≠ f) (hgi : gr i = i) (hgf : gr f = f) (h20 : gT C A gr ct 4 i + gT C A gr ct 4 f ≤ 20) :
    ∃ σ' σ2', ((fK_dropFills fu k σ (nI i) (nI f)).bind fun s82 => (fK_moveReadings fu k s82 (nI i) (nI f)).bind fun s89 => fK_joined_95 fu k fu s89 (nI i) (nI f) 0) = some (nI i, σ') ∧ fM_joined_129 fu k2 fu σ2 (nI i) (nI f) 0 = some (nI i, σ2') ∧ okS C A ct ch (jgr gr i f) (jfl fl i f) ms er ml lk ∧ repK k σ' C A ct ch (jgr gr i f) (jfl fl i f) ms er ml lk ∧ repM k2 σ2' C A ct ch (jgr gr i f) (jfl fl i f) ms er ml lk := by
  have hC := hO.1
  obtain ⟨r1, r2, r3, r4, r5, r6, r7, r8, r9, r10, r11, r12, r13⟩ := id hR
  obtain ⟨m1, m2, m3, m4, m5, m6, m7, m8, m9⟩ := id hM
  have hF1 : ∀ j g, j < C → jf1 fl i f j = some g → g < C := by
    intro j g hj h
    unfold jf1 at h
    split at h
    · cases h
    · exact (hO.2.2.1 j g hj h).1
  have hF0 : ∀ j g, j < C → fl j = some g → g < C := fun j g hj h => (hO.2.2.1 j g hj h).1
  -- the class
  unfold fK_dropFills
  rw [show kK_n k 5 = C from by rw [r1]; rfl, kstI_n hi (by omega)]
  simp only [Option.bind_some]
  rw [kstI_n hf (by omega)]
  simp only [Option.bind_some]
  obtain ⟨σ1, a1, a2, a3, a4, a5, a6⟩ := dropL (fu := fu) r1 hC.2.1 hi hf (jf1 fl i f) hF1 C 0 fu (uK_filledBy (uK_filledBy σ (upd (sK_filledBy σ) i (-1))) (upd (sK_filledBy (uK_filledBy σ (upd (sK_filledBy σ) i (-1)))) f (-1))) (by omega) (by omega) (fun j hj => by
    show upd (upd (sK_filledBy σ) i (-1)) f (-1) j = _
    rw [if_neg (show ¬ j < 0 by omega)]
    unfold jf1
    by_cases h1 : j = f
    · rw [h1, upd_s, if_pos (Or.inr rfl)]; rfl
    · rw [upd_n h1]
      by_cases h2 : j = i
      · rw [h2, upd_s, if_pos (Or.inl rfl)]; rfl
      · rw [upd_n h2, if_neg (show ¬ (j = i ∨ j = f) from fun q => q.elim h2 h1)]; exact r8 j hj)
  rw [show (0 : Int32) = nI 0 from rfl, a1]
  simp only [Option.bind_some]
  unfold fK_moveReadings
  obtain ⟨σ3, b1, b2, b3, b4, b5, b6⟩ := mvR (fu := fu) r1 hC.2.1 hC.2.2.2.1 hfu hi hf hif (fun s b => gN C gr ct s i b) (fun s b => gN C gr ct s f b) (fun s => gT C A gr ct s i) (fun s => gT C A gr ct s f) 5 0 fu σ1 (by omega) (by omega) (fun s b hs hb => by rw [a4]; exact r5 s f b hs hf hgf hb) (fun s b _ hs hb => by rw [a4]; exact r5 s i b hs hi hgi hb) (fun s hs => by rw [a5]; exact r6 s f hs hf hgf) (fun s _ hs => by rw [a5]; exact r6 s i hs hi hgi)
  rw [show (0 : Int32) = nI 0 from rfl, b1]
  simp only [Option.bind_some]
  obtain ⟨σ4, c1, c2, c3, c4, c5, c6⟩ := nameL (fu := fu) (i := i) r1 hC.2.1 hf gr (fun j hj => (hO.2.1 j hj).1) C 0 fu σ3 (by omega) (by omega) (fun j hj => by
    rw [if_neg (show ¬ j < 0 by omega), b2.2.1, a3]
    exact r7 j hj)
  rw [c1]
  -- the reference
  obtain ⟨τ, d1, d2, d3, d4⟩ := joM (fu := fu) (i := i) (f := f) m1 hC.2.1 hi hf gr (fun j hj => (hO.2.1 j hj).1) fl hF0 C 0 fu σ2 (by omega) (by omega) (fun j hj => by rw [if_neg (show ¬ j < 0 by omega)]; exact m5 j hj) (fun j hj => by rw [if_neg (show ¬ j < 0 by omega)]; exact m4 j hj)
  rw [d1]
  have hs : sameA σ4 σ := c2.tr (b2.1.tr (a2.tr ⟨rfl, rfl, rfl, rfl, rfl, rfl, rfl, rfl⟩))
  obtain ⟨s1, s2, s3, s4, s5, s6, s7, s8⟩ := hs
  refine ⟨σ4, τ, rfl, rfl, ?_, ?_, ?_⟩
  · obtain ⟨o1, o2, o3, o4, o5, o6, o7, o8⟩ := hO
    refine ⟨o1, fun c hc => ?_, fun c g hc h => ?_, o4, fun g hg => ?_, o6, o7, o8⟩
    · have hg := o2 c hc
      unfold jgr
      by_cases h : gr c = f
      · rw [if_pos h, hgi, if_neg hif]; exact ⟨hi, rfl⟩
      · rw [if_neg h, hg.2, if_neg h]; exact ⟨hg.1, rfl⟩
    · unfold jfl at h
      split at h
      · cases h
      · rename_i hq
        unfold jf1 at h hq
        split at h
        · cases h
        · rename_i hq2
          rw [if_neg hq2] at hq
          have h3 := o3 c g hc h
          refine ⟨h3.1, ?_⟩
          unfold jgr
          rw [h3.2, if_neg (fun q => hq (Or.inr (by rw [h, q])))]
    · unfold gT
      by_cases h : g = i
      · rw [h, su_join hif]; exact h20
      · by_cases h1 : g = f
        · rw [h1, su_join_f hif]; omega
        · rw [su_join_o h h1]; exact o5 g hg
  · refine ⟨r1, by rw [s1]; exact r2, by rw [s2]; exact r3, by rw [s3]; exact r4, fun r g a hr hg hgg ha => ?_, fun r g hr hg hgg => ?_, c6, fun c hc => ?_, by rw [s4]; exact r9, by rw [s5]; exact r10, by rw [s6]; exact r11, by rw [s7]; exact r12, by rw [s8]; exact r13⟩
    · have hl := jgr_least hif hgi hgg
      rw [c4]
      unfold gN
      by_cases h : g = i
      · rw [h, b4 r a (by omega) hr ha, su_join hif]; rfl
      · rw [b3 _ (fun s b _ hs hb e => h (ix3_inj hg hi ha hb e).2.1), a4, su_join_o h hl.1]
        exact r5 r g a hr hg hl.2 ha
    · have hl := jgr_least hif hgi hgg
      rw [c5]
      unfold gT
      by_cases h : g = i
      · rw [h, b6 r (by omega) hr, su_join hif]; rfl
      · rw [b5 _ (fun s _ hs e => h (ix_inj hg hi e).2), a5, su_join_o h hl.1]
        exact r6 r g hr hg hl.2
    · rw [c3, b2.2.2, a6 c hc]
      rfl
  · refine ⟨m1, by rw [d2.1]; exact m2, by rw [d2.2.1]; exact m3, d4, fun c hc => ?_, by rw [d2.2.2.1]; exact m6, by rw [d2.2.2.2.1]; exact m7, by rw [d2.2.2.2.2.1]; exact m8, by rw [d2.2.2.2.2.2]; exact m9⟩
    rw [d3 c hc]
    congr 1
    unfold jfl jf1
    by_cases h : c = i ∨ c = f
    · rw [if_pos h, if_pos h]; simp
    · rw [if_neg h, if_neg h]
theorem op_joined (hO : okS C A ct ch gr fl ms er ml lk) (hR : repK k σ C A ct ch gr fl ms er ml lk) (hM : repM k2 σ2 C A ct ch gr fl ms er ml lk) (hfu : 200 ≤ fu) (x1 x2 : Int32) : ∃ r σ' σ2' gr' fl', fK_joined fu k σ x1 x2 = some (r, σ') ∧ fM_joined fu k2 σ2 x1 x2 = some (r, σ2') ∧ okS C A ct ch gr' fl' ms er ml lk ∧ repK k σ' C A ct ch gr' fl' ms er ml lk ∧ repM k2 σ2' C A ct ch gr' fl' ms er ml lk := by
  have hC := hO.1
  unfold fK_joined fM_joined
  rcases clsT hO hR hM x1 with ⟨a, ha, rfl, e1, e2⟩ | ⟨e1, e2⟩
  rotate_left
  · rw [e1, e2]; exact ⟨_, _, _, _, _, rfl, rfl, hO, hR, hM⟩
  rcases clsT hO hR hM x2 with ⟨b, hb, rfl, f1, f2⟩ | ⟨f1, f2⟩
  rotate_left
  · rw [e1, e2, f1, f2]; exact ⟨_, _, _, _, _, rfl, rfl, hO, hR, hM⟩
  have ga := hO.2.1 a ha
  have gb := hO.2.1 b hb
  have ta := hO.2.2.2.2.1 (gr a) ga.1
  have tb := hO.2.2.2.2.1 (gr b) gb.1
  rw [e1, e2, f1, f2, if_neg one_ne, if_neg one_ne, if_neg one_ne, if_neg one_ne, grK hO hR ha, grK hO hR hb, grM hO hM ha, grM hO hM hb]
  simp only [Option.bind_some]
  rw [show fM_inGroup fu k2 σ2 (nI (gr a)) (-1) (-1) = _ from igM hO hM hfu (show 4 < 5 by omega) (by omega), show fM_inGroup fu k2 σ2 (nI (gr b)) (-1) (-1) = _ from igM hO hM hfu (show 4 < 5 by omega) (by omega)]
  simp only [Option.bind_some]
  unfold fM_joined_93 fM_joined_124
  rw [grM hO hM ha, grM hO hM hb]
  simp only [Option.bind_some]
  rcases Nat.lt_trichotomy (gr a) (gr b) with h | h | h
  · have q1 : ¬ nI (gr b) < nI (gr a) := by rw [nI_ltI (by omega) (by omega)]; omega
    have q2 : nI (gr a) < nI (gr b) := by rw [nI_ltI (by omega) (by omega)]; omega
    have q3 : ¬ nI (gr a) = nI (gr b) := by rw [nI_eq (by omega) (by omega)]; omega
    have q4 : ¬ nI (gr b) ≤ nI (gr a) := by rw [nI_leI (by omega) (by omega)]; omega
    rw [if_neg q1, if_pos q2, if_neg q3, if_neg q3, if_neg q4, if_neg q4, show (4 : Int32) = nI 4 from rfl, sizeK hO hR (show 4 < 5 by omega) ga.1 ga.2, sizeK hO hR (show 4 < 5 by omega) gb.1 gb.2]
    simp only [Option.bind_some]
    by_cases q5 : nI (gT C A gr ct 4 (gr a)) + nI (gT C A gr ct 4 (gr b)) ≤ (20 : Int32)
    rotate_left
    · rw [if_neg q5, if_neg q5]; exact ⟨_, _, _, _, _, rfl, rfl, hO, hR, hM⟩
    rw [if_pos q5, if_pos q5]
    rw [nI_add, show (20 : Int32) = nI 20 from rfl, nI_leI (by omega) (by omega)] at q5
    obtain ⟨σ', τ, z1, z2, z3, z4, z5⟩ := core hO hR hM hfu ga.1 gb.1 (by omega) ga.2 gb.2 q5
    exact ⟨_, _, _, _, _, z1, z2, z3, z4, z5⟩
  · have q3 : nI (gr a) = nI (gr b) := by rw [h]
    rw [if_pos q3, h]
    have q1 : ¬ nI (gr b) < nI (gr b) := by rw [nI_ltI (by omega) (by omega)]; omega
    rw [if_neg q1, if_pos rfl]
    exact ⟨_, _, _, _, _, rfl, rfl, hO, hR, hM⟩
  · have q1 : nI (gr b) < nI (gr a) := by rw [nI_ltI (by omega) (by omega)]; omega
    have q2 : ¬ nI (gr a) < nI (gr b) := by rw [nI_ltI (by omega) (by omega)]; omega
    have q3 : ¬ nI (gr a) = nI (gr b) := by rw [nI_eq (by omega) (by omega)]; omega
    have q4 : nI (gr b) ≤ nI (gr a) := by rw [nI_leI (by omega) (by omega)]; omega
    have q6 : ¬ nI (gr b) = nI (gr a) := by rw [nI_eq (by omega) (by omega)]; omega
    rw [if_pos q1, if_neg q2, if_neg q6, if_neg q3, if_pos q4, if_pos q4, show (4 : Int32) = nI 4 from rfl, sizeK hO hR (show 4 < 5 by omega) ga.1 ga.2, sizeK hO hR (show 4 < 5 by omega) gb.1 gb.2]
    simp only [Option.bind_some]
    have hcm : nI (gT C A gr ct 4 (gr b)) + nI (gT C A gr ct 4 (gr a)) = nI (gT C A gr ct 4 (gr a)) + nI (gT C A gr ct 4 (gr b)) := by rw [nI_add, nI_add, Nat.add_comm]
    rw [hcm]
    by_cases q5 : nI (gT C A gr ct 4 (gr a)) + nI (gT C A gr ct 4 (gr b)) ≤ (20 : Int32)
    rotate_left
    · rw [if_neg q5, if_neg q5]; exact ⟨_, _, _, _, _, rfl, rfl, hO, hR, hM⟩
    rw [if_pos q5, if_pos q5]
    rw [nI_add, show (20 : Int32) = nI 20 from rfl, nI_leI (by omega) (by omega)] at q5
    obtain ⟨σ', τ, z1, z2, z3, z4, z5⟩ := core hO hR hM hfu gb.1 ga.1 (by omega) gb.2 ga.2 (by omega)
    exact ⟨_, _, _, _, _, z1, z2, z3, z4, z5⟩
end J3
