/-! Calls that write: what is held of the rest stays. -/
section RK
variable {C A : Nat} {ct ct' : Nat → Nat → Nat → Nat} {ch ch' : Nat} {gr gr' : Nat → Nat} {fl fl' : Nat → Option Nat} {ms ms' : Nat → Nat} {er er' : Nat → Nat → Nat} {ml lk ml' lk' : Nat → Nat} {k : kK} {σ : sK} {k2 : kM} {σ2 : sM} {fu : Nat}
theorem upd_s (f : Nat → Int32) (i : Nat) (x : Int32) : upd f i x i = x := by unfold upd; rw [if_pos rfl]
theorem upd_n {f : Nat → Int32} {i j : Nat} {x : Int32} (h : j ≠ i) : upd f i x j = f j := by unfold upd; rw [if_neg h]
theorem updL_s (f : Nat → Int64) (i : Nat) (x : Int64) : vp_updL f i x i = x := by unfold vp_updL; rw [if_pos rfl]
theorem updL_n {f : Nat → Int64} {i j : Nat} {x : Int64} (h : j ≠ i) : vp_updL f i x j = f j := by unfold vp_updL; rw [if_neg h]
def up1 {α : Type} (f : Nat → α) (i : Nat) (x : α) : Nat → α := fun j => if j = i then x else f j
theorem op_sex (hO : okS C A ct ch gr fl ms er ml lk) (hR : repK k σ C A ct ch gr fl ms er ml lk) (hM : repM k2 σ2 C A ct ch gr fl ms er ml lk) (x1 x2 x3 : Int32) : ∃ r σ' σ2' ml' lk', fK_sex k σ x1 x2 x3 = some (r, σ') ∧ fM_sex k2 σ2 x1 x2 x3 = some (r, σ2') ∧ okS C A ct ch gr fl ms er ml' lk' ∧ repK k σ' C A ct ch gr fl ms er ml' lk' ∧ repM k2 σ2' C A ct ch gr fl ms er ml' lk' := by
  have hC := hO.1
  unfold fK_sex fM_sex
  rcases clsT hO hR hM x1 with ⟨c, hc, rfl, e1, e2⟩ | ⟨e1, e2⟩
  rotate_left
  · rw [e1, e2]; exact ⟨_, _, _, _, _, rfl, rfl, hO, hR, hM⟩
  rw [e1, e2, if_neg one_ne, if_neg one_ne]
  by_cases h1 : x2 < 0
  · rw [if_pos h1, if_pos h1]; exact ⟨_, _, _, _, _, rfl, rfl, hO, hR, hM⟩
  rw [if_neg h1, if_neg h1]
  by_cases h2 : x3 < x2
  · rw [if_pos h2, if_pos h2]; exact ⟨_, _, _, _, _, rfl, rfl, hO, hR, hM⟩
  rw [if_neg h2, if_neg h2]
  by_cases h3 : x3 ≤ 100
  rotate_left
  · rw [if_neg h3, if_neg h3]; exact ⟨_, _, _, _, _, rfl, rfl, hO, hR, hM⟩
  rw [if_pos h3, if_pos h3]
  obtain ⟨m, hm, rfl⟩ := nI_of h1
  have h30 : ¬ x3 < 0 := by
    intro h
    rw [Int32.lt_iff_toInt_lt] at h h2
    rw [nI_toInt hm] at h2
    rw [Int32.toInt_zero] at h
    omega
  obtain ⟨n, hn, rfl⟩ := nI_of h30
  rw [nI_ltI hn hm] at h2
  rw [show (100 : Int32) = nI 100 from rfl, nI_leI hn (by omega)] at h3
  rw [show kK_n k 13 = C from by rw [hR.1]; rfl, show kK_n k 14 = C from by rw [hR.1]; rfl, kstI_n hc (by omega), show kM_n k2 5 = 10 from by rw [hM.1]; rfl, show kM_n k2 6 = 10 from by rw [hM.1]; rfl, kstI_n (show c < 10 by omega) (by omega)]
  show ∃ r σ' σ2' ml' lk', (kstI C (sK_lookedAt (uK_maleCount σ (upd (sK_maleCount σ) c (nI m)))) (nI c) (nI n)).bind _ = _ ∧ (kstI 10 (sM_sexCount (uM_maleCount σ2 (upd (sM_maleCount σ2) c (nI m)))) (nI c) (nI n)).bind _ = _ ∧ _
  rw [kstI_n hc (by omega), kstI_n (show c < 10 by omega) (by omega)]
  refine ⟨_, _, _, up1 ml c m, up1 lk c n, rfl, rfl, ?_, ?_, ?_⟩
  · obtain ⟨o1, o2, o3, o4, o5, o6, o7, o8⟩ := hO
    refine ⟨o1, o2, o3, o4, o5, o6, o7, fun d hd => ?_⟩
    unfold up1
    by_cases h : d = c
    · rw [if_pos h, if_pos h]; omega
    · rw [if_neg h, if_neg h]; exact o8 d hd
  · obtain ⟨r1, r2, r3, r4, r5, r6, r7, r8, r9, r10, r11, r12, r13⟩ := hR
    refine ⟨r1, r2, r3, r4, r5, r6, r7, r8, r9, r10, r11, fun d hd => ?_, fun d hd => ?_⟩
    · show upd (sK_maleCount σ) c (nI m) d = nI (up1 ml c m d)
      unfold up1
      by_cases h : d = c
      · rw [h, upd_s, if_pos rfl]
      · rw [upd_n h, if_neg h]; exact r12 d hd
    · show upd (sK_lookedAt σ) c (nI n) d = nI (up1 lk c n d)
      unfold up1
      by_cases h : d = c
      · rw [h, upd_s, if_pos rfl]
      · rw [upd_n h, if_neg h]; exact r13 d hd
  · obtain ⟨r1, r2, r3, r4, r5, r6, r7, r8, r9⟩ := hM
    refine ⟨r1, r2, r3, r4, r5, r6, r7, fun d hd => ?_, fun d hd => ?_⟩
    · show upd (sM_maleCount σ2) c (nI m) d = nI (up1 ml c m d)
      unfold up1
      by_cases h : d = c
      · rw [h, upd_s, if_pos rfl]
      · rw [upd_n h, if_neg h]; exact r8 d hd
    · show upd (sM_sexCount σ2) c (nI n) d = nI (up1 lk c n d)
      unfold up1
      by_cases h : d = c
      · rw [h, upd_s, if_pos rfl]
      · rw [upd_n h, if_neg h]; exact r9 d hd
end RK
