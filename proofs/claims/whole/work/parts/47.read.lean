/-! read: one reading more. -/
section RD
variable {C A : Nat} {ct : Nat → Nat → Nat → Nat} {ch : Nat} {gr : Nat → Nat} {fl : Nat → Option Nat} {ms : Nat → Nat} {er : Nat → Nat → Nat} {ml lk : Nat → Nat} {k : kK} {σ : sK} {k2 : kM} {σ2 : sM} {fu : Nat}
theorem ix3_inj {r c a r' c' a' C A : Nat} (hc : c < C) (hc' : c' < C) (ha : a < A) (ha' : a' < A) (h : (r * C + c) * A + a = (r' * C + c') * A + a') : r = r' ∧ c = c' ∧ a = a' := by
  obtain ⟨h1, h2⟩ := ix_inj ha ha' h
  obtain ⟨h3, h4⟩ := ix_inj hc hc' h1
  exact ⟨h3, h4, h2⟩
theorem cntK {F1 : Nat → Nat → Nat → Nat} {F2 : Nat → Nat} {F3 : Nat → Nat → Nat → Nat} {F4 : Nat → Nat → Nat} (hk : k = k0K C A) (hC2 : C ≤ 10) (hA2 : A ≤ 6) (h1 : ∀ r c a, r < 5 → c < C → a < A → sK_readings σ ((r * C + c) * A + a) = nI (F1 r c a)) (h2 : ∀ r, r < 5 → sK_rowSize σ r = nI (F2 r))
    (h3 : ∀ r g a, r < 5 → g < C → gr g = g → a < A → sK_groupReadings σ ((r * C + g) * A + a) = nI (F3 r g a)) (h4 : ∀ r g, r < 5 → g < C → gr g = g → sK_groupSize σ (r * C + g) = nI (F4 r g)) {row c a : Nat} (hr : row < 5) (hc : c < C) (ha : a < A) (hg : sK_groupOf σ c = nI (gr c)) (hgr : gr c < C ∧ gr (gr c) = gr c) :
    ∃ a1 a2 a3 a4, fK_countReading k σ (nI row) (nI c) (nI a) = some (uK_groupSize (uK_groupReadings (uK_rowSize (uK_readings σ a1) a2) a3) a4) ∧ (∀ r c' a', r < 5 → c' < C → a' < A → a1 ((r * C + c') * A + a') = nI (F1 r c' a' + if r = row ∧ c' = c ∧ a' = a then 1 else 0)) ∧ (∀ r, r < 5 → a2 r = nI (F2 r + if r = row then 1 else 0)) ∧
      (∀ r g a', r < 5 → g < C → gr g = g → a' < A → a3 ((r * C + g) * A + a') = nI (F3 r g a' + if r = row ∧ g = gr c ∧ a' = a then 1 else 0)) ∧ (∀ r g, r < 5 → g < C → gr g = g → a4 (r * C + g) = nI (F4 r g + if r = row ∧ g = gr c then 1 else 0)) := by
  have hca : 5 * C * A < 2 ^ 31 := by
    have h := mul_le60 hC2 hA2
    rw [Nat.mul_assoc]
    omega
  have cel : ∀ r c a : Nat, fK_cell k (nI r) (nI c) (nI a) = nI ((r * C + c) * A + a) := by
    intro r c a
    unfold fK_cell
    rw [hk]
    show ((nI r * nI C + nI c) * nI A) + nI a = _
    rw [pk_mul, nI_add, pk_mul, nI_add]
  unfold fK_countReading
  rw [show kK_n k 4 = C from by rw [hk]; rfl, show kK_n k 0 = 5 * C * A from by rw [hk]; rfl, show kK_n k 1 = 5 from by rw [hk]; rfl, show kK_n k 2 = 5 * C * A from by rw [hk]; rfl, show kK_n k 3 = 5 * C from by rw [hk]; rfl, show kK_classes k = nI C from by rw [hk]; rfl, kld_n hc (by omega), hg, cel, kld_n (ix_lt hr hc ha) hca, h1 row c a hr hc ha]
  simp only [Option.bind_some]
  rw [nI_1, kstI_n (ix_lt hr hc ha) hca]
  simp only [Option.bind_some]
  rw [show sK_rowSize (uK_readings σ (upd (sK_readings σ) ((row * C + c) * A + a) (nI (F1 row c a + 1)))) = sK_rowSize σ from rfl, kld_n hr (by omega), h2 row hr]
  simp only [Option.bind_some]
  rw [nI_1, kstI_n hr (by omega)]
  simp only [Option.bind_some]
  generalize hb1 : upd (sK_readings σ) ((row * C + c) * A + a) (nI (F1 row c a + 1)) = b1
  generalize hb2 : upd (sK_rowSize σ) row (nI (F2 row + 1)) = b2
  rw [show sK_groupReadings (uK_rowSize (uK_readings σ b1) b2) = sK_groupReadings σ from rfl, cel, kld_n (ix_lt hr hgr.1 ha) hca, h3 row (gr c) a hr hgr.1 hgr.2 ha]
  simp only [Option.bind_some]
  rw [nI_1, kstI_n (ix_lt hr hgr.1 ha) hca]
  simp only [Option.bind_some]
  generalize hb3 : upd (sK_groupReadings σ) ((row * C + gr c) * A + a) (nI (F3 row (gr c) a + 1)) = b3
  rw [show sK_groupSize (uK_groupReadings (uK_rowSize (uK_readings σ b1) b2) b3) = sK_groupSize σ from rfl, pk_mul, nI_add, kld_n (ix2_lt hr hgr.1) (by omega), h4 row (gr c) hr hgr.1 hgr.2]
  simp only [Option.bind_some]
  rw [nI_1, kstI_n (ix2_lt hr hgr.1) (by omega)]
  simp only [Option.bind_some]
  refine ⟨_, _, _, _, rfl, ?_, ?_, ?_, ?_⟩
  · intro r c' a' q1 q2 q3
    rw [← hb1]
    by_cases h : r = row ∧ c' = c ∧ a' = a
    · rw [if_pos h, h.1, h.2.1, h.2.2, upd_s]
    · rw [if_neg h, upd_n (fun e => h (ix3_inj q2 hc q3 ha e)), h1 r c' a' q1 q2 q3, Nat.add_zero]
  · intro r q1
    rw [← hb2]
    by_cases h : r = row
    · rw [if_pos h, h, upd_s]
    · rw [if_neg h, upd_n h, h2 r q1, Nat.add_zero]
  · intro r g a' q1 q2 q4 q3
    rw [← hb3]
    by_cases h : r = row ∧ g = gr c ∧ a' = a
    · rw [if_pos h, h.1, h.2.1, h.2.2, upd_s]
    · rw [if_neg h, upd_n (fun e => h (ix3_inj q2 hgr.1 q3 ha e)), h3 r g a' q1 q2 q4 q3, Nat.add_zero]
  · intro r g q1 q2 q4
    by_cases h : r = row ∧ g = gr c
    · rw [if_pos h, h.1, h.2, upd_s]
    · rw [if_neg h, upd_n (fun e => h (ix_inj q2 hgr.1 e)), h4 r g q1 q2 q4, Nat.add_zero]
/-- the counts behind one reading more -/
def bump (ct : Nat → Nat → Nat → Nat) (p c a : Nat) : Nat → Nat → Nat → Nat := fun p' c' a' => ct p' c' a' + if p' = p ∧ c' = c ∧ a' = a then 1 else 0
theorem rd_bump (ct : Nat → Nat → Nat → Nat) {p : Nat} (hp : p < 4) (c a r c' a' : Nat) (hr : r < 5) : rd (bump ct p c a) r c' a' = rd ct r c' a' + if (r = p ∨ r = 4) ∧ c' = c ∧ a' = a then 1 else 0 := by
  unfold rd bump
  by_cases hr4 : r < 4
  · rw [if_pos hr4, if_pos hr4]
    congr 1
    by_cases h : r = p ∧ c' = c ∧ a' = a
    · rw [if_pos h, if_pos ⟨Or.inl h.1, h.2⟩]
    · rw [if_neg h, if_neg (fun q => h ⟨q.1.resolve_right (by omega), q.2⟩)]
  · rw [if_neg hr4, if_neg hr4]
    by_cases h : c' = c ∧ a' = a
    · rw [if_pos (show (r = p ∨ r = 4) ∧ c' = c ∧ a' = a from ⟨Or.inr (by omega), h⟩)]
      rcases (show p = 0 ∨ p = 1 ∨ p = 2 ∨ p = 3 by omega) with rfl | rfl | rfl | rfl <;> simp [h] <;> omega
    · rw [if_neg (show ¬ ((r = p ∨ r = 4) ∧ c' = c ∧ a' = a) from fun q => h q.2)]
      have e : ∀ z : Nat, (if z = p ∧ c' = c ∧ a' = a then 1 else 0) = 0 := fun z => if_neg (fun q => h q.2)
      simp only [e, Nat.add_zero]
theorem su_bump1 {g h : Nat → Nat} {x t n : Nat} (ht : t < n) (e : ∀ j, h j = g j + if j = t then x else 0) : su h 0 n = su g 0 n + x := su_bump (t := t) n 0 (by omega) (by omega) (by rw [e, if_pos rfl]) (fun j _ _ hj => by rw [e, if_neg hj, Nat.add_zero])
theorem rowsum_bump (ct : Nat → Nat → Nat → Nat) {p c a r : Nat} (hp : p < 4) (hr : r < 5) {A : Nat} (ha : a < A) (c' : Nat) : su (fun a' => rd (bump ct p c a) r c' a') 0 A = su (fun a' => rd ct r c' a') 0 A + if (r = p ∨ r = 4) ∧ c' = c then 1 else 0 := by
  by_cases h : (r = p ∨ r = 4) ∧ c' = c
  · rw [if_pos h]
    exact su_bump1 ha (fun j => by
      show rd (bump ct p c a) r c' j = rd ct r c' j + _
      rw [rd_bump ct hp c a r c' j hr]
      congr 1
      by_cases hj : j = a
      · rw [if_pos ⟨h.1, h.2, hj⟩, if_pos hj]
      · rw [if_neg (fun q => hj q.2.2), if_neg hj])
  · rw [if_neg h, Nat.add_zero]
    exact su_congr A 0 (fun j _ _ => by
      show rd (bump ct p c a) r c' j = rd ct r c' j
      rw [rd_bump ct hp c a r c' j hr, if_neg (fun q => h ⟨q.1, q.2.1⟩), Nat.add_zero])
theorem tt_bump (ct : Nat → Nat → Nat → Nat) {p c a r : Nat} (hp : p < 4) (hr : r < 5) (hc : c < C) (ha : a < A) : tt C A (bump ct p c a) r = tt C A ct r + if r = p ∨ r = 4 then 1 else 0 := by
  unfold tt
  by_cases h : r = p ∨ r = 4
  · rw [if_pos h]
    exact su_bump1 hc (fun j => by
      rw [rowsum_bump ct hp hr ha j]
      congr 1
      by_cases hj : j = c
      · rw [if_pos ⟨h, hj⟩, if_pos hj]
      · rw [if_neg (fun q => hj q.2), if_neg hj])
  · rw [if_neg h, Nat.add_zero]
    exact su_congr C 0 (fun j _ _ => by rw [rowsum_bump ct hp hr ha j, if_neg (fun q => h q.1), Nat.add_zero])
theorem gT_bump (ct : Nat → Nat → Nat → Nat) {p c a r : Nat} (hp : p < 4) (hr : r < 5) (hc : c < C) (ha : a < A) (g : Nat) : gT C A gr (bump ct p c a) r g = gT C A gr ct r g + if (r = p ∨ r = 4) ∧ g = gr c then 1 else 0 := by
  unfold gT
  by_cases h : (r = p ∨ r = 4) ∧ g = gr c
  · rw [if_pos h]
    exact su_bump1 hc (fun j => by
      rw [rowsum_bump ct hp hr ha j]
      by_cases hj : j = c
      · rw [if_pos hj, hj, if_pos h.2.symm, if_pos h.2.symm, if_pos ⟨h.1, rfl⟩]
      · rw [if_neg hj, if_neg (show ¬ ((r = p ∨ r = 4) ∧ j = c) from fun q => hj q.2), Nat.add_zero, Nat.add_zero])
  · rw [if_neg h, Nat.add_zero]
    exact su_congr C 0 (fun j _ _ => by
      rw [rowsum_bump ct hp hr ha j]
      by_cases hj : gr j = g
      · rw [if_pos hj, if_pos hj, if_neg (fun q => h ⟨q.1, by rw [← hj, q.2]⟩), Nat.add_zero]
      · rw [if_neg hj, if_neg hj])
theorem gN_bump (ct : Nat → Nat → Nat → Nat) {p c a r : Nat} (hp : p < 4) (hr : r < 5) (hc : c < C) (g a' : Nat) : gN C gr (bump ct p c a) r g a' = gN C gr ct r g a' + if (r = p ∨ r = 4) ∧ g = gr c ∧ a' = a then 1 else 0 := by
  unfold gN
  by_cases h : (r = p ∨ r = 4) ∧ g = gr c ∧ a' = a
  · rw [if_pos h]
    exact su_bump1 hc (fun j => by
      rw [rd_bump ct hp c a r j a' hr]
      by_cases hj : j = c
      · rw [if_pos hj, hj, if_pos h.2.1.symm, if_pos h.2.1.symm, if_pos ⟨h.1, rfl, h.2.2⟩]
      · rw [if_neg hj, if_neg (show ¬ ((r = p ∨ r = 4) ∧ j = c ∧ a' = a) from fun q => hj q.2.1), Nat.add_zero, Nat.add_zero])
  · rw [if_neg h, Nat.add_zero]
    exact su_congr C 0 (fun j _ _ => by
      rw [rd_bump ct hp c a r j a' hr]
      by_cases hj : gr j = g
      · rw [if_pos hj, if_pos hj, if_neg (fun q => h ⟨q.1, by rw [← hj, q.2.1], q.2.2⟩), Nat.add_zero]
      · rw [if_neg hj, if_neg hj])
theorem op_read (hO : okS C A ct ch gr fl ms er ml lk) (hR : repK k σ C A ct ch gr fl ms er ml lk) (hM : repM k2 σ2 C A ct ch gr fl ms er ml lk) (hfu : 200 ≤ fu) (x1 x2 x3 : Int32) : ∃ r σ' σ2' ct', fK_read k σ x1 x2 x3 = some (r, σ') ∧ fM_read fu k2 σ2 x1 x2 x3 = some (r, σ2') ∧ okS C A ct' ch gr fl ms er ml lk ∧ repK k σ' C A ct' ch gr fl ms er ml lk ∧ repM k2 σ2' C A ct' ch gr fl ms er ml lk := by
  have hC := hO.1
  unfold fK_read fM_read
  rcases clsT hO hR hM x1 with ⟨c, hc, rfl, e1, e2⟩ | ⟨e1, e2⟩
  rotate_left
  · rw [e1, e2]; exact ⟨_, _, _, _, rfl, rfl, hO, hR, hM⟩
  rcases ageT hO hR hM x2 with ⟨a, ha, rfl, f1, f2⟩ | ⟨f1, f2⟩
  rotate_left
  · rw [e1, e2, f1, f2]; exact ⟨_, _, _, _, rfl, rfl, hO, hR, hM⟩
  rw [e1, e2, f1, f2, if_neg one_ne, if_neg one_ne, if_neg one_ne, if_neg one_ne]
  rcases pk_ix x3 (show 4 < 2 ^ 31 by omega) with h | h | ⟨p, hp, rfl⟩
  · have e : fK_isPlace x3 = 0 := by unfold fK_isPlace; rw [if_pos h]
    rw [e, if_pos (show (0 : Int32) = 0 from rfl), if_pos h]; exact ⟨_, _, _, _, rfl, rfl, hO, hR, hM⟩
  · have h0 : ¬ x3 < 0 := by
      intro q
      rw [Int32.lt_iff_toInt_lt, Int32.toInt_zero] at q
      rw [Int32.le_iff_toInt_le, nI_toInt (by omega)] at h
      omega
    have h8 : ¬ x3 < 4 := by
      intro q
      rw [Int32.lt_iff_toInt_lt] at q
      rw [Int32.le_iff_toInt_le] at h
      have : (nI 4).toInt = (4 : Int32).toInt := rfl
      omega
    have e : fK_isPlace x3 = 0 := by unfold fK_isPlace; rw [if_neg h0, if_pos (show (4 : Int32) ≤ x3 from h)]
    rw [e, if_pos (show (0 : Int32) = 0 from rfl), if_neg h0, if_neg h8]; exact ⟨_, _, _, _, rfl, rfl, hO, hR, hM⟩
  have e : fK_isPlace (nI p) = 1 := by
    unfold fK_isPlace
    rw [if_neg (nI_pos (by omega)), if_neg (show ¬ (4 : Int32) ≤ nI p by rw [show (4 : Int32) = nI 4 from rfl, nI_leI (by omega) (by omega)]; omega)]
  have hg := hO.2.1 c hc
  have h20 := hO.2.2.2.2.1 (gr c) hg.1
  have h100 := hO.2.2.2.1
  have hpl : (-1 : Int32) = plI 4 := rfl
  rw [e, if_neg one_ne, if_neg (nI_pos (by omega)), if_pos (show nI p < 4 by rw [show (4 : Int32) = nI 4 from rfl, nI_ltI (by omega) (by omega)]; omega), grK hO hR hc, grM hO hM hc, show (4 : Int32) = nI 4 from rfl]
  simp only [Option.bind_some]
  rw [sizeK hO hR (show 4 < 5 by omega) hg.1 hg.2, show fM_inGroup fu k2 σ2 (nI (gr c)) (-1) (-1) = _ from igM hO hM hfu (show 4 < 5 by omega) (by omega), show fM_inAll fu k2 σ2 (-1) = _ from iaM hO hM hfu (show 4 < 5 by omega), show kK_n k 1 = 5 from by rw [hR.1]; rfl, kld_n (show 4 < 5 by omega) (by omega), hR.2.2.2.1 4 (by omega)]
  simp only [Option.bind_some]
  by_cases q1 : (20 : Int32) ≤ nI (gT C A gr ct 4 (gr c))
  · rw [if_pos q1, if_pos q1]; exact ⟨_, _, _, _, rfl, rfl, hO, hR, hM⟩
  rw [if_neg q1, if_neg q1]
  by_cases q2 : nI (tt C A ct 4) < (100 : Int32)
  rotate_left
  · rw [if_neg q2, if_neg q2]; exact ⟨_, _, _, _, rfl, rfl, hO, hR, hM⟩
  rw [if_pos q2, if_pos q2]
  rw [show (20 : Int32) = nI 20 from rfl, nI_leI (by omega) (by omega)] at q1
  rw [show (100 : Int32) = nI 100 from rfl, nI_ltI (by omega) (by omega)] at q2
  obtain ⟨r1, r2, r3, r4, r5, r6, r7, r8, r9, r10, r11, r12, r13⟩ := id hR
  obtain ⟨m1, m2, m3, m4, m5, m6, m7, m8, m9⟩ := id hM
  obtain ⟨a1, a2, a3, a4, g0, g1, g2, g3, g4⟩ := cntK (gr := gr) (row := p) (c := c) (a := a) r1 hC.2.1 hC.2.2.2.1 r3 r4 r5 r6 (by omega) hc ha (r7 c hc) hg
  rw [g0]
  simp only [Option.bind_some]
  obtain ⟨b1, b2, b3, b4, t0, t1, t2, t3, t4⟩ := cntK (σ := uK_groupSize (uK_groupReadings (uK_rowSize (uK_readings σ a1) a2) a3) a4) (gr := gr) (row := 4) (c := c) (a := a) r1 hC.2.1 hC.2.2.2.1 g1 g2 g3 g4 (by omega) hc ha (r7 c hc) hg
  rw [t0, at_n, show kM_n k2 0 = 240 from by rw [m1]; rfl, kld_n (show 60 * p + 6 * c + a < 240 by omega) (by omega), m3 p c a hp hc ha]
  simp only [Option.bind_some]
  rw [nI_1, kstI_n (show 60 * p + 6 * c + a < 240 by omega) (by omega)]
  simp only [Option.bind_some]
  refine ⟨_, _, _, bump ct p c a, rfl, rfl, ?_, ?_, ?_⟩
  · obtain ⟨o1, o2, o3, o4, o5, o6, o7, o8⟩ := hO
    refine ⟨o1, o2, o3, ?_, fun g hg2 => ?_, o6, o7, o8⟩
    · rw [tt_bump ct hp (by omega) hc ha, if_pos (Or.inr rfl)]; omega
    · rw [gT_bump ct hp (by omega) hc ha g]
      have h5 := o5 g hg2
      split
      · rename_i q
        rw [q.2]
        omega
      · omega
  · refine ⟨r1, r2, fun r c' a' z1 z2 z3 => ?_, fun r z1 => ?_, fun r g a' z1 z2 z4 z3 => ?_, fun r g z1 z2 z4 => ?_, r7, r8, r9, r10, r11, r12, r13⟩
    · show b1 ((r * C + c') * A + a') = _
      rw [t1 r c' a' z1 z2 z3, rd_bump ct hp c a r c' a' z1]
      congr 1
      by_cases y1 : c' = c ∧ a' = a
      · by_cases y2 : r = p
        · rw [if_pos ⟨y2, y1⟩, if_neg (fun q => by omega), if_pos ⟨Or.inl y2, y1⟩]
        · by_cases y3 : r = 4
          · rw [if_neg (fun q => y2 q.1), if_pos ⟨y3, y1⟩, if_pos ⟨Or.inr y3, y1⟩]
          · rw [if_neg (fun q => y2 q.1), if_neg (fun q => y3 q.1), if_neg (fun q => q.1.elim y2 y3)]
      · rw [if_neg (fun q => y1 q.2), if_neg (fun q => y1 q.2), if_neg (fun q => y1 q.2)]
    · show b2 r = _
      rw [t2 r z1, tt_bump ct hp z1 hc ha]
      congr 1
      by_cases y2 : r = p
      · rw [if_pos y2, if_neg (by omega), if_pos (Or.inl y2)]
      · by_cases y3 : r = 4
        · rw [if_neg y2, if_pos y3, if_pos (Or.inr y3)]
        · rw [if_neg y2, if_neg y3, if_neg (fun q => q.elim y2 y3)]
    · show b3 ((r * C + g) * A + a') = _
      rw [t3 r g a' z1 z2 z4 z3, gN_bump ct hp z1 hc g a']
      congr 1
      by_cases y1 : g = gr c ∧ a' = a
      · by_cases y2 : r = p
        · rw [if_pos ⟨y2, y1⟩, if_neg (fun q => by omega), if_pos ⟨Or.inl y2, y1⟩]
        · by_cases y3 : r = 4
          · rw [if_neg (fun q => y2 q.1), if_pos ⟨y3, y1⟩, if_pos ⟨Or.inr y3, y1⟩]
          · rw [if_neg (fun q => y2 q.1), if_neg (fun q => y3 q.1), if_neg (fun q => q.1.elim y2 y3)]
      · rw [if_neg (fun q => y1 q.2), if_neg (fun q => y1 q.2), if_neg (fun q => y1 q.2)]
    · show b4 (r * C + g) = _
      rw [t4 r g z1 z2 z4, gT_bump ct hp z1 hc ha g]
      congr 1
      by_cases y1 : g = gr c
      · by_cases y2 : r = p
        · rw [if_pos ⟨y2, y1⟩, if_neg (fun q => by omega), if_pos ⟨Or.inl y2, y1⟩]
        · by_cases y3 : r = 4
          · rw [if_neg (fun q => y2 q.1), if_pos ⟨y3, y1⟩, if_pos ⟨Or.inr y3, y1⟩]
          · rw [if_neg (fun q => y2 q.1), if_neg (fun q => y3 q.1), if_neg (fun q => q.1.elim y2 y3)]
      · rw [if_neg (fun q => y1 q.2), if_neg (fun q => y1 q.2), if_neg (fun q => y1 q.2)]
  · refine ⟨m1, m2, fun p' c' a' z1 z2 z3 => ?_, m4, m5, m6, m7, m8, m9⟩
    show upd (sM_counts σ2) (60 * p + 6 * c + a) (nI (ct p c a + 1)) (60 * p' + 6 * c' + a') = nI (bump ct p c a p' c' a')
    unfold bump
    by_cases h : p' = p ∧ c' = c ∧ a' = a
    · rw [h.1, h.2.1, h.2.2, upd_s, if_pos ⟨rfl, rfl, rfl⟩]
    · rw [upd_n (by omega), if_neg h, Nat.add_zero]; exact m3 p' c' a' z1 z2 z3
end RD
