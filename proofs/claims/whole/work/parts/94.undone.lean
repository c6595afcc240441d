/-! Fractions with a sign; undone, side by side. -/
def frZ (N D : Int) (x : Int32) : Int64 := if x = 0 then (if (0 ≤ N ↔ 0 ≤ D) then lN (N.natAbs / Nat.gcd N.natAbs D.natAbs) else - lN (N.natAbs / Nat.gcd N.natAbs D.natAbs)) else lN (D.natAbs / Nat.gcd N.natAbs D.natAbs)
theorem lZ_pos {N : Int} (h : 0 ≤ N) : lZ N = lN N.natAbs := by
  rw [← lZ_n, show ((N.natAbs : Nat) : Int) = N by omega]
theorem lZ_npos {N : Int} (h : ¬ 0 ≤ N) : lZ N = - lN N.natAbs := by
  rw [← lZ_n, lZ_neg, show - ((N.natAbs : Nat) : Int) = N by omega]
theorem lZ_le0 {N : Int} (h : N.natAbs < 2 ^ 63) : (0 : Int64) ≤ lZ N ↔ 0 ≤ N := by
  rw [← lZ_0]
  exact lZ_le (by decide) h
theorem fracKn {fu a b : Nat} (hfu : 200 ≤ fu) (ha0 : 0 < a) (ha : a < 2 ^ 63) (h0 : 0 < b) (hb : b < 2 ^ 48) (x : Int32) : fK_fractionPart fu (- lN a) (lN b) x = some (if x = 0 then - lN (a / Nat.gcd a b) else lN (b / Nat.gcd a b)) := by
  have hb63 : b < 2 ^ 63 := Nat.lt_of_lt_of_le hb (by decide)
  have hneg : ¬ (0 : Int64) < - lN a := by
    rw [← lZ_n, lZ_neg, Int64.lt_iff_toInt_lt, lZ_toInt (by omega)]
    have : (0 : Int64).toInt = 0 := rfl
    omega
  have hg := gcd_p (a := a) h0
  have hgl := gcd_lt (a := a) h0 hb63
  have hdv : kdivJ (- lN a) (lN (Nat.gcd a b)) = some (- lN (a / Nat.gcd a b)) := by
    have e : ((Nat.gcd a b : Nat) : Int) * (- ((a / Nat.gcd a b : Nat) : Int)) = - (a : Int) := by
      rw [Int.mul_neg, ← Int.natCast_mul, Nat.mul_div_cancel' (Nat.gcd_dvd_left a b)]
    have q := lZ_div (P := ((Nat.gcd a b : Nat) : Int)) (q := - ((a / Nat.gcd a b : Nat) : Int)) (by omega) (by omega) (by rw [e]; omega)
    rw [e] at q
    rw [← lZ_n, ← lZ_n, ← lZ_n, lZ_neg, lZ_neg]
    exact q
  unfold fK_fractionPart fK_commonDivisor
  rw [if_neg hneg, Int64.neg_neg, show (0 : Int32) = nI 0 from rfl, gcdK 48 a b 0 fu ha hb (by omega) (by omega) (by omega)]
  simp only [Option.bind_some]
  rw [if_pos (lN_pos hg hgl), hdv, kdivJ_n hb63 hg hgl]
  show (if x = nI 0 then some _ else some _) = some (if x = nI 0 then _ else _)
  by_cases hx : x = nI 0
  · rw [if_pos hx, if_pos hx]
  · rw [if_neg hx, if_neg hx]
theorem fracKZ {fu : Nat} {N D : Int} (hfu : 200 ≤ fu) (hN : N.natAbs < 2 ^ 63) (hD0 : D ≠ 0) (hD : D.natAbs < 2 ^ 48) (x : Int32) : (if (0 : Int64) ≤ lZ D then fK_fractionPart fu (lZ N) (lZ D) x else fK_fractionPart fu (- lZ N) (- lZ D) x) = some (frZ N D x) := by
  have hD63 : D.natAbs < 2 ^ 63 := Nat.lt_of_lt_of_le hD (by decide)
  unfold frZ
  by_cases hd : 0 ≤ D
  · rw [if_pos ((lZ_le0 hD63).mpr hd), lZ_pos hd]
    by_cases hn : 0 ≤ N
    · rw [lZ_pos hn, fracK hfu hN (by omega) hD, if_pos (show (0 ≤ N ↔ 0 ≤ D) from ⟨fun _ => hd, fun _ => hn⟩)]
      rfl
    · rw [lZ_npos hn, fracKn hfu (by omega) hN (by omega) hD, if_neg (show ¬ (0 ≤ N ↔ 0 ≤ D) from fun q => hn (q.mpr hd))]
  · rw [if_neg (fun q => hd ((lZ_le0 hD63).mp q)), lZ_npos hd, Int64.neg_neg]
    by_cases hn : 0 ≤ N
    · rw [lZ_pos hn, if_neg (show ¬ (0 ≤ N ↔ 0 ≤ D) from fun q => hd (q.mp hn))]
      by_cases h0 : N.natAbs = 0
      · rw [h0, show - lN 0 = lN 0 from rfl, fracK hfu (by omega) (by omega) hD, Nat.zero_div]
        show some (if x = 0 then lN (0 / _) else _) = some (if x = 0 then - lN 0 else _)
        rw [Nat.zero_div]
        rfl
      · rw [fracKn hfu (by omega) hN (by omega) hD]
    · rw [lZ_npos hn, Int64.neg_neg, fracK hfu hN (by omega) hD, if_pos (show (0 ≤ N ↔ 0 ≤ D) from ⟨fun q => absurd q hn, fun q => absurd q hd⟩)]
      rfl
theorem fracMZ {fu : Nat} {N D : Int} (hfu : 200 ≤ fu) (hN : N.natAbs < 2 ^ 63) (hD0 : D ≠ 0) (hD63 : D.natAbs < 2 ^ 63) (x : Int32) : fM_partOf fu (lZ N) (lZ D) x = some (frZ N D x) := by
  have hg := gcd_p (a := N.natAbs) (show 0 < D.natAbs by omega)
  have hgl := gcd_lt (a := N.natAbs) (show 0 < D.natAbs by omega) hD63
  have s1 : fM_partOf fu (lZ N) (lZ D) x = fM_partOf_12 fu (lN N.natAbs) (lZ N) (lZ D) x := by
    unfold fM_partOf
    by_cases hn : 0 ≤ N
    · rw [if_pos ((lZ_le0 hN).mpr hn), ← lZ_pos hn]
    · rw [if_neg (fun q => hn ((lZ_le0 hN).mp q)), show - lZ N = lN N.natAbs from by rw [lZ_npos hn, Int64.neg_neg]]
  have s2 : fM_partOf_12 fu (lN N.natAbs) (lZ N) (lZ D) x = fM_partOf_26 fu (lN D.natAbs) (lZ N) (lZ D) x (lN N.natAbs) := by
    unfold fM_partOf_12
    by_cases hd : 0 ≤ D
    · rw [if_pos ((lZ_le0 hD63).mpr hd), ← lZ_pos hd]
    · rw [if_neg (fun q => hd ((lZ_le0 hD63).mp q)), show - lZ D = lN D.natAbs from by rw [lZ_npos hd, Int64.neg_neg]]
  have s3 : ∀ s : Int64, fM_partOf_89 fu s (lZ N) x (lN (Nat.gcd N.natAbs D.natAbs)) (lN D.natAbs) = some (if x = 0 then s * lN (N.natAbs / Nat.gcd N.natAbs D.natAbs) else lN (D.natAbs / Nat.gcd N.natAbs D.natAbs)) := by
    intro s
    have s4 : fM_partOf_110 fu s (lN N.natAbs) (lN (Nat.gcd N.natAbs D.natAbs)) = some (s * lN (N.natAbs / Nat.gcd N.natAbs D.natAbs)) := by
      unfold fM_partOf_110
      rw [kdivJ_n hN hg hgl]
      rfl
    unfold fM_partOf_89
    by_cases hx : x = 0
    · rw [if_pos hx, if_pos hx]
      by_cases hn : 0 ≤ N
      · rw [if_pos ((lZ_le0 hN).mpr hn), lZ_pos hn, s4]
      · rw [if_neg (fun q => hn ((lZ_le0 hN).mp q)), show - lZ N = lN N.natAbs from by rw [lZ_npos hn, Int64.neg_neg], s4]
    · rw [if_neg hx, if_neg hx, kdivJ_n hD63 hg hgl]
      rfl
  have m1 : ∀ z : Int64, (-1 : Int64) * z = - z := fun z => by rw [show (-1 : Int64) = - (1 : Int64) from rfl, Int64.neg_mul, Int64.one_mul]
  rw [s1, s2]
  unfold fM_partOf_26
  rw [gcdM (lZ N) (lZ D) x (lN D.natAbs) 63 N.natAbs D.natAbs fu hN hD63 (by omega) (by omega)]
  unfold frZ fM_partOf_68 fM_partOf_79
  by_cases hn : 0 ≤ N
  · rw [if_pos ((lZ_le0 hN).mpr hn)]
    by_cases hd : 0 ≤ D
    · rw [if_pos ((lZ_le0 hD63).mpr hd), if_pos (show (0 : Int32) = 0 from rfl), s3, if_pos (show (0 ≤ N ↔ 0 ≤ D) from ⟨fun _ => hd, fun _ => hn⟩), Int64.one_mul]
    · rw [if_neg (fun q => hd ((lZ_le0 hD63).mp q)), if_neg (show ¬ (0 : Int32) = 1 by decide), s3, if_neg (show ¬ (0 ≤ N ↔ 0 ≤ D) from fun q => hd (q.mp hn)), m1]
  · rw [if_neg (fun q => hn ((lZ_le0 hN).mp q))]
    by_cases hd : 0 ≤ D
    · rw [if_pos ((lZ_le0 hD63).mpr hd), if_neg (show ¬ (1 : Int32) = 0 by decide), s3, if_neg (show ¬ (0 ≤ N ↔ 0 ≤ D) from fun q => hn (q.mpr hd)), m1]
    · rw [if_neg (fun q => hd ((lZ_le0 hD63).mp q)), if_pos (show (1 : Int32) = 1 from rfl), s3, if_pos (show (0 ≤ N ↔ 0 ≤ D) from ⟨fun q => absurd q hn, fun q => absurd q hd⟩), Int64.one_mul]
section UD
variable {C A : Nat} {ct : Nat → Nat → Nat → Nat} {ch : Nat} {gr : Nat → Nat} {fl : Nat → Option Nat} {ms : Nat → Nat} {er : Nat → Nat → Nat} {ml lk : Nat → Nat} {k : kK} {σ : sK} {k2 : kM} {σ2 : sM} {fu : Nat}
theorem u51 (hO : okS C A ct ch gr fl ms er ml lk) (hR : repK k σ C A ct ch gr fl ms er ml lk) (hfu : 200 ≤ fu) (ha : all20 A er) {c t : Nat} (hc : c < C) (ht : t < A) (x3 : Int32) {D : Int} (hD0 : D ≠ 0) (hD : D.natAbs < 2 ^ 48) : ∀ (d j n : Nat) (f : Nat → Int64), j + d = A → d < n → (∀ i z, i < A → z < A → f (A * i + z) = lZ (if i = t ∧ j ≤ z then (er i z : Int) else erX er t (fun a => gN C gr ct ch (gr c) a) i z)) → ∃ f', fK_undone_51 fu k n (uK_square σ f) (nI c) (nI t) x3 (lZ D) (nI j) = some (frZ (dt A (erX er t (fun a => gN C gr ct ch (gr c) a))) D x3, uK_square σ f')
  | 0, j, n + 1, f, hj, hn, hf => by
    have hC := hO.1
    have h := szK_of hO hR
    have hg := hO.2.1 c hc
    have hT := tiny_ex (u := fun a => gN C gr ct ch (gr c) a) hO ha t (by
      rw [← gT_gN]
      exact gT_lt hO (by omega) hg.1)
    have hb := tiny_dt hT (Nat.le_refl A)
    obtain ⟨f', e1⟩ := detK (σ := σ) (f := f) h hfu hT (fun i z _ hi _ hz => by rw [hf i z hi hz, if_neg (by omega)])
    have hq := fracKZ (N := dt A (erX er t (fun a => gN C gr ct ch (gr c) a))) hfu (by omega) hD0 hD x3
    refine ⟨f', ?_⟩
    rw [fK_undone_51, if_pos ((sz_le h (by omega)).mpr (by omega)), e1]
    simp only [kbind2]
    by_cases hd : (0 : Int64) ≤ lZ D
    · rw [if_pos hd] at hq ⊢
      rw [hq]
      rfl
    · rw [if_neg hd] at hq ⊢
      rw [hq]
      rfl
  | d + 1, j, n + 1, f, hj, hn, hf => by
    have hC := hO.1
    have h := szK_of hO hR
    have hg := hO.2.1 c hc
    have hgl := gN_le C A gr ct ch (gr c) j (by omega)
    have hgt := gT_lt hO (show ch < 5 by omega) hg.1
    have hval : (20 : Int64) * (nI (gN C gr ct ch (gr c) j)).toInt64 = lZ (erX er t (fun a => gN C gr ct ch (gr c) a) t j) := by
      rw [i64 (by omega), show (20 : Int64) = lN 20 from rfl]
      unfold erX
      rw [if_pos rfl, ← lZ_n, ← lZ_n, lZ_mul]
      rfl
    obtain ⟨f', e1⟩ := u51 hO hR hfu ha hc ht x3 hD0 hD d (j + 1) n (vp_updL f (A * t + j) (lZ (erX er t (fun a => gN C gr ct ch (gr c) a) t j))) (by omega) (by omega) (fun i z hi hz => by
      unfold vp_updL
      by_cases e : i = t ∧ z = j
      · obtain ⟨rfl, rfl⟩ := e
        rw [if_pos rfl, if_neg (by omega)]
      · rw [if_neg (fun w => e ((iw_inj hz (by omega)).mp w)), hf i z hi hz]
        congr 1
        by_cases e2 : i = t ∧ j ≤ z
        · rw [if_pos e2, if_pos (by omega)]
        · rw [if_neg e2, if_neg (by omega)])
    refine ⟨f', ?_⟩
    rw [fK_undone_51, if_neg (show ¬ kK_ages k ≤ nI j by rw [sz_le h (by omega)]; omega), grK hO (rep_sq hR f) hc]
    simp only [Option.bind_some]
    rw [oaK hO (rep_sq hR f) hg.1 hg.2 (by omega)]
    simp only [Option.bind_some]
    rw [sq_st h f ht (by omega), hval]
    simp only [Option.bind_some]
    rw [sq_2, nI_1]
    exact e1
theorem op_undone (hO : okS C A ct ch gr fl ms er ml lk) (hR : repK k σ C A ct ch gr fl ms er ml lk) (hM : repM k2 σ2 C A ct ch gr fl ms er ml lk) (hfu : 200 ≤ fu) (x1 x2 x3 : Int32) : ∃ r σ' σ2', fK_undone fu k σ x1 x2 x3 = some (r, σ') ∧ fM_undone fu k2 σ2 x1 x2 x3 = some (r, σ2') ∧ repK k σ' C A ct ch gr fl ms er ml lk ∧ repM k2 σ2' C A ct ch gr fl ms er ml lk := by
  have hC := hO.1
  have hsK := szK_of hO hR
  have hsM := szM_of hO hM
  unfold fK_undone fM_undone
  rcases clsT hO hR hM x1 with ⟨c, hc, rfl, h1, h2⟩ | ⟨h1, h2⟩
  rotate_left
  · rw [h1, h2, if_pos rfl, if_pos rfl]
    exact ⟨_, _, _, rfl, rfl, hR, hM⟩
  rw [h1, h2, if_neg one_ne, if_neg one_ne]
  rcases ageT hO hR hM x2 with ⟨t, ht, rfl, h3, h4⟩ | ⟨h3, h4⟩
  rotate_left
  · rw [h3, h4, if_pos rfl, if_pos rfl]
    exact ⟨_, _, _, rfl, rfl, hR, hM⟩
  rw [h3, h4, if_neg one_ne, if_neg one_ne, partT]
  rcases part01 x3 with ⟨h5, -⟩ | h5
  rotate_left
  · rw [h5, if_pos rfl, if_pos rfl]
    exact ⟨_, _, _, rfl, rfl, hR, hM⟩
  rw [h5, if_neg one_ne, if_neg one_ne]
  rcases undo_2 hO hR hM hfu with ⟨ha, f, f2, e1, e2⟩ | ⟨e1, e2⟩
  rotate_left
  · rw [e1, e2]
    simp only [kbind2]
    rw [if_neg (show ¬ (2 : Int32) = 0 by decide), if_neg (show ¬ (2 : Int32) = 0 by decide)]
    exact ⟨_, _, _, rfl, rfl, hR, hM⟩
  rw [e1, e2]
  simp only [kbind2]
  by_cases hz : dt A (erZ er) = 0
  · rw [show unA A er = 1 from if_pos hz, if_neg one_ne, if_neg one_ne]
    exact ⟨_, _, _, rfl, rfl, hR, hM⟩
  rw [show unA A er = 0 from if_neg hz, if_pos rfl, if_pos rfl]
  have hT := tiny_er hO ha
  have hb := tiny_dt hT (Nat.le_refl A)
  have hg := hO.2.1 c hc
  have hTx := tiny_ex (u := fun a => gN C gr ct ch (gr c) a) hO ha t (by
    rw [← gT_gN]
    exact gT_lt hO (by omega) hg.1)
  have hbx := tiny_dt hTx (Nat.le_refl A)
  obtain ⟨g1, a1, a2⟩ := loadK hO hR hfu f
  obtain ⟨g2, a3⟩ := detK (σ := σ) hsK hfu hT a2
  obtain ⟨g3, a4, a5⟩ := loadK hO hR hfu g2
  obtain ⟨g4, a6⟩ := u51 (fu := fu) (D := dt A (erZ er)) hO hR hfu ha hc ht x3 hz (by omega) A 0 fu g3 (by omega) (by omega) (fun i z hi hz' => by
    rw [a5 i z (by omega) hi (by omega) hz']
    congr 1
    by_cases e : i = t ∧ 0 ≤ z
    · rw [if_pos e]
      rfl
    · rw [if_neg e]
      unfold erX
      rw [if_neg (by omega)]
      rfl)
  obtain ⟨m1, b1, b2⟩ := layM (g := gr c) (x2 := -1) (X := erZ er) hO hM hfu (by omega) (Or.inl ⟨rfl, rfl⟩) f2
  obtain ⟨m2, b3⟩ := detM (σ := σ2) hsM hfu (tiny_tr hT) b2
  rw [← dt_tr] at b3
  obtain ⟨m3, b4, b5⟩ := layM (g := gr c) (x2 := nI t) (X := erX er t (fun a => gN C gr ct ch (gr c) a)) hO hM hfu (by omega) (Or.inr ⟨t, ht, rfl, rfl⟩) m2
  obtain ⟨m4, b6⟩ := detM (σ := σ2) hsM hfu (tiny_tr hTx) b5
  rw [← dt_tr] at b6
  have b7 := fracMZ (N := dt A (erX er t (fun a => gN C gr ct ch (gr c) a))) (D := dt A (erZ er)) hfu (by omega) hz (by omega) x3
  refine ⟨frZ (dt A (erX er t (fun a => gN C gr ct ch (gr c) a))) (dt A (erZ er)) x3, uK_square σ g4, uM_cells σ2 m4, ?_, ?_, rep_sq hR g4, rep_ce hM m4⟩
  · rw [a1]
    simp only [Option.bind_some]
    rw [a3]
    simp only [kbind2]
    rw [a4]
    simp only [Option.bind_some]
    exact a6
  · rw [grM hO (rep_ce hM f2) hc]
    simp only [Option.bind_some]
    rw [b1]
    simp only [Option.bind_some]
    rw [b3]
    simp only [kbind2]
    rw [grM hO (rep_ce hM m2) hc]
    simp only [Option.bind_some]
    rw [b4]
    simp only [Option.bind_some]
    rw [b6]
    simp only [kbind2]
    rw [b7]
    rfl
end UD
