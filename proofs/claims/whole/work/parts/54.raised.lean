/-! raised, sums. -/
def PP : Nat := 232792560
section RA
variable {C A : Nat} {ct : Nat → Nat → Nat → Nat} {ch : Nat} {gr : Nat → Nat} {fl : Nat → Option Nat} {ms : Nat → Nat} {er : Nat → Nat → Nat} {ml lk : Nat → Nat} {k : kK} {σ : sK} {k2 : kM} {σ2 : sM} {fu : Nat}
/-- a group's share of an age, times PP -/
def csA (C A : Nat) (gr : Nat → Nat) (ct : Nat → Nat → Nat → Nat) (fl : Nat → Option Nat) (ch g a : Nat) : Nat := match srcA C A gr ct fl ch g with
  | none => 0
  | some s => gN C gr ct ch s a * (PP / gT C A gr ct ch s)
def moF (C A : Nat) (gr : Nat → Nat) (ct : Nat → Nat → Nat → Nat) (fl : Nat → Option Nat) (ms : Nat → Nat) (ch a c : Nat) : Nat := if ms c = 0 then 0 else ms c * csA C A gr ct fl ch (gr c) a
def MO (C A : Nat) (gr : Nat → Nat) (ct : Nat → Nat → Nat → Nat) (fl : Nat → Option Nat) (ms : Nat → Nat) (ch a : Nat) : Nat := su (moF C A gr ct fl ms ch a) 0 C
def okc (C A : Nat) (gr : Nat → Nat) (ct : Nat → Nat → Nat → Nat) (fl : Nat → Option Nat) (ms : Nat → Nat) (ch c : Nat) : Prop := ms c = 0 ∨ ¬ srcA C A gr ct fl ch (gr c) = none
theorem csA_le (hO : okS C A ct ch gr fl ms er ml lk) {g a : Nat} (ha : a < A) : csA C A gr ct fl ch g a ≤ PP := by
  unfold csA
  split
  · exact Nat.zero_le _
  · rename_i s _
    exact Nat.le_trans (Nat.mul_le_mul_right _ (gN_le C A gr ct ch s a ha)) (Nat.mul_div_le PP _)
theorem MO_le (hO : okS C A ct ch gr fl ms er ml lk) {a : Nat} (ha : a < A) : MO C A gr ct fl ms ch a ≤ PP * su ms 0 C := by
  rw [← su_mul]
  refine su_le C 0 (fun c _ _ => ?_)
  unfold moF
  split
  · exact Nat.zero_le _
  · rw [Nat.mul_comm PP]
    exact Nat.mul_le_mul_left _ (csA_le hO ha)
theorem csK (hO : okS C A ct ch gr fl ms er ml lk) (hR : repK k σ C A ct ch gr fl ms er ml lk) {g a : Nat} (hg : g < C) (hgg : gr g = g) (ha : a < A) : fK_commonShare k σ (nI g) (nI a) = some (lN (csA C A gr ct fl ch g a)) := by
  have hC := hO.1
  unfold fK_commonShare csA
  rw [srcK hO hR hg hgg]
  simp only [Option.bind_some]
  cases hs : srcA C A gr ct fl ch g with
  | none => rfl
  | some s =>
    have h1 := srcA_ok hO hg hgg hs
    have h20 := gT_lt hO (show ch < 5 by omega) h1.1
    have hle := gN_le C A gr ct ch s a ha
    rw [show oI (some s) = nI s from rfl, if_neg (show ¬ nI s = -1 from m1_ne (by omega)), ownK hO hR h1.1 h1.2.1, oaK hO hR h1.1 h1.2.1 ha]
    simp only [Option.bind_some]
    rw [if_neg (show ¬ nI (gT C A gr ct ch s) ≤ 0 by rw [pos_n (by omega)]; omega), i64 (by omega), i64 (by omega), show (232792560 : Int64) = lN PP from rfl, kdivJ_n (by decide) h1.2.2 (by omega)]
    simp only [Option.bind_some]
    rw [lN_mul]
theorem msK (hO : okS C A ct ch gr fl ms er ml lk) (hR : repK k σ C A ct ch gr fl ms er ml lk) {c : Nat} (hc : c < C) : kld (kK_n k 6) (sK_measured σ) (nI c) = some (lN (ms c)) := by
  have hC := hO.1
  rw [show kK_n k 6 = C from by rw [hR.1]; rfl, kld_n hc (by omega), hR.2.2.2.2.2.2.2.2.1 c hc]
theorem msM (hO : okS C A ct ch gr fl ms er ml lk) (hM : repM k2 σ2 C A ct ch gr fl ms er ml lk) {c : Nat} (hc : c < C) : kld (kM_n k2 3) (sM_measured σ2) (nI c) = some (lN (ms c)) := by
  have hC := hO.1
  rw [show kM_n k2 3 = 10 from by rw [hM.1]; rfl, kld_n (show c < 10 by omega) (by omega), hM.2.2.2.2.2.1 c hc]
theorem ms_lt (hO : okS C A ct ch gr fl ms er ml lk) {c : Nat} (hc : c < C) : ms c ≤ 10000 := Nat.le_trans (su_mem (g := ms) C 0 c (by omega) (by omega)) hO.2.2.2.2.2.1
theorem ms0 {n : Nat} (h : n ≤ 10000) : (lN n ≤ 0 ↔ n = 0) ∧ (lN n = 0 ↔ n = 0) := by
  rw [← lN_zero, pk_lLE (by omega) (by omega), pk_lEQ (by omega) (by omega)]
  omega
theorem moK (hO : okS C A ct ch gr fl ms er ml lk) (hR : repK k σ C A ct ch gr fl ms er ml lk) {a : Nat} (ha : a < A) : ∀ (d c acc n : Nat), c + d = C → d < n → fK_measuredOfAge_5 fu k σ n (nI a) (lN acc) (nI c) = some (lN (acc + su (moF C A gr ct fl ms ch a) c d))
  | 0, c, acc, n + 1, hc, hn => by
    have hC := hO.1
    rw [fK_measuredOfAge_5, if_pos ((leC (b := 0) hR.1 (by omega) (by omega)).mpr (by omega))]; rfl
  | d + 1, c, acc, n + 1, hc, hn => by
    have hC := hO.1
    have hcC : c < C := by omega
    have hg := hO.2.1 c hcC
    have hm := ms_lt hO hcC
    rw [fK_measuredOfAge_5, if_neg (show ¬ kK_classes k ≤ nI c by rw [leC (b := 0) hR.1 (by omega) (by omega)]; omega), msK hO hR hcC, grK hO hR hcC]
    simp only [Option.bind_some]
    rw [csK hO hR hg.1 hg.2 ha]
    simp only [Option.bind_some]
    rw [nI_1]
    have e : su (moF C A gr ct fl ms ch a) c (d + 1) = moF C A gr ct fl ms ch a c + su (moF C A gr ct fl ms ch a) (c + 1) d := rfl
    rw [e]
    unfold moF
    by_cases h : ms c = 0
    · rw [if_pos ((ms0 hm).1.mpr h), if_pos h, Nat.zero_add]
      exact moK hO hR ha d (c + 1) acc n (by omega) (by omega)
    · rw [if_neg (show ¬ lN (ms c) ≤ 0 by rw [(ms0 hm).1]; exact h), if_neg h, lN_mul, lN_add, ← Nat.add_assoc]
      exact moK hO hR ha d (c + 1) _ n (by omega) (by omega)
theorem crK (hO : okS C A ct ch gr fl ms er ml lk) (hR : repK k σ C A ct ch gr fl ms er ml lk) : ∀ (d c n : Nat), c + d = C → d < n → ((∀ j, c ≤ j → j < C → okc C A gr ct fl ms ch j) → fK_canRaise_27 fu k σ n (nI c) = some 1) ∧ ((∃ j, c ≤ j ∧ j < C ∧ ¬ okc C A gr ct fl ms ch j) → fK_canRaise_27 fu k σ n (nI c) = some 0)
  | 0, c, n + 1, hc, hn => by
    have hC := hO.1
    rw [fK_canRaise_27, if_pos ((leC (b := 0) hR.1 (by omega) (by omega)).mpr (by omega))]
    exact ⟨fun _ => rfl, fun ⟨j, h1, h2, _⟩ => absurd h2 (by omega)⟩
  | d + 1, c, n + 1, hc, hn => by
    have hC := hO.1
    have hcC : c < C := by omega
    have hg := hO.2.1 c hcC
    have hm := ms_lt hO hcC
    have ih := crK hO hR d (c + 1) n (by omega) (by omega)
    rw [fK_canRaise_27, if_neg (show ¬ kK_classes k ≤ nI c by rw [leC (b := 0) hR.1 (by omega) (by omega)]; omega), msK hO hR hcC, grK hO hR hcC]
    simp only [Option.bind_some]
    rw [srcK hO hR hg.1 hg.2]
    simp only [Option.bind_some]
    rw [nI_1]
    have step : okc C A gr ct fl ms ch c → ((∀ j, c ≤ j → j < C → okc C A gr ct fl ms ch j) → fK_canRaise_27 fu k σ n (nI (c + 1)) = some 1) ∧ ((∃ j, c ≤ j ∧ j < C ∧ ¬ okc C A gr ct fl ms ch j) → fK_canRaise_27 fu k σ n (nI (c + 1)) = some 0) := fun hok => ⟨fun h => ih.1 (fun j q1 q2 => h j (by omega) q2), fun ⟨j, q1, q2, q3⟩ => ih.2 ⟨j, by
      rcases Nat.eq_or_lt_of_le q1 with q | q
      · subst q; exact absurd hok q3
      · exact q, q2, q3⟩⟩
    have hsb : ∀ b, srcA C A gr ct fl ch (gr c) = some b → b < 2 ^ 31 := fun b hb => by have := (srcA_ok hO hg.1 hg.2 hb).1; omega
    by_cases h : ms c = 0
    · rw [if_pos ((ms0 hm).1.mpr h)]
      exact step (Or.inl h)
    · rw [if_neg (show ¬ lN (ms c) ≤ 0 by rw [(ms0 hm).1]; exact h)]
      by_cases h1 : srcA C A gr ct fl ch (gr c) = none
      · rw [if_pos ((oI_none hsb).mpr h1)]
        exact ⟨fun q => absurd (q c (Nat.le_refl c) hcC) (fun w => w.elim h (fun w => w h1)), fun _ => rfl⟩
      · rw [if_neg (show ¬ oI (srcA C A gr ct fl ch (gr c)) = -1 by rw [oI_none hsb]; exact h1)]
        exact step (Or.inr h1)
/-- the reference's loop -/
theorem rM_loop (hO : okS C A ct ch gr fl ms er ml lk) (hfu : 200 ≤ fu) {a N : Nat} (ha : a < A) {B : Int64} : ∀ (d c n acc : Nat) (σ2 : sM), repM k2 σ2 C A ct ch gr fl ms er ml lk → c + d = C → d + 1 < n → sM_above σ2 = lN acc → sM_below σ2 = B → ∃ σ', repM k2 σ' C A ct ch gr fl ms er ml lk ∧ sM_below σ' = B ∧ ((∀ j, c ≤ j → j < C → okc C A gr ct fl ms ch j) → fM_raise_59 fu k2 n σ2 (lN N) (nI a) 1 (nI c) = some (1, σ') ∧ sM_above σ' = lN (acc + N * su (moF C A gr ct fl ms ch a) c d)) ∧ ((∃ j, c ≤ j ∧ j < C ∧ ¬ okc C A gr ct fl ms ch j) → fM_raise_59 fu k2 n σ2 (lN N) (nI a) 1 (nI c) = some (0, σ'))
  | 0, c, n + 1, acc, σ2, hM, hc, hn, h1, h2 => by
    have hC := hO.1
    rw [fM_raise_59, if_pos (show kM_classes k2 ≤ nI c by rw [show kM_classes k2 = nI C from by rw [hM.1]; rfl, nI_leI (by omega) (by omega)]; omega)]
    exact ⟨σ2, hM, h2, fun _ => ⟨rfl, by rw [h1]; rfl⟩, fun ⟨j, q1, q2, _⟩ => absurd q2 (by omega)⟩
  | d + 1, c, n + 1, acc, σ2, hM, hc, hn, h1, h2 => by
    have hC := hO.1
    have hcC : c < C := by omega
    have hg := hO.2.1 c hcC
    have hm := ms_lt hO hcC
    have hsb : ∀ b, srcA C A gr ct fl ch (gr c) = some b → b < 2 ^ 31 := fun b hb => by have := (srcA_ok hO hg.1 hg.2 hb).1; omega
    rw [fM_raise_59, if_neg (show ¬ kM_classes k2 ≤ nI c by rw [show kM_classes k2 = nI C from by rw [hM.1]; rfl, nI_leI (by omega) (by omega)]; omega), if_neg one_ne, msM hO hM hcC, grM hO hM hcC]
    simp only [Option.bind_some]
    rw [srcM hO hM hfu hg.1]
    simp only [Option.bind_some]
    unfold fM_raise_100 fM_raise_120 fM_raise_125
    rw [msM hO hM hcC, nI_1]
    simp only [Option.bind_some]
    have e : su (moF C A gr ct fl ms ch a) c (d + 1) = moF C A gr ct fl ms ch a c + su (moF C A gr ct fl ms ch a) (c + 1) d := rfl
    have up : okc C A gr ct fl ms ch c → (∃ j, c ≤ j ∧ j < C ∧ ¬ okc C A gr ct fl ms ch j) → ∃ j, c + 1 ≤ j ∧ j < C ∧ ¬ okc C A gr ct fl ms ch j := fun hok ⟨j, q1, q2, q3⟩ => ⟨j, by
      rcases Nat.eq_or_lt_of_le q1 with q | q
      · subst q; exact absurd hok q3
      · exact q, q2, q3⟩
    by_cases h : ms c = 0
    · have hz := (ms0 hm).2.mpr h
      simp only [hz, if_true]
      obtain ⟨σ', z1, z2, z3, z4⟩ := rM_loop hO hfu ha d (c + 1) n acc σ2 hM (by omega) (by omega) h1 h2
      refine ⟨σ', z1, z2, fun q => ?_, fun q => z4 (up (Or.inl h) q)⟩
      obtain ⟨w1, w2⟩ := z3 (fun j q1 q2 => q j (by omega) q2)
      refine ⟨w1, ?_⟩
      rw [w2, e]
      unfold moF
      rw [if_pos h, Nat.zero_add]
    · have hne : ¬ lN (ms c) = 0 := by rw [(ms0 hm).2]; exact h
      rw [if_neg hne]
      cases hs : srcA C A gr ct fl ch (gr c) with
      | none =>
        simp only [show oI none = (-1 : Int32) from rfl, hne, if_true, if_false]
        refine ⟨σ2, hM, h2, fun q => absurd (q c (Nat.le_refl c) hcC) (fun w => w.elim h (fun w => w hs)), fun _ => ?_⟩
        obtain ⟨n2, rfl⟩ : ∃ n2, n = n2 + 1 := ⟨n - 1, by omega⟩
        rw [fM_raise_59]
        split
        · rfl
        · rfl
      | some s =>
        have h9 := srcA_ok hO hg.1 hg.2 hs
        have h20 := gT_lt hO (show ch < 5 by omega) h9.1
        have hle := gN_le C A gr ct ch s a ha
        rw [show oI (some s) = nI s from rfl, if_neg (show ¬ nI s = -1 from m1_ne (by omega)), if_neg (show ¬ nI s = -1 from m1_ne (by omega)), hM.2.1, igMa hO hM hfu (show ch < 5 by omega) (by omega) ha, ownM hO hM hfu (by omega)]
        simp only [Option.bind_some]
        rw [i64 (by omega), i64 (by omega), show (232792560 : Int64) = lN PP from rfl, kdivJ_n (by decide) h9.2.2 (by omega)]
        simp only [Option.bind_some]
        rw [lN_mul, lN_mul, lN_mul, h1, lN_add]
        obtain ⟨σ', z1, z2, z3, z4⟩ := rM_loop hO hfu ha d (c + 1) n (acc + N * ms c * (gN C gr ct ch s a * (PP / gT C A gr ct ch s))) (uM_above σ2 (lN (acc + N * ms c * (gN C gr ct ch s a * (PP / gT C A gr ct ch s))))) hM (by omega) (by omega) rfl h2
        refine ⟨σ', z1, z2, fun q => ?_, fun q => z4 (up (Or.inr (by rw [hs]; simp)) q)⟩
        obtain ⟨w1, w2⟩ := z3 (fun j q1 q2 => q j (by omega) q2)
        refine ⟨w1, ?_⟩
        rw [w2, e]
        have e2 : moF C A gr ct fl ms ch a c = ms c * (gN C gr ct ch s a * (PP / gT C A gr ct ch s)) := by
          unfold moF csA
          rw [if_neg h, hs]
        rw [e2, Nat.mul_add, Nat.mul_assoc N, Nat.add_assoc]
end RA
