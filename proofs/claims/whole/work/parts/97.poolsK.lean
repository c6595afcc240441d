/-! The class's pools. -/
/-- ages below k that have readings -/
def kN (C : Nat) (ct : Nat → Nat → Nat → Nat) (ch k : Nat) : Nat := su (fun a => if nA C ct ch a = 0 then 0 else 1) 0 k
def pmem (f1 f2 f3 f4 : Nat → Int32) (F G H : Nat → Nat) (t : Nat) (b : Nat → Nat) : Prop := ∀ p, p < t → f1 p = nI (F (b (p + 1)) - F (b p)) ∧ f2 p = nI (G (b (p + 1)) - G (b p)) ∧ f3 p = nI (H (b (p + 1)) - H (b p)) ∧ f4 p = nI (b (p + 1) - 1)
theorem pmem_open {f1 f2 f3 f4 : Nat → Int32} {F G H : Nat → Nat} {t x : Nat} {b : Nat → Nat} (h : pmem f1 f2 f3 f4 F G H t b) {v1 v2 v3 : Int32} (e1 : v1 = nI (F (x + 1) - F (b t))) (e2 : v2 = nI (G (x + 1) - G (b t))) (e3 : v3 = nI (H (x + 1) - H (b t))) : pmem (upd f1 t v1) (upd f2 t v2) (upd f3 t v3) (upd f4 t (nI x)) F G H (t + 1) (va_up b (t + 1) (x + 1)) := by
  intro p hp
  by_cases e : p = t
  · subst e
    rw [pk_us, pk_us, pk_us, pk_us, up_eq, up_ne b _ (show p ≠ p + 1 by omega)]
    exact ⟨e1, e2, e3, rfl⟩
  · rw [pk_un e, pk_un e, pk_un e, pk_un e, up_ne b _ (show p ≠ t + 1 by omega), up_ne b _ (show p + 1 ≠ t + 1 by omega)]
    exact h p (by omega)
theorem sub3 {F : Nat → Nat} {b : Nat → Nat} {t : Nat} (h1 : F (b t) ≤ F (b (t + 1))) (h2 : F (b (t + 1)) ≤ F (b (t + 2))) : (F (b (t + 1)) - F (b t)) + (F (b (t + 2)) - F (b (t + 1))) = F (b (t + 2)) - F (b t) := by omega
theorem pmem_merge {f1 f2 f3 f4 : Nat → Int32} {F G H : Nat → Nat} {t : Nat} {b : Nat → Nat} (h : pmem f1 f2 f3 f4 F G H (t + 2) b) (m1 : F (b t) ≤ F (b (t + 1))) (m2 : F (b (t + 1)) ≤ F (b (t + 2))) (m3 : G (b t) ≤ G (b (t + 1))) (m4 : G (b (t + 1)) ≤ G (b (t + 2))) (m5 : H (b t) ≤ H (b (t + 1))) (m6 : H (b (t + 1)) ≤ H (b (t + 2))) : pmem (upd f1 t (f1 t + f1 (t + 1))) (upd f2 t (f2 t + f2 (t + 1))) (upd f3 t (f3 t + f3 (t + 1))) (upd f4 t (f4 (t + 1))) F G H (t + 1) (va_up b (t + 1) (b (t + 2))) := by
  intro p hp
  by_cases e : p = t
  · subst e
    obtain ⟨a1, a2, a3, a4⟩ := h p (by omega)
    obtain ⟨c1, c2, c3, c4⟩ := h (p + 1) (by omega)
    rw [pk_us, pk_us, pk_us, pk_us, up_eq, up_ne b _ (show p ≠ p + 1 by omega), a1, a2, a3, c1, c2, c3, c4, nI_add, nI_add, nI_add, sub3 m1 m2, sub3 m3 m4, sub3 m5 m6]
    exact ⟨rfl, rfl, rfl, rfl⟩
  · rw [pk_un e, pk_un e, pk_un e, pk_un e, up_ne b _ (show p ≠ t + 1 by omega), up_ne b _ (show p + 1 ≠ t + 1 by omega)]
    exact h p (by omega)
section KP
variable {C A : Nat} {ct : Nat → Nat → Nat → Nat} {ch : Nat} {gr : Nat → Nat} {fl : Nat → Option Nat} {ms : Nat → Nat} {er : Nat → Nat → Nat} {ml lk : Nat → Nat} {k : kK} {σ : sK} {fu : Nat}
theorem roK_l (hO : okS C A ct ch gr fl ms er ml lk) (hR : repK k σ C A ct ch gr fl ms er ml lk) {a : Nat} (ha : a < A) : ∀ (d c n acc : Nat), c + d = C → d < n → fK_readingsOfAge_4 fu k σ n (nI a) (nI acc) (nI c) = some (nI (acc + su (fun c => rd ct ch c a) c d))
  | 0, c, n + 1, acc, hc, hn => by
    have hC := hO.1
    rw [fK_readingsOfAge_4, if_pos (show kK_classes k ≤ nI c by rw [show kK_classes k = nI C from by rw [hR.1]; rfl, nI_leI (by omega) (by omega)]; omega)]
    rfl
  | d + 1, c, n + 1, acc, hc, hn => by
    have hC := hO.1
    rw [fK_readingsOfAge_4, if_neg (show ¬ kK_classes k ≤ nI c by rw [show kK_classes k = nI C from by rw [hR.1]; rfl, nI_leI (by omega) (by omega)]; omega), hR.2.1, cellK hR, show kK_n k 0 = 5 * C * A from by rw [hR.1]; rfl, kld_n (ix_lt (show ch < 5 by omega) (show c < C by omega) ha) (ca_300 hO), hR.2.2.1 ch c a (by omega) (by omega) ha]
    simp only [Option.bind_some]
    rw [nI_add, nI_1, roK_l hO hR ha d (c + 1) n (acc + rd ct ch c a) (by omega) (by omega), Nat.add_assoc]
    rfl
theorem roK (hO : okS C A ct ch gr fl ms er ml lk) (hR : repK k σ C A ct ch gr fl ms er ml lk) (hfu : 200 ≤ fu) {a : Nat} (ha : a < A) : fK_readingsOfAge fu k σ (nI a) = some (nI (nA C ct ch a)) := by
  have hC := hO.1
  have h := roK_l (fu := fu) hO hR ha C 0 fu 0 (by omega) (by omega)
  rw [Nat.zero_add] at h
  exact h
/-- the state with its four pool rows given -/
def uP (σ : sK) (f1 f2 f3 f4 : Nat → Int32) : sK := uK_poolLastAge (uK_poolAges (uK_poolSize (uK_poolSum σ f1) f2) f3) f4
theorem rep_uP (hR : repK k σ C A ct ch gr fl ms er ml lk) (f1 f2 f3 f4 : Nat → Int32) : repK k (uP σ f1 f2 f3 f4) C A ct ch gr fl ms er ml lk := hR
theorem rep_p1 (hR : repK k σ C A ct ch gr fl ms er ml lk) (f1 : Nat → Int32) : repK k (uK_poolSum σ f1) C A ct ch gr fl ms er ml lk := hR
theorem opK_l (hO : okS C A ct ch gr fl ms er ml lk) (hR : repK k σ C A ct ch gr fl ms er ml lk) (hfu : 200 ≤ fu) {a t : Nat} (ha : a < A) (ht : t < A) : ∀ (d c n acc : Nat), c + d = C → d < n → fK_openPool_5 fu k n σ (nI t) (nI a) (nI acc) (nI c) = some (uP σ (upd (sK_poolSum σ) t (nI (acc + su (fun c => c * rd ct ch c a) c d))) (upd (sK_poolSize σ) t (nI (nA C ct ch a))) (upd (sK_poolAges σ) t 1) (upd (sK_poolLastAge σ) t (nI a)))
  | 0, c, n + 1, acc, hc, hn => by
    have hC := hO.1
    rw [fK_openPool_5, if_pos (show kK_classes k ≤ nI c by rw [show kK_classes k = nI C from by rw [hR.1]; rfl, nI_leI (by omega) (by omega)]; omega), show kK_n k 9 = A from by rw [hR.1]; rfl, kstI_n ht (by omega)]
    simp only [Option.bind_some]
    rw [roK hO (rep_p1 hR _) hfu ha]
    simp only [Option.bind_some]
    rw [show kK_n k 10 = A from by rw [hR.1]; rfl, show kK_n k 11 = A from by rw [hR.1]; rfl, show kK_n k 12 = A from by rw [hR.1]; rfl, kstI_n ht (by omega)]
    simp only [Option.bind_some]
    rw [kstI_n ht (by omega)]
    simp only [Option.bind_some]
    rw [kstI_n ht (by omega)]
    rfl
  | d + 1, c, n + 1, acc, hc, hn => by
    have hC := hO.1
    rw [fK_openPool_5, if_neg (show ¬ kK_classes k ≤ nI c by rw [show kK_classes k = nI C from by rw [hR.1]; rfl, nI_leI (by omega) (by omega)]; omega), hR.2.1, cellK hR, show kK_n k 0 = 5 * C * A from by rw [hR.1]; rfl, kld_n (ix_lt (show ch < 5 by omega) (show c < C by omega) ha) (ca_300 hO), hR.2.2.1 ch c a (by omega) (by omega) ha]
    simp only [Option.bind_some]
    rw [pk_mul, nI_add, nI_1, opK_l hO hR hfu ha ht d (c + 1) n (acc + c * rd ct ch c a) (by omega) (by omega), Nat.add_assoc]
    rfl
theorem opK (hO : okS C A ct ch gr fl ms er ml lk) (hR : repK k σ C A ct ch gr fl ms er ml lk) (hfu : 200 ≤ fu) {a t : Nat} (ha : a < A) (ht : t < A) : fK_openPool fu k σ (nI t) (nI a) = some (uP σ (upd (sK_poolSum σ) t (nI (sA C ct ch a))) (upd (sK_poolSize σ) t (nI (nA C ct ch a))) (upd (sK_poolAges σ) t 1) (upd (sK_poolLastAge σ) t (nI a))) := by
  have hC := hO.1
  have h := opK_l (fu := fu) hO hR hfu ha ht C 0 fu 0 (by omega) (by omega)
  rw [Nat.zero_add] at h
  exact h
/-- what the class's pool rows hold -/
def PM (k : kK) (σ : sK) (C : Nat) (ct : Nat → Nat → Nat → Nat) (ch t : Nat) (b : Nat → Nat) : Prop := pmem (sK_poolSum σ) (sK_poolSize σ) (sK_poolAges σ) (sK_poolLastAge σ) (sF C ct ch) (sG C ct ch) (kN C ct ch) t b
theorem dnr (hO : okS C A ct ch gr fl ms er ml lk) (hR : repK k σ C A ct ch gr fl ms er ml lk) {t : Nat} (ht : t + 1 < A) {s1 s2 n1 n2 : Nat} (e1 : sK_poolSum σ t = nI s1) (e2 : sK_poolSum σ (t + 1) = nI s2) (e3 : sK_poolSize σ t = nI n1) (e4 : sK_poolSize σ (t + 1) = nI n2) (b1 : s1 ≤ 900) (b2 : s2 ≤ 900) (b3 : n1 ≤ 100) (b4 : n2 ≤ 100) : fK_doesNotRise k σ (nI (t + 1)) = some (if s1 * n2 < s2 * n1 then 0 else 1) := by
  have hC := hO.1
  have p1 : s1 * n2 ≤ 900 * 100 := Nat.mul_le_mul b1 b4
  have p2 : s2 * n1 ≤ 900 * 100 := Nat.mul_le_mul b2 b3
  unfold fK_doesNotRise
  rw [show kK_n k 9 = A from by rw [hR.1]; rfl, show kK_n k 10 = A from by rw [hR.1]; rfl, nI_pred, kld_n ht (by omega), kld_n (show t < A by omega) (by omega), kld_n (show t < A by omega) (by omega), kld_n ht (by omega), e1, e2, e3, e4]
  simp only [Option.bind_some]
  rw [pk_mul, pk_mul]
  by_cases h : s1 * n2 < s2 * n1
  · rw [if_pos (nI_lt h (by omega)), if_pos h]
  · rw [if_neg (nI_nlt (by omega) (by omega)), if_neg h]
theorem jpb (hO : okS C A ct ch gr fl ms er ml lk) (hR : repK k σ C A ct ch gr fl ms er ml lk) {t : Nat} (ht : t + 1 < A) : fK_joinWithPoolBefore k σ (nI (t + 1)) = some (uP σ (upd (sK_poolSum σ) t (sK_poolSum σ t + sK_poolSum σ (t + 1))) (upd (sK_poolSize σ) t (sK_poolSize σ t + sK_poolSize σ (t + 1))) (upd (sK_poolAges σ) t (sK_poolAges σ t + sK_poolAges σ (t + 1))) (upd (sK_poolLastAge σ) t (sK_poolLastAge σ (t + 1)))) := by
  have hC := hO.1
  unfold fK_joinWithPoolBefore
  rw [show kK_n k 9 = A from by rw [hR.1]; rfl, show kK_n k 10 = A from by rw [hR.1]; rfl, show kK_n k 11 = A from by rw [hR.1]; rfl, show kK_n k 12 = A from by rw [hR.1]; rfl, nI_pred, kld_n (show t < A by omega) (by omega), kld_n ht (by omega)]
  simp only [Option.bind_some]
  rw [kstI_n (show t < A by omega) (by omega)]
  simp only [Option.bind_some]
  rw [kld_n (show t < A by omega) (by omega), kld_n ht (by omega)]
  simp only [Option.bind_some]
  rw [kstI_n (show t < A by omega) (by omega)]
  simp only [Option.bind_some]
  rw [kld_n (show t < A by omega) (by omega), kld_n ht (by omega)]
  simp only [Option.bind_some]
  rw [kstI_n (show t < A by omega) (by omega)]
  simp only [Option.bind_some]
  rw [kld_n ht (by omega)]
  simp only [Option.bind_some]
  rw [kstI_n (show t < A by omega) (by omega)]
  rfl
theorem zF_d {i j : Nat} (h : i ≤ j) : sF C ct ch i ≤ sF C ct ch j := by
  have := su_mono (sA C ct ch) i (j - i)
  rw [show i + (j - i) = j by omega] at this
  exact this
theorem zG_d {i j : Nat} (h : i ≤ j) : sG C ct ch i ≤ sG C ct ch j := by
  have := su_mono (nA C ct ch) i (j - i)
  rw [show i + (j - i) = j by omega] at this
  exact this
theorem kN_d {i j : Nat} (h : i ≤ j) : kN C ct ch i ≤ kN C ct ch j := by
  have := su_mono (fun a => if nA C ct ch a = 0 then 0 else 1) i (j - i)
  rw [show i + (j - i) = j by omega] at this
  exact this
theorem dF_n {b : Nat → Nat} {p : Nat} (h : b p ≤ b (p + 1)) : dS (zF C ct ch) b p = ((sF C ct ch (b (p + 1)) - sF C ct ch (b p) : Nat) : Int) := by
  have := zF_d (C := C) (ct := ct) (ch := ch) h
  unfold dS zF
  omega
theorem dG_n {b : Nat → Nat} {p : Nat} (h : b p ≤ b (p + 1)) : dS (zG C ct ch) b p = ((sG C ct ch (b (p + 1)) - sG C ct ch (b p) : Nat) : Int) := by
  have := zG_d (C := C) (ct := ct) (ch := ch) h
  unfold dS zG
  omega
theorem F900 (hO : okS C A ct ch gr fl ms er ml lk) {i : Nat} (hi : i ≤ A) : sF C ct ch i ≤ 900 := by
  have := zF_900 hO hi
  unfold zF at this
  omega
theorem G100 (hO : okS C A ct ch gr fl ms er ml lk) {i : Nat} (hi : i ≤ A) : sG C ct ch i ≤ 100 := by
  have := zG_100 hO hi
  unfold zG at this
  omega
theorem mp32 (hO : okS C A ct ch gr fl ms er ml lk) {x : Nat} (hx : x < A) (h4 : sK → Int32 → Int32 → Option (Int32 × sK)) : ∀ (t n : Nat) (σ : sK) (b : Nat → Nat), t < n → t + 1 ≤ A → repK k σ C A ct ch gr fl ms er ml lk → pm (zF C ct ch) (zG C ct ch) (t + 1) (x + 1) b → slo (zF C ct ch) (zG C ct ch) t b → PM k σ C ct ch (t + 1) b →
    ∃ (σ' : sK) (t' : Nat) (b' : Nat → Nat), t' ≤ t ∧ repK k σ' C A ct ch gr fl ms er ml lk ∧ pm (zF C ct ch) (zG C ct ch) (t' + 1) (x + 1) b' ∧ slo (zF C ct ch) (zG C ct ch) (t' + 1) b' ∧ PM k σ' C ct ch (t' + 1) b' ∧ fK_makePools_32 fu k h4 n σ (nI (t + 1)) (nI x) = h4 σ' (nI (t' + 1)) (nI (x + 1))
  | 0, n + 1, σ, b, hn, htA, hR, hp, hs, hm => by
    refine ⟨σ, 0, b, Nat.le_refl _, hR, hp, fun p q => absurd q (by omega), hm, ?_⟩
    rw [fK_makePools_32, if_pos (show nI (0 + 1) ≤ 1 by decide), nI_1]
  | t + 1, n + 1, σ, b, hn, htA, hR, hp, hs, hm => by
    have hC := hO.1
    obtain ⟨a1, c1, d1, -⟩ := hp.2.2.2 t (by omega)
    obtain ⟨a2, c2, d2, -⟩ := hp.2.2.2 (t + 1) (by omega)
    have a2 : b (t + 1) < b (t + 2) := a2
    have c2 : b (t + 2) ≤ x + 1 := c2
    obtain ⟨m1, m2, -, -⟩ := hm t (by omega)
    obtain ⟨m3, m4, -, -⟩ := hm (t + 1) (by omega)
    have f1 := F900 hO (show b (t + 1) ≤ A by omega)
    have f2 := F900 hO (show b (t + 2) ≤ A by omega)
    have g1 := G100 hO (show b (t + 1) ≤ A by omega)
    have g2 := G100 hO (show b (t + 2) ≤ A by omega)
    have hd := dnr hO hR (show t + 1 < A by omega) m1 m3 m2 m4 (by omega) (by show sF C ct ch (b (t + 2)) - sF C ct ch (b (t + 1)) ≤ 900; omega) (by omega) (by show sG C ct ch (b (t + 2)) - sG C ct ch (b (t + 1)) ≤ 100; omega)
    have q1 := dF_n (C := C) (ct := ct) (ch := ch) (b := b) (p := t) (by omega)
    have q2 := dF_n (C := C) (ct := ct) (ch := ch) (b := b) (p := t + 1) (show b (t + 1) ≤ b (t + 2) by omega)
    have q3 := dG_n (C := C) (ct := ct) (ch := ch) (b := b) (p := t) (by omega)
    have q4 := dG_n (C := C) (ct := ct) (ch := ch) (b := b) (p := t + 1) (show b (t + 1) ≤ b (t + 2) by omega)
    rw [fK_makePools_32, if_neg (show ¬ nI (t + 1 + 1) ≤ 1 by rw [show (1 : Int32) = nI 1 from rfl, nI_leI (by omega) (by omega)]; omega), nI_pred, hd]
    simp only [Option.bind_some]
    by_cases hr : (sF C ct ch (b (t + 1)) - sF C ct ch (b t)) * (sG C ct ch (b (t + 1 + 1)) - sG C ct ch (b (t + 1))) < (sF C ct ch (b (t + 1 + 1)) - sF C ct ch (b (t + 1))) * (sG C ct ch (b (t + 1)) - sG C ct ch (b t))
    · rw [if_pos hr, if_pos rfl, nI_1]
      refine ⟨σ, t + 1, b, Nat.le_refl _, hR, hp, slo_rise hs ?_, hm, rfl⟩
      rw [q1, q2, q3, q4]
      exact_mod_cast hr
    · rw [if_neg hr, if_neg one_ne, jpb hO hR (show t + 1 < A by omega)]
      simp only [Option.bind_some]
      rw [pk_m1]
      have hle : dS (zF C ct ch) b (t + 1) * dS (zG C ct ch) b t ≤ dS (zF C ct ch) b t * dS (zG C ct ch) b (t + 1) := by
        rw [q1, q2, q3, q4]
        have := Nat.le_of_not_lt hr
        exact_mod_cast this
      have hp2 := pm_merge hp zG_mono hle
      have hs2 : slo (zF C ct ch) (zG C ct ch) t (va_up b (t + 1) (b (t + 2))) := slo_up (slo_less hs)
      have hm2 := pmem_merge hm (zF_d (C := C) (ct := ct) (ch := ch) (show b t ≤ b (t + 1) by omega)) (zF_d (show b (t + 1) ≤ b (t + 2) by omega)) (zG_d (show b t ≤ b (t + 1) by omega)) (zG_d (show b (t + 1) ≤ b (t + 2) by omega)) (kN_d (show b t ≤ b (t + 1) by omega)) (kN_d (show b (t + 1) ≤ b (t + 2) by omega))
      obtain ⟨σ', t', b', r1, r2, r3, r4, r5, r6⟩ := mp32 hO hx h4 t n (uP σ (upd (sK_poolSum σ) t (sK_poolSum σ t + sK_poolSum σ (t + 1))) (upd (sK_poolSize σ) t (sK_poolSize σ t + sK_poolSize σ (t + 1))) (upd (sK_poolAges σ) t (sK_poolAges σ t + sK_poolAges σ (t + 1))) (upd (sK_poolLastAge σ) t (sK_poolLastAge σ (t + 1)))) (va_up b (t + 1) (b (t + 2))) (by omega) (by omega) (rep_uP hR _ _ _ _) hp2 hs2 hm2
      exact ⟨σ', t', b', by omega, r2, r3, r4, r5, r6⟩
theorem kN_s (i : Nat) : kN C ct ch (i + 1) = kN C ct ch i + (if nA C ct ch i = 0 then 0 else 1) := su_d _ i
theorem sF_s (i : Nat) : sF C ct ch (i + 1) = sF C ct ch i + sA C ct ch i := su_d _ i
theorem sG_s (i : Nat) : sG C ct ch (i + 1) = sG C ct ch i + nA C ct ch i := su_d _ i
theorem kN_tail {i : Nat} : ∀ d : Nat, sG C ct ch (i + d) = sG C ct ch i → kN C ct ch (i + d) = kN C ct ch i
  | 0, _ => rfl
  | d + 1, h => by
    have h1 : sG C ct ch (i + d + 1) = sG C ct ch i := h
    rw [sG_s] at h1
    have h2 := zG_d (C := C) (ct := ct) (ch := ch) (show i ≤ i + d by omega)
    show kN C ct ch (i + d + 1) = _
    rw [kN_s, if_pos (by omega), kN_tail d (by omega), Nat.add_zero]
theorem mp4 (hO : okS C A ct ch gr fl ms er ml lk) (hfu : 200 ≤ fu) : ∀ (d x n : Nat) (σ : sK) (t : Nat) (b : Nat → Nat), x + d = A → d < n → t ≤ x → repK k σ C A ct ch gr fl ms er ml lk → pm (zF C ct ch) (zG C ct ch) t x b → slo (zF C ct ch) (zG C ct ch) t b → PM k σ C ct ch t b →
    ∃ (σ' : sK) (t' : Nat) (b' : Nat → Nat), t' ≤ A ∧ repK k σ' C A ct ch gr fl ms er ml lk ∧ pm (zF C ct ch) (zG C ct ch) t' A b' ∧ slo (zF C ct ch) (zG C ct ch) t' b' ∧ PM k σ' C ct ch t' b' ∧ fK_makePools_4 fu k n σ (nI t) (nI x) = some (nI t', σ')
  | 0, x, n + 1, σ, t, b, hx, hn, ht, hR, hp, hs, hm => by
    have h := szK_of hO hR
    have : x = A := by omega
    subst this
    refine ⟨σ, t, b, ht, hR, hp, hs, hm, ?_⟩
    rw [fK_makePools_4, if_pos ((sz_le h (Nat.le_refl _)).mpr (Nat.le_refl _))]
  | d + 1, x, n + 1, σ, t, b, hx, hn, ht, hR, hp, hs, hm => by
    have hC := hO.1
    have h := szK_of hO hR
    have hn100 := nA_100 hO (show x < A by omega)
    rw [fK_makePools_4, if_neg (show ¬ kK_ages k ≤ nI x by rw [sz_le h (by omega)]; omega), roK hO hR hfu (show x < A by omega)]
    simp only [Option.bind_some]
    by_cases h0 : nA C ct ch x = 0
    · rw [h0, if_pos nI_zero, nI_1]
      refine mp4 hO hfu d (x + 1) n σ t b (by omega) (by omega) (by omega) hR (pm_skip hp ?_ ?_) hs hm
      · rw [zF_s, sA_0 h0]; simp
      · rw [zG_s, h0]; simp
    · rw [if_neg (nI_ne0 (by omega) (by omega)), opK hO hR hfu (show x < A by omega) (show t < A by omega)]
      simp only [Option.bind_some]
      rw [nI_1]
      have hp2 := pm_open hp (show zG C ct ch x < zG C ct ch (x + 1) by rw [zG_s]; omega)
      obtain ⟨t1, t2⟩ := hp.2.2.1 x hp.2.1 (Nat.le_refl x)
      have t1 : sF C ct ch x = sF C ct ch (b t) := by unfold zF at t1; omega
      have t2 : sG C ct ch x = sG C ct ch (b t) := by unfold zG at t2; omega
      have t3 : kN C ct ch x = kN C ct ch (b t) := by
        have hb := hp.2.1
        have := kN_tail (C := C) (ct := ct) (ch := ch) (i := b t) (x - b t) (by rw [show b t + (x - b t) = x by omega]; exact t2)
        rwa [show b t + (x - b t) = x by omega] at this
      have hm2 := pmem_open (x := x) hm (v1 := nI (sA C ct ch x)) (v2 := nI (nA C ct ch x)) (v3 := 1) (by rw [sF_s, t1, Nat.add_sub_cancel_left]) (by rw [sG_s, t2, Nat.add_sub_cancel_left]) (by rw [kN_s, if_neg h0, t3, Nat.add_sub_cancel_left]; rfl)
      obtain ⟨σ', t', b', r1, r2, r3, r4, r5, r6⟩ := mp32 (fu := fu) hO (show x < A by omega) (fK_makePools_4 fu k n) t fu (uP σ (upd (sK_poolSum σ) t (nI (sA C ct ch x))) (upd (sK_poolSize σ) t (nI (nA C ct ch x))) (upd (sK_poolAges σ) t 1) (upd (sK_poolLastAge σ) t (nI x))) (va_up b (t + 1) (x + 1)) (by omega) (by omega) (rep_uP hR _ _ _ _) hp2 (slo_up hs) hm2
      rw [r6]
      exact mp4 hO hfu d (x + 1) n σ' (t' + 1) b' (by omega) (by omega) (by omega) r2 r3 r4 r5
theorem mkP (hO : okS C A ct ch gr fl ms er ml lk) (hR : repK k σ C A ct ch gr fl ms er ml lk) (hfu : 200 ≤ fu) : ∃ (σ' : sK) (t : Nat) (b : Nat → Nat), t ≤ A ∧ repK k σ' C A ct ch gr fl ms er ml lk ∧ pm (zF C ct ch) (zG C ct ch) t A b ∧ slo (zF C ct ch) (zG C ct ch) t b ∧ PM k σ' C ct ch t b ∧ fK_makePools fu k σ = some (nI t, σ') := by
  have hC := hO.1
  exact mp4 hO hfu A 0 fu σ 0 (fun _ => 0) (by omega) (by omega) (by omega) hR (pm_0 0 (fun k hk => by rw [show k = 0 by omega]) (fun k hk => by rw [show k = 0 by omega]) _ rfl) (fun p q => absurd q (by omega)) (fun p q => absurd q (by omega))
theorem po25 (hO : okS C A ct ch gr fl ms er ml lk) (hR : repK k σ C A ct ch gr fl ms er ml lk) {t : Nat} {b : Nat → Nat} (htA : t ≤ A) (hp : pm (zF C ct ch) (zG C ct ch) t A b) (hm : PM k σ C ct ch t b) {a : Nat} (ha : a < A) (hn : 0 < nA C ct ch a) : ∀ (d p n : Nat), p + d = t → d < n → b p ≤ a → ∃ q, q < t ∧ b q ≤ a ∧ a < b (q + 1) ∧ fK_poolOf_25 fu k n σ (nI a) (nI t) (nI p) = some (nI q, σ)
  | 0, p, n + 1, hpd, hnn, hb => by
    have : p = t := by omega
    subst this
    obtain ⟨-, q1⟩ := hp.2.2.1 a hb (by omega)
    obtain ⟨-, q2⟩ := hp.2.2.1 (a + 1) (by omega) (by omega)
    rw [zG_s] at q2
    exact absurd hn (by omega)
  | d + 1, p, n + 1, hpd, hnn, hb => by
    have hC := hO.1
    obtain ⟨a1, c1, -, -⟩ := hp.2.2.2 p (by omega)
    obtain ⟨-, -, -, m4⟩ := hm p (by omega)
    rw [fK_poolOf_25, if_neg (nI_ge (show p < t by omega) (by omega)), show kK_n k 12 = A from by rw [hR.1]; rfl, kld_n (show p < A by omega) (by omega), m4]
    simp only [Option.bind_some]
    by_cases hl : b (p + 1) ≤ a
    · rw [if_pos (nI_lt (show b (p + 1) - 1 < a by omega) (by omega)), nI_1]
      exact po25 hO hR htA hp hm ha hn d (p + 1) n (by omega) (by omega) hl
    · rw [if_neg (nI_nlt (show a ≤ b (p + 1) - 1 by omega) (by omega))]
      exact ⟨p, by omega, hb, by omega, rfl⟩
theorem poK (hO : okS C A ct ch gr fl ms er ml lk) (hR : repK k σ C A ct ch gr fl ms er ml lk) (hfu : 200 ≤ fu) {a : Nat} (ha : a < A) (hi : fK_isAge k (nI a) = 1) (hn : 0 < nA C ct ch a) : ∃ (σ' : sK) (t : Nat) (b : Nat → Nat) (q : Nat), t ≤ A ∧ repK k σ' C A ct ch gr fl ms er ml lk ∧ pm (zF C ct ch) (zG C ct ch) t A b ∧ slo (zF C ct ch) (zG C ct ch) t b ∧ PM k σ' C ct ch t b ∧ q < t ∧ b q ≤ a ∧ a < b (q + 1) ∧ fK_poolOf fu k σ (nI a) = some (nI q, σ') := by
  have hC := hO.1
  have hn100 := nA_100 hO ha
  obtain ⟨σ', t, b, h1, h2, h3, h4, h5, h6⟩ := mkP (σ := σ) hO hR hfu
  obtain ⟨q, q1, q2, q3, q4⟩ := po25 (fu := fu) hO h2 h1 h3 h5 ha hn t 0 fu (by omega) (by omega) (by rw [h3.1]; omega)
  refine ⟨σ', t, b, q, h1, h2, h3, h4, h5, q1, q2, q3, ?_⟩
  unfold fK_poolOf
  rw [hi, if_neg one_ne, roK hO hR hfu ha]
  simp only [Option.bind_some]
  rw [if_neg (nI_ne0 hn (by omega)), h6]
  simp only [kbind2]
  exact q4
end KP
