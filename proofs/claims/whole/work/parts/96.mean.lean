/-! Readings and classes of an age; the reference's mean. -/
def nA (C : Nat) (ct : Nat → Nat → Nat → Nat) (ch a : Nat) : Nat := su (fun c => rd ct ch c a) 0 C
def sA (C : Nat) (ct : Nat → Nat → Nat → Nat) (ch a : Nat) : Nat := su (fun c => c * rd ct ch c a) 0 C
/-- sums over the ages below k -/
def sF (C : Nat) (ct : Nat → Nat → Nat → Nat) (ch k : Nat) : Nat := su (sA C ct ch) 0 k
def sG (C : Nat) (ct : Nat → Nat → Nat → Nat) (ch k : Nat) : Nat := su (nA C ct ch) 0 k
def zF (C : Nat) (ct : Nat → Nat → Nat → Nat) (ch k : Nat) : Int := (sF C ct ch k : Int)
def zG (C : Nat) (ct : Nat → Nat → Nat → Nat) (ch k : Nat) : Int := (sG C ct ch k : Int)
theorem su_d (g : Nat → Nat) (k : Nat) : su g 0 (k + 1) = su g 0 k + g k := by rw [su_snoc, Nat.zero_add]
theorem su_mono (g : Nat → Nat) (i : Nat) : ∀ d : Nat, su g 0 i ≤ su g 0 (i + d)
  | 0 => Nat.le_refl _
  | d + 1 => by
    have := su_mono g i d
    show su g 0 i ≤ su g 0 (i + d + 1)
    rw [su_d]; omega
section MN
variable {C A : Nat} {ct : Nat → Nat → Nat → Nat} {ch : Nat} {gr : Nat → Nat} {fl : Nat → Option Nat} {ms : Nat → Nat} {er : Nat → Nat → Nat} {ml lk : Nat → Nat} {k : kM} {σ : sM} {fu : Nat}
theorem zF_s (i : Nat) : zF C ct ch (i + 1) = zF C ct ch i + (sA C ct ch i : Int) := by
  unfold zF sF
  rw [su_d]; omega
theorem zG_s (i : Nat) : zG C ct ch (i + 1) = zG C ct ch i + (nA C ct ch i : Int) := by
  unfold zG sG
  rw [su_d]; omega
theorem zF_mono : mono (zF C ct ch) := fun i j h => by
  have := su_mono (sA C ct ch) i (j - i)
  rw [show i + (j - i) = j by omega] at this
  unfold zF sF; omega
theorem zG_mono : mono (zG C ct ch) := fun i j h => by
  have := su_mono (nA C ct ch) i (j - i)
  rw [show i + (j - i) = j by omega] at this
  unfold zG sG; omega
theorem sG_tt : sG C ct ch A = tt C A ct ch := by
  unfold sG tt nA
  rw [su_comm (fun a c => rd ct ch c a) 0 C A 0]
theorem zG_100 (hO : okS C A ct ch gr fl ms er ml lk) {i : Nat} (hi : i ≤ A) : 0 ≤ zG C ct ch i ∧ zG C ct ch i ≤ 100 := by
  have h1 := zG_mono (C := C) (ct := ct) (ch := ch) i A hi
  have h2 := tt_le C A ct ch (show ch < 5 by have := hO.1; omega)
  have h3 := hO.2.2.2.1
  have h4 : zG C ct ch A = ((tt C A ct ch : Nat) : Int) := by unfold zG; rw [sG_tt]
  have h5 : 0 ≤ zG C ct ch i := by unfold zG; omega
  omega
theorem sA_9 (hO : okS C A ct ch gr fl ms er ml lk) (a : Nat) : sA C ct ch a ≤ 9 * nA C ct ch a := by
  have hC := hO.1
  unfold sA nA
  rw [← su_mul]
  exact su_le C 0 (fun c _ hc => Nat.mul_le_mul_right _ (by omega))
theorem zF_900 (hO : okS C A ct ch gr fl ms er ml lk) {i : Nat} (hi : i ≤ A) : 0 ≤ zF C ct ch i ∧ zF C ct ch i ≤ 900 := by
  have h1 : sF C ct ch i ≤ 9 * sG C ct ch i := by
    unfold sF sG
    rw [← su_mul]
    exact su_le i 0 (fun a _ _ => sA_9 hO a)
  have h2 := zG_100 hO hi
  unfold zG at h2
  unfold zF
  omega
theorem nA_100 (hO : okS C A ct ch gr fl ms er ml lk) {a : Nat} (ha : a < A) : nA C ct ch a ≤ 100 := by
  have h1 := zG_100 hO (show a + 1 ≤ A by omega)
  have h2 := zG_100 hO (show a ≤ A by omega)
  rw [zG_s] at h1
  omega
theorem sA_900 (hO : okS C A ct ch gr fl ms er ml lk) {a : Nat} (ha : a < A) : sA C ct ch a ≤ 900 := by
  have h1 := sA_9 hO a
  have h2 := nA_100 hO ha
  omega
theorem sA_0 {a : Nat} (h : nA C ct ch a = 0) : sA C ct ch a = 0 := by
  refine su_zero C 0 (fun c _ hc => ?_)
  have := su_mem (g := fun c => rd ct ch c a) C 0 c (by omega) hc
  have h2 : su (fun c => rd ct ch c a) 0 C = 0 := h
  have h3 : rd ct ch c a = 0 := by
    have : rd ct ch c a ≤ su (fun c => rd ct ch c a) 0 C := this
    omega
  show c * rd ct ch c a = 0
  rw [h3, Nat.mul_zero]
theorem oaM_l (hO : okS C A ct ch gr fl ms er ml lk) (hR : repM k σ C A ct ch gr fl ms er ml lk) (hfu : 200 ≤ fu) {a : Nat} (ha : a < A) : ∀ (d c n acc : Nat), c + d = C → d < n → fM_ofAge_4 fu k σ n (nI a) (nI acc) (nI c) = some (nI (acc + su (fun c => rd ct ch c a) c d))
  | 0, c, n + 1, acc, hc, hn => by
    have hC := hO.1
    rw [fM_ofAge_4, if_pos (show kM_classes k ≤ nI c by rw [show kM_classes k = nI C from by rw [hR.1]; rfl, nI_leI (by omega) (by omega)]; omega)]
    rfl
  | d + 1, c, n + 1, acc, hc, hn => by
    have hC := hO.1
    rw [fM_ofAge_4, if_neg (show ¬ kM_classes k ≤ nI c by rw [show kM_classes k = nI C from by rw [hR.1]; rfl, nI_leI (by omega) (by omega)]; omega), hR.2.1, cM hO hR hfu (show ch < 5 by omega) (by omega) ha]
    simp only [Option.bind_some]
    rw [nI_add, nI_1, oaM_l hO hR hfu ha d (c + 1) n (acc + rd ct ch c a) (by omega) (by omega), Nat.add_assoc]
    rfl
theorem ofAgeM (hO : okS C A ct ch gr fl ms er ml lk) (hR : repM k σ C A ct ch gr fl ms er ml lk) (hfu : 200 ≤ fu) {a : Nat} (ha : a < A) : fM_ofAge fu k σ (nI a) = some (nI (nA C ct ch a)) := by
  have hC := hO.1
  have h := oaM_l (fu := fu) hO hR hfu ha C 0 fu 0 (by omega) (by omega)
  rw [Nat.zero_add] at h
  exact h
theorem coM_l (hO : okS C A ct ch gr fl ms er ml lk) (hR : repM k σ C A ct ch gr fl ms er ml lk) (hfu : 200 ≤ fu) {a : Nat} (ha : a < A) : ∀ (d c n acc : Nat), c + d = C → d < n → fM_classesOf_4 fu k σ n (nI a) (nI acc) (nI c) = some (nI (acc + su (fun c => c * rd ct ch c a) c d))
  | 0, c, n + 1, acc, hc, hn => by
    have hC := hO.1
    rw [fM_classesOf_4, if_pos (show kM_classes k ≤ nI c by rw [show kM_classes k = nI C from by rw [hR.1]; rfl, nI_leI (by omega) (by omega)]; omega)]
    rfl
  | d + 1, c, n + 1, acc, hc, hn => by
    have hC := hO.1
    rw [fM_classesOf_4, if_neg (show ¬ kM_classes k ≤ nI c by rw [show kM_classes k = nI C from by rw [hR.1]; rfl, nI_leI (by omega) (by omega)]; omega), hR.2.1, cM hO hR hfu (show ch < 5 by omega) (by omega) ha]
    simp only [Option.bind_some]
    rw [pk_mul, nI_add, nI_1, coM_l hO hR hfu ha d (c + 1) n (acc + c * rd ct ch c a) (by omega) (by omega), Nat.add_assoc]
    rfl
theorem clOfM (hO : okS C A ct ch gr fl ms er ml lk) (hR : repM k σ C A ct ch gr fl ms er ml lk) (hfu : 200 ≤ fu) {a : Nat} (ha : a < A) : fM_classesOf fu k σ (nI a) = some (nI (sA C ct ch a)) := by
  have hC := hO.1
  have h := coM_l (fu := fu) hO hR hfu ha C 0 fu 0 (by omega) (by omega)
  rw [Nat.zero_add] at h
  exact h
theorem m44 (hO : okS C A ct ch gr fl ms er ml lk) (hR : repM k σ C A ct ch gr fl ms er ml lk) (hfu : 200 ≤ fu) (h14 : sM → Int32 → Int32 → Option sM) (h26 : sM → Int32 → Int32 → Int64 → Int64 → Int32 → Option sM) {a j kk : Nat} (hk : kk < A) (x3 x5 : Int64) : ∀ (d i n : Nat), i + d = kk + 1 → d < n → j ≤ i → fM_mean_44 fu k h14 h26 n σ (nI a) (nI j) x3 x5 (nI kk) (lZ (zF C ct ch i - zF C ct ch j)) (lZ (zG C ct ch i - zG C ct ch j)) (nI i) = (if x5 = 0 then h26 σ (nI a) (nI j) (lZ (zF C ct ch (kk + 1) - zF C ct ch j)) (lZ (zG C ct ch (kk + 1) - zG C ct ch j)) (nI (kk + 1)) else if x3 * lZ (zG C ct ch (kk + 1) - zG C ct ch j) ≤ lZ (zF C ct ch (kk + 1) - zF C ct ch j) * x5 then h26 σ (nI a) (nI j) x3 x5 (nI (kk + 1)) else h26 σ (nI a) (nI j) (lZ (zF C ct ch (kk + 1) - zF C ct ch j)) (lZ (zG C ct ch (kk + 1) - zG C ct ch j)) (nI (kk + 1)))
  | 0, i, n + 1, hi, hn, hj => by
    have hC := hO.1
    have : i = kk + 1 := by omega
    subst this
    rw [fM_mean_44, if_pos (nI_lt (show kk < kk + 1 by omega) (by omega))]
    unfold fM_mean_101
    rw [nI_1]
  | d + 1, i, n + 1, hi, hn, hj => by
    have hC := hO.1
    have q1 := sA_900 hO (show i < A by omega)
    have q2 := nA_100 hO (show i < A by omega)
    rw [fM_mean_44, if_neg (nI_nlt (show i ≤ kk by omega) (by omega)), clOfM hO hR hfu (show i < A by omega), ofAgeM hO hR hfu (show i < A by omega)]
    simp only [Option.bind_some]
    rw [i64 (by omega), i64 (by omega), ← lZ_n, ← lZ_n, lZ_add, lZ_add, nI_1]
    have ih := m44 hO hR hfu h14 h26 (a := a) (j := j) hk x3 x5 d (i + 1) n (by omega) (by omega) (by omega)
    rw [zF_s i, zG_s i] at ih
    rw [show zF C ct ch i - zF C ct ch j + (sA C ct ch i : Int) = zF C ct ch i + (sA C ct ch i : Int) - zF C ct ch j by omega, show zG C ct ch i - zG C ct ch j + (nA C ct ch i : Int) = zG C ct ch i + (nA C ct ch i : Int) - zG C ct ch j by omega]
    exact ih
theorem al_t {u w U V S N : Int} (hV : 0 < V) (hN : 0 ≤ N) (hw : 0 ≤ w) (h1 : u * V ≤ U * w) (h2 : U * N ≤ S * V) : u * N ≤ S * w := by
  have a1 : N * (u * V) ≤ N * (U * w) := Int.mul_le_mul_of_nonneg_left h1 hN
  have a2 : w * (U * N) ≤ w * (S * V) := Int.mul_le_mul_of_nonneg_left h2 hw
  refine Int.le_of_mul_le_mul_left (a := V) ?_ hV
  grind
theorem al_neg {u w U V S N : Int} (hV : 0 < V) (hN : 0 ≤ N) (hw : 0 ≤ w) (h1 : U * w ≤ u * V) (h2 : S * V ≤ U * N) : S * w ≤ u * N := by
  have a1 : N * (U * w) ≤ N * (u * V) := Int.mul_le_mul_of_nonneg_left h1 hN
  have a2 : w * (S * V) ≤ w * (U * N) := Int.mul_le_mul_of_nonneg_left h2 hw
  refine Int.le_of_mul_le_mul_left (a := V) ?_ hV
  grind
theorem al_h {f0 f1 fj g0 g1 gj S N : Int} (hf : f1 = f0 + S) (hg : g1 = g0 + N) (h : S * (gj - g0) ≤ N * (fj - f0)) : (f1 - fj) * N ≤ S * (g1 - gj) := by
  subst hf hg
  grind
theorem pr_le {a b c d A B C D : Int} (ha : -1 ≤ a) (ha2 : a ≤ 900) (hb : 0 ≤ b) (hb2 : b ≤ 100) : (a * b).natAbs ≤ 90000 := by
  rw [Int.natAbs_mul]
  exact Nat.mul_le_mul (show a.natAbs ≤ 900 by omega) (show b.natAbs ≤ 100 by omega)
theorem lZ_cmp {u w U V : Int} (h1 : -1 ≤ u) (h2 : u ≤ 900) (h3 : 0 ≤ w) (h4 : w ≤ 100) (h5 : -1 ≤ U) (h6 : U ≤ 900) (h7 : 0 ≤ V) (h8 : V ≤ 100) : lZ u * lZ V ≤ lZ U * lZ w ↔ u * V ≤ U * w := by
  rw [lZ_mul, lZ_mul]
  have q1 := pr_le (a := u) (b := V) (c := 0) (d := 0) (A := 0) (B := 0) (C := 0) (D := 0) h1 h2 h7 h8
  have q2 := pr_le (a := U) (b := w) (c := 0) (d := 0) (A := 0) (B := 0) (C := 0) (D := 0) h5 h6 h3 h4
  exact lZ_le (by omega) (by omega)
/-- the least over the ends, for one beginning -/
theorem m26 (hO : okS C A ct ch gr fl ms er ml lk) (hR : repM k σ C A ct ch gr fl ms er ml lk) (hfu : 200 ≤ fu) (h14 : sM → Int32 → Int32 → Option sM) {a j e : Nat} {S N : Int} {Q : Prop} (hN : 0 ≤ N) (ha : a < A) (hn : 0 < nA C ct ch a) (hj : j ≤ a) (hae : a ≤ e) (he : e < A)
    (h1 : (zF C ct ch (e + 1) - zF C ct ch j) * N ≤ S * (zG C ct ch (e + 1) - zG C ct ch j)) (h2 : Q → ∀ i, a ≤ i → i < A → S * (zG C ct ch (i + 1) - zG C ct ch j) ≤ (zF C ct ch (i + 1) - zF C ct ch j) * N) :
    ∀ (d kk n : Nat) (u w : Int), kk + d = A → d < n → a ≤ kk → ((kk = a ∧ u = 0 ∧ w = 0) ∨ (a < kk ∧ 0 < w ∧ w ≤ 100 ∧ 0 ≤ u ∧ u ≤ 900 ∧ (e < kk → u * N ≤ S * w) ∧ (Q → S * w ≤ u * N))) →
    ∃ u' w', (0 < w' ∧ w' ≤ 100 ∧ 0 ≤ u' ∧ u' ≤ 900 ∧ u' * N ≤ S * w' ∧ (Q → S * w' ≤ u' * N)) ∧ fM_mean_26 fu k h14 n σ (nI a) (nI j) (lZ u) (lZ w) (nI kk) = (if lZ u' * sM_below σ ≤ sM_above σ * lZ w' then h14 σ (nI a) (nI j + (-1)) else h14 (uM_below (uM_above σ (lZ u')) (lZ w')) (nI a) (nI j + (-1)))
  | 0, kk, n + 1, u, w, hkk, hnn, hak, hst => by
    have h := szM_of hO hR
    rcases hst with ⟨q, _⟩ | ⟨q0, q1, q2, q3, q4, q5, q6⟩
    · exact absurd q (by omega)
    · refine ⟨u, w, ⟨q1, q2, q3, q4, q5 (by omega), q6⟩, ?_⟩
      rw [fM_mean_26, if_pos ((mz_le h (by omega)).mpr (by omega))]
  | d + 1, kk, n + 1, u, w, hkk, hnn, hak, hst => by
    have hC := hO.1
    have h := szM_of hO hR
    have b1 := zF_900 hO (show kk + 1 ≤ A by omega)
    have b2 := zF_900 hO (show j ≤ A by omega)
    have b3 := zG_100 hO (show kk + 1 ≤ A by omega)
    have b4 := zG_100 hO (show j ≤ A by omega)
    have b5 := zF_mono (C := C) (ct := ct) (ch := ch) j (kk + 1) (by omega)
    have b6 : zG C ct ch j < zG C ct ch (kk + 1) := by
      have c1 := zG_mono (C := C) (ct := ct) (ch := ch) j a hj
      have c2 := zG_mono (C := C) (ct := ct) (ch := ch) (a + 1) (kk + 1) (by omega)
      rw [zG_s a] at c2
      omega
    have e44 := m44 (fu := fu) hO hR hfu h14 (fM_mean_26 fu k h14 n) (a := a) (j := j) (show kk < A by omega) (lZ u) (lZ w) (kk + 1 - j) j fu (by omega) (by omega) (by omega)
    rw [Int.sub_self, Int.sub_self] at e44
    have ih := m26 hO hR hfu h14 hN ha hn hj hae he h1 h2 d (kk + 1) n
    have hx : (kk + 1 ≤ e ∨ kk = e) ∨ e < kk := by omega
    have vU : e < kk + 1 → (e = kk ∨ e < kk) := by omega
    have take : ((kk = a ∧ u = 0 ∧ w = 0) ∨ (0 < w ∧ (zF C ct ch (kk + 1) - zF C ct ch j) * w ≤ u * (zG C ct ch (kk + 1) - zG C ct ch j) ∧ (e < kk → u * N ≤ S * w))) → (a < kk + 1 ∧ 0 < zG C ct ch (kk + 1) - zG C ct ch j ∧ zG C ct ch (kk + 1) - zG C ct ch j ≤ 100 ∧ 0 ≤ zF C ct ch (kk + 1) - zF C ct ch j ∧ zF C ct ch (kk + 1) - zF C ct ch j ≤ 900 ∧ (e < kk + 1 → (zF C ct ch (kk + 1) - zF C ct ch j) * N ≤ S * (zG C ct ch (kk + 1) - zG C ct ch j)) ∧ (Q → S * (zG C ct ch (kk + 1) - zG C ct ch j) ≤ (zF C ct ch (kk + 1) - zF C ct ch j) * N)) := by
      intro hc
      refine ⟨by omega, by omega, by omega, by omega, by omega, fun q => ?_, fun q => h2 q kk hak (by omega)⟩
      rcases vU q with rfl | q2
      · exact h1
      · rcases hc with ⟨c1, -⟩ | ⟨c1, c2, c3⟩
        · exact absurd q2 (by omega)
        · exact al_t c1 hN (by omega) c2 (c3 q2)
    rw [fM_mean_26, if_neg (show ¬ kM_ages k ≤ nI kk by rw [mz_le h (by omega)]; omega), show (0 : Int64) = lZ 0 from rfl, e44]
    rcases hst with ⟨q0, q1, q2⟩ | ⟨q0, q1, q2, q3, q4, q5, q6⟩
    · rw [if_pos (show lZ w = 0 by rw [q2]; rfl)]
      exact ih _ _ (by omega) (by omega) (by omega) (Or.inr (take (Or.inl ⟨q0, q1, q2⟩)))
    · rw [if_neg (show ¬ lZ w = 0 by rw [lZ_eq0 (by omega)]; omega)]
      have hcmp := lZ_cmp (u := u) (w := w) (U := zF C ct ch (kk + 1) - zF C ct ch j) (V := zG C ct ch (kk + 1) - zG C ct ch j) (by omega) q4 (by omega) q2 (by omega) (by omega) (by omega) (by omega)
      by_cases hd : u * (zG C ct ch (kk + 1) - zG C ct ch j) ≤ (zF C ct ch (kk + 1) - zF C ct ch j) * w
      · rw [if_pos (hcmp.mpr hd)]
        refine ih _ _ (by omega) (by omega) (by omega) (Or.inr ⟨by omega, q1, q2, q3, q4, fun q => ?_, q6⟩)
        rcases vU q with rfl | q7
        · exact al_t (by omega) hN (by omega) hd h1
        · exact q5 q7
      · rw [if_neg (fun q => hd (hcmp.mp q))]
        exact ih _ _ (by omega) (by omega) (by omega) (Or.inr (take (Or.inr ⟨q1, by omega, q5⟩)))
/-- the greatest over the beginnings -/
theorem m14 (hO : okS C A ct ch gr fl ms er ml lk) (hfu : 200 ≤ fu) {a e jb : Nat} {S N : Int} (hN : 0 < N) (hS : 0 ≤ S) (ha : a < A) (hn : 0 < nA C ct ch a) (hjb : jb ≤ a) (hae : a ≤ e) (he : e < A)
    (h1 : ∀ j, j ≤ a → (zF C ct ch (e + 1) - zF C ct ch j) * N ≤ S * (zG C ct ch (e + 1) - zG C ct ch j)) (h2 : ∀ i, a ≤ i → i < A → S * (zG C ct ch (i + 1) - zG C ct ch jb) ≤ (zF C ct ch (i + 1) - zF C ct ch jb) * N) :
    ∀ (m n : Nat) (σ : sM) (u w : Int), m < n → m ≤ a + 1 → repM k σ C A ct ch gr fl ms er ml lk → sM_above σ = lZ u → sM_below σ = lZ w → 0 < w → w ≤ 100 → -1 ≤ u → u ≤ 900 → u * N ≤ S * w → (m ≤ jb → S * w ≤ u * N) →
    ∃ (σ' : sM) (u' w' : Nat), fM_mean_14 fu k n σ (nI a) (nI m + (-1)) = some σ' ∧ repM k σ' C A ct ch gr fl ms er ml lk ∧ sM_above σ' = lN u' ∧ sM_below σ' = lN w' ∧ 0 < w' ∧ w' ≤ 100 ∧ u' ≤ 900 ∧ (u' : Int) * N = S * (w' : Int)
  | 0, n + 1, σ, u, w, hm, hma, hR, ea, eb, hw, hw2, hu, hu2, hle, hge => by
    have hge := hge (by omega)
    have hu0 : 0 ≤ u := by
      have c1 : 0 ≤ S * w := Int.mul_nonneg hS (by omega)
      have c2 : 0 * N ≤ u * N := by omega
      exact Int.le_of_mul_le_mul_right c2 hN
    refine ⟨σ, u.toNat, w.toNat, ?_, hR, ?_, ?_, by omega, by omega, by omega, ?_⟩
    · rw [fM_mean_14, if_pos (show nI 0 + (-1) < 0 by decide)]
    · rw [ea, ← lZ_n, Int.toNat_of_nonneg hu0]
    · rw [eb, ← lZ_n, Int.toNat_of_nonneg (by omega)]
    · rw [Int.toNat_of_nonneg hu0, Int.toNat_of_nonneg (by omega)]
      omega
  | m + 1, n + 1, σ, u, w, hm, hma, hR, ea, eb, hw, hw2, hu, hu2, hle, hge => by
    have hC := hO.1
    obtain ⟨u1, w1, ⟨p1, p2, p3, p4, p5, p6⟩, e26⟩ := m26 (fu := fu) (Q := m = jb) hO hR hfu (fM_mean_14 fu k n) (j := m) (by omega) ha hn (by omega) hae he (h1 m (by omega)) (fun q => by rw [q]; exact h2) (A - a) a fu 0 0 (by omega) (by omega) (by omega) (Or.inl ⟨rfl, rfl, rfl⟩)
    have hcmp := lZ_cmp (u := u1) (w := w1) (U := u) (V := w) (by omega) p4 (by omega) p2 hu hu2 (by omega) hw2
    rw [pk_m1, fM_mean_14, if_neg (nI_pos (by omega)), show (0 : Int64) = lZ 0 from rfl, e26, ea, eb]
    by_cases hd : u1 * w ≤ u * w1
    · rw [if_pos (hcmp.mpr hd)]
      refine m14 hO hfu hN hS ha hn hjb hae he h1 h2 m n σ u w (by omega) (by omega) hR ea eb hw hw2 hu hu2 hle (fun q => ?_)
      by_cases q2 : m + 1 ≤ jb
      · exact hge q2
      · exact al_neg (by omega) (by omega) (by omega) hd (p6 (by omega))
    · rw [if_neg (fun q => hd (hcmp.mp q))]
      refine m14 hO hfu hN hS ha hn hjb hae he h1 h2 m n (uM_below (uM_above σ (lZ u1)) (lZ w1)) u1 w1 (by omega) (by omega) hR rfl rfl p1 p2 (by omega) p4 p5 (fun q => ?_)
      by_cases q2 : m = jb
      · exact p6 q2
      · exact al_neg (by omega) (by omega) (by omega) (by omega) (hge (by omega))
theorem meanM (hO : okS C A ct ch gr fl ms er ml lk) (hR : repM k σ C A ct ch gr fl ms er ml lk) (hfu : 200 ≤ fu) {t : Nat} {b : Nat → Nat} (hp : pm (zF C ct ch) (zG C ct ch) t A b) (hs : slo (zF C ct ch) (zG C ct ch) t b) {a q : Nat} (ha : a < A) (hn : 0 < nA C ct ch a) (hq : q < t) (hq1 : b q ≤ a) (hq2 : a < b (q + 1)) :
    ∃ (σ' : sM) (u w : Nat), fM_mean fu k σ (nI a) = some σ' ∧ repM k σ' C A ct ch gr fl ms er ml lk ∧ sM_above σ' = lN u ∧ sM_below σ' = lN w ∧ 0 < w ∧ w ≤ 100 ∧ u ≤ 900 ∧ (u : Int) * dS (zG C ct ch) b q = dS (zF C ct ch) b q * (w : Int) := by
  have hC := hO.1
  obtain ⟨g1, g2, g3, -⟩ := hp.2.2.2 q hq
  have hS : 0 ≤ dS (zF C ct ch) b q := by
    have := zF_mono (C := C) (ct := ct) (ch := ch) (b q) (b (q + 1)) (by omega)
    unfold dS; omega
  have hh := hull hp hs zG_mono hq
  obtain ⟨f2, rfl⟩ : ∃ f2, fu = f2 + 1 := ⟨fu - 1, by omega⟩
  obtain ⟨σ', u, w, e1, e2, e3, e4, e5, e6, e7, e8⟩ := m14 (k := k) (fu := f2 + 1) (gr := gr) (fl := fl) (ms := ms) (er := er) (ml := ml) (lk := lk) (a := a) (e := b (q + 1) - 1) (jb := b q) (S := dS (zF C ct ch) b q) (N := dS (zG C ct ch) b q) hO hfu g3 hS ha hn hq1 (by omega) (by omega) (fun j hj => by
    rw [show b (q + 1) - 1 + 1 = b (q + 1) by omega]
    have := hh j (by omega)
    exact al_h (by unfold dS; omega) (by unfold dS; omega) this) (fun i h1 h2 => by
    have := hh (i + 1) (by omega)
    rw [Int.mul_comm (zF C ct ch (i + 1) - zF C ct ch (b q))]
    exact this) (a + 1) (f2 + 1) (uM_below (uM_above σ (-1 : Int64)) (1 : Int64)) (-1) 1 (by omega) (by omega) hR rfl rfl (by omega) (by omega) (by omega) (by omega) (by omega) (fun q => absurd q (by omega))
  refine ⟨σ', u, w, ?_, e2, e3, e4, e5, e6, e7, e8⟩
  rw [pk_m1] at e1
  exact e1
end MN
