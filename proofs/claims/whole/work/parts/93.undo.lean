/-! undo and undone, side by side. -/
section UN
variable {C A : Nat} {ct : Nat → Nat → Nat → Nat} {ch : Nat} {gr : Nat → Nat} {fl : Nat → Option Nat} {ms : Nat → Nat} {er : Nat → Nat → Nat} {ml lk : Nat → Nat} {k : kK} {σ : sK} {k2 : kM} {σ2 : sM} {fu : Nat}
theorem szK_of (hO : okS C A ct ch gr fl ms er ml lk) (hR : repK k σ C A ct ch gr fl ms er ml lk) : szK k A := by
  have hC := hO.1
  refine ⟨by rw [hR.1]; rfl, by rw [hR.1]; rfl, by rw [hR.1]; rfl, hC.2.2.1, hC.2.2.2.1⟩
theorem szM_of (hO : okS C A ct ch gr fl ms er ml lk) (hM : repM k2 σ2 C A ct ch gr fl ms er ml lk) : szM k2 A := by
  have hC := hO.1
  refine ⟨by rw [hM.1]; rfl, by rw [hM.1]; rfl, by rw [hM.1]; rfl, hC.2.2.1, hC.2.2.2.1⟩
theorem rep_sq (hR : repK k σ C A ct ch gr fl ms er ml lk) (f : Nat → Int64) : repK k (uK_square σ f) C A ct ch gr fl ms er ml lk := hR
theorem rep_ce (hM : repM k2 σ2 C A ct ch gr fl ms er ml lk) (f : Nat → Int64) : repM k2 (uM_cells σ2 f) C A ct ch gr fl ms er ml lk := hM
/-- the errors, a row for each age read from -/
def erZ (er : Nat → Nat → Nat) : Nat → Nat → Int := fun f t => (er f t : Int)
/-- a row put in: what was read, twenty times -/
def erX (er : Nat → Nat → Nat) (t : Nat) (u : Nat → Nat) : Nat → Nat → Int := fun f c => if f = t then ((20 * u c : Nat) : Int) else (er f c : Int)
theorem ldK (hO : okS C A ct ch gr fl ms er ml lk) (hR : repK k σ C A ct ch gr fl ms er ml lk) (g : Nat → Int64) : ∀ (d i n : Nat) (f : Nat → Int64), i + d = A * A → d < n → (∀ z, z < i → f z = (sK_errors σ z).toInt64) → ∃ f', fK_loadErrors_2 fu k n (uK_square σ f) (nI i) = some (uK_square σ f') ∧ ∀ z, z < A * A → f' z = (sK_errors σ z).toInt64
  | 0, i, n + 1, f, hi, hn, hf => by
    have h := szK_of hO hR
    have h36 := sz_36 h
    refine ⟨f, ?_, fun z hz => hf z (by omega)⟩
    rw [fK_loadErrors_2, h.2.1, if_pos (show Int32.ofNat (A * A) ≤ nI i from (nI_leI (by omega) (by omega)).mpr (by omega))]
  | d + 1, i, n + 1, f, hi, hn, hf => by
    have h := szK_of hO hR
    have h36 := sz_36 h
    have hn0 : ¬ Int32.ofNat (A * A) ≤ nI i := fun q => by have := (nI_leI (a := A * A) (b := i) (by omega) (by omega)).mp q; omega
    obtain ⟨f', e1, e2⟩ := ldK hO hR g d (i + 1) n (vp_updL f i (sK_errors σ i).toInt64) (by omega) (by omega) (fun z hz => by
      unfold vp_updL
      by_cases e : z = i
      · rw [if_pos e, e]
      · rw [if_neg e]
        exact hf z (by omega))
    refine ⟨f', ?_, e2⟩
    rw [fK_loadErrors_2, h.2.1, if_neg hn0, h.2.2.1, if_neg hn0, kld_n (show i < A * A by omega) h36]
    simp only [Option.bind_some]
    rw [kstJ_n (show i < A * A by omega) h36]
    simp only [Option.bind_some]
    rw [sq_2, nI_1]
    exact e1
theorem loadK (hO : okS C A ct ch gr fl ms er ml lk) (hR : repK k σ C A ct ch gr fl ms er ml lk) (hfu : 200 ≤ fu) (f : Nat → Int64) : ∃ f', fK_loadErrors fu k (uK_square σ f) = some (uK_square σ f') ∧ vw A A 0 f' (erZ er) := by
  have h := szK_of hO hR
  have h36 := sz_36 h
  have h6 := Nat.mul_le_mul h.2.2.2.2 h.2.2.2.2
  obtain ⟨f', e1, e2⟩ := ldK (fu := fu) hO hR f (A * A) 0 fu f (by omega) (by omega) (fun z hz => absurd hz (by omega))
  refine ⟨f', e1, fun i j _ hi _ hj => ?_⟩
  have he := hO.2.2.2.2.2.2.1 i j hi hj
  rw [e2 _ (sz_ix h hi hj), Nat.mul_comm A i, hR.2.2.2.2.2.2.2.2.2.2.1 i j hi hj, i64 (by omega)]
  rfl
/-- what the reference lays down: rows as columns -/
theorem layM_in (hO : okS C A ct ch gr fl ms er ml lk) (hM : repM k2 σ2 C A ct ch gr fl ms er ml lk) (hfu : 200 ≤ fu) (h2 : sM → Int32 → Int32 → Int32 → Option sM) {g : Nat} (hg : g < 2 ^ 31) {x2 : Int32} {X : Nat → Nat → Int} (hX : (x2 = -1 ∧ X = erZ er) ∨ (∃ t, t < A ∧ x2 = nI t ∧ X = erX er t (fun a => gN C gr ct ch g a))) {r : Nat} (hr : r < A) : ∀ (d j n : Nat) (f : Nat → Int64), j + d = A → d < n → (∀ p c, p < A → c < A → (p < r ∨ (p = r ∧ c < j)) → f (6 * p + c) = lZ (X c p)) → ∃ f', fM_lay_13 fu k2 h2 n (uM_cells σ2 f) (nI g) x2 (nI r) (nI j) = h2 (uM_cells σ2 f') (nI g) x2 (nI (r + 1)) ∧ (∀ p c, p < A → c < A → p < r + 1 → f' (6 * p + c) = lZ (X c p))
  | 0, j, n + 1, f, hj, hn, hf => by
    have h := szM_of hO hM
    refine ⟨f, ?_, fun p c hp hc hpr => hf p c hp hc (by omega)⟩
    rw [fM_lay_13, if_pos ((mz_le h (by omega)).mpr (by omega)), nI_1]
  | d + 1, j, n + 1, f, hj, hn, hf => by
    have hC := hO.1
    have h := szM_of hO hM
    obtain ⟨f', e1, e2⟩ := layM_in hO hM hfu h2 hg hX hr d (j + 1) n (vp_updL f (6 * r + j) (lZ (X j r))) (by omega) (by omega) (fun p c hp hc q => by
      unfold vp_updL
      by_cases e : p = r ∧ c = j
      · obtain ⟨rfl, rfl⟩ := e
        rw [if_pos rfl]
      · rw [if_neg (fun w => e ((iw_inj (by omega) (by omega)).mp w))]
        exact hf p c hp hc (by omega))
    refine ⟨f', ?_, e2⟩
    have fin : fM_lay_70 fu k2 h2 (fM_lay_13 fu k2 h2 n) (uM_cells σ2 f) (6 * nI r + nI j) (lZ (X j r)) (nI g) x2 (nI r) (nI j) = h2 (uM_cells σ2 f') (nI g) x2 (nI (r + 1)) := by
      unfold fM_lay_70
      rw [ce_st h f hr (by omega)]
      simp only [Option.bind_some]
      rw [ce_2, nI_1]
      exact e1
    have he := hO.2.2.2.2.2.2.1 j r (by omega) hr
    have hld : kld (kM_n k2 4) (sM_errors (uM_cells σ2 f)) (6 * nI j + nI r) = some (nI (er j r)) := by
      rw [mz_i, h.2.2.1, kld_n (show 6 * j + r < 36 by omega) (by omega)]
      exact congrArg some (hM.2.2.2.2.2.2.1 j r (by omega) hr)
    rw [fM_lay_13, if_neg (show ¬ kM_ages k2 ≤ nI j by rw [mz_le h (by omega)]; omega)]
    rcases hX with ⟨hx, hX⟩ | ⟨t, ht, hx, hX⟩
    · rw [if_neg (show ¬ nI j = x2 by rw [hx]; exact m1_ne (by omega)), hld]
      simp only [Option.bind_some]
      rw [show (nI (er j r)).toInt64 = lZ (X j r) from by rw [i64 (by omega), hX]; rfl]
      exact fin
    · by_cases e : j = t
      · have hgl := gN_le C A gr ct ch g r hr
        have hgs : 20 * gN C gr ct ch g r < 2 ^ 31 := by
          have q1 : gN C gr ct ch g r ≤ tt C A ct ch := by
            refine su_le C 0 (fun c _ _ => ?_)
            show (if gr c = g then rd ct ch c r else 0) ≤ su (fun a => rd ct ch c a) 0 A
            split
            · exact su_mem (g := fun a => rd ct ch c a) A 0 r (by omega) (by omega)
            · exact Nat.zero_le _
          have q2 := tt_le C A ct ch (by omega)
          have q3 := hO.2.2.2.1
          omega
        rw [if_pos (show nI j = x2 by rw [hx, e]), show sM_chosen (uM_cells σ2 f) = plI ch from hM.2.1, igMa hO (rep_ce hM f) hfu (by omega) hg hr]
        simp only [Option.bind_some]
        rw [i64 (by omega), show (20 : Int64) * lN (gN C gr ct ch g r) = lZ (X j r) from by
          rw [show (20 : Int64) = lN 20 from rfl, hX]
          unfold erX
          rw [if_pos e, ← lZ_n, ← lZ_n, lZ_mul]
          rfl]
        exact fin
      · rw [if_neg (show ¬ nI j = x2 by rw [hx, nI_eq (by omega) (by omega)]; exact e), hld]
        simp only [Option.bind_some]
        rw [show (nI (er j r)).toInt64 = lZ (X j r) from by
          rw [i64 (by omega), hX]
          unfold erX
          rw [if_neg e]
          rfl]
        exact fin
theorem layM_out (hO : okS C A ct ch gr fl ms er ml lk) (hM : repM k2 σ2 C A ct ch gr fl ms er ml lk) (hfu : 200 ≤ fu) {g : Nat} (hg : g < 2 ^ 31) {x2 : Int32} {X : Nat → Nat → Int} (hX : (x2 = -1 ∧ X = erZ er) ∨ (∃ t, t < A ∧ x2 = nI t ∧ X = erX er t (fun a => gN C gr ct ch g a))) : ∀ (d r n : Nat) (f : Nat → Int64), r + d = A → d < n → (∀ p c, p < A → c < A → p < r → f (6 * p + c) = lZ (X c p)) → ∃ f', fM_lay_2 fu k2 n (uM_cells σ2 f) (nI g) x2 (nI r) = some (uM_cells σ2 f') ∧ (∀ p c, p < A → c < A → f' (6 * p + c) = lZ (X c p))
  | 0, r, n + 1, f, hr, hn, hf => by
    have h := szM_of hO hM
    refine ⟨f, ?_, fun p c hp hc => hf p c hp hc (by omega)⟩
    rw [fM_lay_2, if_pos ((mz_le h (by omega)).mpr (by omega))]
  | d + 1, r, n + 1, f, hr, hn, hf => by
    have hC := hO.1
    have h := szM_of hO hM
    obtain ⟨f1, e1, e2⟩ := layM_in (fu := fu) hO hM hfu (fM_lay_2 fu k2 n) hg hX (show r < A by omega) A 0 fu f (by omega) (by omega) (fun p c hp hc q => hf p c hp hc (by omega))
    obtain ⟨f2, e3, e4⟩ := layM_out hO hM hfu hg hX d (r + 1) n f1 (by omega) (by omega) e2
    refine ⟨f2, ?_, e4⟩
    rw [fM_lay_2, if_neg (show ¬ kM_ages k2 ≤ nI r by rw [mz_le h (by omega)]; omega), show (0 : Int32) = nI 0 from rfl, e1, e3]
theorem layM (hO : okS C A ct ch gr fl ms er ml lk) (hM : repM k2 σ2 C A ct ch gr fl ms er ml lk) (hfu : 200 ≤ fu) {g : Nat} (hg : g < 2 ^ 31) {x2 : Int32} {X : Nat → Nat → Int} (hX : (x2 = -1 ∧ X = erZ er) ∨ (∃ t, t < A ∧ x2 = nI t ∧ X = erX er t (fun a => gN C gr ct ch g a))) (f : Nat → Int64) : ∃ f', fM_lay fu k2 (uM_cells σ2 f) (nI g) x2 = some (uM_cells σ2 f') ∧ vw 6 A 0 f' (fun r c => X c r) := by
  have hC := hO.1
  obtain ⟨f', e1, e2⟩ := layM_out (fu := fu) hO hM hfu hg hX A 0 fu f (by omega) (by omega) (fun p c _ _ q => absurd q (by omega))
  exact ⟨f', e1, fun i j _ hi _ hj => e2 i j hi hj⟩
/-- the sums of errors -/
theorem esK (hO : okS C A ct ch gr fl ms er ml lk) (hR : repK k σ C A ct ch gr fl ms er ml lk) {r : Nat} (hr : r < A) : ∀ (d j n acc : Nat), j + d = A → d < n → fK_errorSum_4 fu k σ n (nI r) (nI acc) (nI j) = some (nI (acc + su (er r) j d))
  | 0, j, n + 1, acc, hj, hn => by
    have h := szK_of hO hR
    rw [fK_errorSum_4, if_pos ((sz_le h (by omega)).mpr (by omega))]
    rfl
  | d + 1, j, n + 1, acc, hj, hn => by
    have h := szK_of hO hR
    rw [fK_errorSum_4, if_neg (show ¬ kK_ages k ≤ nI j by rw [sz_le h (by omega)]; omega), sz_i h, h.2.2.1, kld_n (sz_ix h hr (by omega)) (sz_36 h), Nat.mul_comm A r, hR.2.2.2.2.2.2.2.2.2.2.1 r j hr (by omega)]
    simp only [Option.bind_some]
    rw [nI_add, nI_1, esK hO hR hr d (j + 1) n (acc + er r j) (by omega) (by omega)]
    show some (nI (acc + er r j + su (er r) (j + 1) d)) = some (nI (acc + (er r j + su (er r) (j + 1) d)))
    rw [Nat.add_assoc]
theorem esM (hO : okS C A ct ch gr fl ms er ml lk) (hM : repM k2 σ2 C A ct ch gr fl ms er ml lk) (h2 : sM → Int32 → Option (Int32 × sM)) {r : Nat} (hr : r < A) : ∀ (d j n acc : Nat), j + d = A → d < n → acc + 20 * d ≤ 200 → fM_undo_14 fu k2 h2 n σ2 (nI r) (nI acc) (nI j) = if acc + su (er r) j d = 20 then h2 σ2 (nI (r + 1)) else some (2, σ2)
  | 0, j, n + 1, acc, hj, hn, ha => by
    have h := szM_of hO hM
    rw [fM_undo_14, if_pos ((mz_le h (by omega)).mpr (by omega)), nI_1]
    show (if nI acc = 20 then _ else _) = (if acc + 0 = 20 then _ else _)
    by_cases e : acc = 20
    · rw [if_pos (show nI acc = 20 by rw [e]; rfl), if_pos (by omega)]
    · rw [if_neg (show ¬ nI acc = 20 by rw [show (20 : Int32) = nI 20 from rfl, nI_eq (by omega) (by omega)]; exact e), if_neg (by omega)]
  | d + 1, j, n + 1, acc, hj, hn, ha => by
    have hC := hO.1
    have h := szM_of hO hM
    have he := hO.2.2.2.2.2.2.1 r j hr (by omega)
    rw [fM_undo_14, if_neg (show ¬ kM_ages k2 ≤ nI j by rw [mz_le h (by omega)]; omega), mz_i, h.2.2.1, kld_n (show 6 * r + j < 36 by omega) (by omega), hM.2.2.2.2.2.2.1 r j hr (by omega)]
    simp only [Option.bind_some]
    rw [nI_add, nI_1, esM hO hM h2 hr d (j + 1) n (acc + er r j) (by omega) (by omega) (by omega)]
    show (if acc + er r j + su (er r) (j + 1) d = 20 then _ else _) = (if acc + (er r j + su (er r) (j + 1) d) = 20 then _ else _)
    rw [Nat.add_assoc]
theorem es_le (hO : okS C A ct ch gr fl ms er ml lk) {r : Nat} (hr : r < A) : su (er r) 0 A ≤ 120 := by
  have hC := hO.1
  have h1 := su_le (g := er r) (h := fun _ => 20) A 0 (fun j _ hj => hO.2.2.2.2.2.2.1 r j hr (by omega))
  have h2 : ∀ d i, su (fun _ => 20) i d = 20 * d := by
    intro d
    induction d with
    | zero => exact fun _ => rfl
    | succ d ih =>
      intro i
      show 20 + su (fun _ => 20) (i + 1) d = _
      rw [ih]; omega
  rw [h2] at h1
  omega
/-- all errors of an age add up to twenty -/
def all20 (A : Nat) (er : Nat → Nat → Nat) : Prop := ∀ r, r < A → su (er r) 0 A = 20
theorem tiny_er (hO : okS C A ct ch gr fl ms er ml lk) (ha : all20 A er) : tiny A (erZ er) := by
  refine tiny_rows hO.1.2.2.2.1 (t := A) (fun r hr => ?_)
  rw [if_neg (by omega)]
  refine Nat.le_trans (Nat.le_of_eq ?_) (Nat.le_of_eq (ha r hr))
  exact su_congr A 0 (fun c _ _ => rfl)
theorem tiny_ex (hO : okS C A ct ch gr fl ms er ml lk) (ha : all20 A er) (t : Nat) {u : Nat → Nat} (hu : su u 0 A ≤ 20) : tiny A (erX er t u) := by
  refine tiny_rows hO.1.2.2.2.1 (t := t) (fun r hr => ?_)
  by_cases e : r = t
  · rw [if_pos e]
    have : su (fun c => (erX er t u r c).natAbs) 0 A = 20 * su u 0 A := by
      rw [← su_mul]
      refine su_congr A 0 (fun c _ _ => ?_)
      show (erX er t u r c).natAbs = 20 * u c
      unfold erX
      rw [if_pos e]
      rfl
    omega
  · rw [if_neg e]
    refine Nat.le_trans (Nat.le_of_eq ?_) (Nat.le_of_eq (ha r hr))
    refine su_congr A 0 (fun c _ _ => ?_)
    show (erX er t u r c).natAbs = er r c
    unfold erX
    rw [if_neg e]
    rfl
/-- undo's answer -/
def unA (A : Nat) (er : Nat → Nat → Nat) : Int32 := if dt A (erZ er) = 0 then 1 else 0
theorem unK (hO : okS C A ct ch gr fl ms er ml lk) (hR : repK k σ C A ct ch gr fl ms er ml lk) (hfu : 200 ≤ fu) : ∀ (d r n : Nat), r + d = A → d < n → (∀ q, q < r → su (er q) 0 A = 20) → (all20 A er ∧ ∃ f, fK_undo_2 fu k n σ (nI r) = some (unA A er, uK_square σ f)) ∨ (¬ all20 A er ∧ fK_undo_2 fu k n σ (nI r) = some (2, σ))
  | 0, r, n + 1, hr, hn, hq => by
    have h := szK_of hO hR
    have ha : all20 A er := fun q hq' => hq q (by omega)
    have hT := tiny_er hO ha
    have hb : (dt A (erZ er)).natAbs < 2 ^ 63 := by
      have := tiny_dt hT (Nat.le_refl A)
      omega
    refine Or.inl ⟨ha, ?_⟩
    obtain ⟨f1, e1, e2⟩ := loadK hO hR hfu (sK_square σ)
    rw [← sq_0] at e1
    obtain ⟨f2, e3⟩ := detK (σ := σ) h hfu hT e2
    refine ⟨f2, ?_⟩
    rw [fK_undo_2, if_pos ((sz_le h (by omega)).mpr (by omega)), e1]
    simp only [Option.bind_some]
    rw [e3]
    simp only [kbind2]
    unfold unA
    by_cases e : dt A (erZ er) = 0
    · rw [if_pos e, if_pos ((lZ_eq0 hb).mpr e)]
    · rw [if_neg e, if_neg (fun q => e ((lZ_eq0 hb).mp q))]
  | d + 1, r, n + 1, hr, hn, hq => by
    have hC := hO.1
    have h := szK_of hO hR
    have hs := es_le hO (show r < A by omega)
    have he := esK (fu := fu) hO hR (show r < A by omega) A 0 fu 0 (by omega) (by omega)
    rw [Nat.zero_add] at he
    rw [fK_undo_2, if_neg (show ¬ kK_ages k ≤ nI r by rw [sz_le h (by omega)]; omega)]
    unfold fK_errorSum
    rw [show fK_errorSum_4 fu k σ fu (nI r) 0 0 = some (nI (su (er r) 0 A)) from he]
    simp only [Option.bind_some]
    by_cases e : su (er r) 0 A = 20
    · rw [if_pos (show nI (su (er r) 0 A) = 20 by rw [e]; rfl), nI_1]
      exact unK hO hR hfu d (r + 1) n (by omega) (by omega) (fun q hq' => by
        by_cases e2 : q = r
        · rw [e2]; exact e
        · exact hq q (by omega))
    · rw [if_neg (show ¬ nI (su (er r) 0 A) = 20 by rw [show (20 : Int32) = nI 20 from rfl, nI_eq (by omega) (by omega)]; exact e)]
      exact Or.inr ⟨fun q => e (q r (by omega)), rfl⟩
theorem unM (hO : okS C A ct ch gr fl ms er ml lk) (hM : repM k2 σ2 C A ct ch gr fl ms er ml lk) (hfu : 200 ≤ fu) : ∀ (d r n : Nat), r + d = A → d < n → (∀ q, q < r → su (er q) 0 A = 20) → (all20 A er → ∃ f, fM_undo_2 fu k2 n σ2 (nI r) = some (unA A er, uM_cells σ2 f)) ∧ (¬ all20 A er → fM_undo_2 fu k2 n σ2 (nI r) = some (2, σ2))
  | 0, r, n + 1, hr, hn, hq => by
    have h := szM_of hO hM
    have ha : all20 A er := fun q hq' => hq q (by omega)
    have hT := tiny_er hO ha
    have hb : (dt A (erZ er)).natAbs < 2 ^ 63 := by
      have := tiny_dt hT (Nat.le_refl A)
      omega
    refine ⟨fun _ => ?_, fun q => absurd ha q⟩
    obtain ⟨f1, e1, e2⟩ := layM (g := 0) (x2 := -1) (X := erZ er) hO hM hfu (by omega) (Or.inl ⟨rfl, rfl⟩) (sM_cells σ2)
    rw [← ce_0] at e1
    obtain ⟨f2, e3⟩ := detM (σ := σ2) h hfu (tiny_tr hT) e2
    rw [← dt_tr] at e3
    refine ⟨f2, ?_⟩
    rw [fM_undo_2, if_pos ((mz_le h (by omega)).mpr (by omega)), show fM_lay fu k2 σ2 0 (-1) = _ from e1]
    simp only [Option.bind_some]
    rw [e3]
    simp only [kbind2]
    unfold unA
    by_cases e : dt A (erZ er) = 0
    · rw [if_pos e, if_pos ((lZ_eq0 hb).mpr e)]
    · rw [if_neg e, if_neg (fun q => e ((lZ_eq0 hb).mp q))]
  | d + 1, r, n + 1, hr, hn, hq => by
    have hC := hO.1
    have h := szM_of hO hM
    have he := esM (fu := fu) hO hM (fM_undo_2 fu k2 n) (show r < A by omega) A 0 fu 0 (by omega) (by omega) (by omega)
    rw [Nat.zero_add] at he
    rw [fM_undo_2, if_neg (show ¬ kM_ages k2 ≤ nI r by rw [mz_le h (by omega)]; omega), show fM_undo_14 fu k2 (fM_undo_2 fu k2 n) fu σ2 (nI r) 0 0 = _ from he]
    by_cases e : su (er r) 0 A = 20
    · rw [if_pos e]
      exact unM hO hM hfu d (r + 1) n (by omega) (by omega) (fun q hq' => by
        by_cases e2 : q = r
        · rw [e2]; exact e
        · exact hq q (by omega))
    · rw [if_neg e]
      exact ⟨fun q => absurd (q r (by omega)) e, fun _ => rfl⟩
theorem undo_2 (hO : okS C A ct ch gr fl ms er ml lk) (hR : repK k σ C A ct ch gr fl ms er ml lk) (hM : repM k2 σ2 C A ct ch gr fl ms er ml lk) (hfu : 200 ≤ fu) : (all20 A er ∧ ∃ f f2, fK_undo fu k σ = some (unA A er, uK_square σ f) ∧ fM_undo fu k2 σ2 = some (unA A er, uM_cells σ2 f2)) ∨ (fK_undo fu k σ = some (2, σ) ∧ fM_undo fu k2 σ2 = some (2, σ2)) := by
  have hC := hO.1
  have hm := unM (fu := fu) hO hM hfu A 0 fu (by omega) (by omega) (fun q h => absurd h (by omega))
  rcases unK (fu := fu) hO hR hfu A 0 fu (by omega) (by omega) (fun q h => absurd h (by omega)) with ⟨ha, f, e⟩ | ⟨ha, e⟩
  · obtain ⟨f2, e2⟩ := hm.1 ha
    exact Or.inl ⟨ha, f, f2, e, e2⟩
  · exact Or.inr ⟨e, hm.2 ha⟩
theorem op_undo (hO : okS C A ct ch gr fl ms er ml lk) (hR : repK k σ C A ct ch gr fl ms er ml lk) (hM : repM k2 σ2 C A ct ch gr fl ms er ml lk) (hfu : 200 ≤ fu) : ∃ r σ' σ2', fK_undo fu k σ = some (r, σ') ∧ fM_undo fu k2 σ2 = some (r, σ2') ∧ repK k σ' C A ct ch gr fl ms er ml lk ∧ repM k2 σ2' C A ct ch gr fl ms er ml lk := by
  rcases undo_2 hO hR hM hfu with ⟨_, f, f2, e1, e2⟩ | ⟨e1, e2⟩
  · exact ⟨_, _, _, e1, e2, hR, hM⟩
  · exact ⟨_, _, _, e1, e2, hR, hM⟩
end UN
