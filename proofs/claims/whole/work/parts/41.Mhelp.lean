/-! The reference's own helpers, by the state. -/
theorem su_single {g : Nat → Nat} {t d i : Nat} (h1 : i ≤ t) (h2 : t < i + d) (h : ∀ j, i ≤ j → j < i + d → j ≠ t → g j = 0) : su g i d = g t := by
  have e := su_bump (g := fun _ => 0) (h := g) (x := g t) (t := t) d i h1 h2 (by omega) h
  rw [su_zero d i (fun _ _ _ => rfl)] at e
  omega
def srcA (C A : Nat) (gr : Nat → Nat) (ct : Nat → Nat → Nat → Nat) (fl : Nat → Option Nat) (r g : Nat) : Option Nat := if 0 < gT C A gr ct r g then some g else match fl g with
  | none => none
  | some h => if 0 < gT C A gr ct r h then some h else none
def oA (C : Nat) (ct : Nat → Nat → Nat → Nat) (r a : Nat) : Nat := su (fun c => rd ct r c a) 0 C
def cA (C : Nat) (ct : Nat → Nat → Nat → Nat) (r a : Nat) : Nat := su (fun c => c * rd ct r c a) 0 C
section MH
variable {C A : Nat} {ct : Nat → Nat → Nat → Nat} {ch : Nat} {gr : Nat → Nat} {fl : Nat → Option Nat} {ms : Nat → Nat} {er : Nat → Nat → Nat} {ml lk : Nat → Nat} {k : kM} {σ : sM} {fu : Nat}
theorem grM (hO : okS C A ct ch gr fl ms er ml lk) (hR : repM k σ C A ct ch gr fl ms er ml lk) {c : Nat} (hc : c < C) : kld (kM_n k 1) (sM_group σ) (nI c) = some (nI (gr c)) := by
  have hC := hO.1
  rw [show kM_n k 1 = 10 from by rw [hR.1]; rfl, kld_n (by omega) (by omega), hR.2.2.2.1 c hc]
theorem flM (hO : okS C A ct ch gr fl ms er ml lk) (hR : repM k σ C A ct ch gr fl ms er ml lk) {c : Nat} (hc : c < C) : kld (kM_n k 2) (sM_filler σ) (nI c) = some (oI (fl c)) := by
  have hC := hO.1
  rw [show kM_n k 2 = 10 from by rw [hR.1]; rfl, kld_n (by omega) (by omega), hR.2.2.2.2.1 c hc]
theorem oI_eq {o : Option Nat} {a : Nat} (ho : ∀ b, o = some b → b < 2 ^ 31) (ha : a < 2 ^ 31) : oI o = nI a ↔ o = some a := by
  cases o with
  | none => exact ⟨fun h => absurd h.symm (m1_ne ha), fun h => by cases h⟩
  | some b =>
    show nI b = nI a ↔ _
    rw [nI_eq (ho b rfl) ha]
    exact ⟨fun h => by rw [h], fun h => Option.some.inj h⟩
theorem oI_none {o : Option Nat} (ho : ∀ b, o = some b → b < 2 ^ 31) : oI o = -1 ↔ o = none := by
  cases o with
  | none => exact ⟨fun _ => rfl, fun _ => rfl⟩
  | some b => exact ⟨fun h => absurd h (m1_ne (ho b rfl)), fun h => by cases h⟩
theorem igM_in (hO : okS C A ct ch gr fl ms er ml lk) (hR : repM k σ C A ct ch gr fl ms er ml lk) (hfu : 200 ≤ fu) (h6 : Int32 → Int32 → Int32 → Int32 → Int32 → Option Int32) {r g c : Nat} {o : Option Nat} (hr : r < 5) (hg : g < 2 ^ 31) (hc : c < C) (ho : ∀ b, o = some b → b < 2 ^ 31) :
    ∀ (d a acc n : Nat), a + d = A → d < n → fM_inGroup_18 fu k σ h6 n (nI g) (plI r) (oI o) (nI acc) (nI c) (nI a) = h6 (nI g) (plI r) (oI o) (nI (acc + su (fun a => if gr c = g ∧ (o = none ∨ o = some a) then rd ct r c a else 0) a d)) (nI (c + 1))
  | 0, a, acc, n + 1, ha, hn => by
    have hC := hO.1
    rw [fM_inGroup_18, if_pos (by rw [show kM_ages k = nI A from by rw [hR.1]; rfl, nI_leI (by omega) (by omega)]; omega), nI_1]
    rfl
  | d + 1, a, acc, n + 1, ha, hn => by
    have hC := hO.1
    have ih := fun acc => igM_in hO hR hfu h6 hr hg hc ho d (a + 1) acc n (by omega) (by omega)
    rw [fM_inGroup_18, if_neg (by rw [show kM_ages k = nI A from by rw [hR.1]; rfl, nI_leI (by omega) (by omega)]; omega), grM hO hR hc]
    have h64 : ∀ x : Nat, fM_inGroup_64 fu k σ h6 (fM_inGroup_18 fu k σ h6 n) (nI acc) (nI x) (nI g) (plI r) (oI o) (nI c) (nI a) = h6 (nI g) (plI r) (oI o) (nI (acc + (x + su (fun a => if gr c = g ∧ (o = none ∨ o = some a) then rd ct r c a else 0) (a + 1) d))) (nI (c + 1)) := by
      intro x
      unfold fM_inGroup_64
      rw [nI_add, nI_1, ih, Nat.add_assoc]
    have h51 : fM_inGroup_51 fu k σ h6 (fM_inGroup_18 fu k σ h6 n) (nI acc) (nI g) (plI r) (oI o) (nI c) (nI a) = h6 (nI g) (plI r) (oI o) (nI (acc + (rd ct r c a + su (fun a => if gr c = g ∧ (o = none ∨ o = some a) then rd ct r c a else 0) (a + 1) d))) (nI (c + 1)) := by
      unfold fM_inGroup_51
      rw [cM hO hR hfu hr hc (show a < A by omega)]
      exact h64 _
    have h63 : fM_inGroup_63 fu k σ h6 (fM_inGroup_18 fu k σ h6 n) (nI acc) (nI g) (plI r) (oI o) (nI c) (nI a) = h6 (nI g) (plI r) (oI o) (nI (acc + (0 + su (fun a => if gr c = g ∧ (o = none ∨ o = some a) then rd ct r c a else 0) (a + 1) d))) (nI (c + 1)) := by
      unfold fM_inGroup_63
      exact h64 0
    have hgc : gr c < 2 ^ 31 := by have := (hO.2.1 c hc).1; omega
    show (if nI (gr c) = nI g then _ else _) = h6 (nI g) (plI r) (oI o) (nI (acc + ((if gr c = g ∧ (o = none ∨ o = some a) then rd ct r c a else 0) + su (fun a => if gr c = g ∧ (o = none ∨ o = some a) then rd ct r c a else 0) (a + 1) d))) (nI (c + 1))
    by_cases h1 : gr c = g
    · rw [if_pos (by rw [h1])]
      by_cases h2 : o = none
      · rw [if_pos (by rw [h2]; rfl), h51, if_pos ⟨h1, Or.inl h2⟩]
      · rw [if_neg (by rw [oI_none ho]; exact h2)]
        by_cases h3 : o = some a
        · rw [if_pos ((oI_eq ho (by omega)).mpr h3), h51, if_pos ⟨h1, Or.inr h3⟩]
        · rw [if_neg (by rw [oI_eq ho (by omega)]; exact h3), h63, if_neg (by rintro ⟨_, h4 | h4⟩; exact h2 h4; exact h3 h4)]
    · rw [if_neg (by rw [nI_eq hgc hg]; exact h1), h63, if_neg (fun h4 => h1 h4.1)]
theorem igM_out (hO : okS C A ct ch gr fl ms er ml lk) (hR : repM k σ C A ct ch gr fl ms er ml lk) (hfu : 200 ≤ fu) {r g : Nat} {o : Option Nat} (hr : r < 5) (hg : g < 2 ^ 31) (ho : ∀ b, o = some b → b < 2 ^ 31) :
    ∀ (d c acc n : Nat), c + d = C → d < n → fM_inGroup_6 fu k σ n (nI g) (plI r) (oI o) (nI acc) (nI c) = some (nI (acc + su (fun c => su (fun a => if gr c = g ∧ (o = none ∨ o = some a) then rd ct r c a else 0) 0 A) c d))
  | 0, c, acc, n + 1, hc, hn => by
    have hC := hO.1
    rw [fM_inGroup_6, if_pos (by rw [show kM_classes k = nI C from by rw [hR.1]; rfl, nI_leI (by omega) (by omega)]; omega)]
    rfl
  | d + 1, c, acc, n + 1, hc, hn => by
    have hC := hO.1
    rw [fM_inGroup_6, if_neg (by rw [show kM_classes k = nI C from by rw [hR.1]; rfl, nI_leI (by omega) (by omega)]; omega)]
    have h := igM_in hO hR hfu (fM_inGroup_6 fu k σ n) hr hg (show c < C by omega) ho A 0 acc fu (by omega) (by omega)
    rw [show (0 : Int32) = nI 0 from rfl, h, igM_out hO hR hfu hr hg ho d (c + 1) _ n (by omega) (by omega), Nat.add_assoc]
    rfl
theorem igM (hO : okS C A ct ch gr fl ms er ml lk) (hR : repM k σ C A ct ch gr fl ms er ml lk) (hfu : 200 ≤ fu) {r g : Nat} (hr : r < 5) (hg : g < 2 ^ 31) : fM_inGroup fu k σ (nI g) (plI r) (-1) = some (nI (gT C A gr ct r g)) := by
  have hC := hO.1
  have h := igM_out (o := none) hO hR hfu hr hg (fun _ h => by cases h) C 0 0 fu (by omega) (by omega)
  unfold fM_inGroup
  rw [show (-1 : Int32) = oI none from rfl, show (0 : Int32) = nI 0 from rfl, h, Nat.zero_add]
  congr 2
  refine su_congr C 0 (fun c _ _ => ?_)
  show su (fun a => if gr c = g ∧ (none = none ∨ none = some a) then rd ct r c a else 0) 0 A = (if gr c = g then _ else 0)
  split
  · rename_i h1
    refine su_congr A 0 (fun a _ _ => ?_)
    show (if gr c = g ∧ (none = none ∨ none = some a) then _ else _) = _
    rw [if_pos ⟨h1, Or.inl rfl⟩]
  · rename_i h1
    exact su_zero A 0 (fun a _ _ => by
      show (if gr c = g ∧ (none = none ∨ none = some a) then _ else _) = _
      rw [if_neg (fun h => h1 h.1)])
theorem igMa (hO : okS C A ct ch gr fl ms er ml lk) (hR : repM k σ C A ct ch gr fl ms er ml lk) (hfu : 200 ≤ fu) {r g a : Nat} (hr : r < 5) (hg : g < 2 ^ 31) (ha : a < A) : fM_inGroup fu k σ (nI g) (plI r) (nI a) = some (nI (gN C gr ct r g a)) := by
  have hC := hO.1
  have h := igM_out (o := some a) hO hR hfu hr hg (fun _ h => by cases h; omega) C 0 0 fu (by omega) (by omega)
  unfold fM_inGroup
  rw [show nI a = oI (some a) from rfl, show (0 : Int32) = nI 0 from rfl, h, Nat.zero_add]
  congr 2
  refine su_congr C 0 (fun c _ _ => ?_)
  show su (fun b => if gr c = g ∧ (some a = none ∨ some a = some b) then rd ct r c b else 0) 0 A = (if gr c = g then rd ct r c a else 0)
  rw [su_single (t := a) (by omega) (by omega) (fun j _ _ hj => by
    show (if gr c = g ∧ (some a = none ∨ some a = some j) then _ else _) = _
    rw [if_neg (by rintro ⟨_, h4 | h4⟩; cases h4; exact hj (Option.some.inj h4).symm)])]
  by_cases h1 : gr c = g
  · rw [if_pos h1, if_pos ⟨h1, Or.inr rfl⟩]
  · rw [if_neg h1, if_neg (fun h => h1 h.1)]
theorem iaM_in (hO : okS C A ct ch gr fl ms er ml lk) (hR : repM k σ C A ct ch gr fl ms er ml lk) (hfu : 200 ≤ fu) (h4 : Int32 → Int32 → Int32 → Option Int32) {r c : Nat} (hr : r < 5) (hc : c < C) :
    ∀ (d a acc n : Nat), a + d = A → d < n → fM_inAll_15 fu k σ h4 n (plI r) (nI acc) (nI c) (nI a) = h4 (plI r) (nI (acc + su (fun a => rd ct r c a) a d)) (nI (c + 1))
  | 0, a, acc, n + 1, ha, hn => by
    have hC := hO.1
    rw [fM_inAll_15, if_pos (by rw [show kM_ages k = nI A from by rw [hR.1]; rfl, nI_leI (by omega) (by omega)]; omega), nI_1]
    rfl
  | d + 1, a, acc, n + 1, ha, hn => by
    have hC := hO.1
    rw [fM_inAll_15, if_neg (by rw [show kM_ages k = nI A from by rw [hR.1]; rfl, nI_leI (by omega) (by omega)]; omega), cM hO hR hfu hr hc (show a < A by omega)]
    show fM_inAll_15 fu k σ h4 n (plI r) (nI acc + nI (rd ct r c a)) (nI c) (nI a + 1) = _
    rw [nI_add, nI_1, iaM_in hO hR hfu h4 hr hc d (a + 1) _ n (by omega) (by omega), Nat.add_assoc]
    rfl
theorem iaM_out (hO : okS C A ct ch gr fl ms er ml lk) (hR : repM k σ C A ct ch gr fl ms er ml lk) (hfu : 200 ≤ fu) {r : Nat} (hr : r < 5) :
    ∀ (d c acc n : Nat), c + d = C → d < n → fM_inAll_4 fu k σ n (plI r) (nI acc) (nI c) = some (nI (acc + su (fun c => su (fun a => rd ct r c a) 0 A) c d))
  | 0, c, acc, n + 1, hc, hn => by
    have hC := hO.1
    rw [fM_inAll_4, if_pos (by rw [show kM_classes k = nI C from by rw [hR.1]; rfl, nI_leI (by omega) (by omega)]; omega)]
    rfl
  | d + 1, c, acc, n + 1, hc, hn => by
    have hC := hO.1
    rw [fM_inAll_4, if_neg (by rw [show kM_classes k = nI C from by rw [hR.1]; rfl, nI_leI (by omega) (by omega)]; omega)]
    have h := iaM_in hO hR hfu (fM_inAll_4 fu k σ n) hr (show c < C by omega) A 0 acc fu (by omega) (by omega)
    rw [show (0 : Int32) = nI 0 from rfl, h, iaM_out hO hR hfu hr d (c + 1) _ n (by omega) (by omega), Nat.add_assoc]
    rfl
theorem iaM (hO : okS C A ct ch gr fl ms er ml lk) (hR : repM k σ C A ct ch gr fl ms er ml lk) (hfu : 200 ≤ fu) {r : Nat} (hr : r < 5) : fM_inAll fu k σ (plI r) = some (nI (tt C A ct r)) := by
  have hC := hO.1
  have h := iaM_out hO hR hfu hr C 0 0 fu (by omega) (by omega)
  unfold fM_inAll
  rw [show (0 : Int32) = nI 0 from rfl, h, Nat.zero_add]
  rfl
theorem ownM (hO : okS C A ct ch gr fl ms er ml lk) (hR : repM k σ C A ct ch gr fl ms er ml lk) (hfu : 200 ≤ fu) {g : Nat} (hg : g < 2 ^ 31) : fM_own fu k σ (nI g) = some (nI (gT C A gr ct ch g)) := by
  have hC := hO.1
  unfold fM_own
  rw [hR.2.1, igM hO hR hfu (show ch < 5 by omega) hg]
  rfl
theorem gT_lt (hO : okS C A ct ch gr fl ms er ml lk) {r g : Nat} (hr : r < 5) (hg : g < C) : gT C A gr ct r g ≤ 20 := Nat.le_trans (gT_le C A gr ct r g hr) (hO.2.2.2.2.1 g hg)
theorem pos_n {n : Nat} (h : n < 2 ^ 31) : nI n ≤ 0 ↔ n = 0 := by
  rw [show (0 : Int32) = nI 0 from rfl, nI_leI h (by omega)]
  omega
theorem fl_lt (hO : okS C A ct ch gr fl ms er ml lk) {c : Nat} (hc : c < C) : ∀ b, fl c = some b → b < 2 ^ 31 := fun b hb => by
  have := (hO.2.2.1 c b hc hb).1
  have := hO.1
  omega
theorem src_M18 (hO : okS C A ct ch gr fl ms er ml lk) (hR : repM k σ C A ct ch gr fl ms er ml lk) (hfu : 200 ≤ fu) {h : Nat} (hh : h < C) : fM_source_18 fu k σ (nI h) = some (oI (if 0 < gT C A gr ct ch h then some h else none)) := by
  have hC := hO.1
  have h20 := gT_lt hO (show ch < 5 by omega) hh
  unfold fM_source_18
  rw [if_neg (m1_ne (by omega)), ownM hO hR hfu (by omega)]
  show (if nI (gT C A gr ct ch h) ≤ 0 then some (-1) else some (nI h)) = _
  by_cases h0 : gT C A gr ct ch h = 0
  · rw [if_pos ((pos_n (by omega)).mpr h0), if_neg (by omega)]; rfl
  · rw [if_neg (by rw [pos_n (by omega)]; exact h0), if_pos (by omega)]; rfl
theorem srcM (hO : okS C A ct ch gr fl ms er ml lk) (hR : repM k σ C A ct ch gr fl ms er ml lk) (hfu : 200 ≤ fu) {g : Nat} (hg : g < C) : fM_source fu k σ (nI g) = some (oI (srcA C A gr ct fl ch g)) := by
  have hC := hO.1
  have h20 := gT_lt hO (show ch < 5 by omega) hg
  unfold fM_source srcA
  rw [ownM hO hR hfu (by omega)]
  show (if nI (gT C A gr ct ch g) ≤ 0 then _ else fM_source_18 fu k σ (nI g)) = _
  by_cases h0 : gT C A gr ct ch g = 0
  · rw [if_pos ((pos_n (by omega)).mpr h0), if_neg (show ¬ 0 < gT C A gr ct ch g by omega), flM hO hR hg]
    show fM_source_18 fu k σ (oI (fl g)) = _
    cases hfl : fl g with
    | none =>
      show fM_source_18 fu k σ (-1) = _
      unfold fM_source_18
      rw [if_pos rfl]; rfl
    | some h => exact src_M18 hO hR hfu (hO.2.2.1 g h hg hfl).1
  · rw [if_neg (by rw [pos_n (by omega)]; exact h0), src_M18 hO hR hfu hg, if_pos (by omega), if_pos (by omega)]
end MH
