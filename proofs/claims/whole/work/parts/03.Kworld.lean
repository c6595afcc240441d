abbrev kK : Type := Int32 × Int32 × (Nat → Nat)
def kK_classes (k : kK) : Int32 := k.1
def kK_ages (k : kK) : Int32 := k.2.1
def kK_n (k : kK) : Nat → Nat := k.2.2
abbrev sK : Type := (Nat → Int32) × (Nat → Int64) × (Nat → Nat → Int32) × (Nat → Nat → Int64)
def sK_chosenRow (σ : sK) : Int32 := σ.1 0
def sK_measuredInAll (σ : sK) : Int64 := σ.2.1 0
def sK_readings (σ : sK) : (Nat → Int32) := σ.2.2.1 0
def sK_rowSize (σ : sK) : (Nat → Int32) := σ.2.2.1 1
def sK_groupReadings (σ : sK) : (Nat → Int32) := σ.2.2.1 2
def sK_groupSize (σ : sK) : (Nat → Int32) := σ.2.2.1 3
def sK_groupOf (σ : sK) : (Nat → Int32) := σ.2.2.1 4
def sK_filledBy (σ : sK) : (Nat → Int32) := σ.2.2.1 5
def sK_measured (σ : sK) : (Nat → Int64) := σ.2.2.2 0
def sK_errors (σ : sK) : (Nat → Int32) := σ.2.2.1 6
def sK_square (σ : sK) : (Nat → Int64) := σ.2.2.2 1
def sK_poolSum (σ : sK) : (Nat → Int32) := σ.2.2.1 7
def sK_poolSize (σ : sK) : (Nat → Int32) := σ.2.2.1 8
def sK_poolAges (σ : sK) : (Nat → Int32) := σ.2.2.1 9
def sK_poolLastAge (σ : sK) : (Nat → Int32) := σ.2.2.1 10
def sK_maleCount (σ : sK) : (Nat → Int32) := σ.2.2.1 11
def sK_lookedAt (σ : sK) : (Nat → Int32) := σ.2.2.1 12
def uK_chosenRow (σ : sK) (v : Int32) : sK := (va_up σ.1 0 v, σ.2.1, σ.2.2.1, σ.2.2.2)
def uK_measuredInAll (σ : sK) (v : Int64) : sK := (σ.1, va_up σ.2.1 0 v, σ.2.2.1, σ.2.2.2)
def uK_readings (σ : sK) (v : (Nat → Int32)) : sK := (σ.1, σ.2.1, va_up σ.2.2.1 0 v, σ.2.2.2)
def uK_rowSize (σ : sK) (v : (Nat → Int32)) : sK := (σ.1, σ.2.1, va_up σ.2.2.1 1 v, σ.2.2.2)
def uK_groupReadings (σ : sK) (v : (Nat → Int32)) : sK := (σ.1, σ.2.1, va_up σ.2.2.1 2 v, σ.2.2.2)
def uK_groupSize (σ : sK) (v : (Nat → Int32)) : sK := (σ.1, σ.2.1, va_up σ.2.2.1 3 v, σ.2.2.2)
def uK_groupOf (σ : sK) (v : (Nat → Int32)) : sK := (σ.1, σ.2.1, va_up σ.2.2.1 4 v, σ.2.2.2)
def uK_filledBy (σ : sK) (v : (Nat → Int32)) : sK := (σ.1, σ.2.1, va_up σ.2.2.1 5 v, σ.2.2.2)
def uK_measured (σ : sK) (v : (Nat → Int64)) : sK := (σ.1, σ.2.1, σ.2.2.1, va_up σ.2.2.2 0 v)
def uK_errors (σ : sK) (v : (Nat → Int32)) : sK := (σ.1, σ.2.1, va_up σ.2.2.1 6 v, σ.2.2.2)
def uK_square (σ : sK) (v : (Nat → Int64)) : sK := (σ.1, σ.2.1, σ.2.2.1, va_up σ.2.2.2 1 v)
def uK_poolSum (σ : sK) (v : (Nat → Int32)) : sK := (σ.1, σ.2.1, va_up σ.2.2.1 7 v, σ.2.2.2)
def uK_poolSize (σ : sK) (v : (Nat → Int32)) : sK := (σ.1, σ.2.1, va_up σ.2.2.1 8 v, σ.2.2.2)
def uK_poolAges (σ : sK) (v : (Nat → Int32)) : sK := (σ.1, σ.2.1, va_up σ.2.2.1 9 v, σ.2.2.2)
def uK_poolLastAge (σ : sK) (v : (Nat → Int32)) : sK := (σ.1, σ.2.1, va_up σ.2.2.1 10 v, σ.2.2.2)
def uK_maleCount (σ : sK) (v : (Nat → Int32)) : sK := (σ.1, σ.2.1, va_up σ.2.2.1 11 v, σ.2.2.2)
def uK_lookedAt (σ : sK) (v : (Nat → Int32)) : sK := (σ.1, σ.2.1, va_up σ.2.2.1 12 v, σ.2.2.2)
def wdK (q : Nat → Nat) (k : kK) (cI cJ : ClassId) (σ : sK) : va_W := [(q 0, .inr (0, [.int (kK_classes k), .int (kK_ages k), .int (sK_chosenRow σ), .ref (q 1), .ref (q 2), .ref (q 3), .ref (q 4), .ref (q 5), .ref (q 6), .ref (q 7), .long (sK_measuredInAll σ), .ref (q 8), .ref (q 9), .ref (q 10), .ref (q 11), .ref (q 12), .ref (q 13), .ref (q 14), .ref (q 15)])),
  (q 1, .inl (cI, kK_n k 0, .inl (sK_readings σ))),
  (q 2, .inl (cI, kK_n k 1, .inl (sK_rowSize σ))),
  (q 3, .inl (cI, kK_n k 2, .inl (sK_groupReadings σ))),
  (q 4, .inl (cI, kK_n k 3, .inl (sK_groupSize σ))),
  (q 5, .inl (cI, kK_n k 4, .inl (sK_groupOf σ))),
  (q 6, .inl (cI, kK_n k 5, .inl (sK_filledBy σ))),
  (q 7, .inl (cJ, kK_n k 6, .inr (.inl (sK_measured σ)))),
  (q 8, .inl (cI, kK_n k 7, .inl (sK_errors σ))),
  (q 9, .inl (cJ, kK_n k 8, .inr (.inl (sK_square σ)))),
  (q 10, .inl (cI, kK_n k 9, .inl (sK_poolSum σ))),
  (q 11, .inl (cI, kK_n k 10, .inl (sK_poolSize σ))),
  (q 12, .inl (cI, kK_n k 11, .inl (sK_poolAges σ))),
  (q 13, .inl (cI, kK_n k 12, .inl (sK_poolLastAge σ))),
  (q 14, .inl (cI, kK_n k 13, .inl (sK_maleCount σ))),
  (q 15, .inl (cI, kK_n k 14, .inl (sK_lookedAt σ)))]
theorem wK_readings (q : Nat → Nat) (k : kK) (cI cJ : ClassId) (σ : sK) (v : (Nat → Int32)) : (wdK q k cI cJ σ).set 1 (q 1, .inl (cI, kK_n k 0, .inl v)) = wdK q k cI cJ (uK_readings σ v) := by
  obtain ⟨a0, a1, a2, a3⟩ := σ
  rfl
theorem wK_rowSize (q : Nat → Nat) (k : kK) (cI cJ : ClassId) (σ : sK) (v : (Nat → Int32)) : (wdK q k cI cJ σ).set 2 (q 2, .inl (cI, kK_n k 1, .inl v)) = wdK q k cI cJ (uK_rowSize σ v) := by
  obtain ⟨a0, a1, a2, a3⟩ := σ
  rfl
theorem wK_groupReadings (q : Nat → Nat) (k : kK) (cI cJ : ClassId) (σ : sK) (v : (Nat → Int32)) : (wdK q k cI cJ σ).set 3 (q 3, .inl (cI, kK_n k 2, .inl v)) = wdK q k cI cJ (uK_groupReadings σ v) := by
  obtain ⟨a0, a1, a2, a3⟩ := σ
  rfl
theorem wK_groupSize (q : Nat → Nat) (k : kK) (cI cJ : ClassId) (σ : sK) (v : (Nat → Int32)) : (wdK q k cI cJ σ).set 4 (q 4, .inl (cI, kK_n k 3, .inl v)) = wdK q k cI cJ (uK_groupSize σ v) := by
  obtain ⟨a0, a1, a2, a3⟩ := σ
  rfl
theorem wK_groupOf (q : Nat → Nat) (k : kK) (cI cJ : ClassId) (σ : sK) (v : (Nat → Int32)) : (wdK q k cI cJ σ).set 5 (q 5, .inl (cI, kK_n k 4, .inl v)) = wdK q k cI cJ (uK_groupOf σ v) := by
  obtain ⟨a0, a1, a2, a3⟩ := σ
  rfl
theorem wK_filledBy (q : Nat → Nat) (k : kK) (cI cJ : ClassId) (σ : sK) (v : (Nat → Int32)) : (wdK q k cI cJ σ).set 6 (q 6, .inl (cI, kK_n k 5, .inl v)) = wdK q k cI cJ (uK_filledBy σ v) := by
  obtain ⟨a0, a1, a2, a3⟩ := σ
  rfl
theorem wK_measured (q : Nat → Nat) (k : kK) (cI cJ : ClassId) (σ : sK) (v : (Nat → Int64)) : (wdK q k cI cJ σ).set 7 (q 7, .inl (cJ, kK_n k 6, .inr (.inl v))) = wdK q k cI cJ (uK_measured σ v) := by
  obtain ⟨a0, a1, a2, a3⟩ := σ
  rfl
theorem wK_errors (q : Nat → Nat) (k : kK) (cI cJ : ClassId) (σ : sK) (v : (Nat → Int32)) : (wdK q k cI cJ σ).set 8 (q 8, .inl (cI, kK_n k 7, .inl v)) = wdK q k cI cJ (uK_errors σ v) := by
  obtain ⟨a0, a1, a2, a3⟩ := σ
  rfl
theorem wK_square (q : Nat → Nat) (k : kK) (cI cJ : ClassId) (σ : sK) (v : (Nat → Int64)) : (wdK q k cI cJ σ).set 9 (q 9, .inl (cJ, kK_n k 8, .inr (.inl v))) = wdK q k cI cJ (uK_square σ v) := by
  obtain ⟨a0, a1, a2, a3⟩ := σ
  rfl
theorem wK_poolSum (q : Nat → Nat) (k : kK) (cI cJ : ClassId) (σ : sK) (v : (Nat → Int32)) : (wdK q k cI cJ σ).set 10 (q 10, .inl (cI, kK_n k 9, .inl v)) = wdK q k cI cJ (uK_poolSum σ v) := by
  obtain ⟨a0, a1, a2, a3⟩ := σ
  rfl
theorem wK_poolSize (q : Nat → Nat) (k : kK) (cI cJ : ClassId) (σ : sK) (v : (Nat → Int32)) : (wdK q k cI cJ σ).set 11 (q 11, .inl (cI, kK_n k 10, .inl v)) = wdK q k cI cJ (uK_poolSize σ v) := by
  obtain ⟨a0, a1, a2, a3⟩ := σ
  rfl
theorem wK_poolAges (q : Nat → Nat) (k : kK) (cI cJ : ClassId) (σ : sK) (v : (Nat → Int32)) : (wdK q k cI cJ σ).set 12 (q 12, .inl (cI, kK_n k 11, .inl v)) = wdK q k cI cJ (uK_poolAges σ v) := by
  obtain ⟨a0, a1, a2, a3⟩ := σ
  rfl
theorem wK_poolLastAge (q : Nat → Nat) (k : kK) (cI cJ : ClassId) (σ : sK) (v : (Nat → Int32)) : (wdK q k cI cJ σ).set 13 (q 13, .inl (cI, kK_n k 12, .inl v)) = wdK q k cI cJ (uK_poolLastAge σ v) := by
  obtain ⟨a0, a1, a2, a3⟩ := σ
  rfl
theorem wK_maleCount (q : Nat → Nat) (k : kK) (cI cJ : ClassId) (σ : sK) (v : (Nat → Int32)) : (wdK q k cI cJ σ).set 14 (q 14, .inl (cI, kK_n k 13, .inl v)) = wdK q k cI cJ (uK_maleCount σ v) := by
  obtain ⟨a0, a1, a2, a3⟩ := σ
  rfl
theorem wK_lookedAt (q : Nat → Nat) (k : kK) (cI cJ : ClassId) (σ : sK) (v : (Nat → Int32)) : (wdK q k cI cJ σ).set 15 (q 15, .inl (cI, kK_n k 14, .inl v)) = wdK q k cI cJ (uK_lookedAt σ v) := by
  obtain ⟨a0, a1, a2, a3⟩ := σ
  rfl
theorem gK_classes {p : Program} {l : Launch} {e : Env} {R : Room} {s : State} {m : MethodId} {args : Array Value} {below : List Frame} {meth : Method} {c : Code} {H : Heap} {locs : List Loc} {cells slots : Nat} {Q : State → Prop} {cc : ByteArray} {pc : Nat} {ls : Array Slot} {rest : List Value} {D : va_G} {tys : List (ClassId × FieldType)} {q : Nat → Nat} {k : kK} {cI cJ : ClassId} {σ : sK} (hx : p.tables.exec = Jvm.exec) (hb : c.code = cc) (hown : s.vm.findClass RK = some m.cls) (hts : ∀ w ∈ TK, w.before args s = true) (hK : va_K D cl0 tys s) (hP : va_P D cl0 (wdK q k cI cJ σ) H) (hdg : decode cc pc = .ok (.getfield 26, 3))
    (kk : W p l e R s m args below meth c H locs cells slots Q (F0 m (pc + 3) ls (.int (kK_classes k) :: rest))) : W p l e R s m args below meth c H locs cells slots Q (F0 m pc ls (.ref (q 0) :: rest)) :=
  va_get (D := D) (ci := 0) (v := .int (kK_classes k)) (C := RK) (T := FK) (N := 19) hx hb hts iK_u hown hK hP 0 rfl rfl 0 (by decide) (hts (.fieldLink RK 26 "AgeKeys" "classes" "I") (by decide +kernel)) (fun _ h9 => h9) rfl hdg kk
theorem gK_ages {p : Program} {l : Launch} {e : Env} {R : Room} {s : State} {m : MethodId} {args : Array Value} {below : List Frame} {meth : Method} {c : Code} {H : Heap} {locs : List Loc} {cells slots : Nat} {Q : State → Prop} {cc : ByteArray} {pc : Nat} {ls : Array Slot} {rest : List Value} {D : va_G} {tys : List (ClassId × FieldType)} {q : Nat → Nat} {k : kK} {cI cJ : ClassId} {σ : sK} (hx : p.tables.exec = Jvm.exec) (hb : c.code = cc) (hown : s.vm.findClass RK = some m.cls) (hts : ∀ w ∈ TK, w.before args s = true) (hK : va_K D cl0 tys s) (hP : va_P D cl0 (wdK q k cI cJ σ) H) (hdg : decode cc pc = .ok (.getfield 29, 3))
    (kk : W p l e R s m args below meth c H locs cells slots Q (F0 m (pc + 3) ls (.int (kK_ages k) :: rest))) : W p l e R s m args below meth c H locs cells slots Q (F0 m pc ls (.ref (q 0) :: rest)) :=
  va_get (D := D) (ci := 0) (v := .int (kK_ages k)) (C := RK) (T := FK) (N := 19) hx hb hts iK_u hown hK hP 0 rfl rfl 1 (by decide) (hts (.fieldLink RK 29 "AgeKeys" "ages" "I") (by decide +kernel)) (fun _ h9 => h9) rfl hdg kk
theorem gK_chosenRow {p : Program} {l : Launch} {e : Env} {R : Room} {s : State} {m : MethodId} {args : Array Value} {below : List Frame} {meth : Method} {c : Code} {H : Heap} {locs : List Loc} {cells slots : Nat} {Q : State → Prop} {cc : ByteArray} {pc : Nat} {ls : Array Slot} {rest : List Value} {D : va_G} {tys : List (ClassId × FieldType)} {q : Nat → Nat} {k : kK} {cI cJ : ClassId} {σ : sK} (hx : p.tables.exec = Jvm.exec) (hb : c.code = cc) (hown : s.vm.findClass RK = some m.cls) (hts : ∀ w ∈ TK, w.before args s = true) (hK : va_K D cl0 tys s) (hP : va_P D cl0 (wdK q k cI cJ σ) H) (hdg : decode cc pc = .ok (.getfield 9, 3))
    (kk : W p l e R s m args below meth c H locs cells slots Q (F0 m (pc + 3) ls (.int (sK_chosenRow σ) :: rest))) : W p l e R s m args below meth c H locs cells slots Q (F0 m pc ls (.ref (q 0) :: rest)) :=
  va_get (D := D) (ci := 0) (v := .int (sK_chosenRow σ)) (C := RK) (T := FK) (N := 19) hx hb hts iK_u hown hK hP 0 rfl rfl 2 (by decide) (hts (.fieldLink RK 9 "AgeKeys" "chosenRow" "I") (by decide +kernel)) (fun _ h9 => h9) rfl hdg kk
theorem pK_chosenRow {p : Program} {l : Launch} {e : Env} {R : Room} {s : State} {m : MethodId} {args : Array Value} {below : List Frame} {meth : Method} {c : Code} {H : Heap} {locs : List Loc} {cells slots : Nat} {Q : State → Prop} {cc : ByteArray} {pc : Nat} {ls : Array Slot} {rest : List Value} {D : va_G} {tys : List (ClassId × FieldType)} {q : Nat → Nat} {k : kK} {cI cJ : ClassId} {σ : sK} {A : Nat → Prop} (hx : p.tables.exec = Jvm.exec) (hb : c.code = cc) (hown : s.vm.findClass RK = some m.cls) (hts : ∀ w ∈ TK, w.before args s = true) (hK : va_K D cl0 tys s) (hP : va_P D cl0 (wdK q k cI cJ σ) H) (hD : va_D A (wdK q k cI cJ σ)) (hS : va_S A s.heap H locs) {v : Int32} (hdg : decode cc pc = .ok (.putfield 9, 3))
    (kk : ∀ (H1 : Heap) (locs1 : List Loc), va_P D cl0 (wdK q k cI cJ (uK_chosenRow σ v)) H1 → va_D A (wdK q k cI cJ (uK_chosenRow σ v)) → va_S A s.heap H1 locs1 → W p l e R s m args below meth c H1 locs1 cells slots Q (F0 m (pc + 3) ls rest)) : W p l e R s m args below meth c H locs cells slots Q (F0 m pc ls (.int v :: .ref (q 0) :: rest)) :=
  va_put (D := D) (ci := 0) (v := .int v) (ty := .int) (C := RK) (T := FK) (N := 19) hx hb hts iK_u tyK tyK_ok nK_ok hown hK hP hD hS 0 rfl rfl 2 (by decide) (hts (.fieldLink RK 9 "AgeKeys" "chosenRow" "I") (by decide +kernel)) (fun _ h9 => h9) rfl (by decide +kernel) rfl rfl (Nat.le_of_ble_eq_true rfl) hdg kk
theorem gK_readings {p : Program} {l : Launch} {e : Env} {R : Room} {s : State} {m : MethodId} {args : Array Value} {below : List Frame} {meth : Method} {c : Code} {H : Heap} {locs : List Loc} {cells slots : Nat} {Q : State → Prop} {cc : ByteArray} {pc : Nat} {ls : Array Slot} {rest : List Value} {D : va_G} {tys : List (ClassId × FieldType)} {q : Nat → Nat} {k : kK} {cI cJ : ClassId} {σ : sK} (hx : p.tables.exec = Jvm.exec) (hb : c.code = cc) (hown : s.vm.findClass RK = some m.cls) (hts : ∀ w ∈ TK, w.before args s = true) (hK : va_K D cl0 tys s) (hP : va_P D cl0 (wdK q k cI cJ σ) H) (hdg : decode cc pc = .ok (.getfield 32, 3))
    (kk : W p l e R s m args below meth c H locs cells slots Q (F0 m (pc + 3) ls (.ref (q 1) :: rest))) : W p l e R s m args below meth c H locs cells slots Q (F0 m pc ls (.ref (q 0) :: rest)) :=
  va_get (D := D) (ci := 0) (v := .ref (q 1)) (C := RK) (T := FK) (N := 19) hx hb hts iK_u hown hK hP 0 rfl rfl 3 (by decide) (hts (.fieldLink RK 32 "AgeKeys" "readings" "[I") (by decide +kernel)) (fun _ h9 => h9) rfl hdg kk
theorem gK_rowSize {p : Program} {l : Launch} {e : Env} {R : Room} {s : State} {m : MethodId} {args : Array Value} {below : List Frame} {meth : Method} {c : Code} {H : Heap} {locs : List Loc} {cells slots : Nat} {Q : State → Prop} {cc : ByteArray} {pc : Nat} {ls : Array Slot} {rest : List Value} {D : va_G} {tys : List (ClassId × FieldType)} {q : Nat → Nat} {k : kK} {cI cJ : ClassId} {σ : sK} (hx : p.tables.exec = Jvm.exec) (hb : c.code = cc) (hown : s.vm.findClass RK = some m.cls) (hts : ∀ w ∈ TK, w.before args s = true) (hK : va_K D cl0 tys s) (hP : va_P D cl0 (wdK q k cI cJ σ) H) (hdg : decode cc pc = .ok (.getfield 36, 3))
    (kk : W p l e R s m args below meth c H locs cells slots Q (F0 m (pc + 3) ls (.ref (q 2) :: rest))) : W p l e R s m args below meth c H locs cells slots Q (F0 m pc ls (.ref (q 0) :: rest)) :=
  va_get (D := D) (ci := 0) (v := .ref (q 2)) (C := RK) (T := FK) (N := 19) hx hb hts iK_u hown hK hP 0 rfl rfl 4 (by decide) (hts (.fieldLink RK 36 "AgeKeys" "rowSize" "[I") (by decide +kernel)) (fun _ h9 => h9) rfl hdg kk
theorem gK_groupReadings {p : Program} {l : Launch} {e : Env} {R : Room} {s : State} {m : MethodId} {args : Array Value} {below : List Frame} {meth : Method} {c : Code} {H : Heap} {locs : List Loc} {cells slots : Nat} {Q : State → Prop} {cc : ByteArray} {pc : Nat} {ls : Array Slot} {rest : List Value} {D : va_G} {tys : List (ClassId × FieldType)} {q : Nat → Nat} {k : kK} {cI cJ : ClassId} {σ : sK} (hx : p.tables.exec = Jvm.exec) (hb : c.code = cc) (hown : s.vm.findClass RK = some m.cls) (hts : ∀ w ∈ TK, w.before args s = true) (hK : va_K D cl0 tys s) (hP : va_P D cl0 (wdK q k cI cJ σ) H) (hdg : decode cc pc = .ok (.getfield 39, 3))
    (kk : W p l e R s m args below meth c H locs cells slots Q (F0 m (pc + 3) ls (.ref (q 3) :: rest))) : W p l e R s m args below meth c H locs cells slots Q (F0 m pc ls (.ref (q 0) :: rest)) :=
  va_get (D := D) (ci := 0) (v := .ref (q 3)) (C := RK) (T := FK) (N := 19) hx hb hts iK_u hown hK hP 0 rfl rfl 5 (by decide) (hts (.fieldLink RK 39 "AgeKeys" "groupReadings" "[I") (by decide +kernel)) (fun _ h9 => h9) rfl hdg kk
theorem gK_groupSize {p : Program} {l : Launch} {e : Env} {R : Room} {s : State} {m : MethodId} {args : Array Value} {below : List Frame} {meth : Method} {c : Code} {H : Heap} {locs : List Loc} {cells slots : Nat} {Q : State → Prop} {cc : ByteArray} {pc : Nat} {ls : Array Slot} {rest : List Value} {D : va_G} {tys : List (ClassId × FieldType)} {q : Nat → Nat} {k : kK} {cI cJ : ClassId} {σ : sK} (hx : p.tables.exec = Jvm.exec) (hb : c.code = cc) (hown : s.vm.findClass RK = some m.cls) (hts : ∀ w ∈ TK, w.before args s = true) (hK : va_K D cl0 tys s) (hP : va_P D cl0 (wdK q k cI cJ σ) H) (hdg : decode cc pc = .ok (.getfield 42, 3))
    (kk : W p l e R s m args below meth c H locs cells slots Q (F0 m (pc + 3) ls (.ref (q 4) :: rest))) : W p l e R s m args below meth c H locs cells slots Q (F0 m pc ls (.ref (q 0) :: rest)) :=
  va_get (D := D) (ci := 0) (v := .ref (q 4)) (C := RK) (T := FK) (N := 19) hx hb hts iK_u hown hK hP 0 rfl rfl 6 (by decide) (hts (.fieldLink RK 42 "AgeKeys" "groupSize" "[I") (by decide +kernel)) (fun _ h9 => h9) rfl hdg kk
theorem gK_groupOf {p : Program} {l : Launch} {e : Env} {R : Room} {s : State} {m : MethodId} {args : Array Value} {below : List Frame} {meth : Method} {c : Code} {H : Heap} {locs : List Loc} {cells slots : Nat} {Q : State → Prop} {cc : ByteArray} {pc : Nat} {ls : Array Slot} {rest : List Value} {D : va_G} {tys : List (ClassId × FieldType)} {q : Nat → Nat} {k : kK} {cI cJ : ClassId} {σ : sK} (hx : p.tables.exec = Jvm.exec) (hb : c.code = cc) (hown : s.vm.findClass RK = some m.cls) (hts : ∀ w ∈ TK, w.before args s = true) (hK : va_K D cl0 tys s) (hP : va_P D cl0 (wdK q k cI cJ σ) H) (hdg : decode cc pc = .ok (.getfield 45, 3))
    (kk : W p l e R s m args below meth c H locs cells slots Q (F0 m (pc + 3) ls (.ref (q 5) :: rest))) : W p l e R s m args below meth c H locs cells slots Q (F0 m pc ls (.ref (q 0) :: rest)) :=
  va_get (D := D) (ci := 0) (v := .ref (q 5)) (C := RK) (T := FK) (N := 19) hx hb hts iK_u hown hK hP 0 rfl rfl 7 (by decide) (hts (.fieldLink RK 45 "AgeKeys" "groupOf" "[I") (by decide +kernel)) (fun _ h9 => h9) rfl hdg kk
theorem gK_filledBy {p : Program} {l : Launch} {e : Env} {R : Room} {s : State} {m : MethodId} {args : Array Value} {below : List Frame} {meth : Method} {c : Code} {H : Heap} {locs : List Loc} {cells slots : Nat} {Q : State → Prop} {cc : ByteArray} {pc : Nat} {ls : Array Slot} {rest : List Value} {D : va_G} {tys : List (ClassId × FieldType)} {q : Nat → Nat} {k : kK} {cI cJ : ClassId} {σ : sK} (hx : p.tables.exec = Jvm.exec) (hb : c.code = cc) (hown : s.vm.findClass RK = some m.cls) (hts : ∀ w ∈ TK, w.before args s = true) (hK : va_K D cl0 tys s) (hP : va_P D cl0 (wdK q k cI cJ σ) H) (hdg : decode cc pc = .ok (.getfield 48, 3))
    (kk : W p l e R s m args below meth c H locs cells slots Q (F0 m (pc + 3) ls (.ref (q 6) :: rest))) : W p l e R s m args below meth c H locs cells slots Q (F0 m pc ls (.ref (q 0) :: rest)) :=
  va_get (D := D) (ci := 0) (v := .ref (q 6)) (C := RK) (T := FK) (N := 19) hx hb hts iK_u hown hK hP 0 rfl rfl 8 (by decide) (hts (.fieldLink RK 48 "AgeKeys" "filledBy" "[I") (by decide +kernel)) (fun _ h9 => h9) rfl hdg kk
theorem gK_measured {p : Program} {l : Launch} {e : Env} {R : Room} {s : State} {m : MethodId} {args : Array Value} {below : List Frame} {meth : Method} {c : Code} {H : Heap} {locs : List Loc} {cells slots : Nat} {Q : State → Prop} {cc : ByteArray} {pc : Nat} {ls : Array Slot} {rest : List Value} {D : va_G} {tys : List (ClassId × FieldType)} {q : Nat → Nat} {k : kK} {cI cJ : ClassId} {σ : sK} (hx : p.tables.exec = Jvm.exec) (hb : c.code = cc) (hown : s.vm.findClass RK = some m.cls) (hts : ∀ w ∈ TK, w.before args s = true) (hK : va_K D cl0 tys s) (hP : va_P D cl0 (wdK q k cI cJ σ) H) (hdg : decode cc pc = .ok (.getfield 51, 3))
    (kk : W p l e R s m args below meth c H locs cells slots Q (F0 m (pc + 3) ls (.ref (q 7) :: rest))) : W p l e R s m args below meth c H locs cells slots Q (F0 m pc ls (.ref (q 0) :: rest)) :=
  va_get (D := D) (ci := 0) (v := .ref (q 7)) (C := RK) (T := FK) (N := 19) hx hb hts iK_u hown hK hP 0 rfl rfl 9 (by decide) (hts (.fieldLink RK 51 "AgeKeys" "measured" "[J") (by decide +kernel)) (fun _ h9 => h9) rfl hdg kk
theorem gK_measuredInAll {p : Program} {l : Launch} {e : Env} {R : Room} {s : State} {m : MethodId} {args : Array Value} {below : List Frame} {meth : Method} {c : Code} {H : Heap} {locs : List Loc} {cells slots : Nat} {Q : State → Prop} {cc : ByteArray} {pc : Nat} {ls : Array Slot} {rest : List Value} {D : va_G} {tys : List (ClassId × FieldType)} {q : Nat → Nat} {k : kK} {cI cJ : ClassId} {σ : sK} (hx : p.tables.exec = Jvm.exec) (hb : c.code = cc) (hown : s.vm.findClass RK = some m.cls) (hts : ∀ w ∈ TK, w.before args s = true) (hK : va_K D cl0 tys s) (hP : va_P D cl0 (wdK q k cI cJ σ) H) (hdg : decode cc pc = .ok (.getfield 13, 3))
    (kk : W p l e R s m args below meth c H locs cells slots Q (F0 m (pc + 3) ls (.long (sK_measuredInAll σ) :: rest))) : W p l e R s m args below meth c H locs cells slots Q (F0 m pc ls (.ref (q 0) :: rest)) :=
  va_get (D := D) (ci := 0) (v := .long (sK_measuredInAll σ)) (C := RK) (T := FK) (N := 19) hx hb hts iK_u hown hK hP 0 rfl rfl 10 (by decide) (hts (.fieldLink RK 13 "AgeKeys" "measuredInAll" "J") (by decide +kernel)) (fun _ h9 => h9) rfl hdg kk
theorem pK_measuredInAll {p : Program} {l : Launch} {e : Env} {R : Room} {s : State} {m : MethodId} {args : Array Value} {below : List Frame} {meth : Method} {c : Code} {H : Heap} {locs : List Loc} {cells slots : Nat} {Q : State → Prop} {cc : ByteArray} {pc : Nat} {ls : Array Slot} {rest : List Value} {D : va_G} {tys : List (ClassId × FieldType)} {q : Nat → Nat} {k : kK} {cI cJ : ClassId} {σ : sK} {A : Nat → Prop} (hx : p.tables.exec = Jvm.exec) (hb : c.code = cc) (hown : s.vm.findClass RK = some m.cls) (hts : ∀ w ∈ TK, w.before args s = true) (hK : va_K D cl0 tys s) (hP : va_P D cl0 (wdK q k cI cJ σ) H) (hD : va_D A (wdK q k cI cJ σ)) (hS : va_S A s.heap H locs) {v : Int64} (hdg : decode cc pc = .ok (.putfield 13, 3))
    (kk : ∀ (H1 : Heap) (locs1 : List Loc), va_P D cl0 (wdK q k cI cJ (uK_measuredInAll σ v)) H1 → va_D A (wdK q k cI cJ (uK_measuredInAll σ v)) → va_S A s.heap H1 locs1 → W p l e R s m args below meth c H1 locs1 cells slots Q (F0 m (pc + 3) ls rest)) : W p l e R s m args below meth c H locs cells slots Q (F0 m pc ls (.long v :: .ref (q 0) :: rest)) :=
  va_put (D := D) (ci := 0) (v := .long v) (ty := .long) (C := RK) (T := FK) (N := 19) hx hb hts iK_u tyK tyK_ok nK_ok hown hK hP hD hS 0 rfl rfl 10 (by decide) (hts (.fieldLink RK 13 "AgeKeys" "measuredInAll" "J") (by decide +kernel)) (fun _ h9 => h9) rfl (by decide +kernel) rfl rfl (Nat.le_of_ble_eq_true rfl) hdg kk
theorem gK_errors {p : Program} {l : Launch} {e : Env} {R : Room} {s : State} {m : MethodId} {args : Array Value} {below : List Frame} {meth : Method} {c : Code} {H : Heap} {locs : List Loc} {cells slots : Nat} {Q : State → Prop} {cc : ByteArray} {pc : Nat} {ls : Array Slot} {rest : List Value} {D : va_G} {tys : List (ClassId × FieldType)} {q : Nat → Nat} {k : kK} {cI cJ : ClassId} {σ : sK} (hx : p.tables.exec = Jvm.exec) (hb : c.code = cc) (hown : s.vm.findClass RK = some m.cls) (hts : ∀ w ∈ TK, w.before args s = true) (hK : va_K D cl0 tys s) (hP : va_P D cl0 (wdK q k cI cJ σ) H) (hdg : decode cc pc = .ok (.getfield 55, 3))
    (kk : W p l e R s m args below meth c H locs cells slots Q (F0 m (pc + 3) ls (.ref (q 8) :: rest))) : W p l e R s m args below meth c H locs cells slots Q (F0 m pc ls (.ref (q 0) :: rest)) :=
  va_get (D := D) (ci := 0) (v := .ref (q 8)) (C := RK) (T := FK) (N := 19) hx hb hts iK_u hown hK hP 0 rfl rfl 11 (by decide) (hts (.fieldLink RK 55 "AgeKeys" "errors" "[I") (by decide +kernel)) (fun _ h9 => h9) rfl hdg kk
theorem gK_square {p : Program} {l : Launch} {e : Env} {R : Room} {s : State} {m : MethodId} {args : Array Value} {below : List Frame} {meth : Method} {c : Code} {H : Heap} {locs : List Loc} {cells slots : Nat} {Q : State → Prop} {cc : ByteArray} {pc : Nat} {ls : Array Slot} {rest : List Value} {D : va_G} {tys : List (ClassId × FieldType)} {q : Nat → Nat} {k : kK} {cI cJ : ClassId} {σ : sK} (hx : p.tables.exec = Jvm.exec) (hb : c.code = cc) (hown : s.vm.findClass RK = some m.cls) (hts : ∀ w ∈ TK, w.before args s = true) (hK : va_K D cl0 tys s) (hP : va_P D cl0 (wdK q k cI cJ σ) H) (hdg : decode cc pc = .ok (.getfield 58, 3))
    (kk : W p l e R s m args below meth c H locs cells slots Q (F0 m (pc + 3) ls (.ref (q 9) :: rest))) : W p l e R s m args below meth c H locs cells slots Q (F0 m pc ls (.ref (q 0) :: rest)) :=
  va_get (D := D) (ci := 0) (v := .ref (q 9)) (C := RK) (T := FK) (N := 19) hx hb hts iK_u hown hK hP 0 rfl rfl 12 (by decide) (hts (.fieldLink RK 58 "AgeKeys" "square" "[J") (by decide +kernel)) (fun _ h9 => h9) rfl hdg kk
theorem gK_poolSum {p : Program} {l : Launch} {e : Env} {R : Room} {s : State} {m : MethodId} {args : Array Value} {below : List Frame} {meth : Method} {c : Code} {H : Heap} {locs : List Loc} {cells slots : Nat} {Q : State → Prop} {cc : ByteArray} {pc : Nat} {ls : Array Slot} {rest : List Value} {D : va_G} {tys : List (ClassId × FieldType)} {q : Nat → Nat} {k : kK} {cI cJ : ClassId} {σ : sK} (hx : p.tables.exec = Jvm.exec) (hb : c.code = cc) (hown : s.vm.findClass RK = some m.cls) (hts : ∀ w ∈ TK, w.before args s = true) (hK : va_K D cl0 tys s) (hP : va_P D cl0 (wdK q k cI cJ σ) H) (hdg : decode cc pc = .ok (.getfield 61, 3))
    (kk : W p l e R s m args below meth c H locs cells slots Q (F0 m (pc + 3) ls (.ref (q 10) :: rest))) : W p l e R s m args below meth c H locs cells slots Q (F0 m pc ls (.ref (q 0) :: rest)) :=
  va_get (D := D) (ci := 0) (v := .ref (q 10)) (C := RK) (T := FK) (N := 19) hx hb hts iK_u hown hK hP 0 rfl rfl 13 (by decide) (hts (.fieldLink RK 61 "AgeKeys" "poolSum" "[I") (by decide +kernel)) (fun _ h9 => h9) rfl hdg kk
theorem gK_poolSize {p : Program} {l : Launch} {e : Env} {R : Room} {s : State} {m : MethodId} {args : Array Value} {below : List Frame} {meth : Method} {c : Code} {H : Heap} {locs : List Loc} {cells slots : Nat} {Q : State → Prop} {cc : ByteArray} {pc : Nat} {ls : Array Slot} {rest : List Value} {D : va_G} {tys : List (ClassId × FieldType)} {q : Nat → Nat} {k : kK} {cI cJ : ClassId} {σ : sK} (hx : p.tables.exec = Jvm.exec) (hb : c.code = cc) (hown : s.vm.findClass RK = some m.cls) (hts : ∀ w ∈ TK, w.before args s = true) (hK : va_K D cl0 tys s) (hP : va_P D cl0 (wdK q k cI cJ σ) H) (hdg : decode cc pc = .ok (.getfield 64, 3))
    (kk : W p l e R s m args below meth c H locs cells slots Q (F0 m (pc + 3) ls (.ref (q 11) :: rest))) : W p l e R s m args below meth c H locs cells slots Q (F0 m pc ls (.ref (q 0) :: rest)) :=
  va_get (D := D) (ci := 0) (v := .ref (q 11)) (C := RK) (T := FK) (N := 19) hx hb hts iK_u hown hK hP 0 rfl rfl 14 (by decide) (hts (.fieldLink RK 64 "AgeKeys" "poolSize" "[I") (by decide +kernel)) (fun _ h9 => h9) rfl hdg kk
theorem gK_poolAges {p : Program} {l : Launch} {e : Env} {R : Room} {s : State} {m : MethodId} {args : Array Value} {below : List Frame} {meth : Method} {c : Code} {H : Heap} {locs : List Loc} {cells slots : Nat} {Q : State → Prop} {cc : ByteArray} {pc : Nat} {ls : Array Slot} {rest : List Value} {D : va_G} {tys : List (ClassId × FieldType)} {q : Nat → Nat} {k : kK} {cI cJ : ClassId} {σ : sK} (hx : p.tables.exec = Jvm.exec) (hb : c.code = cc) (hown : s.vm.findClass RK = some m.cls) (hts : ∀ w ∈ TK, w.before args s = true) (hK : va_K D cl0 tys s) (hP : va_P D cl0 (wdK q k cI cJ σ) H) (hdg : decode cc pc = .ok (.getfield 67, 3))
    (kk : W p l e R s m args below meth c H locs cells slots Q (F0 m (pc + 3) ls (.ref (q 12) :: rest))) : W p l e R s m args below meth c H locs cells slots Q (F0 m pc ls (.ref (q 0) :: rest)) :=
  va_get (D := D) (ci := 0) (v := .ref (q 12)) (C := RK) (T := FK) (N := 19) hx hb hts iK_u hown hK hP 0 rfl rfl 15 (by decide) (hts (.fieldLink RK 67 "AgeKeys" "poolAges" "[I") (by decide +kernel)) (fun _ h9 => h9) rfl hdg kk
theorem gK_poolLastAge {p : Program} {l : Launch} {e : Env} {R : Room} {s : State} {m : MethodId} {args : Array Value} {below : List Frame} {meth : Method} {c : Code} {H : Heap} {locs : List Loc} {cells slots : Nat} {Q : State → Prop} {cc : ByteArray} {pc : Nat} {ls : Array Slot} {rest : List Value} {D : va_G} {tys : List (ClassId × FieldType)} {q : Nat → Nat} {k : kK} {cI cJ : ClassId} {σ : sK} (hx : p.tables.exec = Jvm.exec) (hb : c.code = cc) (hown : s.vm.findClass RK = some m.cls) (hts : ∀ w ∈ TK, w.before args s = true) (hK : va_K D cl0 tys s) (hP : va_P D cl0 (wdK q k cI cJ σ) H) (hdg : decode cc pc = .ok (.getfield 70, 3))
    (kk : W p l e R s m args below meth c H locs cells slots Q (F0 m (pc + 3) ls (.ref (q 13) :: rest))) : W p l e R s m args below meth c H locs cells slots Q (F0 m pc ls (.ref (q 0) :: rest)) :=
  va_get (D := D) (ci := 0) (v := .ref (q 13)) (C := RK) (T := FK) (N := 19) hx hb hts iK_u hown hK hP 0 rfl rfl 16 (by decide) (hts (.fieldLink RK 70 "AgeKeys" "poolLastAge" "[I") (by decide +kernel)) (fun _ h9 => h9) rfl hdg kk
theorem gK_maleCount {p : Program} {l : Launch} {e : Env} {R : Room} {s : State} {m : MethodId} {args : Array Value} {below : List Frame} {meth : Method} {c : Code} {H : Heap} {locs : List Loc} {cells slots : Nat} {Q : State → Prop} {cc : ByteArray} {pc : Nat} {ls : Array Slot} {rest : List Value} {D : va_G} {tys : List (ClassId × FieldType)} {q : Nat → Nat} {k : kK} {cI cJ : ClassId} {σ : sK} (hx : p.tables.exec = Jvm.exec) (hb : c.code = cc) (hown : s.vm.findClass RK = some m.cls) (hts : ∀ w ∈ TK, w.before args s = true) (hK : va_K D cl0 tys s) (hP : va_P D cl0 (wdK q k cI cJ σ) H) (hdg : decode cc pc = .ok (.getfield 73, 3))
    (kk : W p l e R s m args below meth c H locs cells slots Q (F0 m (pc + 3) ls (.ref (q 14) :: rest))) : W p l e R s m args below meth c H locs cells slots Q (F0 m pc ls (.ref (q 0) :: rest)) :=
  va_get (D := D) (ci := 0) (v := .ref (q 14)) (C := RK) (T := FK) (N := 19) hx hb hts iK_u hown hK hP 0 rfl rfl 17 (by decide) (hts (.fieldLink RK 73 "AgeKeys" "maleCount" "[I") (by decide +kernel)) (fun _ h9 => h9) rfl hdg kk
theorem gK_lookedAt {p : Program} {l : Launch} {e : Env} {R : Room} {s : State} {m : MethodId} {args : Array Value} {below : List Frame} {meth : Method} {c : Code} {H : Heap} {locs : List Loc} {cells slots : Nat} {Q : State → Prop} {cc : ByteArray} {pc : Nat} {ls : Array Slot} {rest : List Value} {D : va_G} {tys : List (ClassId × FieldType)} {q : Nat → Nat} {k : kK} {cI cJ : ClassId} {σ : sK} (hx : p.tables.exec = Jvm.exec) (hb : c.code = cc) (hown : s.vm.findClass RK = some m.cls) (hts : ∀ w ∈ TK, w.before args s = true) (hK : va_K D cl0 tys s) (hP : va_P D cl0 (wdK q k cI cJ σ) H) (hdg : decode cc pc = .ok (.getfield 76, 3))
    (kk : W p l e R s m args below meth c H locs cells slots Q (F0 m (pc + 3) ls (.ref (q 15) :: rest))) : W p l e R s m args below meth c H locs cells slots Q (F0 m pc ls (.ref (q 0) :: rest)) :=
  va_get (D := D) (ci := 0) (v := .ref (q 15)) (C := RK) (T := FK) (N := 19) hx hb hts iK_u hown hK hP 0 rfl rfl 18 (by decide) (hts (.fieldLink RK 76 "AgeKeys" "lookedAt" "[I") (by decide +kernel)) (fun _ h9 => h9) rfl hdg kk
