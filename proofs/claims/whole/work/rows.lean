section
-- ===== PART A: goes FIRST, ahead of the names: the tables' words, and 'selects' of the private methods out of them =====
/-- a private method of a class that the tables say can be made, by its rows of tables_1 -/
def lw_okq (q : MethodName × Nat) : Prop := (q.1.cls ≠ "java/lang/invoke/MethodHandle" ∧ q.1.cls ≠ "java/lang/invoke/VarHandle") ∧ Cond.instantiable q.1.cls q.2 ∈ tables_1 ∧ Cond.privateMethod q.1 ∈ tables_1 ∧ Cond.instanceMethod q.1 ∈ tables_1
theorem lw_p0 : lw_okq (⟨"AgeKeys", "isClass", "(I)Z"⟩, 19) := ⟨⟨by decide +kernel, by decide +kernel⟩, List.mem_of_getElem? (i := 5) (by decide +kernel), List.mem_of_getElem? (i := 83) (by decide +kernel), List.mem_of_getElem? (i := 84) (by decide +kernel)⟩
theorem lw_p1 : lw_okq (⟨"AgeKeys", "isAge", "(I)Z"⟩, 19) := ⟨⟨by decide +kernel, by decide +kernel⟩, List.mem_of_getElem? (i := 5) (by decide +kernel), List.mem_of_getElem? (i := 87) (by decide +kernel), List.mem_of_getElem? (i := 88) (by decide +kernel)⟩
theorem lw_p2 : lw_okq (⟨"AgeKeys", "sizeIn", "(II)I"⟩, 19) := ⟨⟨by decide +kernel, by decide +kernel⟩, List.mem_of_getElem? (i := 5) (by decide +kernel), List.mem_of_getElem? (i := 94) (by decide +kernel), List.mem_of_getElem? (i := 95) (by decide +kernel)⟩
theorem lw_p3 : lw_okq (⟨"AgeKeys", "countReading", "(III)V"⟩, 19) := ⟨⟨by decide +kernel, by decide +kernel⟩, List.mem_of_getElem? (i := 5) (by decide +kernel), List.mem_of_getElem? (i := 98) (by decide +kernel), List.mem_of_getElem? (i := 99) (by decide +kernel)⟩
theorem lw_p4 : lw_okq (⟨"AgeKeys", "cell", "(III)I"⟩, 19) := ⟨⟨by decide +kernel, by decide +kernel⟩, List.mem_of_getElem? (i := 5) (by decide +kernel), List.mem_of_getElem? (i := 102) (by decide +kernel), List.mem_of_getElem? (i := 103) (by decide +kernel)⟩
theorem lw_p5 : lw_okq (⟨"AgeKeys", "sourceOf", "(I)I"⟩, 19) := ⟨⟨by decide +kernel, by decide +kernel⟩, List.mem_of_getElem? (i := 5) (by decide +kernel), List.mem_of_getElem? (i := 118) (by decide +kernel), List.mem_of_getElem? (i := 119) (by decide +kernel)⟩
theorem lw_p6 : lw_okq (⟨"AgeKeys", "own", "(I)I"⟩, 19) := ⟨⟨by decide +kernel, by decide +kernel⟩, List.mem_of_getElem? (i := 5) (by decide +kernel), List.mem_of_getElem? (i := 122) (by decide +kernel), List.mem_of_getElem? (i := 123) (by decide +kernel)⟩
theorem lw_p7 : lw_okq (⟨"AgeKeys", "ownOfAge", "(II)I"⟩, 19) := ⟨⟨by decide +kernel, by decide +kernel⟩, List.mem_of_getElem? (i := 5) (by decide +kernel), List.mem_of_getElem? (i := 126) (by decide +kernel), List.mem_of_getElem? (i := 127) (by decide +kernel)⟩
theorem lw_p8 : lw_okq (⟨"AgeKeys", "isLeastOfGroup", "(I)Z"⟩, 19) := ⟨⟨by decide +kernel, by decide +kernel⟩, List.mem_of_getElem? (i := 5) (by decide +kernel), List.mem_of_getElem? (i := 147) (by decide +kernel), List.mem_of_getElem? (i := 148) (by decide +kernel)⟩
theorem lw_p9 : lw_okq (⟨"AgeKeys", "nearestWithReadings", "(I)I"⟩, 19) := ⟨⟨by decide +kernel, by decide +kernel⟩, List.mem_of_getElem? (i := 5) (by decide +kernel), List.mem_of_getElem? (i := 155) (by decide +kernel), List.mem_of_getElem? (i := 156) (by decide +kernel)⟩
theorem lw_p10 : lw_okq (⟨"AgeKeys", "distanceTo", "(II)I"⟩, 19) := ⟨⟨by decide +kernel, by decide +kernel⟩, List.mem_of_getElem? (i := 5) (by decide +kernel), List.mem_of_getElem? (i := 159) (by decide +kernel), List.mem_of_getElem? (i := 160) (by decide +kernel)⟩
theorem lw_p11 : lw_okq (⟨"AgeKeys", "dropFills", "(II)V"⟩, 19) := ⟨⟨by decide +kernel, by decide +kernel⟩, List.mem_of_getElem? (i := 5) (by decide +kernel), List.mem_of_getElem? (i := 174) (by decide +kernel), List.mem_of_getElem? (i := 175) (by decide +kernel)⟩
theorem lw_p12 : lw_okq (⟨"AgeKeys", "moveReadings", "(II)V"⟩, 19) := ⟨⟨by decide +kernel, by decide +kernel⟩, List.mem_of_getElem? (i := 5) (by decide +kernel), List.mem_of_getElem? (i := 178) (by decide +kernel), List.mem_of_getElem? (i := 179) (by decide +kernel)⟩
theorem lw_p13 : lw_okq (⟨"AgeKeys", "canRaise", "(J)Z"⟩, 19) := ⟨⟨by decide +kernel, by decide +kernel⟩, List.mem_of_getElem? (i := 5) (by decide +kernel), List.mem_of_getElem? (i := 195) (by decide +kernel), List.mem_of_getElem? (i := 196) (by decide +kernel)⟩
theorem lw_p14 : lw_okq (⟨"AgeKeys", "measuredOfAge", "(I)J"⟩, 19) := ⟨⟨by decide +kernel, by decide +kernel⟩, List.mem_of_getElem? (i := 5) (by decide +kernel), List.mem_of_getElem? (i := 199) (by decide +kernel), List.mem_of_getElem? (i := 200) (by decide +kernel)⟩
theorem lw_p15 : lw_okq (⟨"AgeKeys", "commonShare", "(II)J"⟩, 19) := ⟨⟨by decide +kernel, by decide +kernel⟩, List.mem_of_getElem? (i := 5) (by decide +kernel), List.mem_of_getElem? (i := 203) (by decide +kernel), List.mem_of_getElem? (i := 204) (by decide +kernel)⟩
def lw_privs_1 : List (MethodName × Nat) := [(⟨"AgeKeys", "isClass", "(I)Z"⟩, 19), (⟨"AgeKeys", "isAge", "(I)Z"⟩, 19), (⟨"AgeKeys", "sizeIn", "(II)I"⟩, 19), (⟨"AgeKeys", "countReading", "(III)V"⟩, 19), (⟨"AgeKeys", "cell", "(III)I"⟩, 19), (⟨"AgeKeys", "sourceOf", "(I)I"⟩, 19), (⟨"AgeKeys", "own", "(I)I"⟩, 19), (⟨"AgeKeys", "ownOfAge", "(II)I"⟩, 19), (⟨"AgeKeys", "isLeastOfGroup", "(I)Z"⟩, 19), (⟨"AgeKeys", "nearestWithReadings", "(I)I"⟩, 19), (⟨"AgeKeys", "distanceTo", "(II)I"⟩, 19), (⟨"AgeKeys", "dropFills", "(II)V"⟩, 19), (⟨"AgeKeys", "moveReadings", "(II)V"⟩, 19), (⟨"AgeKeys", "canRaise", "(J)Z"⟩, 19), (⟨"AgeKeys", "measuredOfAge", "(I)J"⟩, 19), (⟨"AgeKeys", "commonShare", "(II)J"⟩, 19)]
theorem lw_r1 : ∀ q ∈ lw_privs_1, lw_okq q := List.forall_mem_cons.mpr ⟨lw_p0, List.forall_mem_cons.mpr ⟨lw_p1, List.forall_mem_cons.mpr ⟨lw_p2, List.forall_mem_cons.mpr ⟨lw_p3, List.forall_mem_cons.mpr ⟨lw_p4, List.forall_mem_cons.mpr ⟨lw_p5, List.forall_mem_cons.mpr ⟨lw_p6, List.forall_mem_cons.mpr ⟨lw_p7, List.forall_mem_cons.mpr ⟨lw_p8, List.forall_mem_cons.mpr ⟨lw_p9, List.forall_mem_cons.mpr ⟨lw_p10, List.forall_mem_cons.mpr ⟨lw_p11, List.forall_mem_cons.mpr ⟨lw_p12, List.forall_mem_cons.mpr ⟨lw_p13, List.forall_mem_cons.mpr ⟨lw_p14, List.forall_mem_cons.mpr ⟨lw_p15, fun _ h => absurd h List.not_mem_nil⟩⟩⟩⟩⟩⟩⟩⟩⟩⟩⟩⟩⟩⟩⟩⟩
theorem lw_p16 : lw_okq (⟨"AgeKeys", "errorSum", "(I)I"⟩, 19) := ⟨⟨by decide +kernel, by decide +kernel⟩, List.mem_of_getElem? (i := 5) (by decide +kernel), List.mem_of_getElem? (i := 220) (by decide +kernel), List.mem_of_getElem? (i := 221) (by decide +kernel)⟩
theorem lw_p17 : lw_okq (⟨"AgeKeys", "loadErrors", "()V"⟩, 19) := ⟨⟨by decide +kernel, by decide +kernel⟩, List.mem_of_getElem? (i := 5) (by decide +kernel), List.mem_of_getElem? (i := 224) (by decide +kernel), List.mem_of_getElem? (i := 225) (by decide +kernel)⟩
theorem lw_p18 : lw_okq (⟨"AgeKeys", "determinant", "()J"⟩, 19) := ⟨⟨by decide +kernel, by decide +kernel⟩, List.mem_of_getElem? (i := 5) (by decide +kernel), List.mem_of_getElem? (i := 228) (by decide +kernel), List.mem_of_getElem? (i := 229) (by decide +kernel)⟩
theorem lw_p19 : lw_okq (⟨"AgeKeys", "pivotRow", "(I)I"⟩, 19) := ⟨⟨by decide +kernel, by decide +kernel⟩, List.mem_of_getElem? (i := 5) (by decide +kernel), List.mem_of_getElem? (i := 232) (by decide +kernel), List.mem_of_getElem? (i := 233) (by decide +kernel)⟩
theorem lw_p20 : lw_okq (⟨"AgeKeys", "swapRows", "(II)V"⟩, 19) := ⟨⟨by decide +kernel, by decide +kernel⟩, List.mem_of_getElem? (i := 5) (by decide +kernel), List.mem_of_getElem? (i := 236) (by decide +kernel), List.mem_of_getElem? (i := 237) (by decide +kernel)⟩
theorem lw_p21 : lw_okq (⟨"AgeKeys", "clearBelow", "(IJ)V"⟩, 19) := ⟨⟨by decide +kernel, by decide +kernel⟩, List.mem_of_getElem? (i := 5) (by decide +kernel), List.mem_of_getElem? (i := 240) (by decide +kernel), List.mem_of_getElem? (i := 241) (by decide +kernel)⟩
theorem lw_p22 : lw_okq (⟨"AgeKeys", "poolOf", "(I)I"⟩, 19) := ⟨⟨by decide +kernel, by decide +kernel⟩, List.mem_of_getElem? (i := 5) (by decide +kernel), List.mem_of_getElem? (i := 258) (by decide +kernel), List.mem_of_getElem? (i := 259) (by decide +kernel)⟩
theorem lw_p23 : lw_okq (⟨"AgeKeys", "readingsOfAge", "(I)I"⟩, 19) := ⟨⟨by decide +kernel, by decide +kernel⟩, List.mem_of_getElem? (i := 5) (by decide +kernel), List.mem_of_getElem? (i := 262) (by decide +kernel), List.mem_of_getElem? (i := 263) (by decide +kernel)⟩
theorem lw_p24 : lw_okq (⟨"AgeKeys", "makePools", "()I"⟩, 19) := ⟨⟨by decide +kernel, by decide +kernel⟩, List.mem_of_getElem? (i := 5) (by decide +kernel), List.mem_of_getElem? (i := 266) (by decide +kernel), List.mem_of_getElem? (i := 267) (by decide +kernel)⟩
theorem lw_p25 : lw_okq (⟨"AgeKeys", "openPool", "(II)V"⟩, 19) := ⟨⟨by decide +kernel, by decide +kernel⟩, List.mem_of_getElem? (i := 5) (by decide +kernel), List.mem_of_getElem? (i := 270) (by decide +kernel), List.mem_of_getElem? (i := 271) (by decide +kernel)⟩
theorem lw_p26 : lw_okq (⟨"AgeKeys", "doesNotRise", "(I)Z"⟩, 19) := ⟨⟨by decide +kernel, by decide +kernel⟩, List.mem_of_getElem? (i := 5) (by decide +kernel), List.mem_of_getElem? (i := 274) (by decide +kernel), List.mem_of_getElem? (i := 275) (by decide +kernel)⟩
theorem lw_p27 : lw_okq (⟨"AgeKeys", "joinWithPoolBefore", "(I)V"⟩, 19) := ⟨⟨by decide +kernel, by decide +kernel⟩, List.mem_of_getElem? (i := 5) (by decide +kernel), List.mem_of_getElem? (i := 278) (by decide +kernel), List.mem_of_getElem? (i := 279) (by decide +kernel)⟩
theorem lw_p28 : lw_okq (⟨"AgeKeysModel", "isClass", "(I)Z"⟩, 13) := ⟨⟨by decide +kernel, by decide +kernel⟩, List.mem_of_getElem? (i := 297) (by decide +kernel), List.mem_of_getElem? (i := 347) (by decide +kernel), List.mem_of_getElem? (i := 348) (by decide +kernel)⟩
theorem lw_p29 : lw_okq (⟨"AgeKeysModel", "isAge", "(I)Z"⟩, 13) := ⟨⟨by decide +kernel, by decide +kernel⟩, List.mem_of_getElem? (i := 297) (by decide +kernel), List.mem_of_getElem? (i := 351) (by decide +kernel), List.mem_of_getElem? (i := 352) (by decide +kernel)⟩
theorem lw_p30 : lw_okq (⟨"AgeKeysModel", "inGroup", "(III)I"⟩, 13) := ⟨⟨by decide +kernel, by decide +kernel⟩, List.mem_of_getElem? (i := 297) (by decide +kernel), List.mem_of_getElem? (i := 355) (by decide +kernel), List.mem_of_getElem? (i := 356) (by decide +kernel)⟩
theorem lw_p31 : lw_okq (⟨"AgeKeysModel", "count", "(III)I"⟩, 13) := ⟨⟨by decide +kernel, by decide +kernel⟩, List.mem_of_getElem? (i := 297) (by decide +kernel), List.mem_of_getElem? (i := 359) (by decide +kernel), List.mem_of_getElem? (i := 360) (by decide +kernel)⟩
def lw_privs_2 : List (MethodName × Nat) := [(⟨"AgeKeys", "errorSum", "(I)I"⟩, 19), (⟨"AgeKeys", "loadErrors", "()V"⟩, 19), (⟨"AgeKeys", "determinant", "()J"⟩, 19), (⟨"AgeKeys", "pivotRow", "(I)I"⟩, 19), (⟨"AgeKeys", "swapRows", "(II)V"⟩, 19), (⟨"AgeKeys", "clearBelow", "(IJ)V"⟩, 19), (⟨"AgeKeys", "poolOf", "(I)I"⟩, 19), (⟨"AgeKeys", "readingsOfAge", "(I)I"⟩, 19), (⟨"AgeKeys", "makePools", "()I"⟩, 19), (⟨"AgeKeys", "openPool", "(II)V"⟩, 19), (⟨"AgeKeys", "doesNotRise", "(I)Z"⟩, 19), (⟨"AgeKeys", "joinWithPoolBefore", "(I)V"⟩, 19), (⟨"AgeKeysModel", "isClass", "(I)Z"⟩, 13), (⟨"AgeKeysModel", "isAge", "(I)Z"⟩, 13), (⟨"AgeKeysModel", "inGroup", "(III)I"⟩, 13), (⟨"AgeKeysModel", "count", "(III)I"⟩, 13)]
theorem lw_r2 : ∀ q ∈ lw_privs_2, lw_okq q := List.forall_mem_cons.mpr ⟨lw_p16, List.forall_mem_cons.mpr ⟨lw_p17, List.forall_mem_cons.mpr ⟨lw_p18, List.forall_mem_cons.mpr ⟨lw_p19, List.forall_mem_cons.mpr ⟨lw_p20, List.forall_mem_cons.mpr ⟨lw_p21, List.forall_mem_cons.mpr ⟨lw_p22, List.forall_mem_cons.mpr ⟨lw_p23, List.forall_mem_cons.mpr ⟨lw_p24, List.forall_mem_cons.mpr ⟨lw_p25, List.forall_mem_cons.mpr ⟨lw_p26, List.forall_mem_cons.mpr ⟨lw_p27, List.forall_mem_cons.mpr ⟨lw_p28, List.forall_mem_cons.mpr ⟨lw_p29, List.forall_mem_cons.mpr ⟨lw_p30, List.forall_mem_cons.mpr ⟨lw_p31, fun _ h => absurd h List.not_mem_nil⟩⟩⟩⟩⟩⟩⟩⟩⟩⟩⟩⟩⟩⟩⟩⟩
theorem lw_p32 : lw_okq (⟨"AgeKeysModel", "inAll", "(I)I"⟩, 13) := ⟨⟨by decide +kernel, by decide +kernel⟩, List.mem_of_getElem? (i := 297) (by decide +kernel), List.mem_of_getElem? (i := 366) (by decide +kernel), List.mem_of_getElem? (i := 367) (by decide +kernel)⟩
theorem lw_p33 : lw_okq (⟨"AgeKeysModel", "source", "(I)I"⟩, 13) := ⟨⟨by decide +kernel, by decide +kernel⟩, List.mem_of_getElem? (i := 297) (by decide +kernel), List.mem_of_getElem? (i := 382) (by decide +kernel), List.mem_of_getElem? (i := 383) (by decide +kernel)⟩
theorem lw_p34 : lw_okq (⟨"AgeKeysModel", "own", "(I)I"⟩, 13) := ⟨⟨by decide +kernel, by decide +kernel⟩, List.mem_of_getElem? (i := 297) (by decide +kernel), List.mem_of_getElem? (i := 386) (by decide +kernel), List.mem_of_getElem? (i := 387) (by decide +kernel)⟩
theorem lw_p35 : lw_okq (⟨"AgeKeysModel", "distance", "(II)I"⟩, 13) := ⟨⟨by decide +kernel, by decide +kernel⟩, List.mem_of_getElem? (i := 297) (by decide +kernel), List.mem_of_getElem? (i := 401) (by decide +kernel), List.mem_of_getElem? (i := 402) (by decide +kernel)⟩
theorem lw_p36 : lw_okq (⟨"AgeKeysModel", "allMeasured", "()J"⟩, 13) := ⟨⟨by decide +kernel, by decide +kernel⟩, List.mem_of_getElem? (i := 297) (by decide +kernel), List.mem_of_getElem? (i := 422) (by decide +kernel), List.mem_of_getElem? (i := 423) (by decide +kernel)⟩
theorem lw_p37 : lw_okq (⟨"AgeKeysModel", "raise", "(JI)Z"⟩, 13) := ⟨⟨by decide +kernel, by decide +kernel⟩, List.mem_of_getElem? (i := 297) (by decide +kernel), List.mem_of_getElem? (i := 430) (by decide +kernel), List.mem_of_getElem? (i := 431) (by decide +kernel)⟩
theorem lw_p38 : lw_okq (⟨"AgeKeysModel", "lay", "(II)V"⟩, 13) := ⟨⟨by decide +kernel, by decide +kernel⟩, List.mem_of_getElem? (i := 297) (by decide +kernel), List.mem_of_getElem? (i := 451) (by decide +kernel), List.mem_of_getElem? (i := 452) (by decide +kernel)⟩
theorem lw_p39 : lw_okq (⟨"AgeKeysModel", "determinant", "()J"⟩, 13) := ⟨⟨by decide +kernel, by decide +kernel⟩, List.mem_of_getElem? (i := 297) (by decide +kernel), List.mem_of_getElem? (i := 456) (by decide +kernel), List.mem_of_getElem? (i := 457) (by decide +kernel)⟩
theorem lw_p40 : lw_okq (⟨"AgeKeysModel", "ofAge", "(I)I"⟩, 13) := ⟨⟨by decide +kernel, by decide +kernel⟩, List.mem_of_getElem? (i := 297) (by decide +kernel), List.mem_of_getElem? (i := 473) (by decide +kernel), List.mem_of_getElem? (i := 474) (by decide +kernel)⟩
theorem lw_p41 : lw_okq (⟨"AgeKeysModel", "mean", "(I)V"⟩, 13) := ⟨⟨by decide +kernel, by decide +kernel⟩, List.mem_of_getElem? (i := 297) (by decide +kernel), List.mem_of_getElem? (i := 477) (by decide +kernel), List.mem_of_getElem? (i := 478) (by decide +kernel)⟩
theorem lw_p42 : lw_okq (⟨"AgeKeysModel", "classesOf", "(I)I"⟩, 13) := ⟨⟨by decide +kernel, by decide +kernel⟩, List.mem_of_getElem? (i := 297) (by decide +kernel), List.mem_of_getElem? (i := 481) (by decide +kernel), List.mem_of_getElem? (i := 482) (by decide +kernel)⟩
theorem lw_p43 : lw_okq (⟨"AgeKeysModel", "isSame", "(II)Z"⟩, 13) := ⟨⟨by decide +kernel, by decide +kernel⟩, List.mem_of_getElem? (i := 297) (by decide +kernel), List.mem_of_getElem? (i := 489) (by decide +kernel), List.mem_of_getElem? (i := 490) (by decide +kernel)⟩
def lw_privs_3 : List (MethodName × Nat) := [(⟨"AgeKeysModel", "inAll", "(I)I"⟩, 13), (⟨"AgeKeysModel", "source", "(I)I"⟩, 13), (⟨"AgeKeysModel", "own", "(I)I"⟩, 13), (⟨"AgeKeysModel", "distance", "(II)I"⟩, 13), (⟨"AgeKeysModel", "allMeasured", "()J"⟩, 13), (⟨"AgeKeysModel", "raise", "(JI)Z"⟩, 13), (⟨"AgeKeysModel", "lay", "(II)V"⟩, 13), (⟨"AgeKeysModel", "determinant", "()J"⟩, 13), (⟨"AgeKeysModel", "ofAge", "(I)I"⟩, 13), (⟨"AgeKeysModel", "mean", "(I)V"⟩, 13), (⟨"AgeKeysModel", "classesOf", "(I)I"⟩, 13), (⟨"AgeKeysModel", "isSame", "(II)Z"⟩, 13)]
theorem lw_r3 : ∀ q ∈ lw_privs_3, lw_okq q := List.forall_mem_cons.mpr ⟨lw_p32, List.forall_mem_cons.mpr ⟨lw_p33, List.forall_mem_cons.mpr ⟨lw_p34, List.forall_mem_cons.mpr ⟨lw_p35, List.forall_mem_cons.mpr ⟨lw_p36, List.forall_mem_cons.mpr ⟨lw_p37, List.forall_mem_cons.mpr ⟨lw_p38, List.forall_mem_cons.mpr ⟨lw_p39, List.forall_mem_cons.mpr ⟨lw_p40, List.forall_mem_cons.mpr ⟨lw_p41, List.forall_mem_cons.mpr ⟨lw_p42, List.forall_mem_cons.mpr ⟨lw_p43, fun _ h => absurd h List.not_mem_nil⟩⟩⟩⟩⟩⟩⟩⟩⟩⟩⟩⟩
def lw_privs : List (MethodName × Nat) := lw_privs_1 ++ (lw_privs_2 ++ (lw_privs_3))
def lw_tbl : List Cond := k2_sels lw_privs ++ tables_1
theorem lw_privs_ok : ∀ q ∈ lw_privs, lw_okq q := by
  show ∀ q ∈ lw_privs_1 ++ (lw_privs_2 ++ (lw_privs_3)), lw_okq q
  exact List.forall_mem_append.mpr ⟨lw_r1, List.forall_mem_append.mpr ⟨lw_r2, lw_r3⟩⟩
-- ===== names =====
theorem kmem_r {big ws : List Cond} (ps : List Nat) (hp : ws = ps.filterMap (fun i => big[i]?)) : ∀ w ∈ ws, w ∈ big := by
  intro w hw
  rw [hp] at hw
  obtain ⟨i, -, hi⟩ := List.mem_filterMap.mp hw
  exact List.mem_of_getElem? hi
theorem kgood_self {T : List Cond} (h : T.all goodWord = true) : GoodIn T T := fun w hw => ⟨hw, good_of_word (List.all_eq_true.mp h w hw)⟩
def RK : String := "AgeKeys"
def FK : u_T := fun k => match k with
  | 0 => ("AgeKeys", "classes", "I", true)
  | 1 => ("AgeKeys", "ages", "I", true)
  | 2 => ("AgeKeys", "chosenRow", "I", false)
  | 3 => ("AgeKeys", "readings", "[I", true)
  | 4 => ("AgeKeys", "rowSize", "[I", true)
  | 5 => ("AgeKeys", "groupReadings", "[I", true)
  | 6 => ("AgeKeys", "groupSize", "[I", true)
  | 7 => ("AgeKeys", "groupOf", "[I", true)
  | 8 => ("AgeKeys", "filledBy", "[I", true)
  | 9 => ("AgeKeys", "measured", "[J", true)
  | 10 => ("AgeKeys", "measuredInAll", "J", false)
  | 11 => ("AgeKeys", "errors", "[I", true)
  | 12 => ("AgeKeys", "square", "[J", true)
  | 13 => ("AgeKeys", "poolSum", "[I", true)
  | 14 => ("AgeKeys", "poolSize", "[I", true)
  | 15 => ("AgeKeys", "poolAges", "[I", true)
  | 16 => ("AgeKeys", "poolLastAge", "[I", true)
  | 17 => ("AgeKeys", "maleCount", "[I", true)
  | _ => ("AgeKeys", "lookedAt", "[I", true)
def tyK : Nat → FieldType := fun k => match k with
  | 0 => .int
  | 1 => .int
  | 2 => .int
  | 3 => (.array .int)
  | 4 => (.array .int)
  | 5 => (.array .int)
  | 6 => (.array .int)
  | 7 => (.array .int)
  | 8 => (.array .int)
  | 9 => (.array .long)
  | 10 => .long
  | 11 => (.array .int)
  | 12 => (.array .long)
  | 13 => (.array .int)
  | 14 => (.array .int)
  | 15 => (.array .int)
  | 16 => (.array .int)
  | 17 => (.array .int)
  | _ => (.array .int)
abbrev cK_init : ByteArray := prog_1_method_1_code
def yK_init : MethodName := ⟨RK, "<init>", "(II)V"⟩
abbrev cK_read : ByteArray := prog_1_method_2_code
def yK_read : MethodName := ⟨RK, "read", "(III)Z"⟩
abbrev cK_place : ByteArray := prog_1_method_3_code
def yK_place : MethodName := ⟨RK, "place", "(I)I"⟩
abbrev cK_countReading : ByteArray := prog_1_method_4_code
def yK_countReading : MethodName := ⟨RK, "countReading", "(III)V"⟩
abbrev cK_share : ByteArray := prog_1_method_5_code
def yK_share : MethodName := ⟨RK, "share", "(III)J"⟩
abbrev cK_without : ByteArray := prog_1_method_6_code
def yK_without : MethodName := ⟨RK, "without", "(IIII)J"⟩
abbrev cK_sourceOf : ByteArray := prog_1_method_7_code
def yK_sourceOf : MethodName := ⟨RK, "sourceOf", "(I)I"⟩
abbrev cK_empty : ByteArray := prog_1_method_8_code
def yK_empty : MethodName := ⟨RK, "empty", "(I)I"⟩
abbrev cK_fill : ByteArray := prog_1_method_9_code
def yK_fill : MethodName := ⟨RK, "fill", "(I)I"⟩
abbrev cK_marked : ByteArray := prog_1_method_10_code
def yK_marked : MethodName := ⟨RK, "marked", "(I)Z"⟩
abbrev cK_joined : ByteArray := prog_1_method_11_code
def yK_joined : MethodName := ⟨RK, "joined", "(II)I"⟩
abbrev cK_groups : ByteArray := prog_1_method_12_code
def yK_groups : MethodName := ⟨RK, "groups", "()I"⟩
abbrev cK_nearestWithReadings : ByteArray := prog_1_method_13_code
def yK_nearestWithReadings : MethodName := ⟨RK, "nearestWithReadings", "(I)I"⟩
abbrev cK_distanceTo : ByteArray := prog_1_method_14_code
def yK_distanceTo : MethodName := ⟨RK, "distanceTo", "(II)I"⟩
abbrev cK_dropFills : ByteArray := prog_1_method_15_code
def yK_dropFills : MethodName := ⟨RK, "dropFills", "(II)V"⟩
abbrev cK_moveReadings : ByteArray := prog_1_method_16_code
def yK_moveReadings : MethodName := ⟨RK, "moveReadings", "(II)V"⟩
abbrev cK_sample : ByteArray := prog_1_method_17_code
def yK_sample : MethodName := ⟨RK, "sample", "(IJ)Z"⟩
abbrev cK_raised : ByteArray := prog_1_method_18_code
def yK_raised : MethodName := ⟨RK, "raised", "(JII)J"⟩
abbrev cK_sums : ByteArray := prog_1_method_19_code
def yK_sums : MethodName := ⟨RK, "sums", "(J)Z"⟩
abbrev cK_canRaise : ByteArray := prog_1_method_20_code
def yK_canRaise : MethodName := ⟨RK, "canRaise", "(J)Z"⟩
abbrev cK_measuredOfAge : ByteArray := prog_1_method_21_code
def yK_measuredOfAge : MethodName := ⟨RK, "measuredOfAge", "(I)J"⟩
abbrev cK_commonShare : ByteArray := prog_1_method_22_code
def yK_commonShare : MethodName := ⟨RK, "commonShare", "(II)J"⟩
abbrev cK_error : ByteArray := prog_1_method_23_code
def yK_error : MethodName := ⟨RK, "error", "(III)Z"⟩
abbrev cK_undo : ByteArray := prog_1_method_24_code
def yK_undo : MethodName := ⟨RK, "undo", "()I"⟩
abbrev cK_undone : ByteArray := prog_1_method_25_code
def yK_undone : MethodName := ⟨RK, "undone", "(III)J"⟩
abbrev cK_errorSum : ByteArray := prog_1_method_26_code
def yK_errorSum : MethodName := ⟨RK, "errorSum", "(I)I"⟩
abbrev cK_loadErrors : ByteArray := prog_1_method_27_code
def yK_loadErrors : MethodName := ⟨RK, "loadErrors", "()V"⟩
abbrev cK_determinant : ByteArray := prog_1_method_28_code
def yK_determinant : MethodName := ⟨RK, "determinant", "()J"⟩
abbrev cK_pivotRow : ByteArray := prog_1_method_29_code
def yK_pivotRow : MethodName := ⟨RK, "pivotRow", "(I)I"⟩
abbrev cK_swapRows : ByteArray := prog_1_method_30_code
def yK_swapRows : MethodName := ⟨RK, "swapRows", "(II)V"⟩
abbrev cK_clearBelow : ByteArray := prog_1_method_31_code
def yK_clearBelow : MethodName := ⟨RK, "clearBelow", "(IJ)V"⟩
abbrev cK_apart : ByteArray := prog_1_method_32_code
def yK_apart : MethodName := ⟨RK, "apart", "(III)J"⟩
abbrev cK_length : ByteArray := prog_1_method_33_code
def yK_length : MethodName := ⟨RK, "length", "(II)J"⟩
abbrev cK_pooled : ByteArray := prog_1_method_34_code
def yK_pooled : MethodName := ⟨RK, "pooled", "(I)I"⟩
abbrev cK_poolOf : ByteArray := prog_1_method_35_code
def yK_poolOf : MethodName := ⟨RK, "poolOf", "(I)I"⟩
abbrev cK_makePools : ByteArray := prog_1_method_36_code
def yK_makePools : MethodName := ⟨RK, "makePools", "()I"⟩
abbrev cK_openPool : ByteArray := prog_1_method_37_code
def yK_openPool : MethodName := ⟨RK, "openPool", "(II)V"⟩
abbrev cK_doesNotRise : ByteArray := prog_1_method_38_code
def yK_doesNotRise : MethodName := ⟨RK, "doesNotRise", "(I)Z"⟩
abbrev cK_joinWithPoolBefore : ByteArray := prog_1_method_39_code
def yK_joinWithPoolBefore : MethodName := ⟨RK, "joinWithPoolBefore", "(I)V"⟩
abbrev cK_readingsOfAge : ByteArray := prog_1_method_40_code
def yK_readingsOfAge : MethodName := ⟨RK, "readingsOfAge", "(I)I"⟩
abbrev cK_sex : ByteArray := prog_1_method_41_code
def yK_sex : MethodName := ⟨RK, "sex", "(III)Z"⟩
abbrev cK_males : ByteArray := prog_1_method_42_code
def yK_males : MethodName := ⟨RK, "males", "(II)J"⟩
abbrev cK_isClass : ByteArray := prog_1_method_43_code
def yK_isClass : MethodName := ⟨RK, "isClass", "(I)Z"⟩
abbrev cK_isAge : ByteArray := prog_1_method_44_code
def yK_isAge : MethodName := ⟨RK, "isAge", "(I)Z"⟩
abbrev cK_isPlace : ByteArray := prog_1_method_45_code
def yK_isPlace : MethodName := ⟨RK, "isPlace", "(I)Z"⟩
abbrev cK_isZeroOrOne : ByteArray := prog_1_method_46_code
def yK_isZeroOrOne : MethodName := ⟨RK, "isZeroOrOne", "(I)Z"⟩
abbrev cK_isLeastOfGroup : ByteArray := prog_1_method_47_code
def yK_isLeastOfGroup : MethodName := ⟨RK, "isLeastOfGroup", "(I)Z"⟩
abbrev cK_cell : ByteArray := prog_1_method_48_code
def yK_cell : MethodName := ⟨RK, "cell", "(III)I"⟩
abbrev cK_sizeIn : ByteArray := prog_1_method_49_code
def yK_sizeIn : MethodName := ⟨RK, "sizeIn", "(II)I"⟩
abbrev cK_own : ByteArray := prog_1_method_50_code
def yK_own : MethodName := ⟨RK, "own", "(I)I"⟩
abbrev cK_ownOfAge : ByteArray := prog_1_method_51_code
def yK_ownOfAge : MethodName := ⟨RK, "ownOfAge", "(II)I"⟩
abbrev cK_fractionPart : ByteArray := prog_1_method_52_code
def yK_fractionPart : MethodName := ⟨RK, "fractionPart", "(JJI)J"⟩
abbrev cK_commonDivisor : ByteArray := prog_1_method_53_code
def yK_commonDivisor : MethodName := ⟨RK, "commonDivisor", "(JJ)J"⟩
def RM : String := "AgeKeysModel"
def FM : u_T := fun k => match k with
  | 0 => ("AgeKeysModel", "classes", "I", true)
  | 1 => ("AgeKeysModel", "ages", "I", true)
  | 2 => ("AgeKeysModel", "counts", "[I", true)
  | 3 => ("AgeKeysModel", "chosen", "I", false)
  | 4 => ("AgeKeysModel", "group", "[I", true)
  | 5 => ("AgeKeysModel", "filler", "[I", true)
  | 6 => ("AgeKeysModel", "measured", "[J", true)
  | 7 => ("AgeKeysModel", "errors", "[I", true)
  | 8 => ("AgeKeysModel", "maleCount", "[I", true)
  | 9 => ("AgeKeysModel", "sexCount", "[I", true)
  | 10 => ("AgeKeysModel", "cells", "[J", true)
  | 11 => ("AgeKeysModel", "above", "J", false)
  | _ => ("AgeKeysModel", "below", "J", false)
def tyM : Nat → FieldType := fun k => match k with
  | 0 => .int
  | 1 => .int
  | 2 => (.array .int)
  | 3 => .int
  | 4 => (.array .int)
  | 5 => (.array .int)
  | 6 => (.array .long)
  | 7 => (.array .int)
  | 8 => (.array .int)
  | 9 => (.array .int)
  | 10 => (.array .long)
  | 11 => .long
  | _ => .long
abbrev cM_init : ByteArray := prog_3_method_1_code
def yM_init : MethodName := ⟨RM, "<init>", "(II)V"⟩
abbrev cM_isClass : ByteArray := prog_3_method_3_code
def yM_isClass : MethodName := ⟨RM, "isClass", "(I)Z"⟩
abbrev cM_isAge : ByteArray := prog_3_method_4_code
def yM_isAge : MethodName := ⟨RM, "isAge", "(I)Z"⟩
abbrev cM_isPart : ByteArray := prog_3_method_5_code
def yM_isPart : MethodName := ⟨RM, "isPart", "(I)Z"⟩
abbrev cM_at : ByteArray := prog_3_method_6_code
def yM_at : MethodName := ⟨RM, "at", "(III)I"⟩
abbrev cM_count : ByteArray := prog_3_method_7_code
def yM_count : MethodName := ⟨RM, "count", "(III)I"⟩
abbrev cM_inGroup : ByteArray := prog_3_method_8_code
def yM_inGroup : MethodName := ⟨RM, "inGroup", "(III)I"⟩
abbrev cM_inAll : ByteArray := prog_3_method_9_code
def yM_inAll : MethodName := ⟨RM, "inAll", "(I)I"⟩
abbrev cM_partOf : ByteArray := prog_3_method_10_code
def yM_partOf : MethodName := ⟨RM, "partOf", "(JJI)J"⟩
abbrev cM_read : ByteArray := prog_3_method_11_code
def yM_read : MethodName := ⟨RM, "read", "(III)Z"⟩
abbrev cM_place : ByteArray := prog_3_method_12_code
def yM_place : MethodName := ⟨RM, "place", "(I)I"⟩
abbrev cM_own : ByteArray := prog_3_method_13_code
def yM_own : MethodName := ⟨RM, "own", "(I)I"⟩
abbrev cM_source : ByteArray := prog_3_method_14_code
def yM_source : MethodName := ⟨RM, "source", "(I)I"⟩
abbrev cM_share : ByteArray := prog_3_method_15_code
def yM_share : MethodName := ⟨RM, "share", "(III)J"⟩
abbrev cM_empty : ByteArray := prog_3_method_16_code
def yM_empty : MethodName := ⟨RM, "empty", "(I)I"⟩
abbrev cM_distance : ByteArray := prog_3_method_17_code
def yM_distance : MethodName := ⟨RM, "distance", "(II)I"⟩
abbrev cM_fill : ByteArray := prog_3_method_18_code
def yM_fill : MethodName := ⟨RM, "fill", "(I)I"⟩
abbrev cM_marked : ByteArray := prog_3_method_19_code
def yM_marked : MethodName := ⟨RM, "marked", "(I)Z"⟩
abbrev cM_joined : ByteArray := prog_3_method_20_code
def yM_joined : MethodName := ⟨RM, "joined", "(II)I"⟩
abbrev cM_groups : ByteArray := prog_3_method_21_code
def yM_groups : MethodName := ⟨RM, "groups", "()I"⟩
abbrev cM_allMeasured : ByteArray := prog_3_method_22_code
def yM_allMeasured : MethodName := ⟨RM, "allMeasured", "()J"⟩
abbrev cM_sample : ByteArray := prog_3_method_23_code
def yM_sample : MethodName := ⟨RM, "sample", "(IJ)Z"⟩
abbrev cM_raise : ByteArray := prog_3_method_24_code
def yM_raise : MethodName := ⟨RM, "raise", "(JI)Z"⟩
abbrev cM_raised : ByteArray := prog_3_method_25_code
def yM_raised : MethodName := ⟨RM, "raised", "(JII)J"⟩
abbrev cM_sums : ByteArray := prog_3_method_26_code
def yM_sums : MethodName := ⟨RM, "sums", "(J)Z"⟩
abbrev cM_without : ByteArray := prog_3_method_27_code
def yM_without : MethodName := ⟨RM, "without", "(IIII)J"⟩
abbrev cM_error : ByteArray := prog_3_method_28_code
def yM_error : MethodName := ⟨RM, "error", "(III)Z"⟩
abbrev cM_determinant : ByteArray := prog_3_method_29_code
def yM_determinant : MethodName := ⟨RM, "determinant", "()J"⟩
abbrev cM_lay : ByteArray := prog_3_method_30_code
def yM_lay : MethodName := ⟨RM, "lay", "(II)V"⟩
abbrev cM_undo : ByteArray := prog_3_method_31_code
def yM_undo : MethodName := ⟨RM, "undo", "()I"⟩
abbrev cM_undone : ByteArray := prog_3_method_32_code
def yM_undone : MethodName := ⟨RM, "undone", "(III)J"⟩
abbrev cM_apart : ByteArray := prog_3_method_33_code
def yM_apart : MethodName := ⟨RM, "apart", "(III)J"⟩
abbrev cM_ofAge : ByteArray := prog_3_method_34_code
def yM_ofAge : MethodName := ⟨RM, "ofAge", "(I)I"⟩
abbrev cM_classesOf : ByteArray := prog_3_method_35_code
def yM_classesOf : MethodName := ⟨RM, "classesOf", "(I)I"⟩
abbrev cM_mean : ByteArray := prog_3_method_36_code
def yM_mean : MethodName := ⟨RM, "mean", "(I)V"⟩
abbrev cM_length : ByteArray := prog_3_method_37_code
def yM_length : MethodName := ⟨RM, "length", "(II)J"⟩
abbrev cM_isSame : ByteArray := prog_3_method_38_code
def yM_isSame : MethodName := ⟨RM, "isSame", "(II)Z"⟩
abbrev cM_pooled : ByteArray := prog_3_method_39_code
def yM_pooled : MethodName := ⟨RM, "pooled", "(I)I"⟩
abbrev cM_sex : ByteArray := prog_3_method_40_code
def yM_sex : MethodName := ⟨RM, "sex", "(III)Z"⟩
abbrev cM_males : ByteArray := prog_3_method_41_code
def yM_males : MethodName := ⟨RM, "males", "(II)J"⟩
abbrev cl0 : List vw_C := [(RK, FK, 19), (RM, FM, 13)]
def TK_0 : List Cond := [.code yK_init cK_init 4 none, .code yK_read cK_read 4 (some .boolean), .code yK_place cK_place 2 (some .int), .code yK_countReading cK_countReading 5 none, .code yK_share cK_share 5 (some .long), .code yK_without cK_without 8 (some .long), .code yK_sourceOf cK_sourceOf 3 (some .int), .code yK_empty cK_empty 4 (some .int), .code yK_fill cK_fill 3 (some .int), .code yK_marked cK_marked 2 (some .boolean), .code yK_joined cK_joined 6 (some .int), .code yK_groups cK_groups 3 (some .int), .code yK_nearestWithReadings cK_nearestWithReadings 7 (some .int), .code yK_distanceTo cK_distanceTo 5 (some .int), .code yK_dropFills cK_dropFills 4 none, .code yK_moveReadings cK_moveReadings 5 none]
set_option maxRecDepth 20000 in
theorem TK_0_in : ∀ w ∈ TK_0, w ∈ lw_tbl := fun w h => (goodIn_p TK_0 [52, 125, 152, 144, 156, 185, 164, 189, 197, 212, 216, 228, 201, 205, 220, 224] (by decide +kernel) (by decide +kernel) w h).1
def TK_1 : List Cond := [.code yK_sample cK_sample 4 (some .boolean), .code yK_raised cK_raised 5 (some .long), .code yK_sums cK_sums 6 (some .boolean), .code yK_canRaise cK_canRaise 4 (some .boolean), .code yK_measuredOfAge cK_measuredOfAge 5 (some .long), .code yK_commonShare cK_commonShare 5 (some .long), .code yK_error cK_error 4 (some .boolean), .code yK_undo cK_undo 2 (some .int), .code yK_undone cK_undone 8 (some .long), .code yK_errorSum cK_errorSum 4 (some .int), .code yK_loadErrors cK_loadErrors 2 none, .code yK_determinant cK_determinant 7 (some .long), .code yK_pivotRow cK_pivotRow 3 (some .int), .code yK_swapRows cK_swapRows 6 none, .code yK_clearBelow cK_clearBelow 12 none, .code yK_apart cK_apart 9 (some .long)]
set_option maxRecDepth 20000 in
theorem TK_1_in : ∀ w ∈ TK_1, w ∈ lw_tbl := fun w h => (goodIn_p TK_1 [232, 237, 254, 241, 245, 249, 258, 262, 290, 266, 270, 274, 278, 282, 286, 296] (by decide +kernel) (by decide +kernel) w h).1
def TK_2 : List Cond := [.code yK_length cK_length 4 (some .long), .code yK_pooled cK_pooled 3 (some .int), .code yK_poolOf cK_poolOf 4 (some .int), .code yK_makePools cK_makePools 3 (some .int), .code yK_openPool cK_openPool 5 none, .code yK_doesNotRise cK_doesNotRise 2 (some .boolean), .code yK_joinWithPoolBefore cK_joinWithPoolBefore 2 none, .code yK_readingsOfAge cK_readingsOfAge 4 (some .int), .code yK_sex cK_sex 4 (some .boolean), .code yK_males cK_males 6 (some .long), .code yK_isClass cK_isClass 2 (some .boolean), .code yK_isAge cK_isAge 2 (some .boolean), .code yK_isPlace cK_isPlace 1 (some .boolean), .code yK_isZeroOrOne cK_isZeroOrOne 1 (some .boolean), .code yK_isLeastOfGroup cK_isLeastOfGroup 2 (some .boolean), .code yK_cell cK_cell 4 (some .int)]
set_option maxRecDepth 20000 in
theorem TK_2_in : ∀ w ∈ TK_2, w ∈ lw_tbl := fun w h => (goodIn_p TK_2 [300, 328, 304, 312, 316, 320, 324, 308, 332, 336, 129, 133, 136, 159, 193, 148] (by decide +kernel) (by decide +kernel) w h).1
def TK_3 : List Cond := [.code yK_sizeIn cK_sizeIn 3 (some .int), .code yK_own cK_own 2 (some .int), .code yK_ownOfAge cK_ownOfAge 3 (some .int), .code yK_fractionPart cK_fractionPart 7 (some .long), .code yK_commonDivisor cK_commonDivisor 11 (some .long), .code objectInit ⟨#[0xb1]⟩ 1 none, .code Lib.Math.min.name Lib.Math.min.code 2 (some .int), .code Lib.Math.max.name Lib.Math.max.code 2 (some .int), .code Lib.Math.abs.name Lib.Math.abs.code 1 (some .int), .code Lib.MathLoose.abs_long.x Lib.MathLoose.abs_long.code 2 (some .long)]
set_option maxRecDepth 20000 in
theorem TK_3_in : ∀ w ∈ TK_3, w ∈ lw_tbl := fun w h => (goodIn_p TK_3 [140, 168, 172, 175, 181, 55, 58, 61, 208, 178] (by decide +kernel) (by decide +kernel) w h).1
def TK_4 : List Cond := [.instanceMethod yK_init, .methodLink RK 3 objectInit, .instanceMethod objectInit, .fieldLink RK 9 "AgeKeys" "chosenRow" "I", .fieldLink RK 13 "AgeKeys" "measuredInAll" "J", .methodLink RK 17 Lib.Math.min.name, .static Lib.Math.min.name, .initialized "java/lang/Math", .methodLink RK 23 Lib.Math.max.name, .static Lib.Math.max.name, .fieldLink RK 26 "AgeKeys" "classes" "I", .fieldLink RK 29 "AgeKeys" "ages" "I", .arrayClass .int, .fieldLink RK 32 "AgeKeys" "readings" "[I", .fieldLink RK 36 "AgeKeys" "rowSize" "[I", .fieldLink RK 39 "AgeKeys" "groupReadings" "[I"]
theorem TK_4_in : ∀ w ∈ TK_4, w ∈ lw_tbl := List.forall_mem_cons.mpr ⟨List.mem_of_getElem? (i := 51) (by decide +kernel), List.forall_mem_cons.mpr ⟨List.mem_of_getElem? (i := 53) (by decide +kernel), List.forall_mem_cons.mpr ⟨List.mem_of_getElem? (i := 54) (by decide +kernel), List.forall_mem_cons.mpr ⟨List.mem_of_getElem? (i := 64) (by decide +kernel), List.forall_mem_cons.mpr ⟨List.mem_of_getElem? (i := 72) (by decide +kernel), List.forall_mem_cons.mpr ⟨List.mem_of_getElem? (i := 56) (by decide +kernel), List.forall_mem_cons.mpr ⟨List.mem_of_getElem? (i := 57) (by decide +kernel), List.forall_mem_cons.mpr ⟨List.mem_of_getElem? (i := 46) (by decide +kernel), List.forall_mem_cons.mpr ⟨List.mem_of_getElem? (i := 59) (by decide +kernel), List.forall_mem_cons.mpr ⟨List.mem_of_getElem? (i := 60) (by decide +kernel), List.forall_mem_cons.mpr ⟨List.mem_of_getElem? (i := 62) (by decide +kernel), List.forall_mem_cons.mpr ⟨List.mem_of_getElem? (i := 63) (by decide +kernel), List.forall_mem_cons.mpr ⟨List.mem_of_getElem? (i := 120) (by decide +kernel), List.forall_mem_cons.mpr ⟨List.mem_of_getElem? (i := 65) (by decide +kernel), List.forall_mem_cons.mpr ⟨List.mem_of_getElem? (i := 66) (by decide +kernel), List.forall_mem_cons.mpr ⟨List.mem_of_getElem? (i := 67) (by decide +kernel), fun _ h => absurd h List.not_mem_nil⟩⟩⟩⟩⟩⟩⟩⟩⟩⟩⟩⟩⟩⟩⟩⟩
def TK_5 : List Cond := [.fieldLink RK 42 "AgeKeys" "groupSize" "[I", .fieldLink RK 45 "AgeKeys" "groupOf" "[I", .fieldLink RK 48 "AgeKeys" "filledBy" "[I", .arrayClass .long, .fieldLink RK 51 "AgeKeys" "measured" "[J", .fieldLink RK 55 "AgeKeys" "errors" "[I", .fieldLink RK 58 "AgeKeys" "square" "[J", .fieldLink RK 61 "AgeKeys" "poolSum" "[I", .fieldLink RK 64 "AgeKeys" "poolSize" "[I", .fieldLink RK 67 "AgeKeys" "poolAges" "[I", .fieldLink RK 70 "AgeKeys" "poolLastAge" "[I", .fieldLink RK 73 "AgeKeys" "maleCount" "[I", .fieldLink RK 76 "AgeKeys" "lookedAt" "[I", .instanceMethod yK_read, .selects RK yK_read yK_read, .methodLink RK 79 yK_isClass]
theorem TK_5_in : ∀ w ∈ TK_5, w ∈ lw_tbl := List.forall_mem_cons.mpr ⟨List.mem_of_getElem? (i := 68) (by decide +kernel), List.forall_mem_cons.mpr ⟨List.mem_of_getElem? (i := 69) (by decide +kernel), List.forall_mem_cons.mpr ⟨List.mem_of_getElem? (i := 70) (by decide +kernel), List.forall_mem_cons.mpr ⟨List.mem_of_getElem? (i := 121) (by decide +kernel), List.forall_mem_cons.mpr ⟨List.mem_of_getElem? (i := 71) (by decide +kernel), List.forall_mem_cons.mpr ⟨List.mem_of_getElem? (i := 73) (by decide +kernel), List.forall_mem_cons.mpr ⟨List.mem_of_getElem? (i := 74) (by decide +kernel), List.forall_mem_cons.mpr ⟨List.mem_of_getElem? (i := 75) (by decide +kernel), List.forall_mem_cons.mpr ⟨List.mem_of_getElem? (i := 76) (by decide +kernel), List.forall_mem_cons.mpr ⟨List.mem_of_getElem? (i := 77) (by decide +kernel), List.forall_mem_cons.mpr ⟨List.mem_of_getElem? (i := 78) (by decide +kernel), List.forall_mem_cons.mpr ⟨List.mem_of_getElem? (i := 79) (by decide +kernel), List.forall_mem_cons.mpr ⟨List.mem_of_getElem? (i := 80) (by decide +kernel), List.forall_mem_cons.mpr ⟨List.mem_of_getElem? (i := 123) (by decide +kernel), List.forall_mem_cons.mpr ⟨List.mem_of_getElem? (i := 124) (by decide +kernel), List.forall_mem_cons.mpr ⟨List.mem_of_getElem? (i := 126) (by decide +kernel), fun _ h => absurd h List.not_mem_nil⟩⟩⟩⟩⟩⟩⟩⟩⟩⟩⟩⟩⟩⟩⟩⟩
def TK_6 : List Cond := [.methodLink RK 83 yK_isAge, .methodLink RK 86 yK_isPlace, .methodLink RK 89 yK_sizeIn, .methodLink RK 92 yK_countReading, .instanceMethod yK_place, .selects RK yK_place yK_place, .instanceMethod yK_countReading, .selects RK yK_countReading yK_countReading, .methodLink RK 96 yK_cell, .instanceMethod yK_share, .selects RK yK_share yK_share, .methodLink RK 100 yK_isZeroOrOne, .constantLong RK 103 (-1), .methodLink RK 105 yK_sourceOf, .methodLink RK 109 yK_ownOfAge, .methodLink RK 112 yK_own]
theorem TK_6_in : ∀ w ∈ TK_6, w ∈ lw_tbl := List.forall_mem_cons.mpr ⟨List.mem_of_getElem? (i := 130) (by decide +kernel), List.forall_mem_cons.mpr ⟨List.mem_of_getElem? (i := 134) (by decide +kernel), List.forall_mem_cons.mpr ⟨List.mem_of_getElem? (i := 137) (by decide +kernel), List.forall_mem_cons.mpr ⟨List.mem_of_getElem? (i := 141) (by decide +kernel), List.forall_mem_cons.mpr ⟨List.mem_of_getElem? (i := 150) (by decide +kernel), List.forall_mem_cons.mpr ⟨List.mem_of_getElem? (i := 151) (by decide +kernel), List.forall_mem_cons.mpr ⟨List.mem_of_getElem? (i := 143) (by decide +kernel), List.forall_mem_cons.mpr ⟨List.mem_of_getElem? (i := 3) (by decide +kernel), List.forall_mem_cons.mpr ⟨List.mem_of_getElem? (i := 145) (by decide +kernel), List.forall_mem_cons.mpr ⟨List.mem_of_getElem? (i := 154) (by decide +kernel), List.forall_mem_cons.mpr ⟨List.mem_of_getElem? (i := 155) (by decide +kernel), List.forall_mem_cons.mpr ⟨List.mem_of_getElem? (i := 157) (by decide +kernel), List.forall_mem_cons.mpr ⟨List.mem_of_getElem? (i := 160) (by decide +kernel), List.forall_mem_cons.mpr ⟨List.mem_of_getElem? (i := 161) (by decide +kernel), List.forall_mem_cons.mpr ⟨List.mem_of_getElem? (i := 169) (by decide +kernel), List.forall_mem_cons.mpr ⟨List.mem_of_getElem? (i := 165) (by decide +kernel), fun _ h => absurd h List.not_mem_nil⟩⟩⟩⟩⟩⟩⟩⟩⟩⟩⟩⟩⟩⟩⟩⟩
def TK_7 : List Cond := [.methodLink RK 115 yK_fractionPart, .instanceMethod yK_without, .selects RK yK_without yK_without, .instanceMethod yK_sourceOf, .selects RK yK_sourceOf yK_sourceOf, .instanceMethod yK_empty, .selects RK yK_empty yK_empty, .methodLink RK 119 yK_isLeastOfGroup, .instanceMethod yK_fill, .selects RK yK_fill yK_fill, .methodLink RK 122 yK_nearestWithReadings, .instanceMethod yK_marked, .selects RK yK_marked yK_marked, .instanceMethod yK_joined, .selects RK yK_joined yK_joined, .methodLink RK 125 yK_dropFills]
theorem TK_7_in : ∀ w ∈ TK_7, w ∈ lw_tbl := List.forall_mem_cons.mpr ⟨List.mem_of_getElem? (i := 173) (by decide +kernel), List.forall_mem_cons.mpr ⟨List.mem_of_getElem? (i := 183) (by decide +kernel), List.forall_mem_cons.mpr ⟨List.mem_of_getElem? (i := 184) (by decide +kernel), List.forall_mem_cons.mpr ⟨List.mem_of_getElem? (i := 163) (by decide +kernel), List.forall_mem_cons.mpr ⟨List.mem_of_getElem? (i := 5) (by decide +kernel), List.forall_mem_cons.mpr ⟨List.mem_of_getElem? (i := 187) (by decide +kernel), List.forall_mem_cons.mpr ⟨List.mem_of_getElem? (i := 188) (by decide +kernel), List.forall_mem_cons.mpr ⟨List.mem_of_getElem? (i := 190) (by decide +kernel), List.forall_mem_cons.mpr ⟨List.mem_of_getElem? (i := 195) (by decide +kernel), List.forall_mem_cons.mpr ⟨List.mem_of_getElem? (i := 196) (by decide +kernel), List.forall_mem_cons.mpr ⟨List.mem_of_getElem? (i := 198) (by decide +kernel), List.forall_mem_cons.mpr ⟨List.mem_of_getElem? (i := 210) (by decide +kernel), List.forall_mem_cons.mpr ⟨List.mem_of_getElem? (i := 211) (by decide +kernel), List.forall_mem_cons.mpr ⟨List.mem_of_getElem? (i := 214) (by decide +kernel), List.forall_mem_cons.mpr ⟨List.mem_of_getElem? (i := 215) (by decide +kernel), List.forall_mem_cons.mpr ⟨List.mem_of_getElem? (i := 217) (by decide +kernel), fun _ h => absurd h List.not_mem_nil⟩⟩⟩⟩⟩⟩⟩⟩⟩⟩⟩⟩⟩⟩⟩⟩
def TK_8 : List Cond := [.methodLink RK 129 yK_moveReadings, .instanceMethod yK_groups, .selects RK yK_groups yK_groups, .instanceMethod yK_nearestWithReadings, .selects RK yK_nearestWithReadings yK_nearestWithReadings, .methodLink RK 132 yK_distanceTo, .instanceMethod yK_distanceTo, .selects RK yK_distanceTo yK_distanceTo, .methodLink RK 135 Lib.Math.abs.name, .static Lib.Math.abs.name, .instanceMethod yK_dropFills, .selects RK yK_dropFills yK_dropFills, .instanceMethod yK_moveReadings, .selects RK yK_moveReadings yK_moveReadings, .instanceMethod yK_sample, .selects RK yK_sample yK_sample]
theorem TK_8_in : ∀ w ∈ TK_8, w ∈ lw_tbl := List.forall_mem_cons.mpr ⟨List.mem_of_getElem? (i := 221) (by decide +kernel), List.forall_mem_cons.mpr ⟨List.mem_of_getElem? (i := 226) (by decide +kernel), List.forall_mem_cons.mpr ⟨List.mem_of_getElem? (i := 227) (by decide +kernel), List.forall_mem_cons.mpr ⟨List.mem_of_getElem? (i := 200) (by decide +kernel), List.forall_mem_cons.mpr ⟨List.mem_of_getElem? (i := 9) (by decide +kernel), List.forall_mem_cons.mpr ⟨List.mem_of_getElem? (i := 202) (by decide +kernel), List.forall_mem_cons.mpr ⟨List.mem_of_getElem? (i := 204) (by decide +kernel), List.forall_mem_cons.mpr ⟨List.mem_of_getElem? (i := 10) (by decide +kernel), List.forall_mem_cons.mpr ⟨List.mem_of_getElem? (i := 206) (by decide +kernel), List.forall_mem_cons.mpr ⟨List.mem_of_getElem? (i := 207) (by decide +kernel), List.forall_mem_cons.mpr ⟨List.mem_of_getElem? (i := 219) (by decide +kernel), List.forall_mem_cons.mpr ⟨List.mem_of_getElem? (i := 11) (by decide +kernel), List.forall_mem_cons.mpr ⟨List.mem_of_getElem? (i := 223) (by decide +kernel), List.forall_mem_cons.mpr ⟨List.mem_of_getElem? (i := 12) (by decide +kernel), List.forall_mem_cons.mpr ⟨List.mem_of_getElem? (i := 230) (by decide +kernel), List.forall_mem_cons.mpr ⟨List.mem_of_getElem? (i := 231) (by decide +kernel), fun _ h => absurd h List.not_mem_nil⟩⟩⟩⟩⟩⟩⟩⟩⟩⟩⟩⟩⟩⟩⟩⟩
def TK_9 : List Cond := [.constantLong RK 138 (10000), .instanceMethod yK_raised, .selects RK yK_raised yK_raised, .methodLink RK 140 yK_canRaise, .methodLink RK 144 yK_measuredOfAge, .constantLong RK 148 (232792560), .instanceMethod yK_sums, .selects RK yK_sums yK_sums, .instanceMethod yK_canRaise, .selects RK yK_canRaise yK_canRaise, .instanceMethod yK_measuredOfAge, .selects RK yK_measuredOfAge yK_measuredOfAge, .methodLink RK 150 yK_commonShare, .instanceMethod yK_commonShare, .selects RK yK_commonShare yK_commonShare, .instanceMethod yK_error]
theorem TK_9_in : ∀ w ∈ TK_9, w ∈ lw_tbl := List.forall_mem_cons.mpr ⟨List.mem_of_getElem? (i := 233) (by decide +kernel), List.forall_mem_cons.mpr ⟨List.mem_of_getElem? (i := 235) (by decide +kernel), List.forall_mem_cons.mpr ⟨List.mem_of_getElem? (i := 236) (by decide +kernel), List.forall_mem_cons.mpr ⟨List.mem_of_getElem? (i := 238) (by decide +kernel), List.forall_mem_cons.mpr ⟨List.mem_of_getElem? (i := 242) (by decide +kernel), List.forall_mem_cons.mpr ⟨List.mem_of_getElem? (i := 250) (by decide +kernel), List.forall_mem_cons.mpr ⟨List.mem_of_getElem? (i := 252) (by decide +kernel), List.forall_mem_cons.mpr ⟨List.mem_of_getElem? (i := 253) (by decide +kernel), List.forall_mem_cons.mpr ⟨List.mem_of_getElem? (i := 240) (by decide +kernel), List.forall_mem_cons.mpr ⟨List.mem_of_getElem? (i := 13) (by decide +kernel), List.forall_mem_cons.mpr ⟨List.mem_of_getElem? (i := 244) (by decide +kernel), List.forall_mem_cons.mpr ⟨List.mem_of_getElem? (i := 14) (by decide +kernel), List.forall_mem_cons.mpr ⟨List.mem_of_getElem? (i := 246) (by decide +kernel), List.forall_mem_cons.mpr ⟨List.mem_of_getElem? (i := 248) (by decide +kernel), List.forall_mem_cons.mpr ⟨List.mem_of_getElem? (i := 15) (by decide +kernel), List.forall_mem_cons.mpr ⟨List.mem_of_getElem? (i := 256) (by decide +kernel), fun _ h => absurd h List.not_mem_nil⟩⟩⟩⟩⟩⟩⟩⟩⟩⟩⟩⟩⟩⟩⟩⟩
def TK_10 : List Cond := [.selects RK yK_error yK_error, .instanceMethod yK_undo, .selects RK yK_undo yK_undo, .methodLink RK 154 yK_errorSum, .methodLink RK 157 yK_loadErrors, .methodLink RK 160 yK_determinant, .instanceMethod yK_undone, .selects RK yK_undone yK_undone, .methodLink RK 164 yK_undo, .constantLong RK 168 (20), .instanceMethod yK_errorSum, .selects RK yK_errorSum yK_errorSum, .instanceMethod yK_loadErrors, .selects RK yK_loadErrors yK_loadErrors, .instanceMethod yK_determinant, .selects RK yK_determinant yK_determinant]
theorem TK_10_in : ∀ w ∈ TK_10, w ∈ lw_tbl := List.forall_mem_cons.mpr ⟨List.mem_of_getElem? (i := 257) (by decide +kernel), List.forall_mem_cons.mpr ⟨List.mem_of_getElem? (i := 260) (by decide +kernel), List.forall_mem_cons.mpr ⟨List.mem_of_getElem? (i := 261) (by decide +kernel), List.forall_mem_cons.mpr ⟨List.mem_of_getElem? (i := 263) (by decide +kernel), List.forall_mem_cons.mpr ⟨List.mem_of_getElem? (i := 267) (by decide +kernel), List.forall_mem_cons.mpr ⟨List.mem_of_getElem? (i := 271) (by decide +kernel), List.forall_mem_cons.mpr ⟨List.mem_of_getElem? (i := 288) (by decide +kernel), List.forall_mem_cons.mpr ⟨List.mem_of_getElem? (i := 289) (by decide +kernel), List.forall_mem_cons.mpr ⟨List.mem_of_getElem? (i := 291) (by decide +kernel), List.forall_mem_cons.mpr ⟨List.mem_of_getElem? (i := 292) (by decide +kernel), List.forall_mem_cons.mpr ⟨List.mem_of_getElem? (i := 265) (by decide +kernel), List.forall_mem_cons.mpr ⟨List.mem_of_getElem? (i := 16) (by decide +kernel), List.forall_mem_cons.mpr ⟨List.mem_of_getElem? (i := 269) (by decide +kernel), List.forall_mem_cons.mpr ⟨List.mem_of_getElem? (i := 17) (by decide +kernel), List.forall_mem_cons.mpr ⟨List.mem_of_getElem? (i := 273) (by decide +kernel), List.forall_mem_cons.mpr ⟨List.mem_of_getElem? (i := 18) (by decide +kernel), fun _ h => absurd h List.not_mem_nil⟩⟩⟩⟩⟩⟩⟩⟩⟩⟩⟩⟩⟩⟩⟩⟩
def TK_11 : List Cond := [.methodLink RK 170 yK_pivotRow, .methodLink RK 173 yK_swapRows, .methodLink RK 176 yK_clearBelow, .instanceMethod yK_pivotRow, .selects RK yK_pivotRow yK_pivotRow, .instanceMethod yK_swapRows, .selects RK yK_swapRows yK_swapRows, .instanceMethod yK_clearBelow, .selects RK yK_clearBelow yK_clearBelow, .instanceMethod yK_apart, .selects RK yK_apart yK_apart, .instanceMethod yK_length, .selects RK yK_length yK_length, .methodLink RK 180 yK_poolOf, .instanceMethod yK_pooled, .selects RK yK_pooled yK_pooled]
theorem TK_11_in : ∀ w ∈ TK_11, w ∈ lw_tbl := List.forall_mem_cons.mpr ⟨List.mem_of_getElem? (i := 275) (by decide +kernel), List.forall_mem_cons.mpr ⟨List.mem_of_getElem? (i := 279) (by decide +kernel), List.forall_mem_cons.mpr ⟨List.mem_of_getElem? (i := 283) (by decide +kernel), List.forall_mem_cons.mpr ⟨List.mem_of_getElem? (i := 277) (by decide +kernel), List.forall_mem_cons.mpr ⟨List.mem_of_getElem? (i := 19) (by decide +kernel), List.forall_mem_cons.mpr ⟨List.mem_of_getElem? (i := 281) (by decide +kernel), List.forall_mem_cons.mpr ⟨List.mem_of_getElem? (i := 20) (by decide +kernel), List.forall_mem_cons.mpr ⟨List.mem_of_getElem? (i := 285) (by decide +kernel), List.forall_mem_cons.mpr ⟨List.mem_of_getElem? (i := 21) (by decide +kernel), List.forall_mem_cons.mpr ⟨List.mem_of_getElem? (i := 294) (by decide +kernel), List.forall_mem_cons.mpr ⟨List.mem_of_getElem? (i := 295) (by decide +kernel), List.forall_mem_cons.mpr ⟨List.mem_of_getElem? (i := 298) (by decide +kernel), List.forall_mem_cons.mpr ⟨List.mem_of_getElem? (i := 299) (by decide +kernel), List.forall_mem_cons.mpr ⟨List.mem_of_getElem? (i := 301) (by decide +kernel), List.forall_mem_cons.mpr ⟨List.mem_of_getElem? (i := 326) (by decide +kernel), List.forall_mem_cons.mpr ⟨List.mem_of_getElem? (i := 327) (by decide +kernel), fun _ h => absurd h List.not_mem_nil⟩⟩⟩⟩⟩⟩⟩⟩⟩⟩⟩⟩⟩⟩⟩⟩
def TK_12 : List Cond := [.instanceMethod yK_poolOf, .selects RK yK_poolOf yK_poolOf, .methodLink RK 183 yK_readingsOfAge, .methodLink RK 186 yK_makePools, .instanceMethod yK_makePools, .selects RK yK_makePools yK_makePools, .methodLink RK 189 yK_openPool, .methodLink RK 192 yK_doesNotRise, .methodLink RK 195 yK_joinWithPoolBefore, .instanceMethod yK_openPool, .selects RK yK_openPool yK_openPool, .instanceMethod yK_doesNotRise, .selects RK yK_doesNotRise yK_doesNotRise, .instanceMethod yK_joinWithPoolBefore, .selects RK yK_joinWithPoolBefore yK_joinWithPoolBefore, .instanceMethod yK_readingsOfAge]
theorem TK_12_in : ∀ w ∈ TK_12, w ∈ lw_tbl := List.forall_mem_cons.mpr ⟨List.mem_of_getElem? (i := 303) (by decide +kernel), List.forall_mem_cons.mpr ⟨List.mem_of_getElem? (i := 22) (by decide +kernel), List.forall_mem_cons.mpr ⟨List.mem_of_getElem? (i := 305) (by decide +kernel), List.forall_mem_cons.mpr ⟨List.mem_of_getElem? (i := 309) (by decide +kernel), List.forall_mem_cons.mpr ⟨List.mem_of_getElem? (i := 311) (by decide +kernel), List.forall_mem_cons.mpr ⟨List.mem_of_getElem? (i := 24) (by decide +kernel), List.forall_mem_cons.mpr ⟨List.mem_of_getElem? (i := 313) (by decide +kernel), List.forall_mem_cons.mpr ⟨List.mem_of_getElem? (i := 317) (by decide +kernel), List.forall_mem_cons.mpr ⟨List.mem_of_getElem? (i := 321) (by decide +kernel), List.forall_mem_cons.mpr ⟨List.mem_of_getElem? (i := 315) (by decide +kernel), List.forall_mem_cons.mpr ⟨List.mem_of_getElem? (i := 25) (by decide +kernel), List.forall_mem_cons.mpr ⟨List.mem_of_getElem? (i := 319) (by decide +kernel), List.forall_mem_cons.mpr ⟨List.mem_of_getElem? (i := 26) (by decide +kernel), List.forall_mem_cons.mpr ⟨List.mem_of_getElem? (i := 323) (by decide +kernel), List.forall_mem_cons.mpr ⟨List.mem_of_getElem? (i := 27) (by decide +kernel), List.forall_mem_cons.mpr ⟨List.mem_of_getElem? (i := 307) (by decide +kernel), fun _ h => absurd h List.not_mem_nil⟩⟩⟩⟩⟩⟩⟩⟩⟩⟩⟩⟩⟩⟩⟩⟩
def TK_13 : List Cond := [.selects RK yK_readingsOfAge yK_readingsOfAge, .instanceMethod yK_sex, .selects RK yK_sex yK_sex, .instanceMethod yK_males, .selects RK yK_males yK_males, .instanceMethod yK_isClass, .selects RK yK_isClass yK_isClass, .instanceMethod yK_isAge, .selects RK yK_isAge yK_isAge, .static yK_isPlace, .static yK_isZeroOrOne, .instanceMethod yK_isLeastOfGroup, .selects RK yK_isLeastOfGroup yK_isLeastOfGroup, .instanceMethod yK_cell, .selects RK yK_cell yK_cell, .instanceMethod yK_sizeIn]
theorem TK_13_in : ∀ w ∈ TK_13, w ∈ lw_tbl := List.forall_mem_cons.mpr ⟨List.mem_of_getElem? (i := 23) (by decide +kernel), List.forall_mem_cons.mpr ⟨List.mem_of_getElem? (i := 330) (by decide +kernel), List.forall_mem_cons.mpr ⟨List.mem_of_getElem? (i := 331) (by decide +kernel), List.forall_mem_cons.mpr ⟨List.mem_of_getElem? (i := 334) (by decide +kernel), List.forall_mem_cons.mpr ⟨List.mem_of_getElem? (i := 335) (by decide +kernel), List.forall_mem_cons.mpr ⟨List.mem_of_getElem? (i := 128) (by decide +kernel), List.forall_mem_cons.mpr ⟨List.mem_of_getElem? (i := 0) (by decide +kernel), List.forall_mem_cons.mpr ⟨List.mem_of_getElem? (i := 132) (by decide +kernel), List.forall_mem_cons.mpr ⟨List.mem_of_getElem? (i := 1) (by decide +kernel), List.forall_mem_cons.mpr ⟨List.mem_of_getElem? (i := 135) (by decide +kernel), List.forall_mem_cons.mpr ⟨List.mem_of_getElem? (i := 158) (by decide +kernel), List.forall_mem_cons.mpr ⟨List.mem_of_getElem? (i := 192) (by decide +kernel), List.forall_mem_cons.mpr ⟨List.mem_of_getElem? (i := 8) (by decide +kernel), List.forall_mem_cons.mpr ⟨List.mem_of_getElem? (i := 147) (by decide +kernel), List.forall_mem_cons.mpr ⟨List.mem_of_getElem? (i := 4) (by decide +kernel), List.forall_mem_cons.mpr ⟨List.mem_of_getElem? (i := 139) (by decide +kernel), fun _ h => absurd h List.not_mem_nil⟩⟩⟩⟩⟩⟩⟩⟩⟩⟩⟩⟩⟩⟩⟩⟩
def TK_14 : List Cond := [.selects RK yK_sizeIn yK_sizeIn, .instanceMethod yK_own, .selects RK yK_own yK_own, .instanceMethod yK_ownOfAge, .selects RK yK_ownOfAge yK_ownOfAge, .static yK_fractionPart, .methodLink RK 199 Lib.MathLoose.abs_long.x, .static Lib.MathLoose.abs_long.x, .methodLink RK 202 yK_commonDivisor, .static yK_commonDivisor, .initialized RK]
theorem TK_14_in : ∀ w ∈ TK_14, w ∈ lw_tbl := List.forall_mem_cons.mpr ⟨List.mem_of_getElem? (i := 2) (by decide +kernel), List.forall_mem_cons.mpr ⟨List.mem_of_getElem? (i := 167) (by decide +kernel), List.forall_mem_cons.mpr ⟨List.mem_of_getElem? (i := 6) (by decide +kernel), List.forall_mem_cons.mpr ⟨List.mem_of_getElem? (i := 171) (by decide +kernel), List.forall_mem_cons.mpr ⟨List.mem_of_getElem? (i := 7) (by decide +kernel), List.forall_mem_cons.mpr ⟨List.mem_of_getElem? (i := 174) (by decide +kernel), List.forall_mem_cons.mpr ⟨List.mem_of_getElem? (i := 176) (by decide +kernel), List.forall_mem_cons.mpr ⟨List.mem_of_getElem? (i := 177) (by decide +kernel), List.forall_mem_cons.mpr ⟨List.mem_of_getElem? (i := 179) (by decide +kernel), List.forall_mem_cons.mpr ⟨List.mem_of_getElem? (i := 180) (by decide +kernel), List.forall_mem_cons.mpr ⟨List.mem_of_getElem? (i := 45) (by decide +kernel), fun _ h => absurd h List.not_mem_nil⟩⟩⟩⟩⟩⟩⟩⟩⟩⟩⟩
def TK_15 : List Cond := u_ws RK FK 19
set_option maxRecDepth 20000 in
theorem TK_15_in : ∀ w ∈ TK_15, w ∈ lw_tbl := by decide +kernel
def TK : List Cond := TK_0 ++ (TK_1 ++ (TK_2 ++ (TK_3 ++ (TK_4 ++ (TK_5 ++ (TK_6 ++ (TK_7 ++ (TK_8 ++ (TK_9 ++ (TK_10 ++ (TK_11 ++ (TK_12 ++ (TK_13 ++ (TK_14 ++ (TK_15)))))))))))))))
set_option maxRecDepth 20000 in
theorem TK_good : GoodIn TK TK := kgood_self (by decide +kernel)
theorem TK_in : ∀ w ∈ TK, w ∈ lw_tbl := List.forall_mem_append.mpr ⟨TK_0_in, List.forall_mem_append.mpr ⟨TK_1_in, List.forall_mem_append.mpr ⟨TK_2_in, List.forall_mem_append.mpr ⟨TK_3_in, List.forall_mem_append.mpr ⟨TK_4_in, List.forall_mem_append.mpr ⟨TK_5_in, List.forall_mem_append.mpr ⟨TK_6_in, List.forall_mem_append.mpr ⟨TK_7_in, List.forall_mem_append.mpr ⟨TK_8_in, List.forall_mem_append.mpr ⟨TK_9_in, List.forall_mem_append.mpr ⟨TK_10_in, List.forall_mem_append.mpr ⟨TK_11_in, List.forall_mem_append.mpr ⟨TK_12_in, List.forall_mem_append.mpr ⟨TK_13_in, List.forall_mem_append.mpr ⟨TK_14_in, TK_15_in⟩⟩⟩⟩⟩⟩⟩⟩⟩⟩⟩⟩⟩⟩⟩
theorem iK_u : ∀ w ∈ u_ws RK FK 19, w ∈ TK := fun w h => List.mem_append_right _ (List.mem_append_right _ (List.mem_append_right _ (List.mem_append_right _ (List.mem_append_right _ (List.mem_append_right _ (List.mem_append_right _ (List.mem_append_right _ (List.mem_append_right _ (List.mem_append_right _ (List.mem_append_right _ (List.mem_append_right _ (List.mem_append_right _ (List.mem_append_right _ (List.mem_append_right _ (h)))))))))))))))
theorem nK_ok : ∀ a, a < 19 → ∀ b, b < 19 → a ≠ b → (FK a).2.1 ≠ (FK b).2.1 := by decide +kernel
theorem tyK_ok : ∀ k, k < 19 → parseFieldDescriptor (FK k).2.2.1 = some (tyK k) := by decide +kernel
end
section
def TM_0 : List Cond := [.code yM_init cM_init 4 none, .code yM_isClass cM_isClass 2 (some .boolean), .code yM_isAge cM_isAge 2 (some .boolean), .code yM_isPart cM_isPart 1 (some .boolean), .code yM_at cM_at 3 (some .int), .code yM_count cM_count 6 (some .int), .code yM_inGroup cM_inGroup 7 (some .int), .code yM_inAll cM_inAll 5 (some .int), .code yM_partOf cM_partOf 13 (some .long), .code yM_read cM_read 4 (some .boolean), .code yM_place cM_place 2 (some .int), .code yM_own cM_own 2 (some .int), .code yM_source cM_source 3 (some .int), .code yM_share cM_share 5 (some .long), .code yM_empty cM_empty 4 (some .int), .code yM_distance cM_distance 7 (some .int)]
set_option maxRecDepth 20000 in
theorem TM_0_in : ∀ w ∈ TM_0, w ∈ lw_tbl := fun w h => (goodIn_p TM_0 [344, 393, 397, 423, 408, 405, 401, 412, 435, 389, 416, 432, 428, 420, 439, 447] (by decide +kernel) (by decide +kernel) w h).1
def TM_1 : List Cond := [.code yM_fill cM_fill 4 (some .int), .code yM_marked cM_marked 2 (some .boolean), .code yM_joined cM_joined 6 (some .int), .code yM_groups cM_groups 3 (some .int), .code yM_allMeasured cM_allMeasured 4 (some .long), .code yM_sample cM_sample 4 (some .boolean), .code yM_raise cM_raise 7 (some .boolean), .code yM_raised cM_raised 5 (some .long), .code yM_sums cM_sums 7 (some .boolean), .code yM_without cM_without 9 (some .long), .code yM_error cM_error 4 (some .boolean), .code yM_determinant cM_determinant 10 (some .long), .code yM_lay cM_lay 5 none, .code yM_undo cM_undo 4 (some .int), .code yM_undone cM_undone 8 (some .long), .code yM_apart cM_apart 14 (some .long)]
set_option maxRecDepth 20000 in
theorem TM_1_in : ∀ w ∈ TM_1, w ∈ lw_tbl := fun w h => (goodIn_p TM_1 [443, 451, 455, 459, 468, 463, 476, 472, 481, 485, 489, 502, 497, 493, 506, 511] (by decide +kernel) (by decide +kernel) w h).1
def TM_2 : List Cond := [.code yM_ofAge cM_ofAge 4 (some .int), .code yM_classesOf cM_classesOf 4 (some .int), .code yM_mean cM_mean 13 none, .code yM_length cM_length 3 (some .long), .code yM_isSame cM_isSame 7 (some .boolean), .code yM_pooled cM_pooled 4 (some .int), .code yM_sex cM_sex 4 (some .boolean), .code yM_males cM_males 6 (some .long), .code objectInit ⟨#[0xb1]⟩ 1 none]
set_option maxRecDepth 20000 in
theorem TM_2_in : ∀ w ∈ TM_2, w ∈ lw_tbl := fun w h => (goodIn_p TM_2 [519, 527, 523, 515, 535, 531, 539, 543, 55] (by decide +kernel) (by decide +kernel) w h).1
def TM_3 : List Cond := [.instanceMethod yM_init, .methodLink RM 1 objectInit, .instanceMethod objectInit, .arrayClass .int, .fieldLink RM 7 "AgeKeysModel" "counts" "[I", .fieldLink RM 13 "AgeKeysModel" "chosen" "I", .fieldLink RM 17 "AgeKeysModel" "group" "[I", .fieldLink RM 20 "AgeKeysModel" "filler" "[I", .arrayClass .long, .fieldLink RM 23 "AgeKeysModel" "measured" "[J", .fieldLink RM 27 "AgeKeysModel" "errors" "[I", .fieldLink RM 30 "AgeKeysModel" "maleCount" "[I", .fieldLink RM 33 "AgeKeysModel" "sexCount" "[I", .fieldLink RM 36 "AgeKeysModel" "cells" "[J", .fieldLink RM 39 "AgeKeysModel" "classes" "I", .fieldLink RM 42 "AgeKeysModel" "ages" "I"]
theorem TM_3_in : ∀ w ∈ TM_3, w ∈ lw_tbl := List.forall_mem_cons.mpr ⟨List.mem_of_getElem? (i := 343) (by decide +kernel), List.forall_mem_cons.mpr ⟨List.mem_of_getElem? (i := 345) (by decide +kernel), List.forall_mem_cons.mpr ⟨List.mem_of_getElem? (i := 54) (by decide +kernel), List.forall_mem_cons.mpr ⟨List.mem_of_getElem? (i := 120) (by decide +kernel), List.forall_mem_cons.mpr ⟨List.mem_of_getElem? (i := 348) (by decide +kernel), List.forall_mem_cons.mpr ⟨List.mem_of_getElem? (i := 349) (by decide +kernel), List.forall_mem_cons.mpr ⟨List.mem_of_getElem? (i := 350) (by decide +kernel), List.forall_mem_cons.mpr ⟨List.mem_of_getElem? (i := 351) (by decide +kernel), List.forall_mem_cons.mpr ⟨List.mem_of_getElem? (i := 121) (by decide +kernel), List.forall_mem_cons.mpr ⟨List.mem_of_getElem? (i := 352) (by decide +kernel), List.forall_mem_cons.mpr ⟨List.mem_of_getElem? (i := 353) (by decide +kernel), List.forall_mem_cons.mpr ⟨List.mem_of_getElem? (i := 354) (by decide +kernel), List.forall_mem_cons.mpr ⟨List.mem_of_getElem? (i := 355) (by decide +kernel), List.forall_mem_cons.mpr ⟨List.mem_of_getElem? (i := 356) (by decide +kernel), List.forall_mem_cons.mpr ⟨List.mem_of_getElem? (i := 346) (by decide +kernel), List.forall_mem_cons.mpr ⟨List.mem_of_getElem? (i := 347) (by decide +kernel), fun _ h => absurd h List.not_mem_nil⟩⟩⟩⟩⟩⟩⟩⟩⟩⟩⟩⟩⟩⟩⟩⟩
def TM_4 : List Cond := [.instanceMethod yM_isClass, .selects RM yM_isClass yM_isClass, .instanceMethod yM_isAge, .selects RM yM_isAge yM_isAge, .static yM_isPart, .static yM_at, .instanceMethod yM_count, .selects RM yM_count yM_count, .methodLink RM 45 yM_at, .instanceMethod yM_inGroup, .selects RM yM_inGroup yM_inGroup, .methodLink RM 49 yM_count, .instanceMethod yM_inAll, .selects RM yM_inAll yM_inAll, .static yM_partOf, .constantLong RM 52 (-1)]
theorem TM_4_in : ∀ w ∈ TM_4, w ∈ lw_tbl := List.forall_mem_cons.mpr ⟨List.mem_of_getElem? (i := 392) (by decide +kernel), List.forall_mem_cons.mpr ⟨List.mem_of_getElem? (i := 28) (by decide +kernel), List.forall_mem_cons.mpr ⟨List.mem_of_getElem? (i := 396) (by decide +kernel), List.forall_mem_cons.mpr ⟨List.mem_of_getElem? (i := 29) (by decide +kernel), List.forall_mem_cons.mpr ⟨List.mem_of_getElem? (i := 422) (by decide +kernel), List.forall_mem_cons.mpr ⟨List.mem_of_getElem? (i := 407) (by decide +kernel), List.forall_mem_cons.mpr ⟨List.mem_of_getElem? (i := 404) (by decide +kernel), List.forall_mem_cons.mpr ⟨List.mem_of_getElem? (i := 31) (by decide +kernel), List.forall_mem_cons.mpr ⟨List.mem_of_getElem? (i := 406) (by decide +kernel), List.forall_mem_cons.mpr ⟨List.mem_of_getElem? (i := 400) (by decide +kernel), List.forall_mem_cons.mpr ⟨List.mem_of_getElem? (i := 30) (by decide +kernel), List.forall_mem_cons.mpr ⟨List.mem_of_getElem? (i := 402) (by decide +kernel), List.forall_mem_cons.mpr ⟨List.mem_of_getElem? (i := 411) (by decide +kernel), List.forall_mem_cons.mpr ⟨List.mem_of_getElem? (i := 32) (by decide +kernel), List.forall_mem_cons.mpr ⟨List.mem_of_getElem? (i := 434) (by decide +kernel), List.forall_mem_cons.mpr ⟨List.mem_of_getElem? (i := 424) (by decide +kernel), fun _ h => absurd h List.not_mem_nil⟩⟩⟩⟩⟩⟩⟩⟩⟩⟩⟩⟩⟩⟩⟩⟩
def TM_5 : List Cond := [.instanceMethod yM_read, .selects RM yM_read yM_read, .methodLink RM 54 yM_isClass, .methodLink RM 58 yM_isAge, .methodLink RM 61 yM_inGroup, .methodLink RM 64 yM_inAll, .instanceMethod yM_place, .selects RM yM_place yM_place, .instanceMethod yM_own, .selects RM yM_own yM_own, .instanceMethod yM_source, .selects RM yM_source yM_source, .methodLink RM 68 yM_own, .instanceMethod yM_share, .selects RM yM_share yM_share, .methodLink RM 71 yM_isPart]
theorem TM_5_in : ∀ w ∈ TM_5, w ∈ lw_tbl := List.forall_mem_cons.mpr ⟨List.mem_of_getElem? (i := 387) (by decide +kernel), List.forall_mem_cons.mpr ⟨List.mem_of_getElem? (i := 388) (by decide +kernel), List.forall_mem_cons.mpr ⟨List.mem_of_getElem? (i := 390) (by decide +kernel), List.forall_mem_cons.mpr ⟨List.mem_of_getElem? (i := 394) (by decide +kernel), List.forall_mem_cons.mpr ⟨List.mem_of_getElem? (i := 398) (by decide +kernel), List.forall_mem_cons.mpr ⟨List.mem_of_getElem? (i := 409) (by decide +kernel), List.forall_mem_cons.mpr ⟨List.mem_of_getElem? (i := 414) (by decide +kernel), List.forall_mem_cons.mpr ⟨List.mem_of_getElem? (i := 415) (by decide +kernel), List.forall_mem_cons.mpr ⟨List.mem_of_getElem? (i := 431) (by decide +kernel), List.forall_mem_cons.mpr ⟨List.mem_of_getElem? (i := 34) (by decide +kernel), List.forall_mem_cons.mpr ⟨List.mem_of_getElem? (i := 427) (by decide +kernel), List.forall_mem_cons.mpr ⟨List.mem_of_getElem? (i := 33) (by decide +kernel), List.forall_mem_cons.mpr ⟨List.mem_of_getElem? (i := 429) (by decide +kernel), List.forall_mem_cons.mpr ⟨List.mem_of_getElem? (i := 418) (by decide +kernel), List.forall_mem_cons.mpr ⟨List.mem_of_getElem? (i := 419) (by decide +kernel), List.forall_mem_cons.mpr ⟨List.mem_of_getElem? (i := 421) (by decide +kernel), fun _ h => absurd h List.not_mem_nil⟩⟩⟩⟩⟩⟩⟩⟩⟩⟩⟩⟩⟩⟩⟩⟩
def TM_6 : List Cond := [.methodLink RM 74 yM_source, .methodLink RM 77 yM_partOf, .instanceMethod yM_empty, .selects RM yM_empty yM_empty, .instanceMethod yM_distance, .selects RM yM_distance yM_distance, .instanceMethod yM_fill, .selects RM yM_fill yM_fill, .methodLink RM 81 yM_distance, .instanceMethod yM_marked, .selects RM yM_marked yM_marked, .instanceMethod yM_joined, .selects RM yM_joined yM_joined, .instanceMethod yM_groups, .selects RM yM_groups yM_groups, .instanceMethod yM_allMeasured]
theorem TM_6_in : ∀ w ∈ TM_6, w ∈ lw_tbl := List.forall_mem_cons.mpr ⟨List.mem_of_getElem? (i := 425) (by decide +kernel), List.forall_mem_cons.mpr ⟨List.mem_of_getElem? (i := 433) (by decide +kernel), List.forall_mem_cons.mpr ⟨List.mem_of_getElem? (i := 437) (by decide +kernel), List.forall_mem_cons.mpr ⟨List.mem_of_getElem? (i := 438) (by decide +kernel), List.forall_mem_cons.mpr ⟨List.mem_of_getElem? (i := 446) (by decide +kernel), List.forall_mem_cons.mpr ⟨List.mem_of_getElem? (i := 35) (by decide +kernel), List.forall_mem_cons.mpr ⟨List.mem_of_getElem? (i := 441) (by decide +kernel), List.forall_mem_cons.mpr ⟨List.mem_of_getElem? (i := 442) (by decide +kernel), List.forall_mem_cons.mpr ⟨List.mem_of_getElem? (i := 444) (by decide +kernel), List.forall_mem_cons.mpr ⟨List.mem_of_getElem? (i := 449) (by decide +kernel), List.forall_mem_cons.mpr ⟨List.mem_of_getElem? (i := 450) (by decide +kernel), List.forall_mem_cons.mpr ⟨List.mem_of_getElem? (i := 453) (by decide +kernel), List.forall_mem_cons.mpr ⟨List.mem_of_getElem? (i := 454) (by decide +kernel), List.forall_mem_cons.mpr ⟨List.mem_of_getElem? (i := 457) (by decide +kernel), List.forall_mem_cons.mpr ⟨List.mem_of_getElem? (i := 458) (by decide +kernel), List.forall_mem_cons.mpr ⟨List.mem_of_getElem? (i := 467) (by decide +kernel), fun _ h => absurd h List.not_mem_nil⟩⟩⟩⟩⟩⟩⟩⟩⟩⟩⟩⟩⟩⟩⟩⟩
def TM_7 : List Cond := [.selects RM yM_allMeasured yM_allMeasured, .instanceMethod yM_sample, .selects RM yM_sample yM_sample, .constantLong RM 85 (10000), .methodLink RM 87 yM_allMeasured, .instanceMethod yM_raise, .selects RM yM_raise yM_raise, .fieldLink RM 91 "AgeKeysModel" "above" "J", .constantLong RM 95 (232792560), .fieldLink RM 97 "AgeKeysModel" "below" "J", .instanceMethod yM_raised, .selects RM yM_raised yM_raised, .methodLink RM 100 yM_raise, .instanceMethod yM_sums, .selects RM yM_sums yM_sums, .instanceMethod yM_without]
theorem TM_7_in : ∀ w ∈ TM_7, w ∈ lw_tbl := List.forall_mem_cons.mpr ⟨List.mem_of_getElem? (i := 36) (by decide +kernel), List.forall_mem_cons.mpr ⟨List.mem_of_getElem? (i := 461) (by decide +kernel), List.forall_mem_cons.mpr ⟨List.mem_of_getElem? (i := 462) (by decide +kernel), List.forall_mem_cons.mpr ⟨List.mem_of_getElem? (i := 464) (by decide +kernel), List.forall_mem_cons.mpr ⟨List.mem_of_getElem? (i := 465) (by decide +kernel), List.forall_mem_cons.mpr ⟨List.mem_of_getElem? (i := 475) (by decide +kernel), List.forall_mem_cons.mpr ⟨List.mem_of_getElem? (i := 37) (by decide +kernel), List.forall_mem_cons.mpr ⟨List.mem_of_getElem? (i := 357) (by decide +kernel), List.forall_mem_cons.mpr ⟨List.mem_of_getElem? (i := 477) (by decide +kernel), List.forall_mem_cons.mpr ⟨List.mem_of_getElem? (i := 358) (by decide +kernel), List.forall_mem_cons.mpr ⟨List.mem_of_getElem? (i := 470) (by decide +kernel), List.forall_mem_cons.mpr ⟨List.mem_of_getElem? (i := 471) (by decide +kernel), List.forall_mem_cons.mpr ⟨List.mem_of_getElem? (i := 473) (by decide +kernel), List.forall_mem_cons.mpr ⟨List.mem_of_getElem? (i := 479) (by decide +kernel), List.forall_mem_cons.mpr ⟨List.mem_of_getElem? (i := 480) (by decide +kernel), List.forall_mem_cons.mpr ⟨List.mem_of_getElem? (i := 483) (by decide +kernel), fun _ h => absurd h List.not_mem_nil⟩⟩⟩⟩⟩⟩⟩⟩⟩⟩⟩⟩⟩⟩⟩⟩
def TM_8 : List Cond := [.selects RM yM_without yM_without, .instanceMethod yM_error, .selects RM yM_error yM_error, .instanceMethod yM_determinant, .selects RM yM_determinant yM_determinant, .instanceMethod yM_lay, .selects RM yM_lay yM_lay, .constantLong RM 104 (20), .instanceMethod yM_undo, .selects RM yM_undo yM_undo, .methodLink RM 106 yM_lay, .methodLink RM 110 yM_determinant, .instanceMethod yM_undone, .selects RM yM_undone yM_undone, .methodLink RM 113 yM_undo, .instanceMethod yM_apart]
theorem TM_8_in : ∀ w ∈ TM_8, w ∈ lw_tbl := List.forall_mem_cons.mpr ⟨List.mem_of_getElem? (i := 484) (by decide +kernel), List.forall_mem_cons.mpr ⟨List.mem_of_getElem? (i := 487) (by decide +kernel), List.forall_mem_cons.mpr ⟨List.mem_of_getElem? (i := 488) (by decide +kernel), List.forall_mem_cons.mpr ⟨List.mem_of_getElem? (i := 501) (by decide +kernel), List.forall_mem_cons.mpr ⟨List.mem_of_getElem? (i := 39) (by decide +kernel), List.forall_mem_cons.mpr ⟨List.mem_of_getElem? (i := 496) (by decide +kernel), List.forall_mem_cons.mpr ⟨List.mem_of_getElem? (i := 38) (by decide +kernel), List.forall_mem_cons.mpr ⟨List.mem_of_getElem? (i := 498) (by decide +kernel), List.forall_mem_cons.mpr ⟨List.mem_of_getElem? (i := 491) (by decide +kernel), List.forall_mem_cons.mpr ⟨List.mem_of_getElem? (i := 492) (by decide +kernel), List.forall_mem_cons.mpr ⟨List.mem_of_getElem? (i := 494) (by decide +kernel), List.forall_mem_cons.mpr ⟨List.mem_of_getElem? (i := 499) (by decide +kernel), List.forall_mem_cons.mpr ⟨List.mem_of_getElem? (i := 504) (by decide +kernel), List.forall_mem_cons.mpr ⟨List.mem_of_getElem? (i := 505) (by decide +kernel), List.forall_mem_cons.mpr ⟨List.mem_of_getElem? (i := 507) (by decide +kernel), List.forall_mem_cons.mpr ⟨List.mem_of_getElem? (i := 509) (by decide +kernel), fun _ h => absurd h List.not_mem_nil⟩⟩⟩⟩⟩⟩⟩⟩⟩⟩⟩⟩⟩⟩⟩⟩
def TM_9 : List Cond := [.selects RM yM_apart yM_apart, .instanceMethod yM_ofAge, .selects RM yM_ofAge yM_ofAge, .instanceMethod yM_classesOf, .selects RM yM_classesOf yM_classesOf, .instanceMethod yM_mean, .selects RM yM_mean yM_mean, .methodLink RM 117 yM_classesOf, .methodLink RM 120 yM_ofAge, .instanceMethod yM_length, .selects RM yM_length yM_length, .methodLink RM 123 yM_mean, .instanceMethod yM_isSame, .selects RM yM_isSame yM_isSame, .instanceMethod yM_pooled, .selects RM yM_pooled yM_pooled]
theorem TM_9_in : ∀ w ∈ TM_9, w ∈ lw_tbl := List.forall_mem_cons.mpr ⟨List.mem_of_getElem? (i := 510) (by decide +kernel), List.forall_mem_cons.mpr ⟨List.mem_of_getElem? (i := 518) (by decide +kernel), List.forall_mem_cons.mpr ⟨List.mem_of_getElem? (i := 40) (by decide +kernel), List.forall_mem_cons.mpr ⟨List.mem_of_getElem? (i := 526) (by decide +kernel), List.forall_mem_cons.mpr ⟨List.mem_of_getElem? (i := 42) (by decide +kernel), List.forall_mem_cons.mpr ⟨List.mem_of_getElem? (i := 522) (by decide +kernel), List.forall_mem_cons.mpr ⟨List.mem_of_getElem? (i := 41) (by decide +kernel), List.forall_mem_cons.mpr ⟨List.mem_of_getElem? (i := 524) (by decide +kernel), List.forall_mem_cons.mpr ⟨List.mem_of_getElem? (i := 516) (by decide +kernel), List.forall_mem_cons.mpr ⟨List.mem_of_getElem? (i := 513) (by decide +kernel), List.forall_mem_cons.mpr ⟨List.mem_of_getElem? (i := 514) (by decide +kernel), List.forall_mem_cons.mpr ⟨List.mem_of_getElem? (i := 520) (by decide +kernel), List.forall_mem_cons.mpr ⟨List.mem_of_getElem? (i := 534) (by decide +kernel), List.forall_mem_cons.mpr ⟨List.mem_of_getElem? (i := 43) (by decide +kernel), List.forall_mem_cons.mpr ⟨List.mem_of_getElem? (i := 529) (by decide +kernel), List.forall_mem_cons.mpr ⟨List.mem_of_getElem? (i := 530) (by decide +kernel), fun _ h => absurd h List.not_mem_nil⟩⟩⟩⟩⟩⟩⟩⟩⟩⟩⟩⟩⟩⟩⟩⟩
def TM_10 : List Cond := [.methodLink RM 127 yM_isSame, .instanceMethod yM_sex, .selects RM yM_sex yM_sex, .instanceMethod yM_males, .selects RM yM_males yM_males, .initialized RM]
theorem TM_10_in : ∀ w ∈ TM_10, w ∈ lw_tbl := List.forall_mem_cons.mpr ⟨List.mem_of_getElem? (i := 532) (by decide +kernel), List.forall_mem_cons.mpr ⟨List.mem_of_getElem? (i := 537) (by decide +kernel), List.forall_mem_cons.mpr ⟨List.mem_of_getElem? (i := 538) (by decide +kernel), List.forall_mem_cons.mpr ⟨List.mem_of_getElem? (i := 541) (by decide +kernel), List.forall_mem_cons.mpr ⟨List.mem_of_getElem? (i := 542) (by decide +kernel), List.forall_mem_cons.mpr ⟨List.mem_of_getElem? (i := 47) (by decide +kernel), fun _ h => absurd h List.not_mem_nil⟩⟩⟩⟩⟩⟩
def TM_11 : List Cond := u_ws RM FM 13
set_option maxRecDepth 20000 in
theorem TM_11_in : ∀ w ∈ TM_11, w ∈ lw_tbl := by decide +kernel
def TM : List Cond := TM_0 ++ (TM_1 ++ (TM_2 ++ (TM_3 ++ (TM_4 ++ (TM_5 ++ (TM_6 ++ (TM_7 ++ (TM_8 ++ (TM_9 ++ (TM_10 ++ (TM_11)))))))))))
set_option maxRecDepth 20000 in
theorem TM_good : GoodIn TM TM := kgood_self (by decide +kernel)
theorem TM_in : ∀ w ∈ TM, w ∈ lw_tbl := List.forall_mem_append.mpr ⟨TM_0_in, List.forall_mem_append.mpr ⟨TM_1_in, List.forall_mem_append.mpr ⟨TM_2_in, List.forall_mem_append.mpr ⟨TM_3_in, List.forall_mem_append.mpr ⟨TM_4_in, List.forall_mem_append.mpr ⟨TM_5_in, List.forall_mem_append.mpr ⟨TM_6_in, List.forall_mem_append.mpr ⟨TM_7_in, List.forall_mem_append.mpr ⟨TM_8_in, List.forall_mem_append.mpr ⟨TM_9_in, List.forall_mem_append.mpr ⟨TM_10_in, TM_11_in⟩⟩⟩⟩⟩⟩⟩⟩⟩⟩⟩
theorem iM_u : ∀ w ∈ u_ws RM FM 13, w ∈ TM := fun w h => List.mem_append_right _ (List.mem_append_right _ (List.mem_append_right _ (List.mem_append_right _ (List.mem_append_right _ (List.mem_append_right _ (List.mem_append_right _ (List.mem_append_right _ (List.mem_append_right _ (List.mem_append_right _ (List.mem_append_right _ (h)))))))))))
theorem nM_ok : ∀ a, a < 13 → ∀ b, b < 13 → a ≠ b → (FM a).2.1 ≠ (FM b).2.1 := by decide +kernel
theorem tyM_ok : ∀ k, k < 13 → parseFieldDescriptor (FM k).2.2.1 = some (tyM k) := by decide +kernel
end
section
/-! Rows of our own over the kit's: what an instruction does by Option functions; contracts whose worlds are a function of a state. -/
def kld {α : Type} (n : Nat) (f : Nat → α) (i : Int32) : Option α := if i < 0 ∨ n ≤ i.toNatClampNeg then none else some (f i.toNatClampNeg)
def kstI (n : Nat) (f : Nat → Int32) (i x : Int32) : Option (Nat → Int32) := if i < 0 ∨ n ≤ i.toNatClampNeg then none else some (upd f i.toNatClampNeg x)
def kstJ (n : Nat) (f : Nat → Int64) (i : Int32) (x : Int64) : Option (Nat → Int64) := if i < 0 ∨ n ≤ i.toNatClampNeg then none else some (vp_updL f i.toNatClampNeg x)
def kdivI (x y : Int32) : Option Int32 := if y = 0 then none else some (x / y)
def kremI (x y : Int32) : Option Int32 := if y = 0 then none else some (x - x / y * y)
def kdivJ (x y : Int64) : Option Int64 := if y = 0 then none else some (x / y)
def kremJ (x y : Int64) : Option Int64 := if y = 0 then none else some (x - x / y * y)
def kbool (v : Int32) : Option Int32 := if v = 0 ∨ v = 1 then some v else none
theorem kbool_some {v b : Int32} (h : kbool v = some b) : v = b ∧ narrow .boolean (.int v) = .int v := by
  unfold kbool at h
  split at h
  · rename_i hv
    refine ⟨Option.some.inj h, ?_⟩
    rcases hv with rfl | rfl <;> rfl
  · cases h
def kbind2 {α β γ : Type} (x : Option (α × β)) (f : α → β → Option γ) : Option γ := match x with
  | none => none
  | some (a, b) => f a b
theorem kb1 {α β : Type} {x : Option α} {f : α → Option β} {b : β} (h : x.bind f = some b) : ∃ a, x = some a ∧ f a = some b := by
  cases x with
  | none => cases h
  | some a => exact ⟨a, rfl, h⟩
theorem kb2 {α β γ : Type} {x : Option (α × β)} {f : α → β → Option γ} {c : γ} (h : kbind2 x f = some c) : ∃ a b, x = some (a, b) ∧ f a b = some c := by
  cases x with
  | none => cases h
  | some q => exact ⟨q.1, q.2, rfl, h⟩
theorem kld_some {α : Type} {n : Nat} {f : Nat → α} {i : Int32} {v : α} (h : kld n f i = some v) : vp_in i n ∧ f i.toNatClampNeg = v := by
  unfold kld at h
  split at h
  · cases h
  · rename_i hn
    exact ⟨hn, Option.some.inj h⟩
theorem kstI_some {n : Nat} {f : Nat → Int32} {i x : Int32} {v : Nat → Int32} (h : kstI n f i x = some v) : vp_in i n ∧ upd f i.toNatClampNeg x = v := by
  unfold kstI at h
  split at h
  · cases h
  · rename_i hn
    exact ⟨hn, Option.some.inj h⟩
theorem kstJ_some {n : Nat} {f : Nat → Int64} {i : Int32} {x : Int64} {v : Nat → Int64} (h : kstJ n f i x = some v) : vp_in i n ∧ vp_updL f i.toNatClampNeg x = v := by
  unfold kstJ at h
  split at h
  · cases h
  · rename_i hn
    exact ⟨hn, Option.some.inj h⟩
/-- what a method's body stands on -/
def Cx (p : Program) (s : State) (m : MethodId) (args : Array Value) (meth : Method) (c : Code) (cc : ByteArray) (nL : Nat) (ret : Option FieldType) (own : String) (Ts : List Cond) : Prop :=
  p.tables.exec = Jvm.exec ∧ c.code = cc ∧ meth.sig.returnType = ret ∧ c.maxLocals = nL ∧ s.vm.findClass own = some m.cls ∧ (∀ w ∈ Ts, w.before args s = true) ∧ meth.locks = false
abbrev kPre {S : Type} (D : va_G) (cl : List vw_C) (tys : List (ClassId × FieldType)) (wd : S → va_W) (sz : Nat) (σ : S) (av : List Value) : Array Value → State → Prop := va_Pc av (fun U => U.heap.size = sz ∧ va_P D cl (wd σ) U.heap ∧ va_K D cl tys U ∧ va_D (fun _ => True) (wd σ))
abbrev kB {S : Type} (D : va_G) (cl : List vw_C) (tys : List (ClassId × FieldType)) (wd : S → va_W) (A : Nat → Prop) (u : S) (t : State) : Prop := va_P D cl (wd u) t.heap ∧ va_K D cl tys t ∧ va_D A (wd u)
abbrev kQi {S : Type} (D : va_G) (cl : List vw_C) (tys : List (ClassId × FieldType)) (wd : S → va_W) (A : Nat → Prop) (r : Int32) (σ' : S) : Array Value → State → Outcome → State → Prop := va_Qi (fun (r2 : Int32) (u : S) => r2 = r ∧ u = σ') (kB D cl tys wd A) A
abbrev kQl {S : Type} (D : va_G) (cl : List vw_C) (tys : List (ClassId × FieldType)) (wd : S → va_W) (A : Nat → Prop) (r : Int64) (σ' : S) : Array Value → State → Outcome → State → Prop := va_Ql (fun (r2 : Int64) (u : S) => r2 = r ∧ u = σ') (kB D cl tys wd A) A
abbrev kQv {S : Type} (D : va_G) (cl : List vw_C) (tys : List (ClassId × FieldType)) (wd : S → va_W) (A : Nat → Prop) (σ' : S) : Array Value → State → Outcome → State → Prop := va_Qv (fun (u : S) => u = σ') (kB D cl tys wd A) A
theorem kgood_V {T : List Cond} {own C : String} {idx : Nat} {y : MethodName} {b : ByteArray} {n : Nat} {r : Option FieldType} (hT : GoodIn T T) (h : ∀ w ∈ ([.methodLink own idx y, .instanceMethod y, .selects C y y, .initialized C, .code y b n r] : List Cond), w ∈ T) : GoodIn T (wsV own idx C y (.code y b n r :: T)) := by
  intro w hw
  unfold wsV at hw
  have hin : w ∈ T := by
    rcases List.mem_append.mp hw with h1 | h1
    · exact h w (List.mem_append_left ([Cond.code y b n r] : List Cond) h1)
    · rcases List.mem_cons.mp h1 with h2 | h2
      · exact h w (by rw [h2]; simp)
      · exact h2
  exact hT w hin
theorem kgood_S {T : List Cond} {own : String} {idx : Nat} {y : MethodName} {b : ByteArray} {n : Nat} {r : Option FieldType} (hT : GoodIn T T) (h : ∀ w ∈ ([.methodLink own idx y, .static y, .initialized own, .code y b n r] : List Cond), w ∈ T) : GoodIn T (wsS own idx y (.code y b n r :: T)) := by
  intro w hw
  unfold wsS at hw
  have hin : w ∈ T := by
    rcases List.mem_append.mp hw with h1 | h1
    · exact h w (List.mem_append_left ([Cond.code y b n r] : List Cond) h1)
    · rcases List.mem_cons.mp h1 with h2 | h2
      · exact h w (by rw [h2]; simp)
      · exact h2
  exact hT w hin
section KR
variable {p : Program} {l : Launch} {e : Env} {R : Room} {s : State} {m : MethodId} {args : Array Value} {below : List Frame} {meth : Method} {c : Code} {H : Heap} {locs : List Loc} {cells slots : Nat} {Q : State → Prop}
variable {cc : ByteArray} {nL pc : Nat} {ret : Option FieldType} {own : String} {Ts : List Cond} {ls : Array Slot} {rest : List Value}
variable {S : Type} {wd : S → va_W} {σ σ' : S} {D : va_G} {cl : List vw_C} {tys : List (ClassId × FieldType)} {A : Nat → Prop}
theorem kr_start {y : MethodName} {maxL : Nat} {rm : Room} {sz mc ms : Nat} {av : List Value} {Qc : Array Value → State → Outcome → State → Prop} {free : Addr → Prop} (hy : plainName y.cls = true) (ho : y.cls = own) (hlen : (lg_sl av).length ≤ maxL)
    (body : ∀ (p : Program) (e : Env) (s : State) (m : MethodId) (args : Array Value) (below : List Frame) (meth : Method) (c : Code) (ls : Array Slot), Cx p s m args meth c cc maxL ret own Ts → s.heap.size = sz → va_K D cl tys s → va_P D cl (wd σ) s.heap → va_D (va_A (wd σ) sz) (wd σ) → lv_has ls maxL (lv_args 0 av) →
      W p l e rm s m args below meth c s.heap [] 0 0 (MQ below Qc args s mc ms free) (F0 m 0 ls [])) : Met l y (.code y cc maxL ret :: Ts) rm (kPre D cl tys wd sz σ av) Qc mc ms free := by
  refine Met.ofW (cc := cc) (maxL := maxL) (ret := ret) hy rfl ?_
  intro p e s m args below meth c s₁ B hml hv
  obtain ⟨rfl, hsz, hP, hK, hD0⟩ := hv
  have hts := atoms_spec (ws := .code y cc maxL ret :: Ts) B.pre
  have hown : s.vm.findClass y.cls = some m.cls := findClass_of_methodNamed B.named
  rw [ho] at hown
  have hl := lv_entry av (n := maxL) hlen
  rw [lg_entry_eq]
  exact body p e s m _ below meth c _ ⟨B.exec, B.bytes, B.returns, hml, hown, fun w h => hts w (List.mem_cons_of_mem _ h), B.notSynchronized⟩ hsz hK hP hD0.self hl
theorem kr_iret {v r : Int32} (C0 : Cx p s m args meth c cc nL (some .int) own Ts) (hK : va_K D cl tys s) (hP : va_P D cl (wd σ) H) (hD : va_D A (wd σ)) (hS : va_S A s.heap H locs) (hv : v = r) (hσ : σ = σ') (hdg : decode cc pc = .ok (.ireturn, 1)) :
    W p l e R s m args below meth c H locs cells slots (MQ below (kQi D cl tys wd A r σ') args s cells slots A) (F0 m pc ls [.int v]) := by
  obtain ⟨hx, hb, hr, hml, hown, hts, hlocks⟩ := C0
  exact W.iret hx hb hr (fun t ht hW => ⟨⟨v, σ, rfl, ⟨hv, hσ⟩, by rw [ht]; exact hP, va_K.moved hW.alike hK, hD⟩, hS.F ht⟩) hS.2.2 hdg hlocks
theorem kr_zret {v r : Int32} (C0 : Cx p s m args meth c cc nL (some .boolean) own Ts) (hK : va_K D cl tys s) (hP : va_P D cl (wd σ) H) (hD : va_D A (wd σ)) (hS : va_S A s.heap H locs) (hn : narrow .boolean (.int v) = .int v) (hv : v = r) (hσ : σ = σ') (hdg : decode cc pc = .ok (.ireturn, 1)) :
    W p l e R s m args below meth c H locs cells slots (MQ below (kQi D cl tys wd A r σ') args s cells slots A) (F0 m pc ls [.int v]) := by
  obtain ⟨hx, hb, hr, hml, hown, hts, hlocks⟩ := C0
  exact W.zret hx hb hr hn (fun t ht hW => ⟨⟨v, σ, rfl, ⟨hv, hσ⟩, by rw [ht]; exact hP, va_K.moved hW.alike hK, hD⟩, hS.F ht⟩) hS.2.2 hdg hlocks
theorem kr_lret {v r : Int64} (C0 : Cx p s m args meth c cc nL (some .long) own Ts) (hK : va_K D cl tys s) (hP : va_P D cl (wd σ) H) (hD : va_D A (wd σ)) (hS : va_S A s.heap H locs) (hv : v = r) (hσ : σ = σ') (hdg : decode cc pc = .ok (.lreturn, 1)) :
    W p l e R s m args below meth c H locs cells slots (MQ below (kQl D cl tys wd A r σ') args s cells slots A) (F0 m pc ls [.long v]) := by
  obtain ⟨hx, hb, hr, hml, hown, hts, hlocks⟩ := C0
  exact W.lret hx hb hr (fun t ht hW => ⟨⟨v, σ, rfl, ⟨hv, hσ⟩, by rw [ht]; exact hP, va_K.moved hW.alike hK, hD⟩, hS.F ht⟩) hS.2.2 hdg hlocks
theorem kr_vret (C0 : Cx p s m args meth c cc nL none own Ts) (hK : va_K D cl tys s) (hP : va_P D cl (wd σ) H) (hD : va_D A (wd σ)) (hS : va_S A s.heap H locs) (hσ : σ = σ') (hdg : decode cc pc = .ok (.return_, 1)) :
    W p l e R s m args below meth c H locs cells slots (MQ below (kQv D cl tys wd A σ') args s cells slots A) (F0 m pc ls []) := by
  obtain ⟨hx, hb, hr, hml, hown, hts, hlocks⟩ := C0
  exact W.vret hx hb hr (fun t ht hW => ⟨⟨σ, rfl, hσ, by rw [ht]; exact hP, va_K.moved hW.alike hK, hD⟩, hS.F ht⟩) hS.2.2 hdg hlocks
theorem kr_iaload (hx : p.tables.exec = Jvm.exec) (hb : c.code = cc) {ws : va_W} (hK : va_K D cl tys s) (hP : va_P D cl ws H) (q0 t0 : Nat) {cA : ClassId} {a n : Nat} {f : Nat → Int32} (ha : ws[q0]? = some (a, .inl (cA, n, .inl f))) (ht : tys[t0]? = some (cA, .int)) {i v : Int32} (h : kld n f i = some v) (hdg : decode cc pc = .ok (.iaload, 1))
    (kk : W p l e R s m args below meth c H locs cells slots Q (F0 m (pc + 1) ls (.int v :: rest))) : W p l e R s m args below meth c H locs cells slots Q (F0 m pc ls (.int i :: .ref a :: rest)) := by
  obtain ⟨h1, rfl⟩ := kld_some h
  exact va_iald hx hb hK hP q0 t0 ha ht h1 hdg kk
theorem kr_laload (hx : p.tables.exec = Jvm.exec) (hb : c.code = cc) {ws : va_W} (hK : va_K D cl tys s) (hP : va_P D cl ws H) (q0 t0 : Nat) {cA : ClassId} {a n : Nat} {f : Nat → Int64} (ha : ws[q0]? = some (a, .inl (cA, n, .inr (.inl f)))) (ht : tys[t0]? = some (cA, .long)) {i : Int32} {v : Int64} (h : kld n f i = some v) (hdg : decode cc pc = .ok (.laload, 1))
    (kk : W p l e R s m args below meth c H locs cells slots Q (F0 m (pc + 1) ls (.long v :: rest))) : W p l e R s m args below meth c H locs cells slots Q (F0 m pc ls (.int i :: .ref a :: rest)) := by
  obtain ⟨h1, rfl⟩ := kld_some h
  exact va_lald hx hb hK hP q0 t0 ha ht h1 hdg kk
theorem kr_iastore (hx : p.tables.exec = Jvm.exec) (hb : c.code = cc) (hK : va_K D cl tys s) (hP : va_P D cl (wd σ) H) (hD : va_D A (wd σ)) (hS : va_S A s.heap H locs) (q0 t0 : Nat) {cA : ClassId} {a n : Nat} {f f' : Nat → Int32} (ha : (wd σ)[q0]? = some (a, .inl (cA, n, .inl f))) (ht : tys[t0]? = some (cA, .int)) {i x : Int32} (h : kstI n f i x = some f') (hw : (wd σ).set q0 (a, .inl (cA, n, .inl f')) = wd σ') (hdg : decode cc pc = .ok (.iastore, 1))
    (kk : ∀ (H1 : Heap) (locs1 : List Loc), va_P D cl (wd σ') H1 → va_D A (wd σ') → va_S A s.heap H1 locs1 → W p l e R s m args below meth c H1 locs1 cells slots Q (F0 m (pc + 1) ls rest)) : W p l e R s m args below meth c H locs cells slots Q (F0 m pc ls (.int x :: .int i :: .ref a :: rest)) := by
  obtain ⟨h1, rfl⟩ := kstI_some h
  rw [← hw] at kk
  exact va_iast hx hb hK hP hD hS q0 t0 ha ht h1 hdg kk
theorem kr_lastore (hx : p.tables.exec = Jvm.exec) (hb : c.code = cc) (hK : va_K D cl tys s) (hP : va_P D cl (wd σ) H) (hD : va_D A (wd σ)) (hS : va_S A s.heap H locs) (q0 t0 : Nat) {cA : ClassId} {a n : Nat} {f f' : Nat → Int64} (ha : (wd σ)[q0]? = some (a, .inl (cA, n, .inr (.inl f)))) (ht : tys[t0]? = some (cA, .long)) {i : Int32} {x : Int64} (h : kstJ n f i x = some f') (hw : (wd σ).set q0 (a, .inl (cA, n, .inr (.inl f'))) = wd σ') (hdg : decode cc pc = .ok (.lastore, 1))
    (kk : ∀ (H1 : Heap) (locs1 : List Loc), va_P D cl (wd σ') H1 → va_D A (wd σ') → va_S A s.heap H1 locs1 → W p l e R s m args below meth c H1 locs1 cells slots Q (F0 m (pc + 1) ls rest)) : W p l e R s m args below meth c H locs cells slots Q (F0 m pc ls (.long x :: .int i :: .ref a :: rest)) := by
  obtain ⟨h1, rfl⟩ := kstJ_some h
  rw [← hw] at kk
  exact va_last hx hb hK hP hD hS q0 t0 ha ht h1 hdg kk
theorem kr_ldiv (hx : p.tables.exec = Jvm.exec) (hb : c.code = cc) {x y v : Int64} (h : kdivJ x y = some v) (hdg : decode cc pc = .ok (.ldiv, 1))
    (kk : W p l e R s m args below meth c H locs cells slots Q (F0 m (pc + 1) ls (.long v :: rest))) : W p l e R s m args below meth c H locs cells slots Q (F0 m pc ls (.long y :: .long x :: rest)) := by
  unfold kdivJ at h
  split at h
  · cases h
  · rename_i hn
    rw [← Option.some.inj h] at kk
    exact lv_ldiv hx hb hdg hn kk
theorem kr_lrem (hx : p.tables.exec = Jvm.exec) (hb : c.code = cc) {x y v : Int64} (h : kremJ x y = some v) (hdg : decode cc pc = .ok (.lrem, 1))
    (kk : W p l e R s m args below meth c H locs cells slots Q (F0 m (pc + 1) ls (.long v :: rest))) : W p l e R s m args below meth c H locs cells slots Q (F0 m pc ls (.long y :: .long x :: rest)) := by
  unfold kremJ at h
  split at h
  · cases h
  · rename_i hn
    rw [← Option.some.inj h] at kk
    exact lv_lrem hx hb hdg hn kk
theorem kr_idiv (hx : p.tables.exec = Jvm.exec) (hb : c.code = cc) {x y v : Int32} (h : kdivI x y = some v) (hdg : decode cc pc = .ok (.idiv, 1))
    (kk : W p l e R s m args below meth c H locs cells slots Q (F0 m (pc + 1) ls (.int v :: rest))) : W p l e R s m args below meth c H locs cells slots Q (F0 m pc ls (.int y :: .int x :: rest)) := by
  unfold kdivI at h
  split at h
  · cases h
  · rename_i hn
    rw [← Option.some.inj h] at kk
    exact lv_idiv hx hb hdg hn kk
theorem kr_irem (hx : p.tables.exec = Jvm.exec) (hb : c.code = cc) {x y v : Int32} (h : kremI x y = some v) (hdg : decode cc pc = .ok (.irem, 1))
    (kk : W p l e R s m args below meth c H locs cells slots Q (F0 m (pc + 1) ls (.int v :: rest))) : W p l e R s m args below meth c H locs cells slots Q (F0 m pc ls (.int y :: .int x :: rest)) := by
  unfold kremI at h
  split at h
  · cases h
  · rename_i hn
    rw [← Option.some.inj h] at kk
    exact lv_irem hx hb hdg hn kk
variable {y : MethodName} {ws : List Cond} {rm : Room} {bytes : ByteArray} {maxL index n a0 : Nat} {C : String} {rt : Option FieldType} {av st0 : List Value}
theorem kr_free (hD : va_D A (wd σ)) (hS : va_S A s.heap H locs) (hA : ∀ z, s.heap.size ≤ z → A z) : ∀ z, va_A (wd σ) H.size z → A z := by
  intro z h
  rcases h with ⟨k, e1, h⟩ | h
  · exact hD.2 k (z, e1) h
  · exact hA z (Nat.le_trans hS.1 h)
theorem kr_blind {sz : Nat} : FrameBlind (kPre D cl tys wd sz σ av) := fun a U g mk q => by
  obtain ⟨q0, q1, qP, qK, qD⟩ := q
  exact ⟨q0, q1, qP, va_K.moved (u := U) (U := U.calling g mk a) (Vm.Alike.refl U.vm) qK, qD⟩
theorem kr_callVi {r : Int32} (S0 : CallFix p m c cc nL s args Ts own) (hM : Met l y ws rm (kPre D cl tys wd H.size σ (.ref a0 :: av)) (kQi D cl tys wd (va_A (wd σ) H.size) r σ') 0 0 (va_A (wd σ) H.size)) (cw : CallW R s args own C index y bytes maxL rt ws rm 0 0 n)
    (hK : va_K D cl tys s) (hP : va_P D cl (wd σ) H) (hD : va_D A (wd σ)) (hS : va_S A s.heap H locs) (hA : ∀ z, s.heap.size ≤ z → A z) {ci q0 : Nat} {T : u_T} {N : Nat} {fs : List Value} (hc : cl[ci]? = some (C, T, N)) (he : (wd σ)[q0]? = some (a0, .inr (ci, fs)))
    (hn : av.length = n) (hsz : ls.size = nL) (hst : st0 = av.reverse ++ .ref a0 :: rest) (hcat : (rest.map fun v => v.category).sum ≤ 8) (hdg : decode cc pc = .ok (.invokevirtual index, 3)) (hfit : cells ≤ R.cells ∧ slots ≤ R.slots)
    (kk : ∀ (H1 : Heap) (locs1 : List Loc), va_P D cl (wd σ') H1 → va_D A (wd σ') → va_S A s.heap H1 locs1 → W p l e R s m args below meth c H1 locs1 cells slots Q (F0 m (pc + 3) ls (.int r :: rest))) : W p l e R s m args below meth c H locs cells slots Q (F0 m pc ls st0) := by
  have hF := kr_free hD hS hA
  refine va_calli (va_runV (As := av) (rest := rest) S0 hM cw ⟨kr_blind, va_recv hK hP hc he, fun U hU hW => ⟨rfl, by rw [hU], by rw [hU]; exact hP, va_K.moved hW.alike hK, hD.weaken (fun _ _ _ _ => trivial)⟩⟩ rfl hn hsz hst (lv_room hcat) hdg hfit) hS (fun z _ h => hF z h) hF (fun r2 u t H1 locs1 ht hvm hw hB hz1 hk1 hS1 => ?_)
  obtain ⟨rfl, rfl⟩ := hw
  obtain ⟨hP1, hK1, hD1⟩ := hB
  rw [ht] at hP1
  exact kk H1 locs1 hP1 (hD1.weaken (fun _ z _ h => hF z.1 h)) hS1
theorem kr_callVl {r : Int64} (S0 : CallFix p m c cc nL s args Ts own) (hM : Met l y ws rm (kPre D cl tys wd H.size σ (.ref a0 :: av)) (kQl D cl tys wd (va_A (wd σ) H.size) r σ') 0 0 (va_A (wd σ) H.size)) (cw : CallW R s args own C index y bytes maxL rt ws rm 0 0 n)
    (hK : va_K D cl tys s) (hP : va_P D cl (wd σ) H) (hD : va_D A (wd σ)) (hS : va_S A s.heap H locs) (hA : ∀ z, s.heap.size ≤ z → A z) {ci q0 : Nat} {T : u_T} {N : Nat} {fs : List Value} (hc : cl[ci]? = some (C, T, N)) (he : (wd σ)[q0]? = some (a0, .inr (ci, fs)))
    (hn : av.length = n) (hsz : ls.size = nL) (hst : st0 = av.reverse ++ .ref a0 :: rest) (hcat : (rest.map fun v => v.category).sum ≤ 8) (hdg : decode cc pc = .ok (.invokevirtual index, 3)) (hfit : cells ≤ R.cells ∧ slots ≤ R.slots)
    (kk : ∀ (H1 : Heap) (locs1 : List Loc), va_P D cl (wd σ') H1 → va_D A (wd σ') → va_S A s.heap H1 locs1 → W p l e R s m args below meth c H1 locs1 cells slots Q (F0 m (pc + 3) ls (.long r :: rest))) : W p l e R s m args below meth c H locs cells slots Q (F0 m pc ls st0) := by
  have hF := kr_free hD hS hA
  refine va_calll (va_runV (As := av) (rest := rest) S0 hM cw ⟨kr_blind, va_recv hK hP hc he, fun U hU hW => ⟨rfl, by rw [hU], by rw [hU]; exact hP, va_K.moved hW.alike hK, hD.weaken (fun _ _ _ _ => trivial)⟩⟩ rfl hn hsz hst (lv_room hcat) hdg hfit) hS (fun z _ h => hF z h) hF (fun r2 u t H1 locs1 ht hvm hw hB hz1 hk1 hS1 => ?_)
  obtain ⟨rfl, rfl⟩ := hw
  obtain ⟨hP1, hK1, hD1⟩ := hB
  rw [ht] at hP1
  exact kk H1 locs1 hP1 (hD1.weaken (fun _ z _ h => hF z.1 h)) hS1
theorem kr_callVv (S0 : CallFix p m c cc nL s args Ts own) (hM : Met l y ws rm (kPre D cl tys wd H.size σ (.ref a0 :: av)) (kQv D cl tys wd (va_A (wd σ) H.size) σ') 0 0 (va_A (wd σ) H.size)) (cw : CallW R s args own C index y bytes maxL rt ws rm 0 0 n)
    (hK : va_K D cl tys s) (hP : va_P D cl (wd σ) H) (hD : va_D A (wd σ)) (hS : va_S A s.heap H locs) (hA : ∀ z, s.heap.size ≤ z → A z) {ci q0 : Nat} {T : u_T} {N : Nat} {fs : List Value} (hc : cl[ci]? = some (C, T, N)) (he : (wd σ)[q0]? = some (a0, .inr (ci, fs)))
    (hn : av.length = n) (hsz : ls.size = nL) (hst : st0 = av.reverse ++ .ref a0 :: rest) (hcat : (rest.map fun v => v.category).sum ≤ 8) (hdg : decode cc pc = .ok (.invokevirtual index, 3)) (hfit : cells ≤ R.cells ∧ slots ≤ R.slots)
    (kk : ∀ (H1 : Heap) (locs1 : List Loc), va_P D cl (wd σ') H1 → va_D A (wd σ') → va_S A s.heap H1 locs1 → W p l e R s m args below meth c H1 locs1 cells slots Q (F0 m (pc + 3) ls rest)) : W p l e R s m args below meth c H locs cells slots Q (F0 m pc ls st0) := by
  have hF := kr_free hD hS hA
  refine va_callv (va_runV (As := av) (rest := rest) S0 hM cw ⟨kr_blind, va_recv hK hP hc he, fun U hU hW => ⟨rfl, by rw [hU], by rw [hU]; exact hP, va_K.moved hW.alike hK, hD.weaken (fun _ _ _ _ => trivial)⟩⟩ rfl hn hsz hst (lv_room hcat) hdg hfit) hS (fun z _ h => hF z h) hF (fun u t H1 locs1 ht hvm hw hB hz1 hk1 hS1 => ?_)
  obtain rfl := hw
  obtain ⟨hP1, hK1, hD1⟩ := hB
  rw [ht] at hP1
  exact kk H1 locs1 hP1 (hD1.weaken (fun _ z _ h => hF z.1 h)) hS1
theorem kr_callSi {r : Int32} (S0 : CallFix p m c cc nL s args Ts own) (hM : Met l y ws rm (kPre D cl tys wd H.size σ av) (kQi D cl tys wd (va_A (wd σ) H.size) r σ') 0 0 (va_A (wd σ) H.size)) (cw : CallB R s args own index y bytes maxL rt ws rm 0 0 n ∧ (Cond.static y).before args s = true)
    (hK : va_K D cl tys s) (hP : va_P D cl (wd σ) H) (hD : va_D A (wd σ)) (hS : va_S A s.heap H locs) (hA : ∀ z, s.heap.size ≤ z → A z)
    (hn : av.length = n) (hsz : ls.size = nL) (hst : st0 = av.reverse ++ rest) (hcat : (rest.map fun v => v.category).sum ≤ 8) (hdg : decode cc pc = .ok (.invokestatic index, 3)) (hfit : cells ≤ R.cells ∧ slots ≤ R.slots)
    (kk : ∀ (H1 : Heap) (locs1 : List Loc), va_P D cl (wd σ') H1 → va_D A (wd σ') → va_S A s.heap H1 locs1 → W p l e R s m args below meth c H1 locs1 cells slots Q (F0 m (pc + 3) ls (.int r :: rest))) : W p l e R s m args below meth c H locs cells slots Q (F0 m pc ls st0) := by
  have hF := kr_free hD hS hA
  refine va_calli (va_runS (As := av) (rest := rest) S0 hM cw ⟨kr_blind, fun U hU hW => ⟨rfl, by rw [hU], by rw [hU]; exact hP, va_K.moved hW.alike hK, hD.weaken (fun _ _ _ _ => trivial)⟩⟩ rfl hn hsz hst (lv_room hcat) hdg hfit) hS (fun z _ h => hF z h) hF (fun r2 u t H1 locs1 ht hvm hw hB hz1 hk1 hS1 => ?_)
  obtain ⟨rfl, rfl⟩ := hw
  obtain ⟨hP1, hK1, hD1⟩ := hB
  rw [ht] at hP1
  exact kk H1 locs1 hP1 (hD1.weaken (fun _ z _ h => hF z.1 h)) hS1
theorem kr_callSl {r : Int64} (S0 : CallFix p m c cc nL s args Ts own) (hM : Met l y ws rm (kPre D cl tys wd H.size σ av) (kQl D cl tys wd (va_A (wd σ) H.size) r σ') 0 0 (va_A (wd σ) H.size)) (cw : CallB R s args own index y bytes maxL rt ws rm 0 0 n ∧ (Cond.static y).before args s = true)
    (hK : va_K D cl tys s) (hP : va_P D cl (wd σ) H) (hD : va_D A (wd σ)) (hS : va_S A s.heap H locs) (hA : ∀ z, s.heap.size ≤ z → A z)
    (hn : av.length = n) (hsz : ls.size = nL) (hst : st0 = av.reverse ++ rest) (hcat : (rest.map fun v => v.category).sum ≤ 8) (hdg : decode cc pc = .ok (.invokestatic index, 3)) (hfit : cells ≤ R.cells ∧ slots ≤ R.slots)
    (kk : ∀ (H1 : Heap) (locs1 : List Loc), va_P D cl (wd σ') H1 → va_D A (wd σ') → va_S A s.heap H1 locs1 → W p l e R s m args below meth c H1 locs1 cells slots Q (F0 m (pc + 3) ls (.long r :: rest))) : W p l e R s m args below meth c H locs cells slots Q (F0 m pc ls st0) := by
  have hF := kr_free hD hS hA
  refine va_calll (va_runS (As := av) (rest := rest) S0 hM cw ⟨kr_blind, fun U hU hW => ⟨rfl, by rw [hU], by rw [hU]; exact hP, va_K.moved hW.alike hK, hD.weaken (fun _ _ _ _ => trivial)⟩⟩ rfl hn hsz hst (lv_room hcat) hdg hfit) hS (fun z _ h => hF z h) hF (fun r2 u t H1 locs1 ht hvm hw hB hz1 hk1 hS1 => ?_)
  obtain ⟨rfl, rfl⟩ := hw
  obtain ⟨hP1, hK1, hD1⟩ := hB
  rw [ht] at hP1
  exact kk H1 locs1 hP1 (hD1.weaken (fun _ z _ h => hF z.1 h)) hS1
end KR
end
section
abbrev kK : Type := Int32 × Int32 × (Nat → Nat)
def kK_classes (k : kK) : Int32 := k.1
def kK_ages (k : kK) : Int32 := k.2.1
def kK_n (k : kK) : Nat → Nat := k.2.2
abbrev sK : Type := Int32 × Int64 × (Nat → Int32) × (Nat → Int32) × (Nat → Int32) × (Nat → Int32) × (Nat → Int32) × (Nat → Int32) × (Nat → Int64) × (Nat → Int32) × (Nat → Int64) × (Nat → Int32) × (Nat → Int32) × (Nat → Int32) × (Nat → Int32) × (Nat → Int32) × (Nat → Int32)
def sK_chosenRow (σ : sK) : Int32 := σ.1
def sK_measuredInAll (σ : sK) : Int64 := σ.2.1
def sK_readings (σ : sK) : (Nat → Int32) := σ.2.2.1
def sK_rowSize (σ : sK) : (Nat → Int32) := σ.2.2.2.1
def sK_groupReadings (σ : sK) : (Nat → Int32) := σ.2.2.2.2.1
def sK_groupSize (σ : sK) : (Nat → Int32) := σ.2.2.2.2.2.1
def sK_groupOf (σ : sK) : (Nat → Int32) := σ.2.2.2.2.2.2.1
def sK_filledBy (σ : sK) : (Nat → Int32) := σ.2.2.2.2.2.2.2.1
def sK_measured (σ : sK) : (Nat → Int64) := σ.2.2.2.2.2.2.2.2.1
def sK_errors (σ : sK) : (Nat → Int32) := σ.2.2.2.2.2.2.2.2.2.1
def sK_square (σ : sK) : (Nat → Int64) := σ.2.2.2.2.2.2.2.2.2.2.1
def sK_poolSum (σ : sK) : (Nat → Int32) := σ.2.2.2.2.2.2.2.2.2.2.2.1
def sK_poolSize (σ : sK) : (Nat → Int32) := σ.2.2.2.2.2.2.2.2.2.2.2.2.1
def sK_poolAges (σ : sK) : (Nat → Int32) := σ.2.2.2.2.2.2.2.2.2.2.2.2.2.1
def sK_poolLastAge (σ : sK) : (Nat → Int32) := σ.2.2.2.2.2.2.2.2.2.2.2.2.2.2.1
def sK_maleCount (σ : sK) : (Nat → Int32) := σ.2.2.2.2.2.2.2.2.2.2.2.2.2.2.2.1
def sK_lookedAt (σ : sK) : (Nat → Int32) := σ.2.2.2.2.2.2.2.2.2.2.2.2.2.2.2.2
def uK_chosenRow (σ : sK) (v : Int32) : sK := (v, σ.2.1, σ.2.2.1, σ.2.2.2.1, σ.2.2.2.2.1, σ.2.2.2.2.2.1, σ.2.2.2.2.2.2.1, σ.2.2.2.2.2.2.2.1, σ.2.2.2.2.2.2.2.2.1, σ.2.2.2.2.2.2.2.2.2.1, σ.2.2.2.2.2.2.2.2.2.2.1, σ.2.2.2.2.2.2.2.2.2.2.2.1, σ.2.2.2.2.2.2.2.2.2.2.2.2.1, σ.2.2.2.2.2.2.2.2.2.2.2.2.2.1, σ.2.2.2.2.2.2.2.2.2.2.2.2.2.2.1, σ.2.2.2.2.2.2.2.2.2.2.2.2.2.2.2.1, σ.2.2.2.2.2.2.2.2.2.2.2.2.2.2.2.2)
def uK_measuredInAll (σ : sK) (v : Int64) : sK := (σ.1, v, σ.2.2.1, σ.2.2.2.1, σ.2.2.2.2.1, σ.2.2.2.2.2.1, σ.2.2.2.2.2.2.1, σ.2.2.2.2.2.2.2.1, σ.2.2.2.2.2.2.2.2.1, σ.2.2.2.2.2.2.2.2.2.1, σ.2.2.2.2.2.2.2.2.2.2.1, σ.2.2.2.2.2.2.2.2.2.2.2.1, σ.2.2.2.2.2.2.2.2.2.2.2.2.1, σ.2.2.2.2.2.2.2.2.2.2.2.2.2.1, σ.2.2.2.2.2.2.2.2.2.2.2.2.2.2.1, σ.2.2.2.2.2.2.2.2.2.2.2.2.2.2.2.1, σ.2.2.2.2.2.2.2.2.2.2.2.2.2.2.2.2)
def uK_readings (σ : sK) (v : (Nat → Int32)) : sK := (σ.1, σ.2.1, v, σ.2.2.2.1, σ.2.2.2.2.1, σ.2.2.2.2.2.1, σ.2.2.2.2.2.2.1, σ.2.2.2.2.2.2.2.1, σ.2.2.2.2.2.2.2.2.1, σ.2.2.2.2.2.2.2.2.2.1, σ.2.2.2.2.2.2.2.2.2.2.1, σ.2.2.2.2.2.2.2.2.2.2.2.1, σ.2.2.2.2.2.2.2.2.2.2.2.2.1, σ.2.2.2.2.2.2.2.2.2.2.2.2.2.1, σ.2.2.2.2.2.2.2.2.2.2.2.2.2.2.1, σ.2.2.2.2.2.2.2.2.2.2.2.2.2.2.2.1, σ.2.2.2.2.2.2.2.2.2.2.2.2.2.2.2.2)
def uK_rowSize (σ : sK) (v : (Nat → Int32)) : sK := (σ.1, σ.2.1, σ.2.2.1, v, σ.2.2.2.2.1, σ.2.2.2.2.2.1, σ.2.2.2.2.2.2.1, σ.2.2.2.2.2.2.2.1, σ.2.2.2.2.2.2.2.2.1, σ.2.2.2.2.2.2.2.2.2.1, σ.2.2.2.2.2.2.2.2.2.2.1, σ.2.2.2.2.2.2.2.2.2.2.2.1, σ.2.2.2.2.2.2.2.2.2.2.2.2.1, σ.2.2.2.2.2.2.2.2.2.2.2.2.2.1, σ.2.2.2.2.2.2.2.2.2.2.2.2.2.2.1, σ.2.2.2.2.2.2.2.2.2.2.2.2.2.2.2.1, σ.2.2.2.2.2.2.2.2.2.2.2.2.2.2.2.2)
def uK_groupReadings (σ : sK) (v : (Nat → Int32)) : sK := (σ.1, σ.2.1, σ.2.2.1, σ.2.2.2.1, v, σ.2.2.2.2.2.1, σ.2.2.2.2.2.2.1, σ.2.2.2.2.2.2.2.1, σ.2.2.2.2.2.2.2.2.1, σ.2.2.2.2.2.2.2.2.2.1, σ.2.2.2.2.2.2.2.2.2.2.1, σ.2.2.2.2.2.2.2.2.2.2.2.1, σ.2.2.2.2.2.2.2.2.2.2.2.2.1, σ.2.2.2.2.2.2.2.2.2.2.2.2.2.1, σ.2.2.2.2.2.2.2.2.2.2.2.2.2.2.1, σ.2.2.2.2.2.2.2.2.2.2.2.2.2.2.2.1, σ.2.2.2.2.2.2.2.2.2.2.2.2.2.2.2.2)
def uK_groupSize (σ : sK) (v : (Nat → Int32)) : sK := (σ.1, σ.2.1, σ.2.2.1, σ.2.2.2.1, σ.2.2.2.2.1, v, σ.2.2.2.2.2.2.1, σ.2.2.2.2.2.2.2.1, σ.2.2.2.2.2.2.2.2.1, σ.2.2.2.2.2.2.2.2.2.1, σ.2.2.2.2.2.2.2.2.2.2.1, σ.2.2.2.2.2.2.2.2.2.2.2.1, σ.2.2.2.2.2.2.2.2.2.2.2.2.1, σ.2.2.2.2.2.2.2.2.2.2.2.2.2.1, σ.2.2.2.2.2.2.2.2.2.2.2.2.2.2.1, σ.2.2.2.2.2.2.2.2.2.2.2.2.2.2.2.1, σ.2.2.2.2.2.2.2.2.2.2.2.2.2.2.2.2)
def uK_groupOf (σ : sK) (v : (Nat → Int32)) : sK := (σ.1, σ.2.1, σ.2.2.1, σ.2.2.2.1, σ.2.2.2.2.1, σ.2.2.2.2.2.1, v, σ.2.2.2.2.2.2.2.1, σ.2.2.2.2.2.2.2.2.1, σ.2.2.2.2.2.2.2.2.2.1, σ.2.2.2.2.2.2.2.2.2.2.1, σ.2.2.2.2.2.2.2.2.2.2.2.1, σ.2.2.2.2.2.2.2.2.2.2.2.2.1, σ.2.2.2.2.2.2.2.2.2.2.2.2.2.1, σ.2.2.2.2.2.2.2.2.2.2.2.2.2.2.1, σ.2.2.2.2.2.2.2.2.2.2.2.2.2.2.2.1, σ.2.2.2.2.2.2.2.2.2.2.2.2.2.2.2.2)
def uK_filledBy (σ : sK) (v : (Nat → Int32)) : sK := (σ.1, σ.2.1, σ.2.2.1, σ.2.2.2.1, σ.2.2.2.2.1, σ.2.2.2.2.2.1, σ.2.2.2.2.2.2.1, v, σ.2.2.2.2.2.2.2.2.1, σ.2.2.2.2.2.2.2.2.2.1, σ.2.2.2.2.2.2.2.2.2.2.1, σ.2.2.2.2.2.2.2.2.2.2.2.1, σ.2.2.2.2.2.2.2.2.2.2.2.2.1, σ.2.2.2.2.2.2.2.2.2.2.2.2.2.1, σ.2.2.2.2.2.2.2.2.2.2.2.2.2.2.1, σ.2.2.2.2.2.2.2.2.2.2.2.2.2.2.2.1, σ.2.2.2.2.2.2.2.2.2.2.2.2.2.2.2.2)
def uK_measured (σ : sK) (v : (Nat → Int64)) : sK := (σ.1, σ.2.1, σ.2.2.1, σ.2.2.2.1, σ.2.2.2.2.1, σ.2.2.2.2.2.1, σ.2.2.2.2.2.2.1, σ.2.2.2.2.2.2.2.1, v, σ.2.2.2.2.2.2.2.2.2.1, σ.2.2.2.2.2.2.2.2.2.2.1, σ.2.2.2.2.2.2.2.2.2.2.2.1, σ.2.2.2.2.2.2.2.2.2.2.2.2.1, σ.2.2.2.2.2.2.2.2.2.2.2.2.2.1, σ.2.2.2.2.2.2.2.2.2.2.2.2.2.2.1, σ.2.2.2.2.2.2.2.2.2.2.2.2.2.2.2.1, σ.2.2.2.2.2.2.2.2.2.2.2.2.2.2.2.2)
def uK_errors (σ : sK) (v : (Nat → Int32)) : sK := (σ.1, σ.2.1, σ.2.2.1, σ.2.2.2.1, σ.2.2.2.2.1, σ.2.2.2.2.2.1, σ.2.2.2.2.2.2.1, σ.2.2.2.2.2.2.2.1, σ.2.2.2.2.2.2.2.2.1, v, σ.2.2.2.2.2.2.2.2.2.2.1, σ.2.2.2.2.2.2.2.2.2.2.2.1, σ.2.2.2.2.2.2.2.2.2.2.2.2.1, σ.2.2.2.2.2.2.2.2.2.2.2.2.2.1, σ.2.2.2.2.2.2.2.2.2.2.2.2.2.2.1, σ.2.2.2.2.2.2.2.2.2.2.2.2.2.2.2.1, σ.2.2.2.2.2.2.2.2.2.2.2.2.2.2.2.2)
def uK_square (σ : sK) (v : (Nat → Int64)) : sK := (σ.1, σ.2.1, σ.2.2.1, σ.2.2.2.1, σ.2.2.2.2.1, σ.2.2.2.2.2.1, σ.2.2.2.2.2.2.1, σ.2.2.2.2.2.2.2.1, σ.2.2.2.2.2.2.2.2.1, σ.2.2.2.2.2.2.2.2.2.1, v, σ.2.2.2.2.2.2.2.2.2.2.2.1, σ.2.2.2.2.2.2.2.2.2.2.2.2.1, σ.2.2.2.2.2.2.2.2.2.2.2.2.2.1, σ.2.2.2.2.2.2.2.2.2.2.2.2.2.2.1, σ.2.2.2.2.2.2.2.2.2.2.2.2.2.2.2.1, σ.2.2.2.2.2.2.2.2.2.2.2.2.2.2.2.2)
def uK_poolSum (σ : sK) (v : (Nat → Int32)) : sK := (σ.1, σ.2.1, σ.2.2.1, σ.2.2.2.1, σ.2.2.2.2.1, σ.2.2.2.2.2.1, σ.2.2.2.2.2.2.1, σ.2.2.2.2.2.2.2.1, σ.2.2.2.2.2.2.2.2.1, σ.2.2.2.2.2.2.2.2.2.1, σ.2.2.2.2.2.2.2.2.2.2.1, v, σ.2.2.2.2.2.2.2.2.2.2.2.2.1, σ.2.2.2.2.2.2.2.2.2.2.2.2.2.1, σ.2.2.2.2.2.2.2.2.2.2.2.2.2.2.1, σ.2.2.2.2.2.2.2.2.2.2.2.2.2.2.2.1, σ.2.2.2.2.2.2.2.2.2.2.2.2.2.2.2.2)
def uK_poolSize (σ : sK) (v : (Nat → Int32)) : sK := (σ.1, σ.2.1, σ.2.2.1, σ.2.2.2.1, σ.2.2.2.2.1, σ.2.2.2.2.2.1, σ.2.2.2.2.2.2.1, σ.2.2.2.2.2.2.2.1, σ.2.2.2.2.2.2.2.2.1, σ.2.2.2.2.2.2.2.2.2.1, σ.2.2.2.2.2.2.2.2.2.2.1, σ.2.2.2.2.2.2.2.2.2.2.2.1, v, σ.2.2.2.2.2.2.2.2.2.2.2.2.2.1, σ.2.2.2.2.2.2.2.2.2.2.2.2.2.2.1, σ.2.2.2.2.2.2.2.2.2.2.2.2.2.2.2.1, σ.2.2.2.2.2.2.2.2.2.2.2.2.2.2.2.2)
def uK_poolAges (σ : sK) (v : (Nat → Int32)) : sK := (σ.1, σ.2.1, σ.2.2.1, σ.2.2.2.1, σ.2.2.2.2.1, σ.2.2.2.2.2.1, σ.2.2.2.2.2.2.1, σ.2.2.2.2.2.2.2.1, σ.2.2.2.2.2.2.2.2.1, σ.2.2.2.2.2.2.2.2.2.1, σ.2.2.2.2.2.2.2.2.2.2.1, σ.2.2.2.2.2.2.2.2.2.2.2.1, σ.2.2.2.2.2.2.2.2.2.2.2.2.1, v, σ.2.2.2.2.2.2.2.2.2.2.2.2.2.2.1, σ.2.2.2.2.2.2.2.2.2.2.2.2.2.2.2.1, σ.2.2.2.2.2.2.2.2.2.2.2.2.2.2.2.2)
def uK_poolLastAge (σ : sK) (v : (Nat → Int32)) : sK := (σ.1, σ.2.1, σ.2.2.1, σ.2.2.2.1, σ.2.2.2.2.1, σ.2.2.2.2.2.1, σ.2.2.2.2.2.2.1, σ.2.2.2.2.2.2.2.1, σ.2.2.2.2.2.2.2.2.1, σ.2.2.2.2.2.2.2.2.2.1, σ.2.2.2.2.2.2.2.2.2.2.1, σ.2.2.2.2.2.2.2.2.2.2.2.1, σ.2.2.2.2.2.2.2.2.2.2.2.2.1, σ.2.2.2.2.2.2.2.2.2.2.2.2.2.1, v, σ.2.2.2.2.2.2.2.2.2.2.2.2.2.2.2.1, σ.2.2.2.2.2.2.2.2.2.2.2.2.2.2.2.2)
def uK_maleCount (σ : sK) (v : (Nat → Int32)) : sK := (σ.1, σ.2.1, σ.2.2.1, σ.2.2.2.1, σ.2.2.2.2.1, σ.2.2.2.2.2.1, σ.2.2.2.2.2.2.1, σ.2.2.2.2.2.2.2.1, σ.2.2.2.2.2.2.2.2.1, σ.2.2.2.2.2.2.2.2.2.1, σ.2.2.2.2.2.2.2.2.2.2.1, σ.2.2.2.2.2.2.2.2.2.2.2.1, σ.2.2.2.2.2.2.2.2.2.2.2.2.1, σ.2.2.2.2.2.2.2.2.2.2.2.2.2.1, σ.2.2.2.2.2.2.2.2.2.2.2.2.2.2.1, v, σ.2.2.2.2.2.2.2.2.2.2.2.2.2.2.2.2)
def uK_lookedAt (σ : sK) (v : (Nat → Int32)) : sK := (σ.1, σ.2.1, σ.2.2.1, σ.2.2.2.1, σ.2.2.2.2.1, σ.2.2.2.2.2.1, σ.2.2.2.2.2.2.1, σ.2.2.2.2.2.2.2.1, σ.2.2.2.2.2.2.2.2.1, σ.2.2.2.2.2.2.2.2.2.1, σ.2.2.2.2.2.2.2.2.2.2.1, σ.2.2.2.2.2.2.2.2.2.2.2.1, σ.2.2.2.2.2.2.2.2.2.2.2.2.1, σ.2.2.2.2.2.2.2.2.2.2.2.2.2.1, σ.2.2.2.2.2.2.2.2.2.2.2.2.2.2.1, σ.2.2.2.2.2.2.2.2.2.2.2.2.2.2.2.1, v)
def wdK (q : Nat → Nat) (k : kK) (cI cJ : ClassId) (σ : sK) : va_W := [(q 0, .inr (0, [.int (kK_classes k), .int (kK_ages k), .int (sK_chosenRow σ), .ref (q 1), .ref (q 2), .ref (q 3), .ref (q 4), .ref (q 5), .ref (q 6), .ref (q 7), .long (sK_measuredInAll σ), .ref (q 8), .ref (q 9), .ref (q 10), .ref (q 11), .ref (q 12), .ref (q 13), .ref (q 14), .ref (q 15)])),
  (q 1, .inl (cI, kK_n k 0, .inl (sK_readings σ))),
  (q 2, .inl (cI, kK_n k 1, .inl (sK_rowSize σ))),
  (q 3, .inl (cI, kK_n k 2, .inl (sK_groupReadings σ))),
  (q 4, .inl (cI, kK_n k 3, .inl (sK_groupSize σ))),
  (q 5, .inl (cI, kK_n k 4, .inl (sK_groupOf σ))),
  (q 6, .inl (cI, kK_n k 5, .inl (sK_filledBy σ))),
  (q 7, .inl (cJ, kK_n k 6, .inr (.inl (sK_measured σ)))),
  (q 8, .inl (cI, kK_n k 7, .inl (sK_errors σ))),
  (q 9, .inl (cJ, kK_n k 8, .inr (.inl (sK_square σ)))),
  (q 10, .inl (cI, kK_n k 9, .inl (sK_poolSum σ))),
  (q 11, .inl (cI, kK_n k 10, .inl (sK_poolSize σ))),
  (q 12, .inl (cI, kK_n k 11, .inl (sK_poolAges σ))),
  (q 13, .inl (cI, kK_n k 12, .inl (sK_poolLastAge σ))),
  (q 14, .inl (cI, kK_n k 13, .inl (sK_maleCount σ))),
  (q 15, .inl (cI, kK_n k 14, .inl (sK_lookedAt σ)))]
theorem gK_classes {p : Program} {l : Launch} {e : Env} {R : Room} {s : State} {m : MethodId} {args : Array Value} {below : List Frame} {meth : Method} {c : Code} {H : Heap} {locs : List Loc} {cells slots : Nat} {Q : State → Prop} {cc : ByteArray} {pc : Nat} {ls : Array Slot} {rest : List Value} {D : va_G} {tys : List (ClassId × FieldType)} {A : Nat → Prop} {q : Nat → Nat} {k : kK} {cI cJ : ClassId} {σ : sK} (hx : p.tables.exec = Jvm.exec) (hb : c.code = cc) (hown : s.vm.findClass RK = some m.cls) (hts : ∀ w ∈ TK, w.before args s = true) (hK : va_K D cl0 tys s) (hP : va_P D cl0 (wdK q k cI cJ σ) H) (hdg : decode cc pc = .ok (.getfield 26, 3))
    (kk : W p l e R s m args below meth c H locs cells slots Q (F0 m (pc + 3) ls (.int (kK_classes k) :: rest))) : W p l e R s m args below meth c H locs cells slots Q (F0 m pc ls (.ref (q 0) :: rest)) :=
  va_get (D := D) (ci := 0) (v := .int (kK_classes k)) (C := RK) (T := FK) (N := 19) hx hb hts iK_u hown hK hP 0 rfl rfl 0 (by decide) (hts (.fieldLink RK 26 "AgeKeys" "classes" "I") (by decide +kernel)) (fun _ h9 => h9) rfl hdg kk
theorem gK_ages {p : Program} {l : Launch} {e : Env} {R : Room} {s : State} {m : MethodId} {args : Array Value} {below : List Frame} {meth : Method} {c : Code} {H : Heap} {locs : List Loc} {cells slots : Nat} {Q : State → Prop} {cc : ByteArray} {pc : Nat} {ls : Array Slot} {rest : List Value} {D : va_G} {tys : List (ClassId × FieldType)} {A : Nat → Prop} {q : Nat → Nat} {k : kK} {cI cJ : ClassId} {σ : sK} (hx : p.tables.exec = Jvm.exec) (hb : c.code = cc) (hown : s.vm.findClass RK = some m.cls) (hts : ∀ w ∈ TK, w.before args s = true) (hK : va_K D cl0 tys s) (hP : va_P D cl0 (wdK q k cI cJ σ) H) (hdg : decode cc pc = .ok (.getfield 29, 3))
    (kk : W p l e R s m args below meth c H locs cells slots Q (F0 m (pc + 3) ls (.int (kK_ages k) :: rest))) : W p l e R s m args below meth c H locs cells slots Q (F0 m pc ls (.ref (q 0) :: rest)) :=
  va_get (D := D) (ci := 0) (v := .int (kK_ages k)) (C := RK) (T := FK) (N := 19) hx hb hts iK_u hown hK hP 0 rfl rfl 1 (by decide) (hts (.fieldLink RK 29 "AgeKeys" "ages" "I") (by decide +kernel)) (fun _ h9 => h9) rfl hdg kk
theorem gK_chosenRow {p : Program} {l : Launch} {e : Env} {R : Room} {s : State} {m : MethodId} {args : Array Value} {below : List Frame} {meth : Method} {c : Code} {H : Heap} {locs : List Loc} {cells slots : Nat} {Q : State → Prop} {cc : ByteArray} {pc : Nat} {ls : Array Slot} {rest : List Value} {D : va_G} {tys : List (ClassId × FieldType)} {A : Nat → Prop} {q : Nat → Nat} {k : kK} {cI cJ : ClassId} {σ : sK} (hx : p.tables.exec = Jvm.exec) (hb : c.code = cc) (hown : s.vm.findClass RK = some m.cls) (hts : ∀ w ∈ TK, w.before args s = true) (hK : va_K D cl0 tys s) (hP : va_P D cl0 (wdK q k cI cJ σ) H) (hdg : decode cc pc = .ok (.getfield 9, 3))
    (kk : W p l e R s m args below meth c H locs cells slots Q (F0 m (pc + 3) ls (.int (sK_chosenRow σ) :: rest))) : W p l e R s m args below meth c H locs cells slots Q (F0 m pc ls (.ref (q 0) :: rest)) :=
  va_get (D := D) (ci := 0) (v := .int (sK_chosenRow σ)) (C := RK) (T := FK) (N := 19) hx hb hts iK_u hown hK hP 0 rfl rfl 2 (by decide) (hts (.fieldLink RK 9 "AgeKeys" "chosenRow" "I") (by decide +kernel)) (fun _ h9 => h9) rfl hdg kk
theorem pK_chosenRow {p : Program} {l : Launch} {e : Env} {R : Room} {s : State} {m : MethodId} {args : Array Value} {below : List Frame} {meth : Method} {c : Code} {H : Heap} {locs : List Loc} {cells slots : Nat} {Q : State → Prop} {cc : ByteArray} {pc : Nat} {ls : Array Slot} {rest : List Value} {D : va_G} {tys : List (ClassId × FieldType)} {A : Nat → Prop} {q : Nat → Nat} {k : kK} {cI cJ : ClassId} {σ : sK} (hx : p.tables.exec = Jvm.exec) (hb : c.code = cc) (hown : s.vm.findClass RK = some m.cls) (hts : ∀ w ∈ TK, w.before args s = true) (hK : va_K D cl0 tys s) (hP : va_P D cl0 (wdK q k cI cJ σ) H) (hD : va_D A (wdK q k cI cJ σ)) (hS : va_S A s.heap H locs) {v : Int32} (hdg : decode cc pc = .ok (.putfield 9, 3))
    (kk : ∀ (H1 : Heap) (locs1 : List Loc), va_P D cl0 (wdK q k cI cJ (uK_chosenRow σ v)) H1 → va_D A (wdK q k cI cJ (uK_chosenRow σ v)) → va_S A s.heap H1 locs1 → W p l e R s m args below meth c H1 locs1 cells slots Q (F0 m (pc + 3) ls rest)) : W p l e R s m args below meth c H locs cells slots Q (F0 m pc ls (.int v :: .ref (q 0) :: rest)) :=
  va_put (D := D) (ci := 0) (v := .int v) (ty := .int) (C := RK) (T := FK) (N := 19) hx hb hts iK_u tyK tyK_ok nK_ok hown hK hP hD hS 0 rfl rfl 2 (by decide) (hts (.fieldLink RK 9 "AgeKeys" "chosenRow" "I") (by decide +kernel)) (fun _ h9 => h9) rfl (by decide +kernel) rfl rfl (Nat.le_of_ble_eq_true rfl) hdg kk
theorem gK_readings {p : Program} {l : Launch} {e : Env} {R : Room} {s : State} {m : MethodId} {args : Array Value} {below : List Frame} {meth : Method} {c : Code} {H : Heap} {locs : List Loc} {cells slots : Nat} {Q : State → Prop} {cc : ByteArray} {pc : Nat} {ls : Array Slot} {rest : List Value} {D : va_G} {tys : List (ClassId × FieldType)} {A : Nat → Prop} {q : Nat → Nat} {k : kK} {cI cJ : ClassId} {σ : sK} (hx : p.tables.exec = Jvm.exec) (hb : c.code = cc) (hown : s.vm.findClass RK = some m.cls) (hts : ∀ w ∈ TK, w.before args s = true) (hK : va_K D cl0 tys s) (hP : va_P D cl0 (wdK q k cI cJ σ) H) (hdg : decode cc pc = .ok (.getfield 32, 3))
    (kk : W p l e R s m args below meth c H locs cells slots Q (F0 m (pc + 3) ls (.ref (q 1) :: rest))) : W p l e R s m args below meth c H locs cells slots Q (F0 m pc ls (.ref (q 0) :: rest)) :=
  va_get (D := D) (ci := 0) (v := .ref (q 1)) (C := RK) (T := FK) (N := 19) hx hb hts iK_u hown hK hP 0 rfl rfl 3 (by decide) (hts (.fieldLink RK 32 "AgeKeys" "readings" "[I") (by decide +kernel)) (fun _ h9 => h9) rfl hdg kk
theorem gK_rowSize {p : Program} {l : Launch} {e : Env} {R : Room} {s : State} {m : MethodId} {args : Array Value} {below : List Frame} {meth : Method} {c : Code} {H : Heap} {locs : List Loc} {cells slots : Nat} {Q : State → Prop} {cc : ByteArray} {pc : Nat} {ls : Array Slot} {rest : List Value} {D : va_G} {tys : List (ClassId × FieldType)} {A : Nat → Prop} {q : Nat → Nat} {k : kK} {cI cJ : ClassId} {σ : sK} (hx : p.tables.exec = Jvm.exec) (hb : c.code = cc) (hown : s.vm.findClass RK = some m.cls) (hts : ∀ w ∈ TK, w.before args s = true) (hK : va_K D cl0 tys s) (hP : va_P D cl0 (wdK q k cI cJ σ) H) (hdg : decode cc pc = .ok (.getfield 36, 3))
    (kk : W p l e R s m args below meth c H locs cells slots Q (F0 m (pc + 3) ls (.ref (q 2) :: rest))) : W p l e R s m args below meth c H locs cells slots Q (F0 m pc ls (.ref (q 0) :: rest)) :=
  va_get (D := D) (ci := 0) (v := .ref (q 2)) (C := RK) (T := FK) (N := 19) hx hb hts iK_u hown hK hP 0 rfl rfl 4 (by decide) (hts (.fieldLink RK 36 "AgeKeys" "rowSize" "[I") (by decide +kernel)) (fun _ h9 => h9) rfl hdg kk
theorem gK_groupReadings {p : Program} {l : Launch} {e : Env} {R : Room} {s : State} {m : MethodId} {args : Array Value} {below : List Frame} {meth : Method} {c : Code} {H : Heap} {locs : List Loc} {cells slots : Nat} {Q : State → Prop} {cc : ByteArray} {pc : Nat} {ls : Array Slot} {rest : List Value} {D : va_G} {tys : List (ClassId × FieldType)} {A : Nat → Prop} {q : Nat → Nat} {k : kK} {cI cJ : ClassId} {σ : sK} (hx : p.tables.exec = Jvm.exec) (hb : c.code = cc) (hown : s.vm.findClass RK = some m.cls) (hts : ∀ w ∈ TK, w.before args s = true) (hK : va_K D cl0 tys s) (hP : va_P D cl0 (wdK q k cI cJ σ) H) (hdg : decode cc pc = .ok (.getfield 39, 3))
    (kk : W p l e R s m args below meth c H locs cells slots Q (F0 m (pc + 3) ls (.ref (q 3) :: rest))) : W p l e R s m args below meth c H locs cells slots Q (F0 m pc ls (.ref (q 0) :: rest)) :=
  va_get (D := D) (ci := 0) (v := .ref (q 3)) (C := RK) (T := FK) (N := 19) hx hb hts iK_u hown hK hP 0 rfl rfl 5 (by decide) (hts (.fieldLink RK 39 "AgeKeys" "groupReadings" "[I") (by decide +kernel)) (fun _ h9 => h9) rfl hdg kk
theorem gK_groupSize {p : Program} {l : Launch} {e : Env} {R : Room} {s : State} {m : MethodId} {args : Array Value} {below : List Frame} {meth : Method} {c : Code} {H : Heap} {locs : List Loc} {cells slots : Nat} {Q : State → Prop} {cc : ByteArray} {pc : Nat} {ls : Array Slot} {rest : List Value} {D : va_G} {tys : List (ClassId × FieldType)} {A : Nat → Prop} {q : Nat → Nat} {k : kK} {cI cJ : ClassId} {σ : sK} (hx : p.tables.exec = Jvm.exec) (hb : c.code = cc) (hown : s.vm.findClass RK = some m.cls) (hts : ∀ w ∈ TK, w.before args s = true) (hK : va_K D cl0 tys s) (hP : va_P D cl0 (wdK q k cI cJ σ) H) (hdg : decode cc pc = .ok (.getfield 42, 3))
    (kk : W p l e R s m args below meth c H locs cells slots Q (F0 m (pc + 3) ls (.ref (q 4) :: rest))) : W p l e R s m args below meth c H locs cells slots Q (F0 m pc ls (.ref (q 0) :: rest)) :=
  va_get (D := D) (ci := 0) (v := .ref (q 4)) (C := RK) (T := FK) (N := 19) hx hb hts iK_u hown hK hP 0 rfl rfl 6 (by decide) (hts (.fieldLink RK 42 "AgeKeys" "groupSize" "[I") (by decide +kernel)) (fun _ h9 => h9) rfl hdg kk
theorem gK_groupOf {p : Program} {l : Launch} {e : Env} {R : Room} {s : State} {m : MethodId} {args : Array Value} {below : List Frame} {meth : Method} {c : Code} {H : Heap} {locs : List Loc} {cells slots : Nat} {Q : State → Prop} {cc : ByteArray} {pc : Nat} {ls : Array Slot} {rest : List Value} {D : va_G} {tys : List (ClassId × FieldType)} {A : Nat → Prop} {q : Nat → Nat} {k : kK} {cI cJ : ClassId} {σ : sK} (hx : p.tables.exec = Jvm.exec) (hb : c.code = cc) (hown : s.vm.findClass RK = some m.cls) (hts : ∀ w ∈ TK, w.before args s = true) (hK : va_K D cl0 tys s) (hP : va_P D cl0 (wdK q k cI cJ σ) H) (hdg : decode cc pc = .ok (.getfield 45, 3))
    (kk : W p l e R s m args below meth c H locs cells slots Q (F0 m (pc + 3) ls (.ref (q 5) :: rest))) : W p l e R s m args below meth c H locs cells slots Q (F0 m pc ls (.ref (q 0) :: rest)) :=
  va_get (D := D) (ci := 0) (v := .ref (q 5)) (C := RK) (T := FK) (N := 19) hx hb hts iK_u hown hK hP 0 rfl rfl 7 (by decide) (hts (.fieldLink RK 45 "AgeKeys" "groupOf" "[I") (by decide +kernel)) (fun _ h9 => h9) rfl hdg kk
theorem gK_filledBy {p : Program} {l : Launch} {e : Env} {R : Room} {s : State} {m : MethodId} {args : Array Value} {below : List Frame} {meth : Method} {c : Code} {H : Heap} {locs : List Loc} {cells slots : Nat} {Q : State → Prop} {cc : ByteArray} {pc : Nat} {ls : Array Slot} {rest : List Value} {D : va_G} {tys : List (ClassId × FieldType)} {A : Nat → Prop} {q : Nat → Nat} {k : kK} {cI cJ : ClassId} {σ : sK} (hx : p.tables.exec = Jvm.exec) (hb : c.code = cc) (hown : s.vm.findClass RK = some m.cls) (hts : ∀ w ∈ TK, w.before args s = true) (hK : va_K D cl0 tys s) (hP : va_P D cl0 (wdK q k cI cJ σ) H) (hdg : decode cc pc = .ok (.getfield 48, 3))
    (kk : W p l e R s m args below meth c H locs cells slots Q (F0 m (pc + 3) ls (.ref (q 6) :: rest))) : W p l e R s m args below meth c H locs cells slots Q (F0 m pc ls (.ref (q 0) :: rest)) :=
  va_get (D := D) (ci := 0) (v := .ref (q 6)) (C := RK) (T := FK) (N := 19) hx hb hts iK_u hown hK hP 0 rfl rfl 8 (by decide) (hts (.fieldLink RK 48 "AgeKeys" "filledBy" "[I") (by decide +kernel)) (fun _ h9 => h9) rfl hdg kk
theorem gK_measured {p : Program} {l : Launch} {e : Env} {R : Room} {s : State} {m : MethodId} {args : Array Value} {below : List Frame} {meth : Method} {c : Code} {H : Heap} {locs : List Loc} {cells slots : Nat} {Q : State → Prop} {cc : ByteArray} {pc : Nat} {ls : Array Slot} {rest : List Value} {D : va_G} {tys : List (ClassId × FieldType)} {A : Nat → Prop} {q : Nat → Nat} {k : kK} {cI cJ : ClassId} {σ : sK} (hx : p.tables.exec = Jvm.exec) (hb : c.code = cc) (hown : s.vm.findClass RK = some m.cls) (hts : ∀ w ∈ TK, w.before args s = true) (hK : va_K D cl0 tys s) (hP : va_P D cl0 (wdK q k cI cJ σ) H) (hdg : decode cc pc = .ok (.getfield 51, 3))
    (kk : W p l e R s m args below meth c H locs cells slots Q (F0 m (pc + 3) ls (.ref (q 7) :: rest))) : W p l e R s m args below meth c H locs cells slots Q (F0 m pc ls (.ref (q 0) :: rest)) :=
  va_get (D := D) (ci := 0) (v := .ref (q 7)) (C := RK) (T := FK) (N := 19) hx hb hts iK_u hown hK hP 0 rfl rfl 9 (by decide) (hts (.fieldLink RK 51 "AgeKeys" "measured" "[J") (by decide +kernel)) (fun _ h9 => h9) rfl hdg kk
theorem gK_measuredInAll {p : Program} {l : Launch} {e : Env} {R : Room} {s : State} {m : MethodId} {args : Array Value} {below : List Frame} {meth : Method} {c : Code} {H : Heap} {locs : List Loc} {cells slots : Nat} {Q : State → Prop} {cc : ByteArray} {pc : Nat} {ls : Array Slot} {rest : List Value} {D : va_G} {tys : List (ClassId × FieldType)} {A : Nat → Prop} {q : Nat → Nat} {k : kK} {cI cJ : ClassId} {σ : sK} (hx : p.tables.exec = Jvm.exec) (hb : c.code = cc) (hown : s.vm.findClass RK = some m.cls) (hts : ∀ w ∈ TK, w.before args s = true) (hK : va_K D cl0 tys s) (hP : va_P D cl0 (wdK q k cI cJ σ) H) (hdg : decode cc pc = .ok (.getfield 13, 3))
    (kk : W p l e R s m args below meth c H locs cells slots Q (F0 m (pc + 3) ls (.long (sK_measuredInAll σ) :: rest))) : W p l e R s m args below meth c H locs cells slots Q (F0 m pc ls (.ref (q 0) :: rest)) :=
  va_get (D := D) (ci := 0) (v := .long (sK_measuredInAll σ)) (C := RK) (T := FK) (N := 19) hx hb hts iK_u hown hK hP 0 rfl rfl 10 (by decide) (hts (.fieldLink RK 13 "AgeKeys" "measuredInAll" "J") (by decide +kernel)) (fun _ h9 => h9) rfl hdg kk
theorem pK_measuredInAll {p : Program} {l : Launch} {e : Env} {R : Room} {s : State} {m : MethodId} {args : Array Value} {below : List Frame} {meth : Method} {c : Code} {H : Heap} {locs : List Loc} {cells slots : Nat} {Q : State → Prop} {cc : ByteArray} {pc : Nat} {ls : Array Slot} {rest : List Value} {D : va_G} {tys : List (ClassId × FieldType)} {A : Nat → Prop} {q : Nat → Nat} {k : kK} {cI cJ : ClassId} {σ : sK} (hx : p.tables.exec = Jvm.exec) (hb : c.code = cc) (hown : s.vm.findClass RK = some m.cls) (hts : ∀ w ∈ TK, w.before args s = true) (hK : va_K D cl0 tys s) (hP : va_P D cl0 (wdK q k cI cJ σ) H) (hD : va_D A (wdK q k cI cJ σ)) (hS : va_S A s.heap H locs) {v : Int64} (hdg : decode cc pc = .ok (.putfield 13, 3))
    (kk : ∀ (H1 : Heap) (locs1 : List Loc), va_P D cl0 (wdK q k cI cJ (uK_measuredInAll σ v)) H1 → va_D A (wdK q k cI cJ (uK_measuredInAll σ v)) → va_S A s.heap H1 locs1 → W p l e R s m args below meth c H1 locs1 cells slots Q (F0 m (pc + 3) ls rest)) : W p l e R s m args below meth c H locs cells slots Q (F0 m pc ls (.long v :: .ref (q 0) :: rest)) :=
  va_put (D := D) (ci := 0) (v := .long v) (ty := .long) (C := RK) (T := FK) (N := 19) hx hb hts iK_u tyK tyK_ok nK_ok hown hK hP hD hS 0 rfl rfl 10 (by decide) (hts (.fieldLink RK 13 "AgeKeys" "measuredInAll" "J") (by decide +kernel)) (fun _ h9 => h9) rfl (by decide +kernel) rfl rfl (Nat.le_of_ble_eq_true rfl) hdg kk
theorem gK_errors {p : Program} {l : Launch} {e : Env} {R : Room} {s : State} {m : MethodId} {args : Array Value} {below : List Frame} {meth : Method} {c : Code} {H : Heap} {locs : List Loc} {cells slots : Nat} {Q : State → Prop} {cc : ByteArray} {pc : Nat} {ls : Array Slot} {rest : List Value} {D : va_G} {tys : List (ClassId × FieldType)} {A : Nat → Prop} {q : Nat → Nat} {k : kK} {cI cJ : ClassId} {σ : sK} (hx : p.tables.exec = Jvm.exec) (hb : c.code = cc) (hown : s.vm.findClass RK = some m.cls) (hts : ∀ w ∈ TK, w.before args s = true) (hK : va_K D cl0 tys s) (hP : va_P D cl0 (wdK q k cI cJ σ) H) (hdg : decode cc pc = .ok (.getfield 55, 3))
    (kk : W p l e R s m args below meth c H locs cells slots Q (F0 m (pc + 3) ls (.ref (q 8) :: rest))) : W p l e R s m args below meth c H locs cells slots Q (F0 m pc ls (.ref (q 0) :: rest)) :=
  va_get (D := D) (ci := 0) (v := .ref (q 8)) (C := RK) (T := FK) (N := 19) hx hb hts iK_u hown hK hP 0 rfl rfl 11 (by decide) (hts (.fieldLink RK 55 "AgeKeys" "errors" "[I") (by decide +kernel)) (fun _ h9 => h9) rfl hdg kk
theorem gK_square {p : Program} {l : Launch} {e : Env} {R : Room} {s : State} {m : MethodId} {args : Array Value} {below : List Frame} {meth : Method} {c : Code} {H : Heap} {locs : List Loc} {cells slots : Nat} {Q : State → Prop} {cc : ByteArray} {pc : Nat} {ls : Array Slot} {rest : List Value} {D : va_G} {tys : List (ClassId × FieldType)} {A : Nat → Prop} {q : Nat → Nat} {k : kK} {cI cJ : ClassId} {σ : sK} (hx : p.tables.exec = Jvm.exec) (hb : c.code = cc) (hown : s.vm.findClass RK = some m.cls) (hts : ∀ w ∈ TK, w.before args s = true) (hK : va_K D cl0 tys s) (hP : va_P D cl0 (wdK q k cI cJ σ) H) (hdg : decode cc pc = .ok (.getfield 58, 3))
    (kk : W p l e R s m args below meth c H locs cells slots Q (F0 m (pc + 3) ls (.ref (q 9) :: rest))) : W p l e R s m args below meth c H locs cells slots Q (F0 m pc ls (.ref (q 0) :: rest)) :=
  va_get (D := D) (ci := 0) (v := .ref (q 9)) (C := RK) (T := FK) (N := 19) hx hb hts iK_u hown hK hP 0 rfl rfl 12 (by decide) (hts (.fieldLink RK 58 "AgeKeys" "square" "[J") (by decide +kernel)) (fun _ h9 => h9) rfl hdg kk
theorem gK_poolSum {p : Program} {l : Launch} {e : Env} {R : Room} {s : State} {m : MethodId} {args : Array Value} {below : List Frame} {meth : Method} {c : Code} {H : Heap} {locs : List Loc} {cells slots : Nat} {Q : State → Prop} {cc : ByteArray} {pc : Nat} {ls : Array Slot} {rest : List Value} {D : va_G} {tys : List (ClassId × FieldType)} {A : Nat → Prop} {q : Nat → Nat} {k : kK} {cI cJ : ClassId} {σ : sK} (hx : p.tables.exec = Jvm.exec) (hb : c.code = cc) (hown : s.vm.findClass RK = some m.cls) (hts : ∀ w ∈ TK, w.before args s = true) (hK : va_K D cl0 tys s) (hP : va_P D cl0 (wdK q k cI cJ σ) H) (hdg : decode cc pc = .ok (.getfield 61, 3))
    (kk : W p l e R s m args below meth c H locs cells slots Q (F0 m (pc + 3) ls (.ref (q 10) :: rest))) : W p l e R s m args below meth c H locs cells slots Q (F0 m pc ls (.ref (q 0) :: rest)) :=
  va_get (D := D) (ci := 0) (v := .ref (q 10)) (C := RK) (T := FK) (N := 19) hx hb hts iK_u hown hK hP 0 rfl rfl 13 (by decide) (hts (.fieldLink RK 61 "AgeKeys" "poolSum" "[I") (by decide +kernel)) (fun _ h9 => h9) rfl hdg kk
theorem gK_poolSize {p : Program} {l : Launch} {e : Env} {R : Room} {s : State} {m : MethodId} {args : Array Value} {below : List Frame} {meth : Method} {c : Code} {H : Heap} {locs : List Loc} {cells slots : Nat} {Q : State → Prop} {cc : ByteArray} {pc : Nat} {ls : Array Slot} {rest : List Value} {D : va_G} {tys : List (ClassId × FieldType)} {A : Nat → Prop} {q : Nat → Nat} {k : kK} {cI cJ : ClassId} {σ : sK} (hx : p.tables.exec = Jvm.exec) (hb : c.code = cc) (hown : s.vm.findClass RK = some m.cls) (hts : ∀ w ∈ TK, w.before args s = true) (hK : va_K D cl0 tys s) (hP : va_P D cl0 (wdK q k cI cJ σ) H) (hdg : decode cc pc = .ok (.getfield 64, 3))
    (kk : W p l e R s m args below meth c H locs cells slots Q (F0 m (pc + 3) ls (.ref (q 11) :: rest))) : W p l e R s m args below meth c H locs cells slots Q (F0 m pc ls (.ref (q 0) :: rest)) :=
  va_get (D := D) (ci := 0) (v := .ref (q 11)) (C := RK) (T := FK) (N := 19) hx hb hts iK_u hown hK hP 0 rfl rfl 14 (by decide) (hts (.fieldLink RK 64 "AgeKeys" "poolSize" "[I") (by decide +kernel)) (fun _ h9 => h9) rfl hdg kk
theorem gK_poolAges {p : Program} {l : Launch} {e : Env} {R : Room} {s : State} {m : MethodId} {args : Array Value} {below : List Frame} {meth : Method} {c : Code} {H : Heap} {locs : List Loc} {cells slots : Nat} {Q : State → Prop} {cc : ByteArray} {pc : Nat} {ls : Array Slot} {rest : List Value} {D : va_G} {tys : List (ClassId × FieldType)} {A : Nat → Prop} {q : Nat → Nat} {k : kK} {cI cJ : ClassId} {σ : sK} (hx : p.tables.exec = Jvm.exec) (hb : c.code = cc) (hown : s.vm.findClass RK = some m.cls) (hts : ∀ w ∈ TK, w.before args s = true) (hK : va_K D cl0 tys s) (hP : va_P D cl0 (wdK q k cI cJ σ) H) (hdg : decode cc pc = .ok (.getfield 67, 3))
    (kk : W p l e R s m args below meth c H locs cells slots Q (F0 m (pc + 3) ls (.ref (q 12) :: rest))) : W p l e R s m args below meth c H locs cells slots Q (F0 m pc ls (.ref (q 0) :: rest)) :=
  va_get (D := D) (ci := 0) (v := .ref (q 12)) (C := RK) (T := FK) (N := 19) hx hb hts iK_u hown hK hP 0 rfl rfl 15 (by decide) (hts (.fieldLink RK 67 "AgeKeys" "poolAges" "[I") (by decide +kernel)) (fun _ h9 => h9) rfl hdg kk
theorem gK_poolLastAge {p : Program} {l : Launch} {e : Env} {R : Room} {s : State} {m : MethodId} {args : Array Value} {below : List Frame} {meth : Method} {c : Code} {H : Heap} {locs : List Loc} {cells slots : Nat} {Q : State → Prop} {cc : ByteArray} {pc : Nat} {ls : Array Slot} {rest : List Value} {D : va_G} {tys : List (ClassId × FieldType)} {A : Nat → Prop} {q : Nat → Nat} {k : kK} {cI cJ : ClassId} {σ : sK} (hx : p.tables.exec = Jvm.exec) (hb : c.code = cc) (hown : s.vm.findClass RK = some m.cls) (hts : ∀ w ∈ TK, w.before args s = true) (hK : va_K D cl0 tys s) (hP : va_P D cl0 (wdK q k cI cJ σ) H) (hdg : decode cc pc = .ok (.getfield 70, 3))
    (kk : W p l e R s m args below meth c H locs cells slots Q (F0 m (pc + 3) ls (.ref (q 13) :: rest))) : W p l e R s m args below meth c H locs cells slots Q (F0 m pc ls (.ref (q 0) :: rest)) :=
  va_get (D := D) (ci := 0) (v := .ref (q 13)) (C := RK) (T := FK) (N := 19) hx hb hts iK_u hown hK hP 0 rfl rfl 16 (by decide) (hts (.fieldLink RK 70 "AgeKeys" "poolLastAge" "[I") (by decide +kernel)) (fun _ h9 => h9) rfl hdg kk
theorem gK_maleCount {p : Program} {l : Launch} {e : Env} {R : Room} {s : State} {m : MethodId} {args : Array Value} {below : List Frame} {meth : Method} {c : Code} {H : Heap} {locs : List Loc} {cells slots : Nat} {Q : State → Prop} {cc : ByteArray} {pc : Nat} {ls : Array Slot} {rest : List Value} {D : va_G} {tys : List (ClassId × FieldType)} {A : Nat → Prop} {q : Nat → Nat} {k : kK} {cI cJ : ClassId} {σ : sK} (hx : p.tables.exec = Jvm.exec) (hb : c.code = cc) (hown : s.vm.findClass RK = some m.cls) (hts : ∀ w ∈ TK, w.before args s = true) (hK : va_K D cl0 tys s) (hP : va_P D cl0 (wdK q k cI cJ σ) H) (hdg : decode cc pc = .ok (.getfield 73, 3))
    (kk : W p l e R s m args below meth c H locs cells slots Q (F0 m (pc + 3) ls (.ref (q 14) :: rest))) : W p l e R s m args below meth c H locs cells slots Q (F0 m pc ls (.ref (q 0) :: rest)) :=
  va_get (D := D) (ci := 0) (v := .ref (q 14)) (C := RK) (T := FK) (N := 19) hx hb hts iK_u hown hK hP 0 rfl rfl 17 (by decide) (hts (.fieldLink RK 73 "AgeKeys" "maleCount" "[I") (by decide +kernel)) (fun _ h9 => h9) rfl hdg kk
theorem gK_lookedAt {p : Program} {l : Launch} {e : Env} {R : Room} {s : State} {m : MethodId} {args : Array Value} {below : List Frame} {meth : Method} {c : Code} {H : Heap} {locs : List Loc} {cells slots : Nat} {Q : State → Prop} {cc : ByteArray} {pc : Nat} {ls : Array Slot} {rest : List Value} {D : va_G} {tys : List (ClassId × FieldType)} {A : Nat → Prop} {q : Nat → Nat} {k : kK} {cI cJ : ClassId} {σ : sK} (hx : p.tables.exec = Jvm.exec) (hb : c.code = cc) (hown : s.vm.findClass RK = some m.cls) (hts : ∀ w ∈ TK, w.before args s = true) (hK : va_K D cl0 tys s) (hP : va_P D cl0 (wdK q k cI cJ σ) H) (hdg : decode cc pc = .ok (.getfield 76, 3))
    (kk : W p l e R s m args below meth c H locs cells slots Q (F0 m (pc + 3) ls (.ref (q 15) :: rest))) : W p l e R s m args below meth c H locs cells slots Q (F0 m pc ls (.ref (q 0) :: rest)) :=
  va_get (D := D) (ci := 0) (v := .ref (q 15)) (C := RK) (T := FK) (N := 19) hx hb hts iK_u hown hK hP 0 rfl rfl 18 (by decide) (hts (.fieldLink RK 76 "AgeKeys" "lookedAt" "[I") (by decide +kernel)) (fun _ h9 => h9) rfl hdg kk
end
section
def fK_isClass (k : kK) (x1 : Int32) : Int32 :=
  if x1 < 0 then
    0
  else
    if (kK_classes k) ≤ x1 then
      0
    else
      1
def fK_isAge (k : kK) (x1 : Int32) : Int32 :=
  if x1 < 0 then
    0
  else
    if (kK_ages k) ≤ x1 then
      0
    else
      1
def fK_isPlace (x0 : Int32) : Int32 :=
  if x0 < 0 then
    0
  else
    if 4 ≤ x0 then
      0
    else
      1
def fK_sizeIn (k : kK) (σ : sK) (x1 : Int32) (x2 : Int32) : Option Int32 :=
  (kld (kK_n k 3) (sK_groupSize σ) ((x1 * (kK_classes k)) + x2)).bind fun v12 =>
  some v12
def fK_cell (k : kK) (x1 : Int32) (x2 : Int32) (x3 : Int32) : Int32 :=
  ((((x1 * (kK_classes k)) + x2) * (kK_ages k)) + x3)
def fK_countReading (k : kK) (σ : sK) (x1 : Int32) (x2 : Int32) (x3 : Int32) : Option sK :=
  (kld (kK_n k 4) (sK_groupOf σ) x2).bind fun v5 =>
  (kld (kK_n k 0) (sK_readings σ) (fK_cell k x1 x2 x3)).bind fun v20 =>
  (kstI (kK_n k 0) (sK_readings σ) (fK_cell k x1 x2 x3) (v20 + 1)).bind fun a23 =>
  (kld (kK_n k 1) (sK_rowSize (uK_readings σ a23)) x1).bind fun v30 =>
  (kstI (kK_n k 1) (sK_rowSize (uK_readings σ a23)) x1 (v30 + 1)).bind fun a33 =>
  (kld (kK_n k 2) (sK_groupReadings (uK_rowSize (uK_readings σ a23) a33)) (fK_cell k x1 v5 x3)).bind fun v47 =>
  (kstI (kK_n k 2) (sK_groupReadings (uK_rowSize (uK_readings σ a23) a33)) (fK_cell k x1 v5 x3) (v47 + 1)).bind fun a50 =>
  (kld (kK_n k 3) (sK_groupSize (uK_groupReadings (uK_rowSize (uK_readings σ a23) a33) a50)) ((x1 * (kK_classes k)) + v5)).bind fun v65 =>
  (kstI (kK_n k 3) (sK_groupSize (uK_groupReadings (uK_rowSize (uK_readings σ a23) a33) a50)) ((x1 * (kK_classes k)) + v5) (v65 + 1)).bind fun a68 =>
  some (uK_groupSize (uK_groupReadings (uK_rowSize (uK_readings σ a23) a33) a50) a68)
def fK_read (k : kK) (σ : sK) (x1 : Int32) (x2 : Int32) (x3 : Int32) : Option (Int32 × sK) :=
  if (fK_isClass k x1) = 0 then
    some (0, σ)
  else
    if (fK_isAge k x2) = 0 then
      some (0, σ)
    else
      if (fK_isPlace x3) = 0 then
        some (0, σ)
      else
        (kld (kK_n k 4) (sK_groupOf σ) x1).bind fun v32 =>
        (fK_sizeIn k σ 4 v32).bind fun v33 =>
        if 20 ≤ v33 then
          some (0, σ)
        else
          (kld (kK_n k 1) (sK_rowSize σ) 4).bind fun v46 =>
          if v46 < 100 then
            (fK_countReading k σ x3 x1 x2).bind fun s58 =>
            (fK_countReading k s58 4 x1 x2).bind fun s65 =>
            some (1, s65)
          else
            some (0, σ)
def fK_place_25 (k : kK) (σ : sK) (y1 : Int32) : Option (Int32 × sK) :=
  (kld (kK_n k 1) (sK_rowSize (uK_chosenRow σ y1)) (sK_chosenRow (uK_chosenRow σ y1))).bind fun v36 =>
  some (v36, (uK_chosenRow σ y1))
def fK_place_14 (k : kK) (σ : sK) (x1 : Int32) : Option (Int32 × sK) :=
  if x1 = (-1) then
    fK_place_25 k σ 4
  else
    fK_place_25 k σ x1
def fK_place (k : kK) (σ : sK) (x1 : Int32) : Option (Int32 × sK) :=
  if x1 = (-1) then
    fK_place_14 k σ x1
  else
    if (fK_isPlace x1) = 0 then
      some ((-1), σ)
    else
      fK_place_14 k σ x1
def fK_isZeroOrOne_9 : Int32 :=
  1
def fK_isZeroOrOne (x0 : Int32) : Int32 :=
  if x0 = 0 then
    fK_isZeroOrOne_9
  else
    if x0 = 1 then
      fK_isZeroOrOne_9
    else
      0
def fK_own (k : kK) (σ : sK) (x1 : Int32) : Option Int32 :=
  (fK_sizeIn k σ (sK_chosenRow σ) x1).bind fun v6 =>
  some v6
def fK_sourceOf (k : kK) (σ : sK) (x1 : Int32) : Option Int32 :=
  (fK_own k σ x1).bind fun v2 =>
  if v2 ≤ 0 then
    (kld (kK_n k 5) (sK_filledBy σ) x1).bind fun v15 =>
    if v15 = (-1) then
      some (-1)
    else
      (fK_own k σ v15).bind fun v24 =>
      if v24 ≤ 0 then
        some (-1)
      else
        some v15
  else
    some x1
def fK_ownOfAge (k : kK) (σ : sK) (x1 : Int32) (x2 : Int32) : Option Int32 :=
  (kld (kK_n k 2) (sK_groupReadings σ) (fK_cell k (sK_chosenRow σ) x1 x2)).bind fun v14 =>
  some v14
def fK_commonDivisor_9 (fu : Nat) : Nat → Int64 → Int64 → Int32 → Option Int64
  | 0, _, _, _ => none
  | n + 1, x4, x6, x8 =>
    if 100 ≤ x8 then
      some x4
    else
      if x6 = (0 : Int64) then
        some x4
      else
        (kremJ x4 x6).bind fun v27 =>
        fK_commonDivisor_9 fu n x6 v27 (x8 + 1)
def fK_commonDivisor (fu : Nat) (x0 : Int64) (x2 : Int64) : Option Int64 :=
  fK_commonDivisor_9 fu fu x0 x2 0
def fK_fractionPart (fu : Nat) (x0 : Int64) (x2 : Int64) (x4 : Int32) : Option Int64 :=
  (fK_commonDivisor fu (if 0 < x0 then x0 else -x0) x2).bind fun v5 =>
  if (0 : Int64) < v5 then
    if x4 = 0 then
      (kdivJ x0 v5).bind fun v33 =>
      some v33
    else
      (kdivJ x2 v5).bind fun v33 =>
      some v33
  else
    some (-1 : Int64)
def fK_share (fu : Nat) (k : kK) (σ : sK) (x1 : Int32) (x2 : Int32) (x3 : Int32) : Option Int64 :=
  if (fK_isClass k x1) = 0 then
    some (-1 : Int64)
  else
    if (fK_isAge k x2) = 0 then
      some (-1 : Int64)
    else
      if (fK_isZeroOrOne x3) = 0 then
        some (-1 : Int64)
      else
        (kld (kK_n k 4) (sK_groupOf σ) x1).bind fun v33 =>
        (fK_sourceOf k σ v33).bind fun v34 =>
        if v34 = (-1) then
          some (-1 : Int64)
        else
          (fK_ownOfAge k σ v34 x2).bind fun v53 =>
          (fK_own k σ v34).bind fun v60 =>
          (fK_fractionPart fu v53.toInt64 v60.toInt64 x3).bind fun v65 =>
          some v65
def fK_without_117 (fu : Nat) (k : kK) (σ : sK) (y0 : Int64) (x4 : Int32) (x5 : Int32) : Option Int64 :=
  (fK_fractionPart fu y0 ((x5 - 1).toInt64) x4).bind fun v124 =>
  some v124
def fK_without_99 (fu : Nat) (k : kK) (σ : sK) (y0 : Int32) (x4 : Int32) (x5 : Int32) (x6 : Int32) : Option Int64 :=
  if y0 = 0 then
    fK_without_117 fu k σ x6.toInt64 x4 x5
  else
    fK_without_117 fu k σ ((x6 - 1).toInt64) x4 x5
def fK_without (fu : Nat) (k : kK) (σ : sK) (x1 : Int32) (x2 : Int32) (x3 : Int32) (x4 : Int32) : Option Int64 :=
  if (fK_isClass k x1) = 0 then
    some (-1 : Int64)
  else
    if (fK_isAge k x2) = 0 then
      some (-1 : Int64)
    else
      if (fK_isZeroOrOne x3) = 0 then
        some (-1 : Int64)
      else
        if (fK_isZeroOrOne x4) = 0 then
          some (-1 : Int64)
        else
          (kld (kK_n k 4) (sK_groupOf σ) x1).bind fun v41 =>
          (fK_own k σ v41).bind fun v42 =>
          if 2 ≤ v42 then
            (kld (kK_n k 4) (sK_groupOf σ) x1).bind fun v63 =>
            (fK_ownOfAge k σ v63 x2).bind fun v65 =>
            if x3 = 0 then
              if v65 ≤ 0 then
                fK_without_99 fu k σ 0 x4 v42 v65
              else
                fK_without_99 fu k σ 1 x4 v42 v65
            else
              if v65 = v42 then
                fK_without_99 fu k σ 1 x4 v42 v65
              else
                fK_without_99 fu k σ 0 x4 v42 v65
          else
            some (-1 : Int64)
def fK_isLeastOfGroup (k : kK) (σ : sK) (x1 : Int32) : Option Int32 :=
  (kld (kK_n k 4) (sK_groupOf σ) x1).bind fun v5 =>
  if v5 = x1 then
    some 1
  else
    some 0
def fK_empty_4 (fu : Nat) (k : kK) (σ : sK) : Nat → Int32 → Int32 → Int32 → Option Int32
  | 0, _, _, _ => none
  | n + 1, x1, x2, x3 =>
    if (kK_classes k) ≤ x3 then
      some (-1)
    else
      (fK_isLeastOfGroup k σ x3).bind fun v14 =>
      if v14 = 0 then
        fK_empty_4 fu k σ n x1 x2 (x3 + 1)
      else
        (fK_own k σ x3).bind fun v22 =>
        if v22 = 0 then
          (kld (kK_n k 5) (sK_filledBy σ) x3).bind fun v33 =>
          if v33 = (-1) then
            if x2 = x1 then
              some x3
            else
              fK_empty_4 fu k σ n x1 (x2 + 1) (x3 + 1)
          else
            fK_empty_4 fu k σ n x1 x2 (x3 + 1)
        else
          fK_empty_4 fu k σ n x1 x2 (x3 + 1)
def fK_empty (fu : Nat) (k : kK) (σ : sK) (x1 : Int32) : Option Int32 :=
  fK_empty_4 fu k σ fu x1 0 0
def fK_distanceTo_8 (fu : Nat) (k : kK) (σ : sK) : Nat → Int32 → Int32 → Int32 → Int32 → Option Int32
  | 0, _, _, _, _ => none
  | n + 1, x1, x2, x3, x4 =>
    if (kK_classes k) ≤ x4 then
      some x3
    else
      (kld (kK_n k 4) (sK_groupOf σ) x4).bind fun v23 =>
      if v23 = x1 then
        fK_distanceTo_8 fu k σ n x1 x2 (if (if 0 ≤ (x4 - x2) then (x4 - x2) else 0 - (x4 - x2)) < x3 then (if 0 ≤ (x4 - x2) then (x4 - x2) else 0 - (x4 - x2)) else x3) (x4 + 1)
      else
        fK_distanceTo_8 fu k σ n x1 x2 x3 (x4 + 1)
def fK_distanceTo (fu : Nat) (k : kK) (σ : sK) (x1 : Int32) (x2 : Int32) : Option Int32 :=
  fK_distanceTo_8 fu k σ fu x1 x2 (kK_classes k) 0
def fK_nearestWithReadings_67 (fu : Nat) (k : kK) (σ : sK) (h10 : Int32 → Int32 → Int32 → Int32 → Option Int32) (x1 : Int32) (x4 : Int32) (x5 : Int32) (x6 : Int32) : Option Int32 :=
  h10 x1 x5 x6 (x4 + 1)
def fK_nearestWithReadings_10 (fu : Nat) (k : kK) (σ : sK) : Nat → Int32 → Int32 → Int32 → Int32 → Option Int32
  | 0, _, _, _, _ => none
  | n + 1, x1, x2, x3, x4 =>
    if (kK_classes k) ≤ x4 then
      some x2
    else
      (kld (kK_n k 4) (sK_groupOf σ) x4).bind fun v25 =>
      (fK_own k σ v25).bind fun v31 =>
      if v31 = 0 then
        fK_nearestWithReadings_10 fu k σ n x1 x2 x3 (x4 + 1)
      else
        (fK_distanceTo fu k σ x1 x4).bind fun v44 =>
        if v44 < x3 then
          fK_nearestWithReadings_67 fu k σ (fK_nearestWithReadings_10 fu k σ n) x1 x4 v25 v44
        else
          if v44 = x3 then
            if x2 ≤ v25 then
              fK_nearestWithReadings_10 fu k σ n x1 x2 x3 (x4 + 1)
            else
              fK_nearestWithReadings_67 fu k σ (fK_nearestWithReadings_10 fu k σ n) x1 x4 v25 v44
          else
            fK_nearestWithReadings_10 fu k σ n x1 x2 x3 (x4 + 1)
def fK_nearestWithReadings (fu : Nat) (k : kK) (σ : sK) (x1 : Int32) : Option Int32 :=
  fK_nearestWithReadings_10 fu k σ fu x1 (-1) (kK_classes k) 0
def fK_fill (fu : Nat) (k : kK) (σ : sK) (x1 : Int32) : Option (Int32 × sK) :=
  if (fK_isClass k x1) = 0 then
    some ((-1), σ)
  else
    (kld (kK_n k 4) (sK_groupOf σ) x1).bind fun v14 =>
    (fK_own k σ v14).bind fun v15 =>
    if v15 ≤ 0 then
      (kld (kK_n k 4) (sK_groupOf σ) x1).bind fun v29 =>
      (fK_nearestWithReadings fu k σ v29).bind fun v30 =>
      if v30 = (-1) then
        some (v30, σ)
      else
        (kld (kK_n k 4) (sK_groupOf σ) x1).bind fun v48 =>
        (kstI (kK_n k 5) (sK_filledBy σ) v48 v30).bind fun a50 =>
        some (v30, (uK_filledBy σ a50))
    else
      some ((-1), σ)
def fK_marked (k : kK) (σ : sK) (x1 : Int32) : Option Int32 :=
  if (fK_isClass k x1) = 0 then
    some 0
  else
    (kld (kK_n k 4) (sK_groupOf σ) x1).bind fun v17 =>
    (kld (kK_n k 5) (sK_filledBy σ) v17).bind fun v18 =>
    if v18 = (-1) then
      some 0
    else
      (kld (kK_n k 4) (sK_groupOf σ) x1).bind fun v29 =>
      (fK_own k σ v29).bind fun v30 =>
      if v30 = 0 then
        some 1
      else
        some 0
def fK_dropFills_44 (fu : Nat) (k : kK) (h16 : sK → Int32 → Int32 → Int32 → Option sK) (σ : sK) (x1 : Int32) (x2 : Int32) (x3 : Int32) : Option sK :=
  (kstI (kK_n k 5) (sK_filledBy σ) x3 (-1)).bind fun a50 =>
  h16 (uK_filledBy σ a50) x1 x2 (x3 + 1)
def fK_dropFills_16 (fu : Nat) (k : kK) : Nat → sK → Int32 → Int32 → Int32 → Option sK
  | 0, _, _, _, _ => none
  | n + 1, σ, x1, x2, x3 =>
    if (kK_classes k) ≤ x3 then
      some σ
    else
      (kld (kK_n k 5) (sK_filledBy σ) x3).bind fun v29 =>
      if v29 = x1 then
        fK_dropFills_44 fu k (fK_dropFills_16 fu k n) σ x1 x2 x3
      else
        (kld (kK_n k 5) (sK_filledBy σ) x3).bind fun v39 =>
        if v39 = x2 then
          fK_dropFills_44 fu k (fK_dropFills_16 fu k n) σ x1 x2 x3
        else
          fK_dropFills_16 fu k n σ x1 x2 (x3 + 1)
def fK_dropFills (fu : Nat) (k : kK) (σ : sK) (x1 : Int32) (x2 : Int32) : Option sK :=
  (kstI (kK_n k 5) (sK_filledBy σ) x1 (-1)).bind fun a6 =>
  (kstI (kK_n k 5) (sK_filledBy (uK_filledBy σ a6)) x2 (-1)).bind fun a13 =>
  fK_dropFills_16 fu k fu (uK_filledBy (uK_filledBy σ a6) a13) x1 x2 0
def fK_moveReadings_39 (fu : Nat) (k : kK) (h2 : sK → Int32 → Int32 → Int32 → Option sK) : Nat → sK → Int32 → Int32 → Int32 → Int32 → Option sK
  | 0, _, _, _, _, _ => none
  | n + 1, σ, x1, x2, x3, x4 =>
    if (kK_ages k) ≤ x4 then
      h2 σ x1 x2 (x3 + 1)
    else
      (kld (kK_n k 2) (sK_groupReadings σ) (fK_cell k x3 x1 x4)).bind fun v61 =>
      (kld (kK_n k 2) (sK_groupReadings σ) (fK_cell k x3 x2 x4)).bind fun v74 =>
      (kstI (kK_n k 2) (sK_groupReadings σ) (fK_cell k x3 x1 x4) (v61 + v74)).bind fun a76 =>
      fK_moveReadings_39 fu k h2 n (uK_groupReadings σ a76) x1 x2 x3 (x4 + 1)
def fK_moveReadings_2 (fu : Nat) (k : kK) : Nat → sK → Int32 → Int32 → Int32 → Option sK
  | 0, _, _, _, _ => none
  | n + 1, σ, x1, x2, x3 =>
    if 5 ≤ x3 then
      some σ
    else
      (kld (kK_n k 3) (sK_groupSize σ) ((x3 * (kK_classes k)) + x1)).bind fun v20 =>
      (kld (kK_n k 3) (sK_groupSize σ) ((x3 * (kK_classes k)) + x2)).bind fun v33 =>
      (kstI (kK_n k 3) (sK_groupSize σ) ((x3 * (kK_classes k)) + x1) (v20 + v33)).bind fun a35 =>
      fK_moveReadings_39 fu k (fK_moveReadings_2 fu k n) fu (uK_groupSize σ a35) x1 x2 x3 0
def fK_moveReadings (fu : Nat) (k : kK) (σ : sK) (x1 : Int32) (x2 : Int32) : Option sK :=
  fK_moveReadings_2 fu k fu σ x1 x2 0
def fK_joined_95 (fu : Nat) (k : kK) : Nat → sK → Int32 → Int32 → Int32 → Option (Int32 × sK)
  | 0, _, _, _, _ => none
  | n + 1, σ, x3, x4, x5 =>
    if (kK_classes k) ≤ x5 then
      some (x3, σ)
    else
      (kld (kK_n k 4) (sK_groupOf σ) x5).bind fun v110 =>
      if v110 = x4 then
        (kstI (kK_n k 4) (sK_groupOf σ) x5 x3).bind fun a123 =>
        fK_joined_95 fu k n (uK_groupOf σ a123) x3 x4 (x5 + 1)
      else
        fK_joined_95 fu k n σ x3 x4 (x5 + 1)
def fK_joined (fu : Nat) (k : kK) (σ : sK) (x1 : Int32) (x2 : Int32) : Option (Int32 × sK) :=
  if (fK_isClass k x1) = 0 then
    some ((-1), σ)
  else
    if (fK_isClass k x2) = 0 then
      some ((-1), σ)
    else
      (kld (kK_n k 4) (sK_groupOf σ) x1).bind fun v23 =>
      (kld (kK_n k 4) (sK_groupOf σ) x2).bind fun v29 =>
      (kld (kK_n k 4) (sK_groupOf σ) x1).bind fun v39 =>
      (kld (kK_n k 4) (sK_groupOf σ) x2).bind fun v45 =>
      if (if v29 < v23 then v29 else v23) = (if v39 < v45 then v45 else v39) then
        some ((-1), σ)
      else
        (fK_sizeIn k σ 4 (if v29 < v23 then v29 else v23)).bind fun v60 =>
        (fK_sizeIn k σ 4 (if v39 < v45 then v45 else v39)).bind fun v67 =>
        if (v60 + v67) ≤ 20 then
          (fK_dropFills fu k σ (if v29 < v23 then v29 else v23) (if v39 < v45 then v45 else v39)).bind fun s82 =>
          (fK_moveReadings fu k s82 (if v29 < v23 then v29 else v23) (if v39 < v45 then v45 else v39)).bind fun s89 =>
          fK_joined_95 fu k fu s89 (if v29 < v23 then v29 else v23) (if v39 < v45 then v45 else v39) 0
        else
          some ((-1), σ)
def fK_groups_4 (fu : Nat) (k : kK) (σ : sK) : Nat → Int32 → Int32 → Option Int32
  | 0, _, _ => none
  | n + 1, x1, x2 =>
    if (kK_classes k) ≤ x2 then
      some x1
    else
      (fK_isLeastOfGroup k σ x2).bind fun v14 =>
      if v14 = 0 then
        fK_groups_4 fu k σ n x1 (x2 + 1)
      else
        fK_groups_4 fu k σ n (x1 + 1) (x2 + 1)
def fK_groups (fu : Nat) (k : kK) (σ : sK) : Option Int32 :=
  fK_groups_4 fu k σ fu 0 0
def fK_sample (k : kK) (σ : sK) (x1 : Int32) (x2 : Int64) : Option (Int32 × sK) :=
  if (fK_isClass k x1) = 0 then
    some (0, σ)
  else
    if x2 < (0 : Int64) then
      some (0, σ)
    else
      if x2 ≤ ((10000 : Int64) - (sK_measuredInAll σ)) then
        (kld (kK_n k 6) (sK_measured σ) x1).bind fun v35 =>
        (kstJ (kK_n k 6) (sK_measured σ) x1 (v35 + x2)).bind fun a38 =>
        some (1, (uK_measuredInAll (uK_measured σ a38) ((sK_measuredInAll (uK_measured σ a38)) + x2)))
      else
        some (0, σ)
def fK_canRaise_27 (fu : Nat) (k : kK) (σ : sK) : Nat → Int32 → Option Int32
  | 0, _ => none
  | n + 1, x3 =>
    if (kK_classes k) ≤ x3 then
      some 1
    else
      (kld (kK_n k 6) (sK_measured σ) x3).bind fun v40 =>
      if v40 ≤ (0 : Int64) then
        fK_canRaise_27 fu k σ n (x3 + 1)
      else
        (kld (kK_n k 4) (sK_groupOf σ) x3).bind fun v52 =>
        (fK_sourceOf k σ v52).bind fun v53 =>
        if v53 = (-1) then
          some 0
        else
          fK_canRaise_27 fu k σ n (x3 + 1)
def fK_canRaise (fu : Nat) (k : kK) (σ : sK) (x1 : Int64) : Option Int32 :=
  if x1 < (0 : Int64) then
    some 0
  else
    if (10000 : Int64) < x1 then
      some 0
    else
      if (sK_measuredInAll σ) = (0 : Int64) then
        some 0
      else
        fK_canRaise_27 fu k σ fu 0
def fK_commonShare (k : kK) (σ : sK) (x1 : Int32) (x2 : Int32) : Option Int64 :=
  (fK_sourceOf k σ x1).bind fun v2 =>
  if v2 = (-1) then
    some (0 : Int64)
  else
    (fK_own k σ v2).bind fun v15 =>
    if v15 ≤ 0 then
      some (0 : Int64)
    else
      (fK_ownOfAge k σ v2 x2).bind fun v28 =>
      (kdivJ (232792560 : Int64) v15.toInt64).bind fun v38 =>
      some (v28.toInt64 * v38)
def fK_measuredOfAge_5 (fu : Nat) (k : kK) (σ : sK) : Nat → Int32 → Int64 → Int32 → Option Int64
  | 0, _, _, _ => none
  | n + 1, x1, x2, x4 =>
    if (kK_classes k) ≤ x4 then
      some x2
    else
      (kld (kK_n k 6) (sK_measured σ) x4).bind fun v20 =>
      if v20 ≤ (0 : Int64) then
        fK_measuredOfAge_5 fu k σ n x1 x2 (x4 + 1)
      else
        (kld (kK_n k 6) (sK_measured σ) x4).bind fun v33 =>
        (kld (kK_n k 4) (sK_groupOf σ) x4).bind fun v41 =>
        (fK_commonShare k σ v41 x1).bind fun v43 =>
        fK_measuredOfAge_5 fu k σ n x1 (x2 + (v33 * v43)) (x4 + 1)
def fK_measuredOfAge (fu : Nat) (k : kK) (σ : sK) (x1 : Int32) : Option Int64 :=
  fK_measuredOfAge_5 fu k σ fu x1 (0 : Int64) 0
def fK_raised (fu : Nat) (k : kK) (σ : sK) (x1 : Int64) (x3 : Int32) (x4 : Int32) : Option Int64 :=
  if (fK_isAge k x3) = 0 then
    some (-1 : Int64)
  else
    if (fK_isZeroOrOne x4) = 0 then
      some (-1 : Int64)
    else
      (fK_canRaise fu k σ x1).bind fun v18 =>
      if v18 = 0 then
        some (-1 : Int64)
      else
        (fK_measuredOfAge fu k σ x3).bind fun v31 =>
        (fK_fractionPart fu (x1 * v31) ((sK_measuredInAll σ) * (232792560 : Int64)) x4).bind fun v45 =>
        some v45
def fK_sums_15 (fu : Nat) (k : kK) (σ : sK) : Nat → Int64 → Int64 → Int32 → Option Int32
  | 0, _, _, _ => none
  | n + 1, x1, x3, x5 =>
    if (kK_ages k) ≤ x5 then
      if x3 = ((x1 * (sK_measuredInAll σ)) * (232792560 : Int64)) then
        some 1
      else
        some 0
    else
      (fK_measuredOfAge fu k σ x5).bind fun v29 =>
      fK_sums_15 fu k σ n x1 (x3 + (x1 * v29)) (x5 + 1)
def fK_sums (fu : Nat) (k : kK) (σ : sK) (x1 : Int64) : Option Int32 :=
  (fK_canRaise fu k σ x1).bind fun v2 =>
  if v2 = 0 then
    some 0
  else
    fK_sums_15 fu k σ fu x1 (0 : Int64) 0
def fK_error (k : kK) (σ : sK) (x1 : Int32) (x2 : Int32) (x3 : Int32) : Option (Int32 × sK) :=
  if (fK_isAge k x1) = 0 then
    some (0, σ)
  else
    if (fK_isAge k x2) = 0 then
      some (0, σ)
    else
      if x3 < 0 then
        some (0, σ)
      else
        if x3 ≤ 20 then
          (kstI (kK_n k 7) (sK_errors σ) ((x1 * (kK_ages k)) + x2) x3).bind fun a41 =>
          some (1, (uK_errors σ a41))
        else
          some (0, σ)
def fK_errorSum_4 (fu : Nat) (k : kK) (σ : sK) : Nat → Int32 → Int32 → Int32 → Option Int32
  | 0, _, _, _ => none
  | n + 1, x1, x2, x3 =>
    if (kK_ages k) ≤ x3 then
      some x2
    else
      (kld (kK_n k 7) (sK_errors σ) ((x1 * (kK_ages k)) + x3)).bind fun v25 =>
      fK_errorSum_4 fu k σ n x1 (x2 + v25) (x3 + 1)
def fK_errorSum (fu : Nat) (k : kK) (σ : sK) (x1 : Int32) : Option Int32 :=
  fK_errorSum_4 fu k σ fu x1 0 0
def fK_loadErrors_2 (fu : Nat) (k : kK) : Nat → sK → Int32 → Option sK
  | 0, _, _ => none
  | n + 1, σ, x1 =>
    if (Int32.ofNat (kK_n k 8)) ≤ x1 then
      some σ
    else
      if (Int32.ofNat (kK_n k 7)) ≤ x1 then
        some σ
      else
        (kld (kK_n k 7) (sK_errors σ) x1).bind fun v30 =>
        (kstJ (kK_n k 8) (sK_square σ) x1 v30.toInt64).bind fun a32 =>
        fK_loadErrors_2 fu k n (uK_square σ a32) (x1 + 1)
def fK_loadErrors (fu : Nat) (k : kK) (σ : sK) : Option sK :=
  fK_loadErrors_2 fu k fu σ 0
def fK_pivotRow_2 (fu : Nat) (k : kK) (σ : sK) : Nat → Int32 → Int32 → Option Int32
  | 0, _, _ => none
  | n + 1, x1, x2 =>
    if (kK_ages k) ≤ x2 then
      some (-1)
    else
      (kld (kK_n k 8) (sK_square σ) ((x2 * (kK_ages k)) + x1)).bind fun v22 =>
      if v22 = (0 : Int64) then
        fK_pivotRow_2 fu k σ n x1 (x2 + 1)
      else
        some x2
def fK_pivotRow (fu : Nat) (k : kK) (σ : sK) (x1 : Int32) : Option Int32 :=
  fK_pivotRow_2 fu k σ fu x1 x1
def fK_swapRows_2 (fu : Nat) (k : kK) : Nat → sK → Int32 → Int32 → Int32 → Option sK
  | 0, _, _, _, _ => none
  | n + 1, σ, x1, x2, x3 =>
    if (kK_ages k) ≤ x3 then
      some σ
    else
      (kld (kK_n k 8) (sK_square σ) ((x1 * (kK_ages k)) + x3)).bind fun v22 =>
      (kld (kK_n k 8) (sK_square σ) ((x2 * (kK_ages k)) + x3)).bind fun v49 =>
      (kstJ (kK_n k 8) (sK_square σ) ((x1 * (kK_ages k)) + x3) v49).bind fun a50 =>
      (kstJ (kK_n k 8) (sK_square (uK_square σ a50)) ((x2 * (kK_ages k)) + x3) v22).bind fun a65 =>
      fK_swapRows_2 fu k n (uK_square (uK_square σ a50) a65) x1 x2 (x3 + 1)
def fK_swapRows (fu : Nat) (k : kK) (σ : sK) (x1 : Int32) (x2 : Int32) : Option sK :=
  fK_swapRows_2 fu k fu σ x1 x2 0
def fK_clearBelow_55 (fu : Nat) (k : kK) (h27 : sK → Int32 → Int64 → Int64 → Int32 → Option sK) : Nat → sK → Int32 → Int64 → Int64 → Int32 → Int64 → Int32 → Option sK
  | 0, _, _, _, _, _, _, _ => none
  | n + 1, σ, x1, x2, x4, x6, x7, x9 =>
    if (kK_ages k) ≤ x9 then
      h27 σ x1 x2 x4 (x6 + 1)
    else
      (kld (kK_n k 8) (sK_square σ) ((x6 * (kK_ages k)) + x9)).bind fun v80 =>
      (kld (kK_n k 8) (sK_square σ) ((x1 * (kK_ages k)) + x9)).bind fun v97 =>
      (kdivJ ((x4 * v80) - (x7 * v97)) x2).bind fun v119 =>
      (kstJ (kK_n k 8) (sK_square σ) ((x6 * (kK_ages k)) + x9) v119).bind fun a120 =>
      fK_clearBelow_55 fu k h27 n (uK_square σ a120) x1 x2 x4 x6 x7 (x9 + 1)
def fK_clearBelow_27 (fu : Nat) (k : kK) : Nat → sK → Int32 → Int64 → Int64 → Int32 → Option sK
  | 0, _, _, _, _, _ => none
  | n + 1, σ, x1, x2, x4, x6 =>
    if (kK_ages k) ≤ x6 then
      some σ
    else
      (kld (kK_n k 8) (sK_square σ) ((x6 * (kK_ages k)) + x1)).bind fun v49 =>
      fK_clearBelow_55 fu k (fK_clearBelow_27 fu k n) fu σ x1 x2 x4 x6 v49 x1
def fK_clearBelow (fu : Nat) (k : kK) (σ : sK) (x1 : Int32) (x2 : Int64) : Option sK :=
  if x2 = (0 : Int64) then
    some σ
  else
    (kld (kK_n k 8) (sK_square σ) ((x1 * (kK_ages k)) + x1)).bind fun v19 =>
    fK_clearBelow_27 fu k fu σ x1 x2 v19 (x1 + 1)
def fK_determinant_50 (fu : Nat) (k : kK) (h7 : sK → Int64 → Int64 → Int32 → Option (Int64 × sK)) (σ : sK) (x1 : Int64) (x3 : Int64) (x5 : Int32) : Option (Int64 × sK) :=
  (fK_clearBelow fu k σ x5 x3).bind fun s54 =>
  (kld (kK_n k 8) (sK_square s54) ((x5 * (kK_ages k)) + x5)).bind fun v71 =>
  h7 s54 x1 v71 (x5 + 1)
def fK_determinant_7 (fu : Nat) (k : kK) : Nat → sK → Int64 → Int64 → Int32 → Option (Int64 × sK)
  | 0, _, _, _, _ => none
  | n + 1, σ, x1, x3, x5 =>
    if (kK_ages k) ≤ x5 then
      some ((x1 * x3), σ)
    else
      (fK_pivotRow fu k σ x5).bind fun v19 =>
      if v19 = (-1) then
        some ((0 : Int64), σ)
      else
        if v19 = x5 then
          fK_determinant_50 fu k (fK_determinant_7 fu k n) σ x1 x3 x5
        else
          (fK_swapRows fu k σ v19 x5).bind fun s44 =>
          fK_determinant_50 fu k (fK_determinant_7 fu k n) s44 (-x1) x3 x5
def fK_determinant (fu : Nat) (k : kK) (σ : sK) : Option (Int64 × sK) :=
  fK_determinant_7 fu k fu σ (1 : Int64) (1 : Int64) 0
def fK_undo_2 (fu : Nat) (k : kK) : Nat → sK → Int32 → Option (Int32 × sK)
  | 0, _, _ => none
  | n + 1, σ, x1 =>
    if (kK_ages k) ≤ x1 then
      (fK_loadErrors fu k σ).bind fun s29 =>
      kbind2 (fK_determinant fu k s29) fun v33 s33 =>
      if v33 = (0 : Int64) then
        some (1, s33)
      else
        some (0, s33)
    else
      (fK_errorSum fu k σ x1).bind fun v12 =>
      if v12 = 20 then
        fK_undo_2 fu k n σ (x1 + 1)
      else
        some (2, σ)
def fK_undo (fu : Nat) (k : kK) (σ : sK) : Option (Int32 × sK) :=
  fK_undo_2 fu k fu σ 0
def fK_undone_51 (fu : Nat) (k : kK) : Nat → sK → Int32 → Int32 → Int32 → Int64 → Int32 → Option (Int64 × sK)
  | 0, _, _, _, _, _, _ => none
  | n + 1, σ, x1, x2, x3, x4, x6 =>
    if (kK_ages k) ≤ x6 then
      kbind2 (fK_determinant fu k σ) fun v98 s98 =>
      if (0 : Int64) ≤ x4 then
        (fK_fractionPart fu v98 x4 x3).bind fun v128 =>
        some (v128, s98)
      else
        (fK_fractionPart fu (-v98) (-x4) x3).bind fun v117 =>
        some (v117, s98)
    else
      (kld (kK_n k 4) (sK_groupOf σ) x1).bind fun v82 =>
      (fK_ownOfAge k σ v82 x6).bind fun v85 =>
      (kstJ (kK_n k 8) (sK_square σ) ((x2 * (kK_ages k)) + x6) ((20 : Int64) * v85.toInt64)).bind fun a90 =>
      fK_undone_51 fu k n (uK_square σ a90) x1 x2 x3 x4 (x6 + 1)
def fK_undone (fu : Nat) (k : kK) (σ : sK) (x1 : Int32) (x2 : Int32) (x3 : Int32) : Option (Int64 × sK) :=
  if (fK_isClass k x1) = 0 then
    some ((-1 : Int64), σ)
  else
    if (fK_isAge k x2) = 0 then
      some ((-1 : Int64), σ)
    else
      if (fK_isZeroOrOne x3) = 0 then
        some ((-1 : Int64), σ)
      else
        kbind2 (fK_undo fu k σ) fun v24 s24 =>
        if v24 = 0 then
          (fK_loadErrors fu k s24).bind fun s35 =>
          kbind2 (fK_determinant fu k s35) fun v39 s39 =>
          (fK_loadErrors fu k s39).bind fun s45 =>
          fK_undone_51 fu k fu s45 x1 x2 x3 v39 0
        else
          some ((-1 : Int64), s24)
def fK_apart_73 (fu : Nat) (k : kK) (σ : sK) (h61 : Int32 → Int32 → Int32 → Int32 → Int32 → Int32 → Int32 → Option Int64) : Nat → Int32 → Int32 → Int32 → Int32 → Int32 → Int32 → Int32 → Int32 → Option Int64
  | 0, _, _, _, _, _, _, _, _ => none
  | n + 1, x1, x2, x3, x4, x5, x6, x7, x8 =>
    if (kK_ages k) ≤ x8 then
      h61 x1 x2 x3 x4 x5 x6 (x7 + 1)
    else
      (kld (kK_n k 0) (sK_readings σ) (fK_cell k x1 x7 x8)).bind fun v97 =>
      (kld (kK_n k 0) (sK_readings σ) (fK_cell k x2 x7 x8)).bind fun v114 =>
      fK_apart_73 fu k σ h61 n x1 x2 x3 x4 x5 (x6 + (if 0 ≤ ((v97 * x5) - (v114 * x4)) then ((v97 * x5) - (v114 * x4)) else 0 - ((v97 * x5) - (v114 * x4)))) x7 (x8 + 1)
def fK_apart_61 (fu : Nat) (k : kK) (σ : sK) : Nat → Int32 → Int32 → Int32 → Int32 → Int32 → Int32 → Int32 → Option Int64
  | 0, _, _, _, _, _, _, _ => none
  | n + 1, x1, x2, x3, x4, x5, x6, x7 =>
    if (kK_classes k) ≤ x7 then
      (fK_fractionPart fu x6.toInt64 ((x4 * x5).toInt64) x3).bind fun v147 =>
      some v147
    else
      fK_apart_73 fu k σ (fK_apart_61 fu k σ n) fu x1 x2 x3 x4 x5 x6 x7 0
def fK_apart (fu : Nat) (k : kK) (σ : sK) (x1 : Int32) (x2 : Int32) (x3 : Int32) : Option Int64 :=
  if (fK_isPlace x1) = 0 then
    some (-1 : Int64)
  else
    if (fK_isPlace x2) = 0 then
      some (-1 : Int64)
    else
      if (fK_isZeroOrOne x3) = 0 then
        some (-1 : Int64)
      else
        (kld (kK_n k 1) (sK_rowSize σ) x1).bind fun v30 =>
        (kld (kK_n k 1) (sK_rowSize σ) x2).bind fun v38 =>
        if v30 = 0 then
          some (-1 : Int64)
        else
          if v38 = 0 then
            some (-1 : Int64)
          else
            fK_apart_61 fu k σ fu x1 x2 x3 v30 v38 0 0
def fK_readingsOfAge_4 (fu : Nat) (k : kK) (σ : sK) : Nat → Int32 → Int32 → Int32 → Option Int32
  | 0, _, _, _ => none
  | n + 1, x1, x2, x3 =>
    if (kK_classes k) ≤ x3 then
      some x2
    else
      (kld (kK_n k 0) (sK_readings σ) (fK_cell k (sK_chosenRow σ) x3 x1)).bind fun v27 =>
      fK_readingsOfAge_4 fu k σ n x1 (x2 + v27) (x3 + 1)
def fK_readingsOfAge (fu : Nat) (k : kK) (σ : sK) (x1 : Int32) : Option Int32 :=
  fK_readingsOfAge_4 fu k σ fu x1 0 0
def fK_openPool_5 (fu : Nat) (k : kK) : Nat → sK → Int32 → Int32 → Int32 → Int32 → Option sK
  | 0, _, _, _, _, _ => none
  | n + 1, σ, x1, x2, x3, x4 =>
    if (kK_classes k) ≤ x4 then
      (kstI (kK_n k 9) (sK_poolSum σ) x1 x3).bind fun a48 =>
      (fK_readingsOfAge fu k (uK_poolSum σ a48) x2).bind fun v56 =>
      (kstI (kK_n k 10) (sK_poolSize (uK_poolSum σ a48)) x1 v56).bind fun a59 =>
      (kstI (kK_n k 11) (sK_poolAges (uK_poolSize (uK_poolSum σ a48) a59)) x1 1).bind fun a66 =>
      (kstI (kK_n k 12) (sK_poolLastAge (uK_poolAges (uK_poolSize (uK_poolSum σ a48) a59) a66)) x1 x2).bind fun a73 =>
      some (uK_poolLastAge (uK_poolAges (uK_poolSize (uK_poolSum σ a48) a59) a66) a73)
    else
      (kld (kK_n k 0) (sK_readings σ) (fK_cell k (sK_chosenRow σ) x4 x2)).bind fun v32 =>
      fK_openPool_5 fu k n σ x1 x2 (x3 + (x4 * v32)) (x4 + 1)
def fK_openPool (fu : Nat) (k : kK) (σ : sK) (x1 : Int32) (x2 : Int32) : Option sK :=
  fK_openPool_5 fu k fu σ x1 x2 0 0
def fK_doesNotRise (k : kK) (σ : sK) (x1 : Int32) : Option Int32 :=
  (kld (kK_n k 9) (sK_poolSum σ) x1).bind fun v5 =>
  (kld (kK_n k 10) (sK_poolSize σ) (x1 - 1)).bind fun v13 =>
  (kld (kK_n k 9) (sK_poolSum σ) (x1 - 1)).bind fun v22 =>
  (kld (kK_n k 10) (sK_poolSize σ) x1).bind fun v28 =>
  if (v22 * v28) < (v5 * v13) then
    some 0
  else
    some 1
def fK_joinWithPoolBefore (k : kK) (σ : sK) (x1 : Int32) : Option sK :=
  (kld (kK_n k 9) (sK_poolSum σ) (x1 - 1)).bind fun v8 =>
  (kld (kK_n k 9) (sK_poolSum σ) x1).bind fun v14 =>
  (kstI (kK_n k 9) (sK_poolSum σ) (x1 - 1) (v8 + v14)).bind fun a16 =>
  (kld (kK_n k 10) (sK_poolSize (uK_poolSum σ a16)) (x1 - 1)).bind fun v25 =>
  (kld (kK_n k 10) (sK_poolSize (uK_poolSum σ a16)) x1).bind fun v31 =>
  (kstI (kK_n k 10) (sK_poolSize (uK_poolSum σ a16)) (x1 - 1) (v25 + v31)).bind fun a33 =>
  (kld (kK_n k 11) (sK_poolAges (uK_poolSize (uK_poolSum σ a16) a33)) (x1 - 1)).bind fun v42 =>
  (kld (kK_n k 11) (sK_poolAges (uK_poolSize (uK_poolSum σ a16) a33)) x1).bind fun v48 =>
  (kstI (kK_n k 11) (sK_poolAges (uK_poolSize (uK_poolSum σ a16) a33)) (x1 - 1) (v42 + v48)).bind fun a50 =>
  (kld (kK_n k 12) (sK_poolLastAge (uK_poolAges (uK_poolSize (uK_poolSum σ a16) a33) a50)) x1).bind fun v63 =>
  (kstI (kK_n k 12) (sK_poolLastAge (uK_poolAges (uK_poolSize (uK_poolSum σ a16) a33) a50)) (x1 - 1) v63).bind fun a64 =>
  some (uK_poolLastAge (uK_poolAges (uK_poolSize (uK_poolSum σ a16) a33) a50) a64)
def fK_makePools_32 (fu : Nat) (k : kK) (h4 : sK → Int32 → Int32 → Option (Int32 × sK)) : Nat → sK → Int32 → Int32 → Option (Int32 × sK)
  | 0, _, _, _ => none
  | n + 1, σ, x1, x2 =>
    if x1 ≤ 1 then
      h4 σ x1 (x2 + 1)
    else
      (fK_doesNotRise k σ (x1 - 1)).bind fun v41 =>
      if v41 = 0 then
        h4 σ x1 (x2 + 1)
      else
        (fK_joinWithPoolBefore k σ (x1 - 1)).bind fun s51 =>
        fK_makePools_32 fu k h4 n s51 (x1 + (-1)) x2
def fK_makePools_4 (fu : Nat) (k : kK) : Nat → sK → Int32 → Int32 → Option (Int32 × sK)
  | 0, _, _, _ => none
  | n + 1, σ, x1, x2 =>
    if (kK_ages k) ≤ x2 then
      some (x1, σ)
    else
      (fK_readingsOfAge fu k σ x2).bind fun v14 =>
      if v14 = 0 then
        fK_makePools_4 fu k n σ x1 (x2 + 1)
      else
        (fK_openPool fu k σ x1 x2).bind fun s26 =>
        fK_makePools_32 fu k (fK_makePools_4 fu k n) fu s26 (x1 + 1) x2
def fK_makePools (fu : Nat) (k : kK) (σ : sK) : Option (Int32 × sK) :=
  fK_makePools_4 fu k fu σ 0 0
def fK_poolOf_25 (fu : Nat) (k : kK) : Nat → sK → Int32 → Int32 → Int32 → Option (Int32 × sK)
  | 0, _, _, _, _ => none
  | n + 1, σ, x1, x2, x3 =>
    if x2 ≤ x3 then
      some ((-1), σ)
    else
      (kld (kK_n k 12) (sK_poolLastAge σ) x3).bind fun v36 =>
      if v36 < x1 then
        fK_poolOf_25 fu k n σ x1 x2 (x3 + 1)
      else
        some (x3, σ)
def fK_poolOf (fu : Nat) (k : kK) (σ : sK) (x1 : Int32) : Option (Int32 × sK) :=
  if (fK_isAge k x1) = 0 then
    some ((-1), σ)
  else
    (fK_readingsOfAge fu k σ x1).bind fun v10 =>
    if v10 = 0 then
      some ((-1), σ)
    else
      kbind2 (fK_makePools fu k σ) fun v19 s19 =>
      fK_poolOf_25 fu k fu s19 x1 v19 0
def fK_length (fu : Nat) (k : kK) (σ : sK) (x1 : Int32) (x2 : Int32) : Option (Int64 × sK) :=
  if (fK_isZeroOrOne x2) = 0 then
    some ((-1 : Int64), σ)
  else
    kbind2 (fK_poolOf fu k σ x1) fun v13 s13 =>
    if v13 = (-1) then
      some ((-1 : Int64), s13)
    else
      (kld (kK_n k 9) (sK_poolSum s13) v13).bind fun v33 =>
      (kld (kK_n k 10) (sK_poolSize s13) v13).bind fun v40 =>
      (fK_fractionPart fu v33.toInt64 v40.toInt64 x2).bind fun v43 =>
      some (v43, s13)
def fK_pooled (fu : Nat) (k : kK) (σ : sK) (x1 : Int32) : Option (Int32 × sK) :=
  kbind2 (fK_poolOf fu k σ x1) fun v2 s2 =>
  if v2 = (-1) then
    some (0, s2)
  else
    (kld (kK_n k 11) (sK_poolAges s2) v2).bind fun v20 =>
    some (v20, s2)
def fK_sex (k : kK) (σ : sK) (x1 : Int32) (x2 : Int32) (x3 : Int32) : Option (Int32 × sK) :=
  if (fK_isClass k x1) = 0 then
    some (0, σ)
  else
    if x2 < 0 then
      some (0, σ)
    else
      if x3 < x2 then
        some (0, σ)
      else
        if x3 ≤ 100 then
          (kstI (kK_n k 13) (sK_maleCount σ) x1 x2).bind fun a31 =>
          (kstI (kK_n k 14) (sK_lookedAt (uK_maleCount σ a31)) x1 x3).bind fun a38 =>
          some (1, (uK_lookedAt (uK_maleCount σ a31) a38))
        else
          some (0, σ)
def fK_males_27 (fu : Nat) (k : kK) (σ : sK) : Nat → Int32 → Int32 → Int32 → Int32 → Int32 → Option Int64
  | 0, _, _, _, _, _ => none
  | n + 1, x1, x2, x3, x4, x5 =>
    if (kK_classes k) ≤ x5 then
      if x4 = 0 then
        some (-1 : Int64)
      else
        (fK_fractionPart fu x3.toInt64 x4.toInt64 x2).bind fun v97 =>
        some v97
    else
      (kld (kK_n k 4) (sK_groupOf σ) x5).bind fun v42 =>
      (kld (kK_n k 4) (sK_groupOf σ) x1).bind fun v48 =>
      if v42 = v48 then
        (kld (kK_n k 13) (sK_maleCount σ) x5).bind fun v59 =>
        (kld (kK_n k 14) (sK_lookedAt σ) x5).bind fun v70 =>
        fK_males_27 fu k σ n x1 x2 (x3 + v59) (x4 + v70) (x5 + 1)
      else
        fK_males_27 fu k σ n x1 x2 x3 x4 (x5 + 1)
def fK_males (fu : Nat) (k : kK) (σ : sK) (x1 : Int32) (x2 : Int32) : Option Int64 :=
  if (fK_isClass k x1) = 0 then
    some (-1 : Int64)
  else
    if (fK_isZeroOrOne x2) = 0 then
      some (-1 : Int64)
    else
      fK_males_27 fu k σ fu x1 x2 0 0 0
end
section
abbrev kM : Type := Int32 × Int32 × (Nat → Nat)
def kM_classes (k : kM) : Int32 := k.1
def kM_ages (k : kM) : Int32 := k.2.1
def kM_n (k : kM) : Nat → Nat := k.2.2
abbrev sM : Type := Int32 × Int64 × Int64 × (Nat → Int32) × (Nat → Int32) × (Nat → Int32) × (Nat → Int64) × (Nat → Int32) × (Nat → Int32) × (Nat → Int32) × (Nat → Int64)
def sM_chosen (σ : sM) : Int32 := σ.1
def sM_above (σ : sM) : Int64 := σ.2.1
def sM_below (σ : sM) : Int64 := σ.2.2.1
def sM_counts (σ : sM) : (Nat → Int32) := σ.2.2.2.1
def sM_group (σ : sM) : (Nat → Int32) := σ.2.2.2.2.1
def sM_filler (σ : sM) : (Nat → Int32) := σ.2.2.2.2.2.1
def sM_measured (σ : sM) : (Nat → Int64) := σ.2.2.2.2.2.2.1
def sM_errors (σ : sM) : (Nat → Int32) := σ.2.2.2.2.2.2.2.1
def sM_maleCount (σ : sM) : (Nat → Int32) := σ.2.2.2.2.2.2.2.2.1
def sM_sexCount (σ : sM) : (Nat → Int32) := σ.2.2.2.2.2.2.2.2.2.1
def sM_cells (σ : sM) : (Nat → Int64) := σ.2.2.2.2.2.2.2.2.2.2
def uM_chosen (σ : sM) (v : Int32) : sM := (v, σ.2.1, σ.2.2.1, σ.2.2.2.1, σ.2.2.2.2.1, σ.2.2.2.2.2.1, σ.2.2.2.2.2.2.1, σ.2.2.2.2.2.2.2.1, σ.2.2.2.2.2.2.2.2.1, σ.2.2.2.2.2.2.2.2.2.1, σ.2.2.2.2.2.2.2.2.2.2)
def uM_above (σ : sM) (v : Int64) : sM := (σ.1, v, σ.2.2.1, σ.2.2.2.1, σ.2.2.2.2.1, σ.2.2.2.2.2.1, σ.2.2.2.2.2.2.1, σ.2.2.2.2.2.2.2.1, σ.2.2.2.2.2.2.2.2.1, σ.2.2.2.2.2.2.2.2.2.1, σ.2.2.2.2.2.2.2.2.2.2)
def uM_below (σ : sM) (v : Int64) : sM := (σ.1, σ.2.1, v, σ.2.2.2.1, σ.2.2.2.2.1, σ.2.2.2.2.2.1, σ.2.2.2.2.2.2.1, σ.2.2.2.2.2.2.2.1, σ.2.2.2.2.2.2.2.2.1, σ.2.2.2.2.2.2.2.2.2.1, σ.2.2.2.2.2.2.2.2.2.2)
def uM_counts (σ : sM) (v : (Nat → Int32)) : sM := (σ.1, σ.2.1, σ.2.2.1, v, σ.2.2.2.2.1, σ.2.2.2.2.2.1, σ.2.2.2.2.2.2.1, σ.2.2.2.2.2.2.2.1, σ.2.2.2.2.2.2.2.2.1, σ.2.2.2.2.2.2.2.2.2.1, σ.2.2.2.2.2.2.2.2.2.2)
def uM_group (σ : sM) (v : (Nat → Int32)) : sM := (σ.1, σ.2.1, σ.2.2.1, σ.2.2.2.1, v, σ.2.2.2.2.2.1, σ.2.2.2.2.2.2.1, σ.2.2.2.2.2.2.2.1, σ.2.2.2.2.2.2.2.2.1, σ.2.2.2.2.2.2.2.2.2.1, σ.2.2.2.2.2.2.2.2.2.2)
def uM_filler (σ : sM) (v : (Nat → Int32)) : sM := (σ.1, σ.2.1, σ.2.2.1, σ.2.2.2.1, σ.2.2.2.2.1, v, σ.2.2.2.2.2.2.1, σ.2.2.2.2.2.2.2.1, σ.2.2.2.2.2.2.2.2.1, σ.2.2.2.2.2.2.2.2.2.1, σ.2.2.2.2.2.2.2.2.2.2)
def uM_measured (σ : sM) (v : (Nat → Int64)) : sM := (σ.1, σ.2.1, σ.2.2.1, σ.2.2.2.1, σ.2.2.2.2.1, σ.2.2.2.2.2.1, v, σ.2.2.2.2.2.2.2.1, σ.2.2.2.2.2.2.2.2.1, σ.2.2.2.2.2.2.2.2.2.1, σ.2.2.2.2.2.2.2.2.2.2)
def uM_errors (σ : sM) (v : (Nat → Int32)) : sM := (σ.1, σ.2.1, σ.2.2.1, σ.2.2.2.1, σ.2.2.2.2.1, σ.2.2.2.2.2.1, σ.2.2.2.2.2.2.1, v, σ.2.2.2.2.2.2.2.2.1, σ.2.2.2.2.2.2.2.2.2.1, σ.2.2.2.2.2.2.2.2.2.2)
def uM_maleCount (σ : sM) (v : (Nat → Int32)) : sM := (σ.1, σ.2.1, σ.2.2.1, σ.2.2.2.1, σ.2.2.2.2.1, σ.2.2.2.2.2.1, σ.2.2.2.2.2.2.1, σ.2.2.2.2.2.2.2.1, v, σ.2.2.2.2.2.2.2.2.2.1, σ.2.2.2.2.2.2.2.2.2.2)
def uM_sexCount (σ : sM) (v : (Nat → Int32)) : sM := (σ.1, σ.2.1, σ.2.2.1, σ.2.2.2.1, σ.2.2.2.2.1, σ.2.2.2.2.2.1, σ.2.2.2.2.2.2.1, σ.2.2.2.2.2.2.2.1, σ.2.2.2.2.2.2.2.2.1, v, σ.2.2.2.2.2.2.2.2.2.2)
def uM_cells (σ : sM) (v : (Nat → Int64)) : sM := (σ.1, σ.2.1, σ.2.2.1, σ.2.2.2.1, σ.2.2.2.2.1, σ.2.2.2.2.2.1, σ.2.2.2.2.2.2.1, σ.2.2.2.2.2.2.2.1, σ.2.2.2.2.2.2.2.2.1, σ.2.2.2.2.2.2.2.2.2.1, v)
def wdM (q : Nat → Nat) (k : kM) (cI cJ : ClassId) (σ : sM) : va_W := [(q 0, .inr (1, [.int (kM_classes k), .int (kM_ages k), .ref (q 1), .int (sM_chosen σ), .ref (q 2), .ref (q 3), .ref (q 4), .ref (q 5), .ref (q 6), .ref (q 7), .ref (q 8), .long (sM_above σ), .long (sM_below σ)])),
  (q 1, .inl (cI, kM_n k 0, .inl (sM_counts σ))),
  (q 2, .inl (cI, kM_n k 1, .inl (sM_group σ))),
  (q 3, .inl (cI, kM_n k 2, .inl (sM_filler σ))),
  (q 4, .inl (cJ, kM_n k 3, .inr (.inl (sM_measured σ)))),
  (q 5, .inl (cI, kM_n k 4, .inl (sM_errors σ))),
  (q 6, .inl (cI, kM_n k 5, .inl (sM_maleCount σ))),
  (q 7, .inl (cI, kM_n k 6, .inl (sM_sexCount σ))),
  (q 8, .inl (cJ, kM_n k 7, .inr (.inl (sM_cells σ))))]
theorem gM_classes {p : Program} {l : Launch} {e : Env} {R : Room} {s : State} {m : MethodId} {args : Array Value} {below : List Frame} {meth : Method} {c : Code} {H : Heap} {locs : List Loc} {cells slots : Nat} {Q : State → Prop} {cc : ByteArray} {pc : Nat} {ls : Array Slot} {rest : List Value} {D : va_G} {tys : List (ClassId × FieldType)} {A : Nat → Prop} {q : Nat → Nat} {k : kM} {cI cJ : ClassId} {σ : sM} (hx : p.tables.exec = Jvm.exec) (hb : c.code = cc) (hown : s.vm.findClass RM = some m.cls) (hts : ∀ w ∈ TM, w.before args s = true) (hK : va_K D cl0 tys s) (hP : va_P D cl0 (wdM q k cI cJ σ) H) (hdg : decode cc pc = .ok (.getfield 39, 3))
    (kk : W p l e R s m args below meth c H locs cells slots Q (F0 m (pc + 3) ls (.int (kM_classes k) :: rest))) : W p l e R s m args below meth c H locs cells slots Q (F0 m pc ls (.ref (q 0) :: rest)) :=
  va_get (D := D) (ci := 1) (v := .int (kM_classes k)) (C := RM) (T := FM) (N := 13) hx hb hts iM_u hown hK hP 0 rfl rfl 0 (by decide) (hts (.fieldLink RM 39 "AgeKeysModel" "classes" "I") (by decide +kernel)) (fun _ h9 => h9) rfl hdg kk
theorem gM_ages {p : Program} {l : Launch} {e : Env} {R : Room} {s : State} {m : MethodId} {args : Array Value} {below : List Frame} {meth : Method} {c : Code} {H : Heap} {locs : List Loc} {cells slots : Nat} {Q : State → Prop} {cc : ByteArray} {pc : Nat} {ls : Array Slot} {rest : List Value} {D : va_G} {tys : List (ClassId × FieldType)} {A : Nat → Prop} {q : Nat → Nat} {k : kM} {cI cJ : ClassId} {σ : sM} (hx : p.tables.exec = Jvm.exec) (hb : c.code = cc) (hown : s.vm.findClass RM = some m.cls) (hts : ∀ w ∈ TM, w.before args s = true) (hK : va_K D cl0 tys s) (hP : va_P D cl0 (wdM q k cI cJ σ) H) (hdg : decode cc pc = .ok (.getfield 42, 3))
    (kk : W p l e R s m args below meth c H locs cells slots Q (F0 m (pc + 3) ls (.int (kM_ages k) :: rest))) : W p l e R s m args below meth c H locs cells slots Q (F0 m pc ls (.ref (q 0) :: rest)) :=
  va_get (D := D) (ci := 1) (v := .int (kM_ages k)) (C := RM) (T := FM) (N := 13) hx hb hts iM_u hown hK hP 0 rfl rfl 1 (by decide) (hts (.fieldLink RM 42 "AgeKeysModel" "ages" "I") (by decide +kernel)) (fun _ h9 => h9) rfl hdg kk
theorem gM_counts {p : Program} {l : Launch} {e : Env} {R : Room} {s : State} {m : MethodId} {args : Array Value} {below : List Frame} {meth : Method} {c : Code} {H : Heap} {locs : List Loc} {cells slots : Nat} {Q : State → Prop} {cc : ByteArray} {pc : Nat} {ls : Array Slot} {rest : List Value} {D : va_G} {tys : List (ClassId × FieldType)} {A : Nat → Prop} {q : Nat → Nat} {k : kM} {cI cJ : ClassId} {σ : sM} (hx : p.tables.exec = Jvm.exec) (hb : c.code = cc) (hown : s.vm.findClass RM = some m.cls) (hts : ∀ w ∈ TM, w.before args s = true) (hK : va_K D cl0 tys s) (hP : va_P D cl0 (wdM q k cI cJ σ) H) (hdg : decode cc pc = .ok (.getfield 7, 3))
    (kk : W p l e R s m args below meth c H locs cells slots Q (F0 m (pc + 3) ls (.ref (q 1) :: rest))) : W p l e R s m args below meth c H locs cells slots Q (F0 m pc ls (.ref (q 0) :: rest)) :=
  va_get (D := D) (ci := 1) (v := .ref (q 1)) (C := RM) (T := FM) (N := 13) hx hb hts iM_u hown hK hP 0 rfl rfl 2 (by decide) (hts (.fieldLink RM 7 "AgeKeysModel" "counts" "[I") (by decide +kernel)) (fun _ h9 => h9) rfl hdg kk
theorem gM_chosen {p : Program} {l : Launch} {e : Env} {R : Room} {s : State} {m : MethodId} {args : Array Value} {below : List Frame} {meth : Method} {c : Code} {H : Heap} {locs : List Loc} {cells slots : Nat} {Q : State → Prop} {cc : ByteArray} {pc : Nat} {ls : Array Slot} {rest : List Value} {D : va_G} {tys : List (ClassId × FieldType)} {A : Nat → Prop} {q : Nat → Nat} {k : kM} {cI cJ : ClassId} {σ : sM} (hx : p.tables.exec = Jvm.exec) (hb : c.code = cc) (hown : s.vm.findClass RM = some m.cls) (hts : ∀ w ∈ TM, w.before args s = true) (hK : va_K D cl0 tys s) (hP : va_P D cl0 (wdM q k cI cJ σ) H) (hdg : decode cc pc = .ok (.getfield 13, 3))
    (kk : W p l e R s m args below meth c H locs cells slots Q (F0 m (pc + 3) ls (.int (sM_chosen σ) :: rest))) : W p l e R s m args below meth c H locs cells slots Q (F0 m pc ls (.ref (q 0) :: rest)) :=
  va_get (D := D) (ci := 1) (v := .int (sM_chosen σ)) (C := RM) (T := FM) (N := 13) hx hb hts iM_u hown hK hP 0 rfl rfl 3 (by decide) (hts (.fieldLink RM 13 "AgeKeysModel" "chosen" "I") (by decide +kernel)) (fun _ h9 => h9) rfl hdg kk
theorem pM_chosen {p : Program} {l : Launch} {e : Env} {R : Room} {s : State} {m : MethodId} {args : Array Value} {below : List Frame} {meth : Method} {c : Code} {H : Heap} {locs : List Loc} {cells slots : Nat} {Q : State → Prop} {cc : ByteArray} {pc : Nat} {ls : Array Slot} {rest : List Value} {D : va_G} {tys : List (ClassId × FieldType)} {A : Nat → Prop} {q : Nat → Nat} {k : kM} {cI cJ : ClassId} {σ : sM} (hx : p.tables.exec = Jvm.exec) (hb : c.code = cc) (hown : s.vm.findClass RM = some m.cls) (hts : ∀ w ∈ TM, w.before args s = true) (hK : va_K D cl0 tys s) (hP : va_P D cl0 (wdM q k cI cJ σ) H) (hD : va_D A (wdM q k cI cJ σ)) (hS : va_S A s.heap H locs) {v : Int32} (hdg : decode cc pc = .ok (.putfield 13, 3))
    (kk : ∀ (H1 : Heap) (locs1 : List Loc), va_P D cl0 (wdM q k cI cJ (uM_chosen σ v)) H1 → va_D A (wdM q k cI cJ (uM_chosen σ v)) → va_S A s.heap H1 locs1 → W p l e R s m args below meth c H1 locs1 cells slots Q (F0 m (pc + 3) ls rest)) : W p l e R s m args below meth c H locs cells slots Q (F0 m pc ls (.int v :: .ref (q 0) :: rest)) :=
  va_put (D := D) (ci := 1) (v := .int v) (ty := .int) (C := RM) (T := FM) (N := 13) hx hb hts iM_u tyM tyM_ok nM_ok hown hK hP hD hS 0 rfl rfl 3 (by decide) (hts (.fieldLink RM 13 "AgeKeysModel" "chosen" "I") (by decide +kernel)) (fun _ h9 => h9) rfl (by decide +kernel) rfl rfl (Nat.le_of_ble_eq_true rfl) hdg kk
theorem gM_group {p : Program} {l : Launch} {e : Env} {R : Room} {s : State} {m : MethodId} {args : Array Value} {below : List Frame} {meth : Method} {c : Code} {H : Heap} {locs : List Loc} {cells slots : Nat} {Q : State → Prop} {cc : ByteArray} {pc : Nat} {ls : Array Slot} {rest : List Value} {D : va_G} {tys : List (ClassId × FieldType)} {A : Nat → Prop} {q : Nat → Nat} {k : kM} {cI cJ : ClassId} {σ : sM} (hx : p.tables.exec = Jvm.exec) (hb : c.code = cc) (hown : s.vm.findClass RM = some m.cls) (hts : ∀ w ∈ TM, w.before args s = true) (hK : va_K D cl0 tys s) (hP : va_P D cl0 (wdM q k cI cJ σ) H) (hdg : decode cc pc = .ok (.getfield 17, 3))
    (kk : W p l e R s m args below meth c H locs cells slots Q (F0 m (pc + 3) ls (.ref (q 2) :: rest))) : W p l e R s m args below meth c H locs cells slots Q (F0 m pc ls (.ref (q 0) :: rest)) :=
  va_get (D := D) (ci := 1) (v := .ref (q 2)) (C := RM) (T := FM) (N := 13) hx hb hts iM_u hown hK hP 0 rfl rfl 4 (by decide) (hts (.fieldLink RM 17 "AgeKeysModel" "group" "[I") (by decide +kernel)) (fun _ h9 => h9) rfl hdg kk
theorem gM_filler {p : Program} {l : Launch} {e : Env} {R : Room} {s : State} {m : MethodId} {args : Array Value} {below : List Frame} {meth : Method} {c : Code} {H : Heap} {locs : List Loc} {cells slots : Nat} {Q : State → Prop} {cc : ByteArray} {pc : Nat} {ls : Array Slot} {rest : List Value} {D : va_G} {tys : List (ClassId × FieldType)} {A : Nat → Prop} {q : Nat → Nat} {k : kM} {cI cJ : ClassId} {σ : sM} (hx : p.tables.exec = Jvm.exec) (hb : c.code = cc) (hown : s.vm.findClass RM = some m.cls) (hts : ∀ w ∈ TM, w.before args s = true) (hK : va_K D cl0 tys s) (hP : va_P D cl0 (wdM q k cI cJ σ) H) (hdg : decode cc pc = .ok (.getfield 20, 3))
    (kk : W p l e R s m args below meth c H locs cells slots Q (F0 m (pc + 3) ls (.ref (q 3) :: rest))) : W p l e R s m args below meth c H locs cells slots Q (F0 m pc ls (.ref (q 0) :: rest)) :=
  va_get (D := D) (ci := 1) (v := .ref (q 3)) (C := RM) (T := FM) (N := 13) hx hb hts iM_u hown hK hP 0 rfl rfl 5 (by decide) (hts (.fieldLink RM 20 "AgeKeysModel" "filler" "[I") (by decide +kernel)) (fun _ h9 => h9) rfl hdg kk
theorem gM_measured {p : Program} {l : Launch} {e : Env} {R : Room} {s : State} {m : MethodId} {args : Array Value} {below : List Frame} {meth : Method} {c : Code} {H : Heap} {locs : List Loc} {cells slots : Nat} {Q : State → Prop} {cc : ByteArray} {pc : Nat} {ls : Array Slot} {rest : List Value} {D : va_G} {tys : List (ClassId × FieldType)} {A : Nat → Prop} {q : Nat → Nat} {k : kM} {cI cJ : ClassId} {σ : sM} (hx : p.tables.exec = Jvm.exec) (hb : c.code = cc) (hown : s.vm.findClass RM = some m.cls) (hts : ∀ w ∈ TM, w.before args s = true) (hK : va_K D cl0 tys s) (hP : va_P D cl0 (wdM q k cI cJ σ) H) (hdg : decode cc pc = .ok (.getfield 23, 3))
    (kk : W p l e R s m args below meth c H locs cells slots Q (F0 m (pc + 3) ls (.ref (q 4) :: rest))) : W p l e R s m args below meth c H locs cells slots Q (F0 m pc ls (.ref (q 0) :: rest)) :=
  va_get (D := D) (ci := 1) (v := .ref (q 4)) (C := RM) (T := FM) (N := 13) hx hb hts iM_u hown hK hP 0 rfl rfl 6 (by decide) (hts (.fieldLink RM 23 "AgeKeysModel" "measured" "[J") (by decide +kernel)) (fun _ h9 => h9) rfl hdg kk
theorem gM_errors {p : Program} {l : Launch} {e : Env} {R : Room} {s : State} {m : MethodId} {args : Array Value} {below : List Frame} {meth : Method} {c : Code} {H : Heap} {locs : List Loc} {cells slots : Nat} {Q : State → Prop} {cc : ByteArray} {pc : Nat} {ls : Array Slot} {rest : List Value} {D : va_G} {tys : List (ClassId × FieldType)} {A : Nat → Prop} {q : Nat → Nat} {k : kM} {cI cJ : ClassId} {σ : sM} (hx : p.tables.exec = Jvm.exec) (hb : c.code = cc) (hown : s.vm.findClass RM = some m.cls) (hts : ∀ w ∈ TM, w.before args s = true) (hK : va_K D cl0 tys s) (hP : va_P D cl0 (wdM q k cI cJ σ) H) (hdg : decode cc pc = .ok (.getfield 27, 3))
    (kk : W p l e R s m args below meth c H locs cells slots Q (F0 m (pc + 3) ls (.ref (q 5) :: rest))) : W p l e R s m args below meth c H locs cells slots Q (F0 m pc ls (.ref (q 0) :: rest)) :=
  va_get (D := D) (ci := 1) (v := .ref (q 5)) (C := RM) (T := FM) (N := 13) hx hb hts iM_u hown hK hP 0 rfl rfl 7 (by decide) (hts (.fieldLink RM 27 "AgeKeysModel" "errors" "[I") (by decide +kernel)) (fun _ h9 => h9) rfl hdg kk
theorem gM_maleCount {p : Program} {l : Launch} {e : Env} {R : Room} {s : State} {m : MethodId} {args : Array Value} {below : List Frame} {meth : Method} {c : Code} {H : Heap} {locs : List Loc} {cells slots : Nat} {Q : State → Prop} {cc : ByteArray} {pc : Nat} {ls : Array Slot} {rest : List Value} {D : va_G} {tys : List (ClassId × FieldType)} {A : Nat → Prop} {q : Nat → Nat} {k : kM} {cI cJ : ClassId} {σ : sM} (hx : p.tables.exec = Jvm.exec) (hb : c.code = cc) (hown : s.vm.findClass RM = some m.cls) (hts : ∀ w ∈ TM, w.before args s = true) (hK : va_K D cl0 tys s) (hP : va_P D cl0 (wdM q k cI cJ σ) H) (hdg : decode cc pc = .ok (.getfield 30, 3))
    (kk : W p l e R s m args below meth c H locs cells slots Q (F0 m (pc + 3) ls (.ref (q 6) :: rest))) : W p l e R s m args below meth c H locs cells slots Q (F0 m pc ls (.ref (q 0) :: rest)) :=
  va_get (D := D) (ci := 1) (v := .ref (q 6)) (C := RM) (T := FM) (N := 13) hx hb hts iM_u hown hK hP 0 rfl rfl 8 (by decide) (hts (.fieldLink RM 30 "AgeKeysModel" "maleCount" "[I") (by decide +kernel)) (fun _ h9 => h9) rfl hdg kk
theorem gM_sexCount {p : Program} {l : Launch} {e : Env} {R : Room} {s : State} {m : MethodId} {args : Array Value} {below : List Frame} {meth : Method} {c : Code} {H : Heap} {locs : List Loc} {cells slots : Nat} {Q : State → Prop} {cc : ByteArray} {pc : Nat} {ls : Array Slot} {rest : List Value} {D : va_G} {tys : List (ClassId × FieldType)} {A : Nat → Prop} {q : Nat → Nat} {k : kM} {cI cJ : ClassId} {σ : sM} (hx : p.tables.exec = Jvm.exec) (hb : c.code = cc) (hown : s.vm.findClass RM = some m.cls) (hts : ∀ w ∈ TM, w.before args s = true) (hK : va_K D cl0 tys s) (hP : va_P D cl0 (wdM q k cI cJ σ) H) (hdg : decode cc pc = .ok (.getfield 33, 3))
    (kk : W p l e R s m args below meth c H locs cells slots Q (F0 m (pc + 3) ls (.ref (q 7) :: rest))) : W p l e R s m args below meth c H locs cells slots Q (F0 m pc ls (.ref (q 0) :: rest)) :=
  va_get (D := D) (ci := 1) (v := .ref (q 7)) (C := RM) (T := FM) (N := 13) hx hb hts iM_u hown hK hP 0 rfl rfl 9 (by decide) (hts (.fieldLink RM 33 "AgeKeysModel" "sexCount" "[I") (by decide +kernel)) (fun _ h9 => h9) rfl hdg kk
theorem gM_cells {p : Program} {l : Launch} {e : Env} {R : Room} {s : State} {m : MethodId} {args : Array Value} {below : List Frame} {meth : Method} {c : Code} {H : Heap} {locs : List Loc} {cells slots : Nat} {Q : State → Prop} {cc : ByteArray} {pc : Nat} {ls : Array Slot} {rest : List Value} {D : va_G} {tys : List (ClassId × FieldType)} {A : Nat → Prop} {q : Nat → Nat} {k : kM} {cI cJ : ClassId} {σ : sM} (hx : p.tables.exec = Jvm.exec) (hb : c.code = cc) (hown : s.vm.findClass RM = some m.cls) (hts : ∀ w ∈ TM, w.before args s = true) (hK : va_K D cl0 tys s) (hP : va_P D cl0 (wdM q k cI cJ σ) H) (hdg : decode cc pc = .ok (.getfield 36, 3))
    (kk : W p l e R s m args below meth c H locs cells slots Q (F0 m (pc + 3) ls (.ref (q 8) :: rest))) : W p l e R s m args below meth c H locs cells slots Q (F0 m pc ls (.ref (q 0) :: rest)) :=
  va_get (D := D) (ci := 1) (v := .ref (q 8)) (C := RM) (T := FM) (N := 13) hx hb hts iM_u hown hK hP 0 rfl rfl 10 (by decide) (hts (.fieldLink RM 36 "AgeKeysModel" "cells" "[J") (by decide +kernel)) (fun _ h9 => h9) rfl hdg kk
theorem gM_above {p : Program} {l : Launch} {e : Env} {R : Room} {s : State} {m : MethodId} {args : Array Value} {below : List Frame} {meth : Method} {c : Code} {H : Heap} {locs : List Loc} {cells slots : Nat} {Q : State → Prop} {cc : ByteArray} {pc : Nat} {ls : Array Slot} {rest : List Value} {D : va_G} {tys : List (ClassId × FieldType)} {A : Nat → Prop} {q : Nat → Nat} {k : kM} {cI cJ : ClassId} {σ : sM} (hx : p.tables.exec = Jvm.exec) (hb : c.code = cc) (hown : s.vm.findClass RM = some m.cls) (hts : ∀ w ∈ TM, w.before args s = true) (hK : va_K D cl0 tys s) (hP : va_P D cl0 (wdM q k cI cJ σ) H) (hdg : decode cc pc = .ok (.getfield 91, 3))
    (kk : W p l e R s m args below meth c H locs cells slots Q (F0 m (pc + 3) ls (.long (sM_above σ) :: rest))) : W p l e R s m args below meth c H locs cells slots Q (F0 m pc ls (.ref (q 0) :: rest)) :=
  va_get (D := D) (ci := 1) (v := .long (sM_above σ)) (C := RM) (T := FM) (N := 13) hx hb hts iM_u hown hK hP 0 rfl rfl 11 (by decide) (hts (.fieldLink RM 91 "AgeKeysModel" "above" "J") (by decide +kernel)) (fun _ h9 => h9) rfl hdg kk
theorem pM_above {p : Program} {l : Launch} {e : Env} {R : Room} {s : State} {m : MethodId} {args : Array Value} {below : List Frame} {meth : Method} {c : Code} {H : Heap} {locs : List Loc} {cells slots : Nat} {Q : State → Prop} {cc : ByteArray} {pc : Nat} {ls : Array Slot} {rest : List Value} {D : va_G} {tys : List (ClassId × FieldType)} {A : Nat → Prop} {q : Nat → Nat} {k : kM} {cI cJ : ClassId} {σ : sM} (hx : p.tables.exec = Jvm.exec) (hb : c.code = cc) (hown : s.vm.findClass RM = some m.cls) (hts : ∀ w ∈ TM, w.before args s = true) (hK : va_K D cl0 tys s) (hP : va_P D cl0 (wdM q k cI cJ σ) H) (hD : va_D A (wdM q k cI cJ σ)) (hS : va_S A s.heap H locs) {v : Int64} (hdg : decode cc pc = .ok (.putfield 91, 3))
    (kk : ∀ (H1 : Heap) (locs1 : List Loc), va_P D cl0 (wdM q k cI cJ (uM_above σ v)) H1 → va_D A (wdM q k cI cJ (uM_above σ v)) → va_S A s.heap H1 locs1 → W p l e R s m args below meth c H1 locs1 cells slots Q (F0 m (pc + 3) ls rest)) : W p l e R s m args below meth c H locs cells slots Q (F0 m pc ls (.long v :: .ref (q 0) :: rest)) :=
  va_put (D := D) (ci := 1) (v := .long v) (ty := .long) (C := RM) (T := FM) (N := 13) hx hb hts iM_u tyM tyM_ok nM_ok hown hK hP hD hS 0 rfl rfl 11 (by decide) (hts (.fieldLink RM 91 "AgeKeysModel" "above" "J") (by decide +kernel)) (fun _ h9 => h9) rfl (by decide +kernel) rfl rfl (Nat.le_of_ble_eq_true rfl) hdg kk
theorem gM_below {p : Program} {l : Launch} {e : Env} {R : Room} {s : State} {m : MethodId} {args : Array Value} {below : List Frame} {meth : Method} {c : Code} {H : Heap} {locs : List Loc} {cells slots : Nat} {Q : State → Prop} {cc : ByteArray} {pc : Nat} {ls : Array Slot} {rest : List Value} {D : va_G} {tys : List (ClassId × FieldType)} {A : Nat → Prop} {q : Nat → Nat} {k : kM} {cI cJ : ClassId} {σ : sM} (hx : p.tables.exec = Jvm.exec) (hb : c.code = cc) (hown : s.vm.findClass RM = some m.cls) (hts : ∀ w ∈ TM, w.before args s = true) (hK : va_K D cl0 tys s) (hP : va_P D cl0 (wdM q k cI cJ σ) H) (hdg : decode cc pc = .ok (.getfield 97, 3))
    (kk : W p l e R s m args below meth c H locs cells slots Q (F0 m (pc + 3) ls (.long (sM_below σ) :: rest))) : W p l e R s m args below meth c H locs cells slots Q (F0 m pc ls (.ref (q 0) :: rest)) :=
  va_get (D := D) (ci := 1) (v := .long (sM_below σ)) (C := RM) (T := FM) (N := 13) hx hb hts iM_u hown hK hP 0 rfl rfl 12 (by decide) (hts (.fieldLink RM 97 "AgeKeysModel" "below" "J") (by decide +kernel)) (fun _ h9 => h9) rfl hdg kk
theorem pM_below {p : Program} {l : Launch} {e : Env} {R : Room} {s : State} {m : MethodId} {args : Array Value} {below : List Frame} {meth : Method} {c : Code} {H : Heap} {locs : List Loc} {cells slots : Nat} {Q : State → Prop} {cc : ByteArray} {pc : Nat} {ls : Array Slot} {rest : List Value} {D : va_G} {tys : List (ClassId × FieldType)} {A : Nat → Prop} {q : Nat → Nat} {k : kM} {cI cJ : ClassId} {σ : sM} (hx : p.tables.exec = Jvm.exec) (hb : c.code = cc) (hown : s.vm.findClass RM = some m.cls) (hts : ∀ w ∈ TM, w.before args s = true) (hK : va_K D cl0 tys s) (hP : va_P D cl0 (wdM q k cI cJ σ) H) (hD : va_D A (wdM q k cI cJ σ)) (hS : va_S A s.heap H locs) {v : Int64} (hdg : decode cc pc = .ok (.putfield 97, 3))
    (kk : ∀ (H1 : Heap) (locs1 : List Loc), va_P D cl0 (wdM q k cI cJ (uM_below σ v)) H1 → va_D A (wdM q k cI cJ (uM_below σ v)) → va_S A s.heap H1 locs1 → W p l e R s m args below meth c H1 locs1 cells slots Q (F0 m (pc + 3) ls rest)) : W p l e R s m args below meth c H locs cells slots Q (F0 m pc ls (.long v :: .ref (q 0) :: rest)) :=
  va_put (D := D) (ci := 1) (v := .long v) (ty := .long) (C := RM) (T := FM) (N := 13) hx hb hts iM_u tyM tyM_ok nM_ok hown hK hP hD hS 0 rfl rfl 12 (by decide) (hts (.fieldLink RM 97 "AgeKeysModel" "below" "J") (by decide +kernel)) (fun _ h9 => h9) rfl (by decide +kernel) rfl rfl (Nat.le_of_ble_eq_true rfl) hdg kk
end
section
def fM_isClass (k : kM) (x1 : Int32) : Int32 :=
  if x1 < 0 then
    0
  else
    if (kM_classes k) ≤ x1 then
      0
    else
      1
def fM_isAge (k : kM) (x1 : Int32) : Int32 :=
  if x1 < 0 then
    0
  else
    if (kM_ages k) ≤ x1 then
      0
    else
      1
def fM_isPart_9 : Int32 :=
  1
def fM_isPart (x0 : Int32) : Int32 :=
  if x0 = 0 then
    fM_isPart_9
  else
    if x0 = 1 then
      fM_isPart_9
    else
      0
def fM_at (x0 : Int32) (x1 : Int32) (x2 : Int32) : Int32 :=
  (((60 * x0) + (6 * x1)) + x2)
def fM_count_41 (fu : Nat) (k : kM) (σ : sM) (h6 : Int32 → Int32 → Int32 → Int32 → Int32 → Option Int32) (y0 : Int32) (y1 : Int32) (x1 : Int32) (x2 : Int32) (x3 : Int32) (x5 : Int32) : Option Int32 :=
  h6 x1 x2 x3 (y0 + y1) (x5 + 1)
def fM_count_25 (fu : Nat) (k : kM) (σ : sM) (h6 : Int32 → Int32 → Int32 → Int32 → Int32 → Option Int32) (y0 : Int32) (x1 : Int32) (x2 : Int32) (x3 : Int32) (x5 : Int32) : Option Int32 :=
  (kld (kM_n k 0) (sM_counts σ) (fM_at x5 x2 x3)).bind fun v36 =>
  fM_count_41 fu k σ h6 y0 v36 x1 x2 x3 x5
def fM_count_6 (fu : Nat) (k : kM) (σ : sM) : Nat → Int32 → Int32 → Int32 → Int32 → Int32 → Option Int32
  | 0, _, _, _, _, _ => none
  | n + 1, x1, x2, x3, x4, x5 =>
    if 4 ≤ x5 then
      some x4
    else
      if x1 = (-1) then
        fM_count_25 fu k σ (fM_count_6 fu k σ n) x4 x1 x2 x3 x5
      else
        if x1 = x5 then
          fM_count_25 fu k σ (fM_count_6 fu k σ n) x4 x1 x2 x3 x5
        else
          fM_count_41 fu k σ (fM_count_6 fu k σ n) x4 0 x1 x2 x3 x5
def fM_count (fu : Nat) (k : kM) (σ : sM) (x1 : Int32) (x2 : Int32) (x3 : Int32) : Option Int32 :=
  fM_count_6 fu k σ fu x1 x2 x3 0 0
def fM_inGroup_64 (fu : Nat) (k : kM) (σ : sM) (h6 : Int32 → Int32 → Int32 → Int32 → Int32 → Option Int32) (h18 : Int32 → Int32 → Int32 → Int32 → Int32 → Int32 → Option Int32) (y0 : Int32) (y1 : Int32) (x1 : Int32) (x2 : Int32) (x3 : Int32) (x5 : Int32) (x6 : Int32) : Option Int32 :=
  h18 x1 x2 x3 (y0 + y1) x5 (x6 + 1)
def fM_inGroup_51 (fu : Nat) (k : kM) (σ : sM) (h6 : Int32 → Int32 → Int32 → Int32 → Int32 → Option Int32) (h18 : Int32 → Int32 → Int32 → Int32 → Int32 → Int32 → Option Int32) (y0 : Int32) (x1 : Int32) (x2 : Int32) (x3 : Int32) (x5 : Int32) (x6 : Int32) : Option Int32 :=
  (fM_count fu k σ x2 x5 x6).bind fun v57 =>
  fM_inGroup_64 fu k σ h6 h18 y0 v57 x1 x2 x3 x5 x6
def fM_inGroup_63 (fu : Nat) (k : kM) (σ : sM) (h6 : Int32 → Int32 → Int32 → Int32 → Int32 → Option Int32) (h18 : Int32 → Int32 → Int32 → Int32 → Int32 → Int32 → Option Int32) (y0 : Int32) (x1 : Int32) (x2 : Int32) (x3 : Int32) (x5 : Int32) (x6 : Int32) : Option Int32 :=
  fM_inGroup_64 fu k σ h6 h18 y0 0 x1 x2 x3 x5 x6
def fM_inGroup_18 (fu : Nat) (k : kM) (σ : sM) (h6 : Int32 → Int32 → Int32 → Int32 → Int32 → Option Int32) : Nat → Int32 → Int32 → Int32 → Int32 → Int32 → Int32 → Option Int32
  | 0, _, _, _, _, _, _ => none
  | n + 1, x1, x2, x3, x4, x5, x6 =>
    if (kM_ages k) ≤ x6 then
      h6 x1 x2 x3 x4 (x5 + 1)
    else
      (kld (kM_n k 1) (sM_group σ) x5).bind fun v35 =>
      if v35 = x1 then
        if x3 = (-1) then
          fM_inGroup_51 fu k σ h6 (fM_inGroup_18 fu k σ h6 n) x4 x1 x2 x3 x5 x6
        else
          if x3 = x6 then
            fM_inGroup_51 fu k σ h6 (fM_inGroup_18 fu k σ h6 n) x4 x1 x2 x3 x5 x6
          else
            fM_inGroup_63 fu k σ h6 (fM_inGroup_18 fu k σ h6 n) x4 x1 x2 x3 x5 x6
      else
        fM_inGroup_63 fu k σ h6 (fM_inGroup_18 fu k σ h6 n) x4 x1 x2 x3 x5 x6
def fM_inGroup_6 (fu : Nat) (k : kM) (σ : sM) : Nat → Int32 → Int32 → Int32 → Int32 → Int32 → Option Int32
  | 0, _, _, _, _, _ => none
  | n + 1, x1, x2, x3, x4, x5 =>
    if (kM_classes k) ≤ x5 then
      some x4
    else
      fM_inGroup_18 fu k σ (fM_inGroup_6 fu k σ n) fu x1 x2 x3 x4 x5 0
def fM_inGroup (fu : Nat) (k : kM) (σ : sM) (x1 : Int32) (x2 : Int32) (x3 : Int32) : Option Int32 :=
  fM_inGroup_6 fu k σ fu x1 x2 x3 0 0
def fM_inAll_15 (fu : Nat) (k : kM) (σ : sM) (h4 : Int32 → Int32 → Int32 → Option Int32) : Nat → Int32 → Int32 → Int32 → Int32 → Option Int32
  | 0, _, _, _, _ => none
  | n + 1, x1, x2, x3, x4 =>
    if (kM_ages k) ≤ x4 then
      h4 x1 x2 (x3 + 1)
    else
      (fM_count fu k σ x1 x3 x4).bind fun v30 =>
      fM_inAll_15 fu k σ h4 n x1 (x2 + v30) x3 (x4 + 1)
def fM_inAll_4 (fu : Nat) (k : kM) (σ : sM) : Nat → Int32 → Int32 → Int32 → Option Int32
  | 0, _, _, _ => none
  | n + 1, x1, x2, x3 =>
    if (kM_classes k) ≤ x3 then
      some x2
    else
      fM_inAll_15 fu k σ (fM_inAll_4 fu k σ n) fu x1 x2 x3 0
def fM_inAll (fu : Nat) (k : kM) (σ : sM) (x1 : Int32) : Option Int32 :=
  fM_inAll_4 fu k σ fu x1 0 0
def fM_partOf_110 (fu : Nat) (y0 : Int64) (y1 : Int64) (x5 : Int64) : Option Int64 :=
  (kdivJ y1 x5).bind fun v112 =>
  some (y0 * v112)
def fM_partOf_89 (fu : Nat) (y0 : Int64) (x0 : Int64) (x4 : Int32) (x5 : Int64) (x9 : Int64) : Option Int64 :=
  if x4 = 0 then
    if (0 : Int64) ≤ x0 then
      fM_partOf_110 fu y0 x0 x5
    else
      fM_partOf_110 fu y0 (-x0) x5
  else
    (kdivJ x9 x5).bind fun v121 =>
    some v121
def fM_partOf_79 (fu : Nat) (y0 : Int32) (y1 : Int32) (x0 : Int64) (x4 : Int32) (x5 : Int64) (x9 : Int64) : Option Int64 :=
  if y0 = y1 then
    fM_partOf_89 fu (1 : Int64) x0 x4 x5 x9
  else
    fM_partOf_89 fu (-1 : Int64) x0 x4 x5 x9
def fM_partOf_68 (fu : Nat) (y0 : Int32) (x0 : Int64) (x2 : Int64) (x4 : Int32) (x5 : Int64) (x9 : Int64) : Option Int64 :=
  if (0 : Int64) ≤ x2 then
    fM_partOf_79 fu y0 0 x0 x4 x5 x9
  else
    fM_partOf_79 fu y0 1 x0 x4 x5 x9
def fM_partOf_32 (fu : Nat) : Nat → Int64 → Int64 → Int32 → Int64 → Int64 → Int64 → Option Int64
  | 0, _, _, _, _, _, _ => none
  | n + 1, x0, x2, x4, x5, x7, x9 =>
    if x7 = (0 : Int64) then
      if (0 : Int64) ≤ x0 then
        fM_partOf_68 fu 0 x0 x2 x4 x5 x9
      else
        fM_partOf_68 fu 1 x0 x2 x4 x5 x9
    else
      (kremJ x5 x7).bind fun v43 =>
      fM_partOf_32 fu n x0 x2 x4 x7 v43 x9
def fM_partOf_26 (fu : Nat) (y0 : Int64) (x0 : Int64) (x2 : Int64) (x4 : Int32) (x5 : Int64) : Option Int64 :=
  fM_partOf_32 fu fu x0 x2 x4 x5 y0 y0
def fM_partOf_12 (fu : Nat) (y0 : Int64) (x0 : Int64) (x2 : Int64) (x4 : Int32) : Option Int64 :=
  if (0 : Int64) ≤ x2 then
    fM_partOf_26 fu x2 x0 x2 x4 y0
  else
    fM_partOf_26 fu (-x2) x0 x2 x4 y0
def fM_partOf (fu : Nat) (x0 : Int64) (x2 : Int64) (x4 : Int32) : Option Int64 :=
  if (0 : Int64) ≤ x0 then
    fM_partOf_12 fu x0 x0 x2 x4
  else
    fM_partOf_12 fu (-x0) x0 x2 x4
def fM_read (fu : Nat) (k : kM) (σ : sM) (x1 : Int32) (x2 : Int32) (x3 : Int32) : Option (Int32 × sM) :=
  if (fM_isClass k x1) = 0 then
    some (0, σ)
  else
    if (fM_isAge k x2) = 0 then
      some (0, σ)
    else
      if x3 < 0 then
        some (0, σ)
      else
        if x3 < 4 then
          (kld (kM_n k 1) (sM_group σ) x1).bind fun v33 =>
          (fM_inGroup fu k σ v33 (-1) (-1)).bind fun v36 =>
          if 20 ≤ v36 then
            some (0, σ)
          else
            (fM_inAll fu k σ (-1)).bind fun v46 =>
            if v46 < 100 then
              (kld (kM_n k 0) (sM_counts σ) (fM_at x3 x1 x2)).bind fun v67 =>
              (kstI (kM_n k 0) (sM_counts σ) (fM_at x3 x1 x2) (v67 + 1)).bind fun a70 =>
              some (1, (uM_counts σ a70))
            else
              some (0, σ)
        else
          some (0, σ)
def fM_place (fu : Nat) (k : kM) (σ : sM) (x1 : Int32) : Option (Int32 × sM) :=
  if x1 < (-1) then
    some ((-1), σ)
  else
    if x1 < 4 then
      (fM_inAll fu k (uM_chosen σ x1) x1).bind fun v19 =>
      some (v19, (uM_chosen σ x1))
    else
      some ((-1), σ)
def fM_own (fu : Nat) (k : kM) (σ : sM) (x1 : Int32) : Option Int32 :=
  (fM_inGroup fu k σ x1 (sM_chosen σ) (-1)).bind fun v7 =>
  some v7
def fM_source_18 (fu : Nat) (k : kM) (σ : sM) (y0 : Int32) : Option Int32 :=
  if y0 = (-1) then
    some (-1)
  else
    (fM_own fu k σ y0).bind fun v26 =>
    if v26 ≤ 0 then
      some (-1)
    else
      some y0
def fM_source (fu : Nat) (k : kM) (σ : sM) (x1 : Int32) : Option Int32 :=
  (fM_own fu k σ x1).bind fun v2 =>
  if v2 ≤ 0 then
    (kld (kM_n k 2) (sM_filler σ) x1).bind fun v17 =>
    fM_source_18 fu k σ v17
  else
    fM_source_18 fu k σ x1
def fM_share (fu : Nat) (k : kM) (σ : sM) (x1 : Int32) (x2 : Int32) (x3 : Int32) : Option Int64 :=
  if (fM_isClass k x1) = 0 then
    some (-1 : Int64)
  else
    if (fM_isAge k x2) = 0 then
      some (-1 : Int64)
    else
      if (fM_isPart x3) = 0 then
        some (-1 : Int64)
      else
        (kld (kM_n k 1) (sM_group σ) x1).bind fun v33 =>
        (fM_source fu k σ v33).bind fun v34 =>
        if v34 = (-1) then
          some (-1 : Int64)
        else
          (fM_inGroup fu k σ v34 (sM_chosen σ) x2).bind fun v59 =>
          (fM_own fu k σ v34).bind fun v66 =>
          (fM_partOf fu v59.toInt64 v66.toInt64 x3).bind fun v71 =>
          some v71
def fM_empty_4 (fu : Nat) (k : kM) (σ : sM) : Nat → Int32 → Int32 → Int32 → Option Int32
  | 0, _, _, _ => none
  | n + 1, x1, x2, x3 =>
    if (kM_classes k) ≤ x3 then
      some (-1)
    else
      (kld (kM_n k 1) (sM_group σ) x3).bind fun v17 =>
      if v17 = x3 then
        (fM_own fu k σ x3).bind fun v24 =>
        if v24 = 0 then
          (kld (kM_n k 2) (sM_filler σ) x3).bind fun v35 =>
          if v35 = (-1) then
            if x2 = x1 then
              some x3
            else
              fM_empty_4 fu k σ n x1 (x2 + 1) (x3 + 1)
          else
            fM_empty_4 fu k σ n x1 x2 (x3 + 1)
        else
          fM_empty_4 fu k σ n x1 x2 (x3 + 1)
      else
        fM_empty_4 fu k σ n x1 x2 (x3 + 1)
def fM_empty (fu : Nat) (k : kM) (σ : sM) (x1 : Int32) : Option Int32 :=
  fM_empty_4 fu k σ fu x1 0 0
def fM_distance_83 (fu : Nat) (k : kM) (σ : sM) (h6 : Int32 → Int32 → Int32 → Int32 → Option Int32) (h18 : Int32 → Int32 → Int32 → Int32 → Int32 → Option Int32) (y0 : Int32) (x1 : Int32) (x2 : Int32) (x4 : Int32) (x5 : Int32) : Option Int32 :=
  h18 x1 x2 y0 x4 (x5 + 1)
def fM_distance_82 (fu : Nat) (k : kM) (σ : sM) (h6 : Int32 → Int32 → Int32 → Int32 → Option Int32) (h18 : Int32 → Int32 → Int32 → Int32 → Int32 → Option Int32) (x1 : Int32) (x2 : Int32) (x3 : Int32) (x4 : Int32) (x5 : Int32) : Option Int32 :=
  fM_distance_83 fu k σ h6 h18 x3 x1 x2 x4 x5
def fM_distance_47 (fu : Nat) (k : kM) (σ : sM) (h6 : Int32 → Int32 → Int32 → Int32 → Option Int32) (h18 : Int32 → Int32 → Int32 → Int32 → Int32 → Option Int32) (y0 : Int32) (x1 : Int32) (x2 : Int32) (x3 : Int32) (x4 : Int32) (x5 : Int32) : Option Int32 :=
  (kld (kM_n k 1) (sM_group σ) x4).bind fun v55 =>
  if v55 = x1 then
    (kld (kM_n k 1) (sM_group σ) x5).bind fun v66 =>
    if v66 = x2 then
      if x3 ≤ y0 then
        fM_distance_82 fu k σ h6 h18 x1 x2 x3 x4 x5
      else
        fM_distance_83 fu k σ h6 h18 y0 x1 x2 x4 x5
    else
      fM_distance_82 fu k σ h6 h18 x1 x2 x3 x4 x5
  else
    fM_distance_82 fu k σ h6 h18 x1 x2 x3 x4 x5
def fM_distance_18 (fu : Nat) (k : kM) (σ : sM) (h6 : Int32 → Int32 → Int32 → Int32 → Option Int32) : Nat → Int32 → Int32 → Int32 → Int32 → Int32 → Option Int32
  | 0, _, _, _, _, _ => none
  | n + 1, x1, x2, x3, x4, x5 =>
    if (kM_classes k) ≤ x5 then
      h6 x1 x2 x3 (x4 + 1)
    else
      if x5 ≤ x4 then
        fM_distance_47 fu k σ h6 (fM_distance_18 fu k σ h6 n) (x4 - x5) x1 x2 x3 x4 x5
      else
        fM_distance_47 fu k σ h6 (fM_distance_18 fu k σ h6 n) (x5 - x4) x1 x2 x3 x4 x5
def fM_distance_6 (fu : Nat) (k : kM) (σ : sM) : Nat → Int32 → Int32 → Int32 → Int32 → Option Int32
  | 0, _, _, _, _ => none
  | n + 1, x1, x2, x3, x4 =>
    if (kM_classes k) ≤ x4 then
      some x3
    else
      fM_distance_18 fu k σ (fM_distance_6 fu k σ n) fu x1 x2 x3 x4 0
def fM_distance (fu : Nat) (k : kM) (σ : sM) (x1 : Int32) (x2 : Int32) : Option Int32 :=
  fM_distance_6 fu k σ fu x1 x2 100 0
def fM_fill_83 (fu : Nat) (k : kM) (h27 : sM → Int32 → Int32 → Int32 → Option (Int32 × sM)) (σ : sM) (x1 : Int32) (x3 : Int32) : Option (Int32 × sM) :=
  h27 σ x1 x3 (x3 + 1)
def fM_fill_27 (fu : Nat) (k : kM) : Nat → sM → Int32 → Int32 → Int32 → Option (Int32 × sM)
  | 0, _, _, _, _ => none
  | n + 1, σ, x1, x2, x3 =>
    if (kM_classes k) ≤ x3 then
      if x2 = (-1) then
        some (x2, σ)
      else
        (kld (kM_n k 1) (sM_group σ) x1).bind fun v105 =>
        (kstI (kM_n k 2) (sM_filler σ) v105 x2).bind fun a107 =>
        some (x2, (uM_filler σ a107))
    else
      (kld (kM_n k 1) (sM_group σ) x3).bind fun v40 =>
      if v40 = x3 then
        (fM_own fu k σ x3).bind fun v47 =>
        if v47 ≤ 0 then
          fM_fill_27 fu k n σ x1 x2 (x3 + 1)
        else
          if x2 = (-1) then
            fM_fill_83 fu k (fM_fill_27 fu k n) σ x1 x3
          else
            (kld (kM_n k 1) (sM_group σ) x1).bind fun v64 =>
            (fM_distance fu k σ v64 x3).bind fun v66 =>
            (kld (kM_n k 1) (sM_group σ) x1).bind fun v75 =>
            (fM_distance fu k σ v75 x2).bind fun v77 =>
            if v77 ≤ v66 then
              fM_fill_27 fu k n σ x1 x2 (x3 + 1)
            else
              fM_fill_83 fu k (fM_fill_27 fu k n) σ x1 x3
      else
        fM_fill_27 fu k n σ x1 x2 (x3 + 1)
def fM_fill (fu : Nat) (k : kM) (σ : sM) (x1 : Int32) : Option (Int32 × sM) :=
  if (fM_isClass k x1) = 0 then
    some ((-1), σ)
  else
    (kld (kM_n k 1) (sM_group σ) x1).bind fun v14 =>
    (fM_own fu k σ v14).bind fun v15 =>
    if v15 ≤ 0 then
      fM_fill_27 fu k fu σ x1 (-1) 0
    else
      some ((-1), σ)
def fM_marked (fu : Nat) (k : kM) (σ : sM) (x1 : Int32) : Option Int32 :=
  if (fM_isClass k x1) = 0 then
    some 0
  else
    (kld (kM_n k 1) (sM_group σ) x1).bind fun v17 =>
    (kld (kM_n k 2) (sM_filler σ) v17).bind fun v18 =>
    if v18 = (-1) then
      some 0
    else
      (kld (kM_n k 1) (sM_group σ) x1).bind fun v29 =>
      (fM_own fu k σ v29).bind fun v30 =>
      if v30 = 0 then
        some 1
      else
        some 0
def fM_joined_208 (fu : Nat) (k : kM) (h129 : sM → Int32 → Int32 → Int32 → Option (Int32 × sM)) (σ : sM) (y1 : Int32) (y2 : Int32) (x3 : Int32) (x4 : Int32) (x5 : Int32) : Option (Int32 × sM) :=
  (kstI (kM_n k 1) (sM_group σ) y1 y2).bind fun a208 =>
  h129 (uM_group σ a208) x3 x4 (x5 + 1)
def fM_joined_178 (fu : Nat) (k : kM) (h129 : sM → Int32 → Int32 → Int32 → Option (Int32 × sM)) (σ : sM) (y1 : Int32) (y2 : Int32) (x3 : Int32) (x4 : Int32) (x5 : Int32) : Option (Int32 × sM) :=
  (kstI (kM_n k 2) (sM_filler σ) y1 y2).bind fun a178 =>
  (kld (kM_n k 1) (sM_group (uM_filler σ a178)) x5).bind fun v191 =>
  if v191 = x4 then
    fM_joined_208 fu k h129 (uM_filler σ a178) x5 x3 x3 x4 x5
  else
    (kld (kM_n k 1) (sM_group (uM_filler σ a178)) x5).bind fun v207 =>
    fM_joined_208 fu k h129 (uM_filler σ a178) x5 v207 x3 x4 x5
def fM_joined_167 (fu : Nat) (k : kM) (h129 : sM → Int32 → Int32 → Int32 → Option (Int32 × sM)) (σ : sM) (y1 : Int32) (x3 : Int32) (x4 : Int32) (x5 : Int32) : Option (Int32 × sM) :=
  fM_joined_178 fu k h129 σ y1 (-1) x3 x4 x5
def fM_joined_129 (fu : Nat) (k : kM) : Nat → sM → Int32 → Int32 → Int32 → Option (Int32 × sM)
  | 0, _, _, _, _ => none
  | n + 1, σ, x3, x4, x5 =>
    if (kM_classes k) ≤ x5 then
      (kstI (kM_n k 2) (sM_filler σ) x3 (-1)).bind fun a221 =>
      (kstI (kM_n k 2) (sM_filler (uM_filler σ a221)) x4 (-1)).bind fun a229 =>
      some (x3, (uM_filler (uM_filler σ a221) a229))
    else
      (kld (kM_n k 2) (sM_filler σ) x5).bind fun v150 =>
      if v150 = x3 then
        fM_joined_167 fu k (fM_joined_129 fu k n) σ x5 x3 x4 x5
      else
        (kld (kM_n k 2) (sM_filler σ) x5).bind fun v161 =>
        if v161 = x4 then
          fM_joined_167 fu k (fM_joined_129 fu k n) σ x5 x3 x4 x5
        else
          (kld (kM_n k 2) (sM_filler σ) x5).bind fun v177 =>
          fM_joined_178 fu k (fM_joined_129 fu k n) σ x5 v177 x3 x4 x5
def fM_joined_124 (fu : Nat) (k : kM) (σ : sM) (y0 : Int32) (x3 : Int32) : Option (Int32 × sM) :=
  fM_joined_129 fu k fu σ x3 y0 0
def fM_joined_93 (fu : Nat) (k : kM) (σ : sM) (y0 : Int32) (x1 : Int32) (x2 : Int32) : Option (Int32 × sM) :=
  (kld (kM_n k 1) (sM_group σ) x1).bind fun v99 =>
  (kld (kM_n k 1) (sM_group σ) x2).bind fun v105 =>
  if v105 ≤ v99 then
    (kld (kM_n k 1) (sM_group σ) x1).bind fun v123 =>
    fM_joined_124 fu k σ v123 y0
  else
    (kld (kM_n k 1) (sM_group σ) x2).bind fun v114 =>
    fM_joined_124 fu k σ v114 y0
def fM_joined (fu : Nat) (k : kM) (σ : sM) (x1 : Int32) (x2 : Int32) : Option (Int32 × sM) :=
  if (fM_isClass k x1) = 0 then
    some ((-1), σ)
  else
    if (fM_isClass k x2) = 0 then
      some ((-1), σ)
    else
      (kld (kM_n k 1) (sM_group σ) x1).bind fun v21 =>
      (kld (kM_n k 1) (sM_group σ) x2).bind fun v27 =>
      if v21 = v27 then
        some ((-1), σ)
      else
        (kld (kM_n k 1) (sM_group σ) x1).bind fun v37 =>
        (fM_inGroup fu k σ v37 (-1) (-1)).bind fun v40 =>
        (kld (kM_n k 1) (sM_group σ) x2).bind fun v49 =>
        (fM_inGroup fu k σ v49 (-1) (-1)).bind fun v52 =>
        if (v40 + v52) ≤ 20 then
          (kld (kM_n k 1) (sM_group σ) x1).bind fun v68 =>
          (kld (kM_n k 1) (sM_group σ) x2).bind fun v74 =>
          if v74 ≤ v68 then
            (kld (kM_n k 1) (sM_group σ) x2).bind fun v92 =>
            fM_joined_93 fu k σ v92 x1 x2
          else
            (kld (kM_n k 1) (sM_group σ) x1).bind fun v83 =>
            fM_joined_93 fu k σ v83 x1 x2
        else
          some ((-1), σ)
def fM_groups_28 (fu : Nat) (k : kM) (σ : sM) (h4 : Int32 → Int32 → Option Int32) (y0 : Int32) (y1 : Int32) (x2 : Int32) : Option Int32 :=
  h4 (y0 + y1) (x2 + 1)
def fM_groups_4 (fu : Nat) (k : kM) (σ : sM) : Nat → Int32 → Int32 → Option Int32
  | 0, _, _ => none
  | n + 1, x1, x2 =>
    if (kM_classes k) ≤ x2 then
      some x1
    else
      (kld (kM_n k 1) (sM_group σ) x2).bind fun v18 =>
      if v18 = x2 then
        fM_groups_28 fu k σ (fM_groups_4 fu k σ n) x1 1 x2
      else
        fM_groups_28 fu k σ (fM_groups_4 fu k σ n) x1 0 x2
def fM_groups (fu : Nat) (k : kM) (σ : sM) : Option Int32 :=
  fM_groups_4 fu k σ fu 0 0
def fM_allMeasured_4 (fu : Nat) (k : kM) (σ : sM) : Nat → Int64 → Int32 → Option Int64
  | 0, _, _ => none
  | n + 1, x1, x3 =>
    if (kM_classes k) ≤ x3 then
      some x1
    else
      (kld (kM_n k 3) (sM_measured σ) x3).bind fun v18 =>
      fM_allMeasured_4 fu k σ n (x1 + v18) (x3 + 1)
def fM_allMeasured (fu : Nat) (k : kM) (σ : sM) : Option Int64 :=
  fM_allMeasured_4 fu k σ fu (0 : Int64) 0
def fM_sample (fu : Nat) (k : kM) (σ : sM) (x1 : Int32) (x2 : Int64) : Option (Int32 × sM) :=
  if (fM_isClass k x1) = 0 then
    some (0, σ)
  else
    if x2 < (0 : Int64) then
      some (0, σ)
    else
      if (10000 : Int64) < x2 then
        some (0, σ)
      else
        (fM_allMeasured fu k σ).bind fun v23 =>
        if (v23 + x2) ≤ (10000 : Int64) then
          (kld (kM_n k 3) (sM_measured σ) x1).bind fun v43 =>
          (kstJ (kM_n k 3) (sM_measured σ) x1 (v43 + x2)).bind fun a46 =>
          some (1, (uM_measured σ a46))
        else
          some (0, σ)
def fM_raise_125 (fu : Nat) (k : kM) (h59 : sM → Int64 → Int32 → Int32 → Int32 → Option (Int32 × sM)) (σ : sM) (y0 : Int32) (x1 : Int64) (x3 : Int32) (x5 : Int32) (x6 : Int32) : Option (Int32 × sM) :=
  if x6 = (-1) then
    h59 σ x1 x3 y0 (x5 + 1)
  else
    (kld (kM_n k 3) (sM_measured σ) x5).bind fun v145 =>
    (fM_inGroup fu k σ x6 (sM_chosen σ) x3).bind fun v155 =>
    (fM_own fu k σ x6).bind fun v165 =>
    (kdivJ (232792560 : Int64) v165.toInt64).bind fun v169 =>
    h59 (uM_above σ ((sM_above σ) + ((x1 * v145) * (v155.toInt64 * v169)))) x1 x3 y0 (x5 + 1)
def fM_raise_120 (fu : Nat) (k : kM) (h59 : sM → Int64 → Int32 → Int32 → Int32 → Option (Int32 × sM)) (σ : sM) (x1 : Int64) (x3 : Int32) (x5 : Int32) (x6 : Int32) : Option (Int32 × sM) :=
  fM_raise_125 fu k h59 σ 1 x1 x3 x5 x6
def fM_raise_100 (fu : Nat) (k : kM) (h59 : sM → Int64 → Int32 → Int32 → Int32 → Option (Int32 × sM)) (σ : sM) (y0 : Int32) (x1 : Int64) (x3 : Int32) (x5 : Int32) : Option (Int32 × sM) :=
  if y0 = (-1) then
    (kld (kM_n k 3) (sM_measured σ) x5).bind fun v114 =>
    if v114 = (0 : Int64) then
      fM_raise_120 fu k h59 σ x1 x3 x5 y0
    else
      fM_raise_125 fu k h59 σ 0 x1 x3 x5 y0
  else
    fM_raise_120 fu k h59 σ x1 x3 x5 y0
def fM_raise_59 (fu : Nat) (k : kM) : Nat → sM → Int64 → Int32 → Int32 → Int32 → Option (Int32 × sM)
  | 0, _, _, _, _, _ => none
  | n + 1, σ, x1, x3, x4, x5 =>
    if (kM_classes k) ≤ x5 then
      (kbool x4).bind fun b184 =>
      some (b184, σ)
    else
      if x4 = 0 then
        (kbool x4).bind fun b184 =>
        some (b184, σ)
      else
        (kld (kM_n k 3) (sM_measured σ) x5).bind fun v79 =>
        if v79 = (0 : Int64) then
          fM_raise_100 fu k (fM_raise_59 fu k n) σ (-1) x1 x3 x5
        else
          (kld (kM_n k 1) (sM_group σ) x5).bind fun v96 =>
          (fM_source fu k σ v96).bind fun v97 =>
          fM_raise_100 fu k (fM_raise_59 fu k n) σ v97 x1 x3 x5
def fM_raise_53 (fu : Nat) (k : kM) (σ : sM) (y1 : Int64) (x1 : Int64) (x3 : Int32) (x4 : Int32) : Option (Int32 × sM) :=
  fM_raise_59 fu k fu (uM_below σ y1) x1 x3 x4 0
def fM_raise_28 (fu : Nat) (k : kM) (σ : sM) (y0 : Int32) (x1 : Int64) (x3 : Int32) : Option (Int32 × sM) :=
  if y0 = 0 then
    fM_raise_53 fu k (uM_above σ (0 : Int64)) (1 : Int64) x1 x3 y0
  else
    (fM_allMeasured fu k (uM_above σ (0 : Int64))).bind fun v42 =>
    fM_raise_53 fu k (uM_above σ (0 : Int64)) (v42 * (232792560 : Int64)) x1 x3 y0
def fM_raise_27 (fu : Nat) (k : kM) (σ : sM) (x1 : Int64) (x3 : Int32) : Option (Int32 × sM) :=
  fM_raise_28 fu k σ 0 x1 x3
def fM_raise (fu : Nat) (k : kM) (σ : sM) (x1 : Int64) (x3 : Int32) : Option (Int32 × sM) :=
  if x1 < (0 : Int64) then
    fM_raise_27 fu k σ x1 x3
  else
    if (10000 : Int64) < x1 then
      fM_raise_27 fu k σ x1 x3
    else
      (fM_allMeasured fu k σ).bind fun v15 =>
      if v15 ≤ (0 : Int64) then
        fM_raise_27 fu k σ x1 x3
      else
        fM_raise_28 fu k σ 1 x1 x3
def fM_raised (fu : Nat) (k : kM) (σ : sM) (x1 : Int64) (x3 : Int32) (x4 : Int32) : Option (Int64 × sM) :=
  if (fM_isAge k x3) = 0 then
    some ((-1 : Int64), σ)
  else
    if (fM_isPart x4) = 0 then
      some ((-1 : Int64), σ)
    else
      kbind2 (fM_raise fu k σ x1 x3) fun v19 s19 =>
      if v19 = 0 then
        some ((-1 : Int64), s19)
      else
        (fM_partOf fu (sM_above s19) (sM_below s19) x4).bind fun v35 =>
        some (v35, s19)
def fM_sums_51 (fu : Nat) (k : kM) (h8 : sM → Int64 → Int32 → Int64 → Int32 → Option (Int32 × sM)) (σ : sM) (y0 : Int64) (y1 : Int64) (x1 : Int64) (x3 : Int32) (x6 : Int32) : Option (Int32 × sM) :=
  h8 σ x1 x3 (y0 + y1) (x6 + 1)
def fM_sums_36 (fu : Nat) (k : kM) (h8 : sM → Int64 → Int32 → Int64 → Int32 → Option (Int32 × sM)) (σ : sM) (y0 : Int32) (x1 : Int64) (x4 : Int64) (x6 : Int32) : Option (Int32 × sM) :=
  if y0 = 0 then
    fM_sums_51 fu k h8 σ x4 (0 : Int64) x1 y0 x6
  else
    fM_sums_51 fu k h8 σ x4 (sM_above σ) x1 y0 x6
def fM_sums_35 (fu : Nat) (k : kM) (h8 : sM → Int64 → Int32 → Int64 → Int32 → Option (Int32 × sM)) (σ : sM) (x1 : Int64) (x4 : Int64) (x6 : Int32) : Option (Int32 × sM) :=
  fM_sums_36 fu k h8 σ 0 x1 x4 x6
def fM_sums_8 (fu : Nat) (k : kM) : Nat → sM → Int64 → Int32 → Int64 → Int32 → Option (Int32 × sM)
  | 0, _, _, _, _, _ => none
  | n + 1, σ, x1, x3, x4, x6 =>
    if (kM_ages k) ≤ x6 then
      if x3 = 0 then
        some (0, σ)
      else
        if x4 = (x1 * (sM_below σ)) then
          some (1, σ)
        else
          some (0, σ)
    else
      if x3 = 0 then
        fM_sums_35 fu k (fM_sums_8 fu k n) σ x1 x4 x6
      else
        kbind2 (fM_raise fu k σ x1 x6) fun v25 s25 =>
        if v25 = 0 then
          fM_sums_35 fu k (fM_sums_8 fu k n) s25 x1 x4 x6
        else
          fM_sums_36 fu k (fM_sums_8 fu k n) s25 1 x1 x4 x6
def fM_sums (fu : Nat) (k : kM) (σ : sM) (x1 : Int64) : Option (Int32 × sM) :=
  fM_sums_8 fu k fu σ x1 1 (0 : Int64) 0
def fM_without_127 (fu : Nat) (k : kM) (σ : sM) (y0 : Int64) (x4 : Int32) (x5 : Int32) : Option Int64 :=
  (fM_partOf fu y0 ((x5 - 1).toInt64) x4).bind fun v134 =>
  some v134
def fM_without_112 (fu : Nat) (k : kM) (σ : sM) (y0 : Int32) (x3 : Int32) (x4 : Int32) (x5 : Int32) (x7 : Int32) : Option Int64 :=
  if x3 = 0 then
    fM_without_127 fu k σ x7.toInt64 x4 x5
  else
    fM_without_127 fu k σ y0.toInt64 x4 x5
def fM_without_94 (fu : Nat) (k : kM) (σ : sM) (y0 : Int32) (x3 : Int32) (x4 : Int32) (x5 : Int32) (x6 : Int32) : Option Int64 :=
  if x5 ≤ x6 then
    fM_without_112 fu k σ (x6 - 1) x3 x4 x5 y0
  else
    fM_without_112 fu k σ x6 x3 x4 x5 y0
def fM_without (fu : Nat) (k : kM) (σ : sM) (x1 : Int32) (x2 : Int32) (x3 : Int32) (x4 : Int32) : Option Int64 :=
  if (fM_isClass k x1) = 0 then
    some (-1 : Int64)
  else
    if (fM_isAge k x2) = 0 then
      some (-1 : Int64)
    else
      if x3 < 0 then
        some (-1 : Int64)
      else
        if 1 < x3 then
          some (-1 : Int64)
        else
          if (fM_isPart x4) = 0 then
            some (-1 : Int64)
          else
            (kld (kM_n k 1) (sM_group σ) x1).bind fun v39 =>
            (fM_own fu k σ v39).bind fun v40 =>
            if 2 ≤ v40 then
              (kld (kM_n k 1) (sM_group σ) x1).bind fun v57 =>
              (fM_own fu k σ v57).bind fun v58 =>
              (kld (kM_n k 1) (sM_group σ) x1).bind fun v69 =>
              (fM_inGroup fu k σ v69 (sM_chosen σ) x2).bind fun v75 =>
              if v75 ≤ 0 then
                fM_without_94 fu k σ v75 x3 x4 v58 v75
              else
                fM_without_94 fu k σ (v75 - 1) x3 x4 v58 v75
            else
              some (-1 : Int64)
def fM_error (k : kM) (σ : sM) (x1 : Int32) (x2 : Int32) (x3 : Int32) : Option (Int32 × sM) :=
  if (fM_isAge k x1) = 0 then
    some (0, σ)
  else
    if (fM_isAge k x2) = 0 then
      some (0, σ)
    else
      if x3 < 0 then
        some (0, σ)
      else
        if x3 ≤ 20 then
          (kstI (kM_n k 4) (sM_errors σ) ((6 * x1) + x2) x3).bind fun a39 =>
          some (1, (uM_errors σ a39))
        else
          some (0, σ)
def fM_determinant_180 (fu : Nat) (k : kM) (h7 : sM → Int64 → Int64 → Int32 → Option (Int64 × sM)) (h165 : sM → Int64 → Int64 → Int32 → Int32 → Option (Int64 × sM)) : Nat → sM → Int64 → Int64 → Int32 → Int32 → Int32 → Option (Int64 × sM)
  | 0, _, _, _, _, _, _ => none
  | n + 1, σ, x1, x3, x5, x7, x8 =>
    if (kM_ages k) ≤ x8 then
      h165 σ x1 x3 x5 (x7 + 1)
    else
      (kld (kM_n k 7) (sM_cells σ) ((6 * x7) + x8)).bind fun v213 =>
      (kld (kM_n k 7) (sM_cells σ) ((6 * x5) + x5)).bind fun v226 =>
      (kld (kM_n k 7) (sM_cells σ) ((6 * x7) + x5)).bind fun v240 =>
      (kld (kM_n k 7) (sM_cells σ) ((6 * x5) + x8)).bind fun v253 =>
      (kdivJ ((v213 * v226) - (v240 * v253)) x1).bind fun v257 =>
      (kstJ (kM_n k 7) (sM_cells σ) ((6 * x7) + x8) v257).bind fun a258 =>
      fM_determinant_180 fu k h7 h165 n (uM_cells σ a258) x1 x3 x5 x7 (x8 + 1)
def fM_determinant_165 (fu : Nat) (k : kM) (h7 : sM → Int64 → Int64 → Int32 → Option (Int64 × sM)) : Nat → sM → Int64 → Int64 → Int32 → Int32 → Option (Int64 × sM)
  | 0, _, _, _, _, _ => none
  | n + 1, σ, x1, x3, x5, x7 =>
    if (kM_ages k) ≤ x7 then
      (kld (kM_n k 7) (sM_cells σ) ((6 * x5) + x5)).bind fun v283 =>
      h7 σ v283 x3 (x5 + 1)
    else
      fM_determinant_180 fu k h7 (fM_determinant_165 fu k h7 n) fu σ x1 x3 x5 x7 (x5 + 1)
def fM_determinant_158 (fu : Nat) (k : kM) (h7 : sM → Int64 → Int64 → Int32 → Option (Int64 × sM)) (σ : sM) (y0 : Int64) (x1 : Int64) (x5 : Int32) : Option (Int64 × sM) :=
  fM_determinant_165 fu k h7 fu σ x1 y0 x5 (x5 + 1)
def fM_determinant_145 (fu : Nat) (k : kM) (h7 : sM → Int64 → Int64 → Int32 → Option (Int64 × sM)) (σ : sM) (x1 : Int64) (x3 : Int64) (x5 : Int32) (x6 : Int32) : Option (Int64 × sM) :=
  if x6 = x5 then
    fM_determinant_158 fu k h7 σ x3 x1 x5
  else
    fM_determinant_158 fu k h7 σ (-x3) x1 x5
def fM_determinant_67 (fu : Nat) (k : kM) (h7 : sM → Int64 → Int64 → Int32 → Option (Int64 × sM)) : Nat → sM → Int64 → Int64 → Int32 → Int32 → Int32 → Option (Int64 × sM)
  | 0, _, _, _, _, _, _ => none
  | n + 1, σ, x1, x3, x5, x6, x7 =>
    if (kM_ages k) ≤ x7 then
      fM_determinant_145 fu k h7 σ x1 x3 x5 x6
    else
      if x6 = x5 then
        fM_determinant_145 fu k h7 σ x1 x3 x5 x6
      else
        (kld (kM_n k 7) (sM_cells σ) ((6 * x5) + x7)).bind fun v95 =>
        (kld (kM_n k 7) (sM_cells σ) ((6 * x6) + x7)).bind fun v122 =>
        (kstJ (kM_n k 7) (sM_cells σ) ((6 * x5) + x7) v122).bind fun a123 =>
        (kstJ (kM_n k 7) (sM_cells (uM_cells σ a123)) ((6 * x6) + x7) v95).bind fun a138 =>
        fM_determinant_67 fu k h7 n (uM_cells (uM_cells σ a123) a138) x1 x3 x5 x6 (x7 + 1)
def fM_determinant_53 (fu : Nat) (k : kM) (h7 : sM → Int64 → Int64 → Int32 → Option (Int64 × sM)) (σ : sM) (x1 : Int64) (x3 : Int64) (x5 : Int32) (x6 : Int32) : Option (Int64 × sM) :=
  if x6 = (kM_ages k) then
    some ((0 : Int64), σ)
  else
    fM_determinant_67 fu k h7 fu σ x1 x3 x5 x6 0
def fM_determinant_20 (fu : Nat) (k : kM) (h7 : sM → Int64 → Int64 → Int32 → Option (Int64 × sM)) : Nat → sM → Int64 → Int64 → Int32 → Int32 → Option (Int64 × sM)
  | 0, _, _, _, _, _ => none
  | n + 1, σ, x1, x3, x5, x6 =>
    if (kM_ages k) ≤ x6 then
      fM_determinant_53 fu k h7 σ x1 x3 x5 x6
    else
      (kld (kM_n k 7) (sM_cells σ) ((6 * x6) + x5)).bind fun v41 =>
      if v41 = (0 : Int64) then
        fM_determinant_20 fu k h7 n σ x1 x3 x5 (x6 + 1)
      else
        fM_determinant_53 fu k h7 σ x1 x3 x5 x6
def fM_determinant_7 (fu : Nat) (k : kM) : Nat → sM → Int64 → Int64 → Int32 → Option (Int64 × sM)
  | 0, _, _, _, _ => none
  | n + 1, σ, x1, x3, x5 =>
    if (kM_ages k) ≤ x5 then
      some ((x3 * x1), σ)
    else
      fM_determinant_20 fu k (fM_determinant_7 fu k n) fu σ x1 x3 x5 x5
def fM_determinant (fu : Nat) (k : kM) (σ : sM) : Option (Int64 × sM) :=
  fM_determinant_7 fu k fu σ (1 : Int64) (1 : Int64) 0
def fM_lay_70 (fu : Nat) (k : kM) (h2 : sM → Int32 → Int32 → Int32 → Option sM) (h13 : sM → Int32 → Int32 → Int32 → Int32 → Option sM) (σ : sM) (y1 : Int32) (y2 : Int64) (x1 : Int32) (x2 : Int32) (x3 : Int32) (x4 : Int32) : Option sM :=
  (kstJ (kM_n k 7) (sM_cells σ) y1 y2).bind fun a70 =>
  h13 (uM_cells σ a70) x1 x2 x3 (x4 + 1)
def fM_lay_13 (fu : Nat) (k : kM) (h2 : sM → Int32 → Int32 → Int32 → Option sM) : Nat → sM → Int32 → Int32 → Int32 → Int32 → Option sM
  | 0, _, _, _, _, _ => none
  | n + 1, σ, x1, x2, x3, x4 =>
    if (kM_ages k) ≤ x4 then
      h2 σ x1 x2 (x3 + 1)
    else
      if x4 = x2 then
        (fM_inGroup fu k σ x1 (sM_chosen σ) x3).bind fun v49 =>
        fM_lay_70 fu k h2 (fM_lay_13 fu k h2 n) σ ((6 * x3) + x4) ((20 : Int64) * v49.toInt64) x1 x2 x3 x4
      else
        (kld (kM_n k 4) (sM_errors σ) ((6 * x4) + x3)).bind fun v68 =>
        fM_lay_70 fu k h2 (fM_lay_13 fu k h2 n) σ ((6 * x3) + x4) v68.toInt64 x1 x2 x3 x4
def fM_lay_2 (fu : Nat) (k : kM) : Nat → sM → Int32 → Int32 → Int32 → Option sM
  | 0, _, _, _, _ => none
  | n + 1, σ, x1, x2, x3 =>
    if (kM_ages k) ≤ x3 then
      some σ
    else
      fM_lay_13 fu k (fM_lay_2 fu k n) fu σ x1 x2 x3 0
def fM_lay (fu : Nat) (k : kM) (σ : sM) (x1 : Int32) (x2 : Int32) : Option sM :=
  fM_lay_2 fu k fu σ x1 x2 0
def fM_undo_14 (fu : Nat) (k : kM) (h2 : sM → Int32 → Option (Int32 × sM)) : Nat → sM → Int32 → Int32 → Int32 → Option (Int32 × sM)
  | 0, _, _, _, _ => none
  | n + 1, σ, x1, x2, x3 =>
    if (kM_ages k) ≤ x3 then
      if x2 = 20 then
        h2 σ (x1 + 1)
      else
        some (2, σ)
    else
      (kld (kM_n k 4) (sM_errors σ) ((6 * x1) + x3)).bind fun v33 =>
      fM_undo_14 fu k h2 n σ x1 (x2 + v33) (x3 + 1)
def fM_undo_2 (fu : Nat) (k : kM) : Nat → sM → Int32 → Option (Int32 × sM)
  | 0, _, _ => none
  | n + 1, σ, x1 =>
    if (kM_ages k) ≤ x1 then
      (fM_lay fu k σ 0 (-1)).bind fun s59 =>
      kbind2 (fM_determinant fu k s59) fun v63 s63 =>
      if v63 = (0 : Int64) then
        some (1, s63)
      else
        some (0, s63)
    else
      fM_undo_14 fu k (fM_undo_2 fu k n) fu σ x1 0 0
def fM_undo (fu : Nat) (k : kM) (σ : sM) : Option (Int32 × sM) :=
  fM_undo_2 fu k fu σ 0
def fM_undone (fu : Nat) (k : kM) (σ : sM) (x1 : Int32) (x2 : Int32) (x3 : Int32) : Option (Int64 × sM) :=
  if (fM_isClass k x1) = 0 then
    some ((-1 : Int64), σ)
  else
    if (fM_isAge k x2) = 0 then
      some ((-1 : Int64), σ)
    else
      if (fM_isPart x3) = 0 then
        some ((-1 : Int64), σ)
      else
        kbind2 (fM_undo fu k σ) fun v24 s24 =>
        if v24 = 0 then
          (kld (kM_n k 1) (sM_group s24) x1).bind fun v40 =>
          (fM_lay fu k s24 v40 (-1)).bind fun s42 =>
          kbind2 (fM_determinant fu k s42) fun v46 s46 =>
          (kld (kM_n k 1) (sM_group s46) x1).bind fun v57 =>
          (fM_lay fu k s46 v57 x2).bind fun s59 =>
          kbind2 (fM_determinant fu k s59) fun v63 s63 =>
          (fM_partOf fu v63 v46 x3).bind fun v73 =>
          some (v73, s63)
        else
          some ((-1 : Int64), s24)
def fM_apart_134 (fu : Nat) (k : kM) (σ : sM) (h67 : Int32 → Int32 → Int32 → Int64 → Int64 → Int64 → Int32 → Option Int64) (h79 : Int32 → Int32 → Int32 → Int64 → Int64 → Int64 → Int32 → Int32 → Option Int64) (y0 : Int64) (y1 : Int64) (x1 : Int32) (x2 : Int32) (x3 : Int32) (x4 : Int64) (x6 : Int64) (x10 : Int32) (x11 : Int32) : Option Int64 :=
  h79 x1 x2 x3 x4 x6 (y0 + y1) x10 (x11 + 1)
def fM_apart_79 (fu : Nat) (k : kM) (σ : sM) (h67 : Int32 → Int32 → Int32 → Int64 → Int64 → Int64 → Int32 → Option Int64) : Nat → Int32 → Int32 → Int32 → Int64 → Int64 → Int64 → Int32 → Int32 → Option Int64
  | 0, _, _, _, _, _, _, _, _ => none
  | n + 1, x1, x2, x3, x4, x6, x8, x10, x11 =>
    if (kM_ages k) ≤ x11 then
      h67 x1 x2 x3 x4 x6 x8 (x10 + 1)
    else
      (fM_count fu k σ x1 x10 x11).bind fun v94 =>
      (fM_count fu k σ x2 x10 x11).bind fun v107 =>
      if (0 : Int64) ≤ ((v94.toInt64 * x6) - (v107.toInt64 * x4)) then
        fM_apart_134 fu k σ h67 (fM_apart_79 fu k σ h67 n) x8 ((v94.toInt64 * x6) - (v107.toInt64 * x4)) x1 x2 x3 x4 x6 x10 x11
      else
        fM_apart_134 fu k σ h67 (fM_apart_79 fu k σ h67 n) x8 (-((v94.toInt64 * x6) - (v107.toInt64 * x4))) x1 x2 x3 x4 x6 x10 x11
def fM_apart_67 (fu : Nat) (k : kM) (σ : sM) : Nat → Int32 → Int32 → Int32 → Int64 → Int64 → Int64 → Int32 → Option Int64
  | 0, _, _, _, _, _, _, _ => none
  | n + 1, x1, x2, x3, x4, x6, x8, x10 =>
    if (kM_classes k) ≤ x10 then
      (fM_partOf fu x8 (x4 * x6) x3).bind fun v157 =>
      some v157
    else
      fM_apart_79 fu k σ (fM_apart_67 fu k σ n) fu x1 x2 x3 x4 x6 x8 x10 0
def fM_apart (fu : Nat) (k : kM) (σ : sM) (x1 : Int32) (x2 : Int32) (x3 : Int32) : Option Int64 :=
  if x1 < 0 then
    some (-1 : Int64)
  else
    if 4 ≤ x1 then
      some (-1 : Int64)
    else
      if x2 < 0 then
        some (-1 : Int64)
      else
        if 4 ≤ x2 then
          some (-1 : Int64)
        else
          if (fM_isPart x3) = 0 then
            some (-1 : Int64)
          else
            (fM_inAll fu k σ x1).bind fun v27 =>
            if v27 = 0 then
              some (-1 : Int64)
            else
              (fM_inAll fu k σ x2).bind fun v35 =>
              if v35 = 0 then
                some (-1 : Int64)
              else
                (fM_inAll fu k σ x1).bind fun v47 =>
                (fM_inAll fu k σ x2).bind fun v55 =>
                fM_apart_67 fu k σ fu x1 x2 x3 v47.toInt64 v55.toInt64 (0 : Int64) 0
def fM_ofAge_4 (fu : Nat) (k : kM) (σ : sM) : Nat → Int32 → Int32 → Int32 → Option Int32
  | 0, _, _, _ => none
  | n + 1, x1, x2, x3 =>
    if (kM_classes k) ≤ x3 then
      some x2
    else
      (fM_count fu k σ (sM_chosen σ) x3 x1).bind fun v20 =>
      fM_ofAge_4 fu k σ n x1 (x2 + v20) (x3 + 1)
def fM_ofAge (fu : Nat) (k : kM) (σ : sM) (x1 : Int32) : Option Int32 :=
  fM_ofAge_4 fu k σ fu x1 0 0
def fM_classesOf_4 (fu : Nat) (k : kM) (σ : sM) : Nat → Int32 → Int32 → Int32 → Option Int32
  | 0, _, _, _ => none
  | n + 1, x1, x2, x3 =>
    if (kM_classes k) ≤ x3 then
      some x2
    else
      (fM_count fu k σ (sM_chosen σ) x3 x1).bind fun v21 =>
      fM_classesOf_4 fu k σ n x1 (x2 + (x3 * v21)) (x3 + 1)
def fM_classesOf (fu : Nat) (k : kM) (σ : sM) (x1 : Int32) : Option Int32 :=
  fM_classesOf_4 fu k σ fu x1 0 0
def fM_mean_101 (fu : Nat) (k : kM) (h14 : sM → Int32 → Int32 → Option sM) (h26 : sM → Int32 → Int32 → Int64 → Int64 → Int32 → Option sM) (σ : sM) (x1 : Int32) (x2 : Int32) (x7 : Int32) (x8 : Int64) (x10 : Int64) : Option sM :=
  h26 σ x1 x2 x8 x10 (x7 + 1)
def fM_mean_44 (fu : Nat) (k : kM) (h14 : sM → Int32 → Int32 → Option sM) (h26 : sM → Int32 → Int32 → Int64 → Int64 → Int32 → Option sM) : Nat → sM → Int32 → Int32 → Int64 → Int64 → Int32 → Int64 → Int64 → Int32 → Option sM
  | 0, _, _, _, _, _, _, _, _, _ => none
  | n + 1, σ, x1, x2, x3, x5, x7, x8, x10, x12 =>
    if x7 < x12 then
      if x5 = (0 : Int64) then
        fM_mean_101 fu k h14 h26 σ x1 x2 x7 x8 x10
      else
        if (x3 * x10) ≤ (x8 * x5) then
          h26 σ x1 x2 x3 x5 (x7 + 1)
        else
          fM_mean_101 fu k h14 h26 σ x1 x2 x7 x8 x10
    else
      (fM_classesOf fu k σ x12).bind fun v56 =>
      (fM_ofAge fu k σ x12).bind fun v68 =>
      fM_mean_44 fu k h14 h26 n σ x1 x2 x3 x5 x7 (x8 + v56.toInt64) (x10 + v68.toInt64) (x12 + 1)
def fM_mean_26 (fu : Nat) (k : kM) (h14 : sM → Int32 → Int32 → Option sM) : Nat → sM → Int32 → Int32 → Int64 → Int64 → Int32 → Option sM
  | 0, _, _, _, _, _, _ => none
  | n + 1, σ, x1, x2, x3, x5, x7 =>
    if (kM_ages k) ≤ x7 then
      if (x3 * (sM_below σ)) ≤ ((sM_above σ) * x5) then
        h14 σ x1 (x2 + (-1))
      else
        h14 (uM_below (uM_above σ x3) x5) x1 (x2 + (-1))
    else
      fM_mean_44 fu k h14 (fM_mean_26 fu k h14 n) fu σ x1 x2 x3 x5 x7 (0 : Int64) (0 : Int64) x2
def fM_mean_14 (fu : Nat) (k : kM) : Nat → sM → Int32 → Int32 → Option sM
  | 0, _, _, _ => none
  | n + 1, σ, x1, x2 =>
    if x2 < 0 then
      some σ
    else
      fM_mean_26 fu k (fM_mean_14 fu k n) fu σ x1 x2 (0 : Int64) (0 : Int64) x1
def fM_mean (fu : Nat) (k : kM) (σ : sM) (x1 : Int32) : Option sM :=
  fM_mean_14 fu k fu (uM_below (uM_above σ (-1 : Int64)) (1 : Int64)) x1 x1
def fM_length (fu : Nat) (k : kM) (σ : sM) (x1 : Int32) (x2 : Int32) : Option (Int64 × sM) :=
  if (fM_isAge k x1) = 0 then
    some ((-1 : Int64), σ)
  else
    if (fM_isPart x2) = 0 then
      some ((-1 : Int64), σ)
    else
      (fM_ofAge fu k σ x1).bind fun v17 =>
      if v17 = 0 then
        some ((-1 : Int64), σ)
      else
        (fM_mean fu k σ x1).bind fun s29 =>
        (fM_partOf fu (sM_above s29) (sM_below s29) x2).bind fun v41 =>
        some (v41, s29)
def fM_isSame (fu : Nat) (k : kM) (σ : sM) (x1 : Int32) (x2 : Int32) : Option (Int32 × sM) :=
  (fM_mean fu k σ x1).bind fun s2 =>
  (fM_mean fu k s2 x2).bind fun s18 =>
  if ((sM_above s2) * (sM_below s18)) = ((sM_above s18) * (sM_below s2)) then
    some (1, s18)
  else
    some (0, s18)
def fM_pooled_53 (fu : Nat) (k : kM) (h22 : sM → Int32 → Int32 → Int32 → Option (Int32 × sM)) (σ : sM) (y0 : Int32) (y1 : Int32) (x1 : Int32) (x3 : Int32) : Option (Int32 × sM) :=
  h22 σ x1 (y0 + y1) (x3 + 1)
def fM_pooled_52 (fu : Nat) (k : kM) (h22 : sM → Int32 → Int32 → Int32 → Option (Int32 × sM)) (σ : sM) (y0 : Int32) (x1 : Int32) (x3 : Int32) : Option (Int32 × sM) :=
  fM_pooled_53 fu k h22 σ y0 0 x1 x3
def fM_pooled_22 (fu : Nat) (k : kM) : Nat → sM → Int32 → Int32 → Int32 → Option (Int32 × sM)
  | 0, _, _, _, _ => none
  | n + 1, σ, x1, x2, x3 =>
    if (kM_ages k) ≤ x3 then
      some (x2, σ)
    else
      (fM_ofAge fu k σ x3).bind fun v33 =>
      if v33 ≤ 0 then
        fM_pooled_52 fu k (fM_pooled_22 fu k n) σ x2 x1 x3
      else
        kbind2 (fM_isSame fu k σ x1 x3) fun v42 s42 =>
        if v42 = 0 then
          fM_pooled_52 fu k (fM_pooled_22 fu k n) s42 x2 x1 x3
        else
          fM_pooled_53 fu k (fM_pooled_22 fu k n) s42 x2 1 x1 x3
def fM_pooled (fu : Nat) (k : kM) (σ : sM) (x1 : Int32) : Option (Int32 × sM) :=
  if (fM_isAge k x1) = 0 then
    some (0, σ)
  else
    (fM_ofAge fu k σ x1).bind fun v10 =>
    if v10 = 0 then
      some (0, σ)
    else
      fM_pooled_22 fu k fu σ x1 0 0
def fM_sex (k : kM) (σ : sM) (x1 : Int32) (x2 : Int32) (x3 : Int32) : Option (Int32 × sM) :=
  if (fM_isClass k x1) = 0 then
    some (0, σ)
  else
    if x2 < 0 then
      some (0, σ)
    else
      if x3 < x2 then
        some (0, σ)
      else
        if x3 ≤ 100 then
          (kstI (kM_n k 5) (sM_maleCount σ) x1 x2).bind fun a31 =>
          (kstI (kM_n k 6) (sM_sexCount (uM_maleCount σ a31)) x1 x3).bind fun a38 =>
          some (1, (uM_sexCount (uM_maleCount σ a31) a38))
        else
          some (0, σ)
def fM_males_95 (fu : Nat) (k : kM) (σ : sM) (h27 : Int32 → Int32 → Int32 → Int32 → Int32 → Option Int64) (y0 : Int32) (y1 : Int32) (x1 : Int32) (x2 : Int32) (x3 : Int32) (x5 : Int32) : Option Int64 :=
  h27 x1 x2 x3 (y0 + y1) (x5 + 1)
def fM_males_64 (fu : Nat) (k : kM) (σ : sM) (h27 : Int32 → Int32 → Int32 → Int32 → Int32 → Option Int64) (y0 : Int32) (y1 : Int32) (x1 : Int32) (x2 : Int32) (x4 : Int32) (x5 : Int32) : Option Int64 :=
  (kld (kM_n k 1) (sM_group σ) x5).bind fun v74 =>
  (kld (kM_n k 1) (sM_group σ) x1).bind fun v80 =>
  if v74 = v80 then
    (kld (kM_n k 6) (sM_sexCount σ) x5).bind fun v90 =>
    fM_males_95 fu k σ h27 x4 v90 x1 x2 (y0 + y1) x5
  else
    fM_males_95 fu k σ h27 x4 0 x1 x2 (y0 + y1) x5
def fM_males_27 (fu : Nat) (k : kM) (σ : sM) : Nat → Int32 → Int32 → Int32 → Int32 → Int32 → Option Int64
  | 0, _, _, _, _, _ => none
  | n + 1, x1, x2, x3, x4, x5 =>
    if (kM_classes k) ≤ x5 then
      if x4 = 0 then
        some (-1 : Int64)
      else
        (fM_partOf fu x3.toInt64 x4.toInt64 x2).bind fun v121 =>
        some v121
    else
      (kld (kM_n k 1) (sM_group σ) x5).bind fun v43 =>
      (kld (kM_n k 1) (sM_group σ) x1).bind fun v49 =>
      if v43 = v49 then
        (kld (kM_n k 5) (sM_maleCount σ) x5).bind fun v59 =>
        fM_males_64 fu k σ (fM_males_27 fu k σ n) x3 v59 x1 x2 x4 x5
      else
        fM_males_64 fu k σ (fM_males_27 fu k σ n) x3 0 x1 x2 x4 x5
def fM_males (fu : Nat) (k : kM) (σ : sM) (x1 : Int32) (x2 : Int32) : Option Int64 :=
  if (fM_isClass k x1) = 0 then
    some (-1 : Int64)
  else
    if (fM_isPart x2) = 0 then
      some (-1 : Int64)
    else
      fM_males_27 fu k σ fu x1 x2 0 0 0
end
