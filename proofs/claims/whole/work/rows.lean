section
-- ===== PART A: goes FIRST, ahead of the names: the tables' words, and 'selects' of the private methods out of them =====
/-- a private method of a class that the tables say can be made, by its rows of tables_1 -/
def lw_okq (q : MethodName × Nat) : Prop := (q.1.cls ≠ "java/lang/invoke/MethodHandle" ∧ q.1.cls ≠ "java/lang/invoke/VarHandle") ∧ Cond.instantiable q.1.cls q.2 ∈ tables_1 ∧ Cond.privateMethod q.1 ∈ tables_1 ∧ Cond.instanceMethod q.1 ∈ tables_1
theorem lw_p0 : lw_okq (⟨"AgeKeys", "isClass", "(I)Z"⟩, 19) := ⟨⟨by decide +kernel, by decide +kernel⟩, List.mem_of_getElem? (i := 5) (by decide +kernel), List.mem_of_getElem? (i := 83) (by decide +kernel), List.mem_of_getElem? (i := 84) (by decide +kernel)⟩
theorem lw_p1 : lw_okq (⟨"AgeKeys", "isAge", "(I)Z"⟩, 19) := ⟨⟨by decide +kernel, by decide +kernel⟩, List.mem_of_getElem? (i := 5) (by decide +kernel), List.mem_of_getElem? (i := 87) (by decide +kernel), List.mem_of_getElem? (i := 88) (by decide +kernel)⟩
theorem lw_p2 : lw_okq (⟨"AgeKeys", "sizeIn", "(II)I"⟩, 19) := ⟨⟨by decide +kernel, by decide +kernel⟩, List.mem_of_getElem? (i := 5) (by decide +kernel), List.mem_of_getElem? (i := 94) (by decide +kernel), List.mem_of_getElem? (i := 95) (by decide +kernel)⟩
theorem lw_p3 : lw_okq (⟨"AgeKeys", "countReading", "(III)V"⟩, 19) := ⟨⟨by decide +kernel, by decide +kernel⟩, List.mem_of_getElem? (i := 5) (by decide +kernel), List.mem_of_getElem? (i := 98) (by decide +kernel), List.mem_of_getElem? (i := 99) (by decide +kernel)⟩
theorem lw_p4 : lw_okq (⟨"AgeKeys", "cell", "(III)I"⟩, 19) := ⟨⟨by decide +kernel, by decide +kernel⟩, List.mem_of_getElem? (i := 5) (by decide +kernel), List.mem_of_getElem? (i := 102) (by decide +kernel), List.mem_of_getElem? (i := 103) (by decide +kernel)⟩
theorem lw_p5 : lw_okq (⟨"AgeKeys", "sourceOf", "(I)I"⟩, 19) := ⟨⟨by decide +kernel, by decide +kernel⟩, List.mem_of_getElem? (i := 5) (by decide +kernel), List.mem_of_getElem? (i := 118) (by decide +kernel), List.mem_of_getElem? (i := 119) (by decide +kernel)⟩
theorem lw_p6 : lw_okq (⟨"AgeKeys", "own", "(I)I"⟩, 19) := ⟨⟨by decide +kernel, by decide +kernel⟩, List.mem_of_getElem? (i := 5) (by decide +kernel), List.mem_of_getElem? (i := 122) (by decide +kernel), List.mem_of_getElem? (i := 123) (by decide +kernel)⟩
theorem lw_p7 : lw_okq (⟨"AgeKeys", "ownOfAge", "(II)I"⟩, 19) := ⟨⟨by decide +kernel, by decide +kernel⟩, List.mem_of_getElem? (i := 5) (by decide +kernel), List.mem_of_getElem? (i := 126) (by decide +kernel), List.mem_of_getElem? (i := 127) (by decide +kernel)⟩
theorem lw_p8 : lw_okq (⟨"AgeKeys", "isLeastOfGroup", "(I)Z"⟩, 19) := ⟨⟨by decide +kernel, by decide +kernel⟩, List.mem_of_getElem? (i := 5) (by decide +kernel), List.mem_of_getElem? (i := 147) (by decide +kernel), List.mem_of_getElem? (i := 148) (by decide +kernel)⟩
theorem lw_p9 : lw_okq (⟨"AgeKeys", "nearestWithReadings", "(I)I"⟩, 19) := ⟨⟨by decide +kernel, by decide +kernel⟩, List.mem_of_getElem? (i := 5) (by decide +kernel), List.mem_of_getElem? (i := 155) (by decide +kernel), List.mem_of_getElem? (i := 156) (by decide +kernel)⟩
theorem lw_p10 : lw_okq (⟨"AgeKeys", "distanceTo", "(II)I"⟩, 19) := ⟨⟨by decide +kernel, by decide +kernel⟩, List.mem_of_getElem? (i := 5) (by decide +kernel), List.mem_of_getElem? (i := 159) (by decide +kernel), List.mem_of_getElem? (i := 160) (by decide +kernel)⟩
theorem lw_p11 : lw_okq (⟨"AgeKeys", "dropFills", "(II)V"⟩, 19) := ⟨⟨by decide +kernel, by decide +kernel⟩, List.mem_of_getElem? (i := 5) (by decide +kernel), List.mem_of_getElem? (i := 174) (by decide +kernel), List.mem_of_getElem? (i := 175) (by decide +kernel)⟩
theorem lw_p12 : lw_okq (⟨"AgeKeys", "moveReadings", "(II)V"⟩, 19) := ⟨⟨by decide +kernel, by decide +kernel⟩, List.mem_of_getElem? (i := 5) (by decide +kernel), List.mem_of_getElem? (i := 178) (by decide +kernel), List.mem_of_getElem? (i := 179) (by decide +kernel)⟩
theorem lw_p13 : lw_okq (⟨"AgeKeys", "canRaise", "(J)Z"⟩, 19) := ⟨⟨by decide +kernel, by decide +kernel⟩, List.mem_of_getElem? (i := 5) (by decide +kernel), List.mem_of_getElem? (i := 195) (by decide +kernel), List.mem_of_getElem? (i := 196) (by decide +kernel)⟩
theorem lw_p14 : lw_okq (⟨"AgeKeys", "measuredOfAge", "(I)J"⟩, 19) := ⟨⟨by decide +kernel, by decide +kernel⟩, List.mem_of_getElem? (i := 5) (by decide +kernel), List.mem_of_getElem? (i := 199) (by decide +kernel), List.mem_of_getElem? (i := 200) (by decide +kernel)⟩
theorem lw_p15 : lw_okq (⟨"AgeKeys", "commonShare", "(II)J"⟩, 19) := ⟨⟨by decide +kernel, by decide +kernel⟩, List.mem_of_getElem? (i := 5) (by decide +kernel), List.mem_of_getElem? (i := 203) (by decide +kernel), List.mem_of_getElem? (i := 204) (by decide +kernel)⟩
def lw_privs_1 : List (MethodName × Nat) := [(⟨"AgeKeys", "isClass", "(I)Z"⟩, 19), (⟨"AgeKeys", "isAge", "(I)Z"⟩, 19), (⟨"AgeKeys", "sizeIn", "(II)I"⟩, 19), (⟨"AgeKeys", "countReading", "(III)V"⟩, 19), (⟨"AgeKeys", "cell", "(III)I"⟩, 19), (⟨"AgeKeys", "sourceOf", "(I)I"⟩, 19), (⟨"AgeKeys", "own", "(I)I"⟩, 19), (⟨"AgeKeys", "ownOfAge", "(II)I"⟩, 19), (⟨"AgeKeys", "isLeastOfGroup", "(I)Z"⟩, 19), (⟨"AgeKeys", "nearestWithReadings", "(I)I"⟩, 19), (⟨"AgeKeys", "distanceTo", "(II)I"⟩, 19), (⟨"AgeKeys", "dropFills", "(II)V"⟩, 19), (⟨"AgeKeys", "moveReadings", "(II)V"⟩, 19), (⟨"AgeKeys", "canRaise", "(J)Z"⟩, 19), (⟨"AgeKeys", "measuredOfAge", "(I)J"⟩, 19), (⟨"AgeKeys", "commonShare", "(II)J"⟩, 19)]
theorem lw_r1 : ∀ q ∈ lw_privs_1, lw_okq q := List.forall_mem_cons.mpr ⟨lw_p0, List.forall_mem_cons.mpr ⟨lw_p1, List.forall_mem_cons.mpr ⟨lw_p2, List.forall_mem_cons.mpr ⟨lw_p3, List.forall_mem_cons.mpr ⟨lw_p4, List.forall_mem_cons.mpr ⟨lw_p5, List.forall_mem_cons.mpr ⟨lw_p6, List.forall_mem_cons.mpr ⟨lw_p7, List.forall_mem_cons.mpr ⟨lw_p8, List.forall_mem_cons.mpr ⟨lw_p9, List.forall_mem_cons.mpr ⟨lw_p10, List.forall_mem_cons.mpr ⟨lw_p11, List.forall_mem_cons.mpr ⟨lw_p12, List.forall_mem_cons.mpr ⟨lw_p13, List.forall_mem_cons.mpr ⟨lw_p14, List.forall_mem_cons.mpr ⟨lw_p15, fun _ h => absurd h List.not_mem_nil⟩⟩⟩⟩⟩⟩⟩⟩⟩⟩⟩⟩⟩⟩⟩⟩
theorem lw_p16 : lw_okq (⟨"AgeKeys", "errorSum", "(I)I"⟩, 19) := ⟨⟨by decide +kernel, by decide +kernel⟩, List.mem_of_getElem? (i := 5) (by decide +kernel), List.mem_of_getElem? (i := 220) (by decide +kernel), List.mem_of_getElem? (i := 221) (by decide +kernel)⟩
theorem lw_p17 : lw_okq (⟨"AgeKeys", "loadErrors", "()V"⟩, 19) := ⟨⟨by decide +kernel, by decide +kernel⟩, List.mem_of_getElem? (i := 5) (by decide +kernel), List.mem_of_getElem? (i := 224) (by decide +kernel), List.mem_of_getElem? (i := 225) (by decide +kernel)⟩
theorem lw_p18 : lw_okq (⟨"AgeKeys", "determinant", "()J"⟩, 19) := ⟨⟨by decide +kernel, by decide +kernel⟩, List.mem_of_getElem? (i := 5) (by decide +kernel), List.mem_of_getElem? (i := 228) (by decide +kernel), List.mem_of_getElem? (i := 229) (by decide +kernel)⟩
theorem lw_p19 : lw_okq (⟨"AgeKeys", "pivotRow", "(I)I"⟩, 19) := ⟨⟨by decide +kernel, by decide +kernel⟩, List.mem_of_getElem? (i := 5) (by decide +kernel), List.mem_of_getElem? (i := 232) (by decide +kernel), List.mem_of_getElem? (i := 233) (by decide +kernel)⟩
theorem lw_p20 : lw_okq (⟨"AgeKeys", "swapRows", "(II)V"⟩, 19) := ⟨⟨by decide +kernel, by decide +kernel⟩, List.mem_of_getElem? (i := 5) (by decide +kernel), List.mem_of_getElem? (i := 236) (by decide +kernel), List.mem_of_getElem? (i := 237) (by decide +kernel)⟩
theorem lw_p21 : lw_okq (⟨"AgeKeys", "clearBelow", "(IJ)V"⟩, 19) := ⟨⟨by decide +kernel, by decide +kernel⟩, List.mem_of_getElem? (i := 5) (by decide +kernel), List.mem_of_getElem? (i := 240) (by decide +kernel), List.mem_of_getElem? (i := 241) (by decide +kernel)⟩
theorem lw_p22 : lw_okq (⟨"AgeKeys", "poolOf", "(I)I"⟩, 19) := ⟨⟨by decide +kernel, by decide +kernel⟩, List.mem_of_getElem? (i := 5) (by decide +kernel), List.mem_of_getElem? (i := 258) (by decide +kernel), List.mem_of_getElem? (i := 259) (by decide +kernel)⟩
theorem lw_p23 : lw_okq (⟨"AgeKeys", "readingsOfAge", "(I)I"⟩, 19) := ⟨⟨by decide +kernel, by decide +kernel⟩, List.mem_of_getElem? (i := 5) (by decide +kernel), List.mem_of_getElem? (i := 262) (by decide +kernel), List.mem_of_getElem? (i := 263) (by decide +kernel)⟩
theorem lw_p24 : lw_okq (⟨"AgeKeys", "makePools", "()I"⟩, 19) := ⟨⟨by decide +kernel, by decide +kernel⟩, List.mem_of_getElem? (i := 5) (by decide +kernel), List.mem_of_getElem? (i := 266) (by decide +kernel), List.mem_of_getElem? (i := 267) (by decide +kernel)⟩
theorem lw_p25 : lw_okq (⟨"AgeKeys", "openPool", "(II)V"⟩, 19) := ⟨⟨by decide +kernel, by decide +kernel⟩, List.mem_of_getElem? (i := 5) (by decide +kernel), List.mem_of_getElem? (i := 270) (by decide +kernel), List.mem_of_getElem? (i := 271) (by decide +kernel)⟩
theorem lw_p26 : lw_okq (⟨"AgeKeys", "doesNotRise", "(I)Z"⟩, 19) := ⟨⟨by decide +kernel, by decide +kernel⟩, List.mem_of_getElem? (i := 5) (by decide +kernel), List.mem_of_getElem? (i := 274) (by decide +kernel), List.mem_of_getElem? (i := 275) (by decide +kernel)⟩
theorem lw_p27 : lw_okq (⟨"AgeKeys", "joinWithPoolBefore", "(I)V"⟩, 19) := ⟨⟨by decide +kernel, by decide +kernel⟩, List.mem_of_getElem? (i := 5) (by decide +kernel), List.mem_of_getElem? (i := 278) (by decide +kernel), List.mem_of_getElem? (i := 279) (by decide +kernel)⟩
theorem lw_p28 : lw_okq (⟨"AgeKeysModel", "isClass", "(I)Z"⟩, 13) := ⟨⟨by decide +kernel, by decide +kernel⟩, List.mem_of_getElem? (i := 297) (by decide +kernel), List.mem_of_getElem? (i := 347) (by decide +kernel), List.mem_of_getElem? (i := 348) (by decide +kernel)⟩
theorem lw_p29 : lw_okq (⟨"AgeKeysModel", "isAge", "(I)Z"⟩, 13) := ⟨⟨by decide +kernel, by decide +kernel⟩, List.mem_of_getElem? (i := 297) (by decide +kernel), List.mem_of_getElem? (i := 351) (by decide +kernel), List.mem_of_getElem? (i := 352) (by decide +kernel)⟩
theorem lw_p30 : lw_okq (⟨"AgeKeysModel", "inGroup", "(III)I"⟩, 13) := ⟨⟨by decide +kernel, by decide +kernel⟩, List.mem_of_getElem? (i := 297) (by decide +kernel), List.mem_of_getElem? (i := 355) (by decide +kernel), List.mem_of_getElem? (i := 356) (by decide +kernel)⟩
theorem lw_p31 : lw_okq (⟨"AgeKeysModel", "count", "(III)I"⟩, 13) := ⟨⟨by decide +kernel, by decide +kernel⟩, List.mem_of_getElem? (i := 297) (by decide +kernel), List.mem_of_getElem? (i := 359) (by decide +kernel), List.mem_of_getElem? (i := 360) (by decide +kernel)⟩
def lw_privs_2 : List (MethodName × Nat) := [(⟨"AgeKeys", "errorSum", "(I)I"⟩, 19), (⟨"AgeKeys", "loadErrors", "()V"⟩, 19), (⟨"AgeKeys", "determinant", "()J"⟩, 19), (⟨"AgeKeys", "pivotRow", "(I)I"⟩, 19), (⟨"AgeKeys", "swapRows", "(II)V"⟩, 19), (⟨"AgeKeys", "clearBelow", "(IJ)V"⟩, 19), (⟨"AgeKeys", "poolOf", "(I)I"⟩, 19), (⟨"AgeKeys", "readingsOfAge", "(I)I"⟩, 19), (⟨"AgeKeys", "makePools", "()I"⟩, 19), (⟨"AgeKeys", "openPool", "(II)V"⟩, 19), (⟨"AgeKeys", "doesNotRise", "(I)Z"⟩, 19), (⟨"AgeKeys", "joinWithPoolBefore", "(I)V"⟩, 19), (⟨"AgeKeysModel", "isClass", "(I)Z"⟩, 13), (⟨"AgeKeysModel", "isAge", "(I)Z"⟩, 13), (⟨"AgeKeysModel", "inGroup", "(III)I"⟩, 13), (⟨"AgeKeysModel", "count", "(III)I"⟩, 13)]
theorem lw_r2 : ∀ q ∈ lw_privs_2, lw_okq q := List.forall_mem_cons.mpr ⟨lw_p16, List.forall_mem_cons.mpr ⟨lw_p17, List.forall_mem_cons.mpr ⟨lw_p18, List.forall_mem_cons.mpr ⟨lw_p19, List.forall_mem_cons.mpr ⟨lw_p20, List.forall_mem_cons.mpr ⟨lw_p21, List.forall_mem_cons.mpr ⟨lw_p22, List.forall_mem_cons.mpr ⟨lw_p23, List.forall_mem_cons.mpr ⟨lw_p24, List.forall_mem_cons.mpr ⟨lw_p25, List.forall_mem_cons.mpr ⟨lw_p26, List.forall_mem_cons.mpr ⟨lw_p27, List.forall_mem_cons.mpr ⟨lw_p28, List.forall_mem_cons.mpr ⟨lw_p29, List.forall_mem_cons.mpr ⟨lw_p30, List.forall_mem_cons.mpr ⟨lw_p31, fun _ h => absurd h List.not_mem_nil⟩⟩⟩⟩⟩⟩⟩⟩⟩⟩⟩⟩⟩⟩⟩⟩
theorem lw_p32 : lw_okq (⟨"AgeKeysModel", "inAll", "(I)I"⟩, 13) := ⟨⟨by decide +kernel, by decide +kernel⟩, List.mem_of_getElem? (i := 297) (by decide +kernel), List.mem_of_getElem? (i := 366) (by decide +kernel), List.mem_of_getElem? (i := 367) (by decide +kernel)⟩
theorem lw_p33 : lw_okq (⟨"AgeKeysModel", "source", "(I)I"⟩, 13) := ⟨⟨by decide +kernel, by decide +kernel⟩, List.mem_of_getElem? (i := 297) (by decide +kernel), List.mem_of_getElem? (i := 382) (by decide +kernel), List.mem_of_getElem? (i := 383) (by decide +kernel)⟩
theorem lw_p34 : lw_okq (⟨"AgeKeysModel", "own", "(I)I"⟩, 13) := ⟨⟨by decide +kernel, by decide +kernel⟩, List.mem_of_getElem? (i := 297) (by decide +kernel), List.mem_of_getElem? (i := 386) (by decide +kernel), List.mem_of_getElem? (i := 387) (by decide +kernel)⟩
theorem lw_p35 : lw_okq (⟨"AgeKeysModel", "distance", "(II)I"⟩, 13) := ⟨⟨by decide +kernel, by decide +kernel⟩, List.mem_of_getElem? (i := 297) (by decide +kernel), List.mem_of_getElem? (i := 401) (by decide +kernel), List.mem_of_getElem? (i := 402) (by decide +kernel)⟩
theorem lw_p36 : lw_okq (⟨"AgeKeysModel", "allMeasured", "()J"⟩, 13) := ⟨⟨by decide +kernel, by decide +kernel⟩, List.mem_of_getElem? (i := 297) (by decide +kernel), List.mem_of_getElem? (i := 422) (by decide +kernel), List.mem_of_getElem? (i := 423) (by decide +kernel)⟩
theorem lw_p37 : lw_okq (⟨"AgeKeysModel", "raise", "(JI)Z"⟩, 13) := ⟨⟨by decide +kernel, by decide +kernel⟩, List.mem_of_getElem? (i := 297) (by decide +kernel), List.mem_of_getElem? (i := 430) (by decide +kernel), List.mem_of_getElem? (i := 431) (by decide +kernel)⟩
theorem lw_p38 : lw_okq (⟨"AgeKeysModel", "lay", "(II)V"⟩, 13) := ⟨⟨by decide +kernel, by decide +kernel⟩, List.mem_of_getElem? (i := 297) (by decide +kernel), List.mem_of_getElem? (i := 451) (by decide +kernel), List.mem_of_getElem? (i := 452) (by decide +kernel)⟩
theorem lw_p39 : lw_okq (⟨"AgeKeysModel", "determinant", "()J"⟩, 13) := ⟨⟨by decide +kernel, by decide +kernel⟩, List.mem_of_getElem? (i := 297) (by decide +kernel), List.mem_of_getElem? (i := 456) (by decide +kernel), List.mem_of_getElem? (i := 457) (by decide +kernel)⟩
theorem lw_p40 : lw_okq (⟨"AgeKeysModel", "ofAge", "(I)I"⟩, 13) := ⟨⟨by decide +kernel, by decide +kernel⟩, List.mem_of_getElem? (i := 297) (by decide +kernel), List.mem_of_getElem? (i := 473) (by decide +kernel), List.mem_of_getElem? (i := 474) (by decide +kernel)⟩
theorem lw_p41 : lw_okq (⟨"AgeKeysModel", "mean", "(I)V"⟩, 13) := ⟨⟨by decide +kernel, by decide +kernel⟩, List.mem_of_getElem? (i := 297) (by decide +kernel), List.mem_of_getElem? (i := 477) (by decide +kernel), List.mem_of_getElem? (i := 478) (by decide +kernel)⟩
theorem lw_p42 : lw_okq (⟨"AgeKeysModel", "classesOf", "(I)I"⟩, 13) := ⟨⟨by decide +kernel, by decide +kernel⟩, List.mem_of_getElem? (i := 297) (by decide +kernel), List.mem_of_getElem? (i := 481) (by decide +kernel), List.mem_of_getElem? (i := 482) (by decide +kernel)⟩
theorem lw_p43 : lw_okq (⟨"AgeKeysModel", "isSame", "(II)Z"⟩, 13) := ⟨⟨by decide +kernel, by decide +kernel⟩, List.mem_of_getElem? (i := 297) (by decide +kernel), List.mem_of_getElem? (i := 489) (by decide +kernel), List.mem_of_getElem? (i := 490) (by decide +kernel)⟩
def lw_privs_3 : List (MethodName × Nat) := [(⟨"AgeKeysModel", "inAll", "(I)I"⟩, 13), (⟨"AgeKeysModel", "source", "(I)I"⟩, 13), (⟨"AgeKeysModel", "own", "(I)I"⟩, 13), (⟨"AgeKeysModel", "distance", "(II)I"⟩, 13), (⟨"AgeKeysModel", "allMeasured", "()J"⟩, 13), (⟨"AgeKeysModel", "raise", "(JI)Z"⟩, 13), (⟨"AgeKeysModel", "lay", "(II)V"⟩, 13), (⟨"AgeKeysModel", "determinant", "()J"⟩, 13), (⟨"AgeKeysModel", "ofAge", "(I)I"⟩, 13), (⟨"AgeKeysModel", "mean", "(I)V"⟩, 13), (⟨"AgeKeysModel", "classesOf", "(I)I"⟩, 13), (⟨"AgeKeysModel", "isSame", "(II)Z"⟩, 13)]
theorem lw_r3 : ∀ q ∈ lw_privs_3, lw_okq q := List.forall_mem_cons.mpr ⟨lw_p32, List.forall_mem_cons.mpr ⟨lw_p33, List.forall_mem_cons.mpr ⟨lw_p34, List.forall_mem_cons.mpr ⟨lw_p35, List.forall_mem_cons.mpr ⟨lw_p36, List.forall_mem_cons.mpr ⟨lw_p37, List.forall_mem_cons.mpr ⟨lw_p38, List.forall_mem_cons.mpr ⟨lw_p39, List.forall_mem_cons.mpr ⟨lw_p40, List.forall_mem_cons.mpr ⟨lw_p41, List.forall_mem_cons.mpr ⟨lw_p42, List.forall_mem_cons.mpr ⟨lw_p43, fun _ h => absurd h List.not_mem_nil⟩⟩⟩⟩⟩⟩⟩⟩⟩⟩⟩⟩
def lw_privs : List (MethodName × Nat) := lw_privs_1 ++ (lw_privs_2 ++ (lw_privs_3))
def lw_tbl : List Cond := k2_sels lw_privs ++ tables_1
theorem lw_privs_ok : ∀ q ∈ lw_privs, lw_okq q := by
  show ∀ q ∈ lw_privs_1 ++ (lw_privs_2 ++ (lw_privs_3)), lw_okq q
  exact List.forall_mem_append.mpr ⟨lw_r1, List.forall_mem_append.mpr ⟨lw_r2, lw_r3⟩⟩
-- ===== names =====
theorem kmem_r {big ws : List Cond} (ps : List Nat) (hp : ws = ps.filterMap (fun i => big[i]?)) : ∀ w ∈ ws, w ∈ big := by
  intro w hw
  rw [hp] at hw
  obtain ⟨i, -, hi⟩ := List.mem_filterMap.mp hw
  exact List.mem_of_getElem? hi
theorem kgood_self {T : List Cond} (h : T.all goodWord = true) : GoodIn T T := fun w hw => ⟨hw, good_of_word (List.all_eq_true.mp h w hw)⟩
def RK : String := "AgeKeys"
def FK : u_T := fun k => match k with
  | 0 => ("AgeKeys", "classes", "I", true)
  | 1 => ("AgeKeys", "ages", "I", true)
  | 2 => ("AgeKeys", "chosenRow", "I", false)
  | 3 => ("AgeKeys", "readings", "[I", true)
  | 4 => ("AgeKeys", "rowSize", "[I", true)
  | 5 => ("AgeKeys", "groupReadings", "[I", true)
  | 6 => ("AgeKeys", "groupSize", "[I", true)
  | 7 => ("AgeKeys", "groupOf", "[I", true)
  | 8 => ("AgeKeys", "filledBy", "[I", true)
  | 9 => ("AgeKeys", "measured", "[J", true)
  | 10 => ("AgeKeys", "measuredInAll", "J", false)
  | 11 => ("AgeKeys", "errors", "[I", true)
  | 12 => ("AgeKeys", "square", "[J", true)
  | 13 => ("AgeKeys", "poolSum", "[I", true)
  | 14 => ("AgeKeys", "poolSize", "[I", true)
  | 15 => ("AgeKeys", "poolAges", "[I", true)
  | 16 => ("AgeKeys", "poolLastAge", "[I", true)
  | 17 => ("AgeKeys", "maleCount", "[I", true)
  | _ => ("AgeKeys", "lookedAt", "[I", true)
def tyK : Nat → FieldType := fun k => match k with
  | 0 => .int
  | 1 => .int
  | 2 => .int
  | 3 => (.array .int)
  | 4 => (.array .int)
  | 5 => (.array .int)
  | 6 => (.array .int)
  | 7 => (.array .int)
  | 8 => (.array .int)
  | 9 => (.array .long)
  | 10 => .long
  | 11 => (.array .int)
  | 12 => (.array .long)
  | 13 => (.array .int)
  | 14 => (.array .int)
  | 15 => (.array .int)
  | 16 => (.array .int)
  | 17 => (.array .int)
  | _ => (.array .int)
abbrev cK_init : ByteArray := prog_1_method_1_code
def yK_init : MethodName := ⟨RK, "<init>", "(II)V"⟩
abbrev cK_read : ByteArray := prog_1_method_2_code
def yK_read : MethodName := ⟨RK, "read", "(III)Z"⟩
abbrev cK_place : ByteArray := prog_1_method_3_code
def yK_place : MethodName := ⟨RK, "place", "(I)I"⟩
abbrev cK_countReading : ByteArray := prog_1_method_4_code
def yK_countReading : MethodName := ⟨RK, "countReading", "(III)V"⟩
abbrev cK_share : ByteArray := prog_1_method_5_code
def yK_share : MethodName := ⟨RK, "share", "(III)J"⟩
abbrev cK_without : ByteArray := prog_1_method_6_code
def yK_without : MethodName := ⟨RK, "without", "(IIII)J"⟩
abbrev cK_sourceOf : ByteArray := prog_1_method_7_code
def yK_sourceOf : MethodName := ⟨RK, "sourceOf", "(I)I"⟩
abbrev cK_empty : ByteArray := prog_1_method_8_code
def yK_empty : MethodName := ⟨RK, "empty", "(I)I"⟩
abbrev cK_fill : ByteArray := prog_1_method_9_code
def yK_fill : MethodName := ⟨RK, "fill", "(I)I"⟩
abbrev cK_marked : ByteArray := prog_1_method_10_code
def yK_marked : MethodName := ⟨RK, "marked", "(I)Z"⟩
abbrev cK_joined : ByteArray := prog_1_method_11_code
def yK_joined : MethodName := ⟨RK, "joined", "(II)I"⟩
abbrev cK_groups : ByteArray := prog_1_method_12_code
def yK_groups : MethodName := ⟨RK, "groups", "()I"⟩
abbrev cK_nearestWithReadings : ByteArray := prog_1_method_13_code
def yK_nearestWithReadings : MethodName := ⟨RK, "nearestWithReadings", "(I)I"⟩
abbrev cK_distanceTo : ByteArray := prog_1_method_14_code
def yK_distanceTo : MethodName := ⟨RK, "distanceTo", "(II)I"⟩
abbrev cK_dropFills : ByteArray := prog_1_method_15_code
def yK_dropFills : MethodName := ⟨RK, "dropFills", "(II)V"⟩
abbrev cK_moveReadings : ByteArray := prog_1_method_16_code
def yK_moveReadings : MethodName := ⟨RK, "moveReadings", "(II)V"⟩
abbrev cK_sample : ByteArray := prog_1_method_17_code
def yK_sample : MethodName := ⟨RK, "sample", "(IJ)Z"⟩
abbrev cK_raised : ByteArray := prog_1_method_18_code
def yK_raised : MethodName := ⟨RK, "raised", "(JII)J"⟩
abbrev cK_sums : ByteArray := prog_1_method_19_code
def yK_sums : MethodName := ⟨RK, "sums", "(J)Z"⟩
abbrev cK_canRaise : ByteArray := prog_1_method_20_code
def yK_canRaise : MethodName := ⟨RK, "canRaise", "(J)Z"⟩
abbrev cK_measuredOfAge : ByteArray := prog_1_method_21_code
def yK_measuredOfAge : MethodName := ⟨RK, "measuredOfAge", "(I)J"⟩
abbrev cK_commonShare : ByteArray := prog_1_method_22_code
def yK_commonShare : MethodName := ⟨RK, "commonShare", "(II)J"⟩
abbrev cK_error : ByteArray := prog_1_method_23_code
def yK_error : MethodName := ⟨RK, "error", "(III)Z"⟩
abbrev cK_undo : ByteArray := prog_1_method_24_code
def yK_undo : MethodName := ⟨RK, "undo", "()I"⟩
abbrev cK_undone : ByteArray := prog_1_method_25_code
def yK_undone : MethodName := ⟨RK, "undone", "(III)J"⟩
abbrev cK_errorSum : ByteArray := prog_1_method_26_code
def yK_errorSum : MethodName := ⟨RK, "errorSum", "(I)I"⟩
abbrev cK_loadErrors : ByteArray := prog_1_method_27_code
def yK_loadErrors : MethodName := ⟨RK, "loadErrors", "()V"⟩
abbrev cK_determinant : ByteArray := prog_1_method_28_code
def yK_determinant : MethodName := ⟨RK, "determinant", "()J"⟩
abbrev cK_pivotRow : ByteArray := prog_1_method_29_code
def yK_pivotRow : MethodName := ⟨RK, "pivotRow", "(I)I"⟩
abbrev cK_swapRows : ByteArray := prog_1_method_30_code
def yK_swapRows : MethodName := ⟨RK, "swapRows", "(II)V"⟩
abbrev cK_clearBelow : ByteArray := prog_1_method_31_code
def yK_clearBelow : MethodName := ⟨RK, "clearBelow", "(IJ)V"⟩
abbrev cK_apart : ByteArray := prog_1_method_32_code
def yK_apart : MethodName := ⟨RK, "apart", "(III)J"⟩
abbrev cK_length : ByteArray := prog_1_method_33_code
def yK_length : MethodName := ⟨RK, "length", "(II)J"⟩
abbrev cK_pooled : ByteArray := prog_1_method_34_code
def yK_pooled : MethodName := ⟨RK, "pooled", "(I)I"⟩
abbrev cK_poolOf : ByteArray := prog_1_method_35_code
def yK_poolOf : MethodName := ⟨RK, "poolOf", "(I)I"⟩
abbrev cK_makePools : ByteArray := prog_1_method_36_code
def yK_makePools : MethodName := ⟨RK, "makePools", "()I"⟩
abbrev cK_openPool : ByteArray := prog_1_method_37_code
def yK_openPool : MethodName := ⟨RK, "openPool", "(II)V"⟩
abbrev cK_doesNotRise : ByteArray := prog_1_method_38_code
def yK_doesNotRise : MethodName := ⟨RK, "doesNotRise", "(I)Z"⟩
abbrev cK_joinWithPoolBefore : ByteArray := prog_1_method_39_code
def yK_joinWithPoolBefore : MethodName := ⟨RK, "joinWithPoolBefore", "(I)V"⟩
abbrev cK_readingsOfAge : ByteArray := prog_1_method_40_code
def yK_readingsOfAge : MethodName := ⟨RK, "readingsOfAge", "(I)I"⟩
abbrev cK_sex : ByteArray := prog_1_method_41_code
def yK_sex : MethodName := ⟨RK, "sex", "(III)Z"⟩
abbrev cK_males : ByteArray := prog_1_method_42_code
def yK_males : MethodName := ⟨RK, "males", "(II)J"⟩
abbrev cK_isClass : ByteArray := prog_1_method_43_code
def yK_isClass : MethodName := ⟨RK, "isClass", "(I)Z"⟩
abbrev cK_isAge : ByteArray := prog_1_method_44_code
def yK_isAge : MethodName := ⟨RK, "isAge", "(I)Z"⟩
abbrev cK_isPlace : ByteArray := prog_1_method_45_code
def yK_isPlace : MethodName := ⟨RK, "isPlace", "(I)Z"⟩
abbrev cK_isZeroOrOne : ByteArray := prog_1_method_46_code
def yK_isZeroOrOne : MethodName := ⟨RK, "isZeroOrOne", "(I)Z"⟩
abbrev cK_isLeastOfGroup : ByteArray := prog_1_method_47_code
def yK_isLeastOfGroup : MethodName := ⟨RK, "isLeastOfGroup", "(I)Z"⟩
abbrev cK_cell : ByteArray := prog_1_method_48_code
def yK_cell : MethodName := ⟨RK, "cell", "(III)I"⟩
abbrev cK_sizeIn : ByteArray := prog_1_method_49_code
def yK_sizeIn : MethodName := ⟨RK, "sizeIn", "(II)I"⟩
abbrev cK_own : ByteArray := prog_1_method_50_code
def yK_own : MethodName := ⟨RK, "own", "(I)I"⟩
abbrev cK_ownOfAge : ByteArray := prog_1_method_51_code
def yK_ownOfAge : MethodName := ⟨RK, "ownOfAge", "(II)I"⟩
abbrev cK_fractionPart : ByteArray := prog_1_method_52_code
def yK_fractionPart : MethodName := ⟨RK, "fractionPart", "(JJI)J"⟩
abbrev cK_commonDivisor : ByteArray := prog_1_method_53_code
def yK_commonDivisor : MethodName := ⟨RK, "commonDivisor", "(JJ)J"⟩
def RM : String := "AgeKeysModel"
def FM : u_T := fun k => match k with
  | 0 => ("AgeKeysModel", "classes", "I", true)
  | 1 => ("AgeKeysModel", "ages", "I", true)
  | 2 => ("AgeKeysModel", "counts", "[I", true)
  | 3 => ("AgeKeysModel", "chosen", "I", false)
  | 4 => ("AgeKeysModel", "group", "[I", true)
  | 5 => ("AgeKeysModel", "filler", "[I", true)
  | 6 => ("AgeKeysModel", "measured", "[J", true)
  | 7 => ("AgeKeysModel", "errors", "[I", true)
  | 8 => ("AgeKeysModel", "maleCount", "[I", true)
  | 9 => ("AgeKeysModel", "sexCount", "[I", true)
  | 10 => ("AgeKeysModel", "cells", "[J", true)
  | 11 => ("AgeKeysModel", "above", "J", false)
  | _ => ("AgeKeysModel", "below", "J", false)
def tyM : Nat → FieldType := fun k => match k with
  | 0 => .int
  | 1 => .int
  | 2 => (.array .int)
  | 3 => .int
  | 4 => (.array .int)
  | 5 => (.array .int)
  | 6 => (.array .long)
  | 7 => (.array .int)
  | 8 => (.array .int)
  | 9 => (.array .int)
  | 10 => (.array .long)
  | 11 => .long
  | _ => .long
abbrev cM_init : ByteArray := prog_3_method_1_code
def yM_init : MethodName := ⟨RM, "<init>", "(II)V"⟩
abbrev cM_isClass : ByteArray := prog_3_method_3_code
def yM_isClass : MethodName := ⟨RM, "isClass", "(I)Z"⟩
abbrev cM_isAge : ByteArray := prog_3_method_4_code
def yM_isAge : MethodName := ⟨RM, "isAge", "(I)Z"⟩
abbrev cM_isPart : ByteArray := prog_3_method_5_code
def yM_isPart : MethodName := ⟨RM, "isPart", "(I)Z"⟩
abbrev cM_at : ByteArray := prog_3_method_6_code
def yM_at : MethodName := ⟨RM, "at", "(III)I"⟩
abbrev cM_count : ByteArray := prog_3_method_7_code
def yM_count : MethodName := ⟨RM, "count", "(III)I"⟩
abbrev cM_inGroup : ByteArray := prog_3_method_8_code
def yM_inGroup : MethodName := ⟨RM, "inGroup", "(III)I"⟩
abbrev cM_inAll : ByteArray := prog_3_method_9_code
def yM_inAll : MethodName := ⟨RM, "inAll", "(I)I"⟩
abbrev cM_partOf : ByteArray := prog_3_method_10_code
def yM_partOf : MethodName := ⟨RM, "partOf", "(JJI)J"⟩
abbrev cM_read : ByteArray := prog_3_method_11_code
def yM_read : MethodName := ⟨RM, "read", "(III)Z"⟩
abbrev cM_place : ByteArray := prog_3_method_12_code
def yM_place : MethodName := ⟨RM, "place", "(I)I"⟩
abbrev cM_own : ByteArray := prog_3_method_13_code
def yM_own : MethodName := ⟨RM, "own", "(I)I"⟩
abbrev cM_source : ByteArray := prog_3_method_14_code
def yM_source : MethodName := ⟨RM, "source", "(I)I"⟩
abbrev cM_share : ByteArray := prog_3_method_15_code
def yM_share : MethodName := ⟨RM, "share", "(III)J"⟩
abbrev cM_empty : ByteArray := prog_3_method_16_code
def yM_empty : MethodName := ⟨RM, "empty", "(I)I"⟩
abbrev cM_distance : ByteArray := prog_3_method_17_code
def yM_distance : MethodName := ⟨RM, "distance", "(II)I"⟩
abbrev cM_fill : ByteArray := prog_3_method_18_code
def yM_fill : MethodName := ⟨RM, "fill", "(I)I"⟩
abbrev cM_marked : ByteArray := prog_3_method_19_code
def yM_marked : MethodName := ⟨RM, "marked", "(I)Z"⟩
abbrev cM_joined : ByteArray := prog_3_method_20_code
def yM_joined : MethodName := ⟨RM, "joined", "(II)I"⟩
abbrev cM_groups : ByteArray := prog_3_method_21_code
def yM_groups : MethodName := ⟨RM, "groups", "()I"⟩
abbrev cM_allMeasured : ByteArray := prog_3_method_22_code
def yM_allMeasured : MethodName := ⟨RM, "allMeasured", "()J"⟩
abbrev cM_sample : ByteArray := prog_3_method_23_code
def yM_sample : MethodName := ⟨RM, "sample", "(IJ)Z"⟩
abbrev cM_raise : ByteArray := prog_3_method_24_code
def yM_raise : MethodName := ⟨RM, "raise", "(JI)Z"⟩
abbrev cM_raised : ByteArray := prog_3_method_25_code
def yM_raised : MethodName := ⟨RM, "raised", "(JII)J"⟩
abbrev cM_sums : ByteArray := prog_3_method_26_code
def yM_sums : MethodName := ⟨RM, "sums", "(J)Z"⟩
abbrev cM_without : ByteArray := prog_3_method_27_code
def yM_without : MethodName := ⟨RM, "without", "(IIII)J"⟩
abbrev cM_error : ByteArray := prog_3_method_28_code
def yM_error : MethodName := ⟨RM, "error", "(III)Z"⟩
abbrev cM_determinant : ByteArray := prog_3_method_29_code
def yM_determinant : MethodName := ⟨RM, "determinant", "()J"⟩
abbrev cM_lay : ByteArray := prog_3_method_30_code
def yM_lay : MethodName := ⟨RM, "lay", "(II)V"⟩
abbrev cM_undo : ByteArray := prog_3_method_31_code
def yM_undo : MethodName := ⟨RM, "undo", "()I"⟩
abbrev cM_undone : ByteArray := prog_3_method_32_code
def yM_undone : MethodName := ⟨RM, "undone", "(III)J"⟩
abbrev cM_apart : ByteArray := prog_3_method_33_code
def yM_apart : MethodName := ⟨RM, "apart", "(III)J"⟩
abbrev cM_ofAge : ByteArray := prog_3_method_34_code
def yM_ofAge : MethodName := ⟨RM, "ofAge", "(I)I"⟩
abbrev cM_classesOf : ByteArray := prog_3_method_35_code
def yM_classesOf : MethodName := ⟨RM, "classesOf", "(I)I"⟩
abbrev cM_mean : ByteArray := prog_3_method_36_code
def yM_mean : MethodName := ⟨RM, "mean", "(I)V"⟩
abbrev cM_length : ByteArray := prog_3_method_37_code
def yM_length : MethodName := ⟨RM, "length", "(II)J"⟩
abbrev cM_isSame : ByteArray := prog_3_method_38_code
def yM_isSame : MethodName := ⟨RM, "isSame", "(II)Z"⟩
abbrev cM_pooled : ByteArray := prog_3_method_39_code
def yM_pooled : MethodName := ⟨RM, "pooled", "(I)I"⟩
abbrev cM_sex : ByteArray := prog_3_method_40_code
def yM_sex : MethodName := ⟨RM, "sex", "(III)Z"⟩
abbrev cM_males : ByteArray := prog_3_method_41_code
def yM_males : MethodName := ⟨RM, "males", "(II)J"⟩
abbrev cl0 : List vw_C := [(RK, FK, 19), (RM, FM, 13)]
def TK_0 : List Cond := [.code yK_init cK_init 4 none, .code yK_read cK_read 4 (some .boolean), .code yK_place cK_place 2 (some .int), .code yK_countReading cK_countReading 5 none, .code yK_share cK_share 5 (some .long), .code yK_without cK_without 8 (some .long), .code yK_sourceOf cK_sourceOf 3 (some .int), .code yK_empty cK_empty 4 (some .int), .code yK_fill cK_fill 3 (some .int), .code yK_marked cK_marked 2 (some .boolean), .code yK_joined cK_joined 6 (some .int), .code yK_groups cK_groups 3 (some .int), .code yK_nearestWithReadings cK_nearestWithReadings 7 (some .int), .code yK_distanceTo cK_distanceTo 5 (some .int), .code yK_dropFills cK_dropFills 4 none, .code yK_moveReadings cK_moveReadings 5 none]
set_option maxRecDepth 20000 in
theorem TK_0_in : ∀ w ∈ TK_0, w ∈ lw_tbl := fun w h => (goodIn_p TK_0 [52, 125, 152, 144, 156, 185, 164, 189, 197, 212, 216, 228, 201, 205, 220, 224] (by decide +kernel) (by decide +kernel) w h).1
def TK_1 : List Cond := [.code yK_sample cK_sample 4 (some .boolean), .code yK_raised cK_raised 5 (some .long), .code yK_sums cK_sums 6 (some .boolean), .code yK_canRaise cK_canRaise 4 (some .boolean), .code yK_measuredOfAge cK_measuredOfAge 5 (some .long), .code yK_commonShare cK_commonShare 5 (some .long), .code yK_error cK_error 4 (some .boolean), .code yK_undo cK_undo 2 (some .int), .code yK_undone cK_undone 8 (some .long), .code yK_errorSum cK_errorSum 4 (some .int), .code yK_loadErrors cK_loadErrors 2 none, .code yK_determinant cK_determinant 7 (some .long), .code yK_pivotRow cK_pivotRow 3 (some .int), .code yK_swapRows cK_swapRows 6 none, .code yK_clearBelow cK_clearBelow 12 none, .code yK_apart cK_apart 9 (some .long)]
set_option maxRecDepth 20000 in
theorem TK_1_in : ∀ w ∈ TK_1, w ∈ lw_tbl := fun w h => (goodIn_p TK_1 [232, 237, 254, 241, 245, 249, 258, 262, 290, 266, 270, 274, 278, 282, 286, 296] (by decide +kernel) (by decide +kernel) w h).1
def TK_2 : List Cond := [.code yK_length cK_length 4 (some .long), .code yK_pooled cK_pooled 3 (some .int), .code yK_poolOf cK_poolOf 4 (some .int), .code yK_makePools cK_makePools 3 (some .int), .code yK_openPool cK_openPool 5 none, .code yK_doesNotRise cK_doesNotRise 2 (some .boolean), .code yK_joinWithPoolBefore cK_joinWithPoolBefore 2 none, .code yK_readingsOfAge cK_readingsOfAge 4 (some .int), .code yK_sex cK_sex 4 (some .boolean), .code yK_males cK_males 6 (some .long), .code yK_isClass cK_isClass 2 (some .boolean), .code yK_isAge cK_isAge 2 (some .boolean), .code yK_isPlace cK_isPlace 1 (some .boolean), .code yK_isZeroOrOne cK_isZeroOrOne 1 (some .boolean), .code yK_isLeastOfGroup cK_isLeastOfGroup 2 (some .boolean), .code yK_cell cK_cell 4 (some .int)]
set_option maxRecDepth 20000 in
theorem TK_2_in : ∀ w ∈ TK_2, w ∈ lw_tbl := fun w h => (goodIn_p TK_2 [300, 328, 304, 312, 316, 320, 324, 308, 332, 336, 129, 133, 136, 159, 193, 148] (by decide +kernel) (by decide +kernel) w h).1
def TK_3 : List Cond := [.code yK_sizeIn cK_sizeIn 3 (some .int), .code yK_own cK_own 2 (some .int), .code yK_ownOfAge cK_ownOfAge 3 (some .int), .code yK_fractionPart cK_fractionPart 7 (some .long), .code yK_commonDivisor cK_commonDivisor 11 (some .long), .code objectInit ⟨#[0xb1]⟩ 1 none, .code Lib.Math.min.name Lib.Math.min.code 2 (some .int), .code Lib.Math.max.name Lib.Math.max.code 2 (some .int), .code Lib.Math.abs.name Lib.Math.abs.code 1 (some .int), .code Lib.MathLoose.abs_long.x Lib.MathLoose.abs_long.code 2 (some .long)]
set_option maxRecDepth 20000 in
theorem TK_3_in : ∀ w ∈ TK_3, w ∈ lw_tbl := fun w h => (goodIn_p TK_3 [140, 168, 172, 175, 181, 55, 58, 61, 208, 178] (by decide +kernel) (by decide +kernel) w h).1
def TK_4 : List Cond := [.instanceMethod yK_init, .methodLink RK 3 objectInit, .instanceMethod objectInit, .fieldLink RK 9 "AgeKeys" "chosenRow" "I", .fieldLink RK 13 "AgeKeys" "measuredInAll" "J", .methodLink RK 17 Lib.Math.min.name, .static Lib.Math.min.name, .initialized "java/lang/Math", .methodLink RK 23 Lib.Math.max.name, .static Lib.Math.max.name, .fieldLink RK 26 "AgeKeys" "classes" "I", .fieldLink RK 29 "AgeKeys" "ages" "I", .arrayClass .int, .fieldLink RK 32 "AgeKeys" "readings" "[I", .fieldLink RK 36 "AgeKeys" "rowSize" "[I", .fieldLink RK 39 "AgeKeys" "groupReadings" "[I"]
theorem TK_4_in : ∀ w ∈ TK_4, w ∈ lw_tbl := List.forall_mem_cons.mpr ⟨List.mem_of_getElem? (i := 51) (by decide +kernel), List.forall_mem_cons.mpr ⟨List.mem_of_getElem? (i := 53) (by decide +kernel), List.forall_mem_cons.mpr ⟨List.mem_of_getElem? (i := 54) (by decide +kernel), List.forall_mem_cons.mpr ⟨List.mem_of_getElem? (i := 64) (by decide +kernel), List.forall_mem_cons.mpr ⟨List.mem_of_getElem? (i := 72) (by decide +kernel), List.forall_mem_cons.mpr ⟨List.mem_of_getElem? (i := 56) (by decide +kernel), List.forall_mem_cons.mpr ⟨List.mem_of_getElem? (i := 57) (by decide +kernel), List.forall_mem_cons.mpr ⟨List.mem_of_getElem? (i := 46) (by decide +kernel), List.forall_mem_cons.mpr ⟨List.mem_of_getElem? (i := 59) (by decide +kernel), List.forall_mem_cons.mpr ⟨List.mem_of_getElem? (i := 60) (by decide +kernel), List.forall_mem_cons.mpr ⟨List.mem_of_getElem? (i := 62) (by decide +kernel), List.forall_mem_cons.mpr ⟨List.mem_of_getElem? (i := 63) (by decide +kernel), List.forall_mem_cons.mpr ⟨List.mem_of_getElem? (i := 120) (by decide +kernel), List.forall_mem_cons.mpr ⟨List.mem_of_getElem? (i := 65) (by decide +kernel), List.forall_mem_cons.mpr ⟨List.mem_of_getElem? (i := 66) (by decide +kernel), List.forall_mem_cons.mpr ⟨List.mem_of_getElem? (i := 67) (by decide +kernel), fun _ h => absurd h List.not_mem_nil⟩⟩⟩⟩⟩⟩⟩⟩⟩⟩⟩⟩⟩⟩⟩⟩
def TK_5 : List Cond := [.fieldLink RK 42 "AgeKeys" "groupSize" "[I", .fieldLink RK 45 "AgeKeys" "groupOf" "[I", .fieldLink RK 48 "AgeKeys" "filledBy" "[I", .arrayClass .long, .fieldLink RK 51 "AgeKeys" "measured" "[J", .fieldLink RK 55 "AgeKeys" "errors" "[I", .fieldLink RK 58 "AgeKeys" "square" "[J", .fieldLink RK 61 "AgeKeys" "poolSum" "[I", .fieldLink RK 64 "AgeKeys" "poolSize" "[I", .fieldLink RK 67 "AgeKeys" "poolAges" "[I", .fieldLink RK 70 "AgeKeys" "poolLastAge" "[I", .fieldLink RK 73 "AgeKeys" "maleCount" "[I", .fieldLink RK 76 "AgeKeys" "lookedAt" "[I", .instanceMethod yK_read, .selects RK yK_read yK_read, .methodLink RK 79 yK_isClass]
theorem TK_5_in : ∀ w ∈ TK_5, w ∈ lw_tbl := List.forall_mem_cons.mpr ⟨List.mem_of_getElem? (i := 68) (by decide +kernel), List.forall_mem_cons.mpr ⟨List.mem_of_getElem? (i := 69) (by decide +kernel), List.forall_mem_cons.mpr ⟨List.mem_of_getElem? (i := 70) (by decide +kernel), List.forall_mem_cons.mpr ⟨List.mem_of_getElem? (i := 121) (by decide +kernel), List.forall_mem_cons.mpr ⟨List.mem_of_getElem? (i := 71) (by decide +kernel), List.forall_mem_cons.mpr ⟨List.mem_of_getElem? (i := 73) (by decide +kernel), List.forall_mem_cons.mpr ⟨List.mem_of_getElem? (i := 74) (by decide +kernel), List.forall_mem_cons.mpr ⟨List.mem_of_getElem? (i := 75) (by decide +kernel), List.forall_mem_cons.mpr ⟨List.mem_of_getElem? (i := 76) (by decide +kernel), List.forall_mem_cons.mpr ⟨List.mem_of_getElem? (i := 77) (by decide +kernel), List.forall_mem_cons.mpr ⟨List.mem_of_getElem? (i := 78) (by decide +kernel), List.forall_mem_cons.mpr ⟨List.mem_of_getElem? (i := 79) (by decide +kernel), List.forall_mem_cons.mpr ⟨List.mem_of_getElem? (i := 80) (by decide +kernel), List.forall_mem_cons.mpr ⟨List.mem_of_getElem? (i := 123) (by decide +kernel), List.forall_mem_cons.mpr ⟨List.mem_of_getElem? (i := 124) (by decide +kernel), List.forall_mem_cons.mpr ⟨List.mem_of_getElem? (i := 126) (by decide +kernel), fun _ h => absurd h List.not_mem_nil⟩⟩⟩⟩⟩⟩⟩⟩⟩⟩⟩⟩⟩⟩⟩⟩
def TK_6 : List Cond := [.methodLink RK 83 yK_isAge, .methodLink RK 86 yK_isPlace, .methodLink RK 89 yK_sizeIn, .methodLink RK 92 yK_countReading, .instanceMethod yK_place, .selects RK yK_place yK_place, .instanceMethod yK_countReading, .selects RK yK_countReading yK_countReading, .methodLink RK 96 yK_cell, .instanceMethod yK_share, .selects RK yK_share yK_share, .methodLink RK 100 yK_isZeroOrOne, .constantLong RK 103 (-1), .methodLink RK 105 yK_sourceOf, .methodLink RK 109 yK_ownOfAge, .methodLink RK 112 yK_own]
theorem TK_6_in : ∀ w ∈ TK_6, w ∈ lw_tbl := List.forall_mem_cons.mpr ⟨List.mem_of_getElem? (i := 130) (by decide +kernel), List.forall_mem_cons.mpr ⟨List.mem_of_getElem? (i := 134) (by decide +kernel), List.forall_mem_cons.mpr ⟨List.mem_of_getElem? (i := 137) (by decide +kernel), List.forall_mem_cons.mpr ⟨List.mem_of_getElem? (i := 141) (by decide +kernel), List.forall_mem_cons.mpr ⟨List.mem_of_getElem? (i := 150) (by decide +kernel), List.forall_mem_cons.mpr ⟨List.mem_of_getElem? (i := 151) (by decide +kernel), List.forall_mem_cons.mpr ⟨List.mem_of_getElem? (i := 143) (by decide +kernel), List.forall_mem_cons.mpr ⟨List.mem_of_getElem? (i := 3) (by decide +kernel), List.forall_mem_cons.mpr ⟨List.mem_of_getElem? (i := 145) (by decide +kernel), List.forall_mem_cons.mpr ⟨List.mem_of_getElem? (i := 154) (by decide +kernel), List.forall_mem_cons.mpr ⟨List.mem_of_getElem? (i := 155) (by decide +kernel), List.forall_mem_cons.mpr ⟨List.mem_of_getElem? (i := 157) (by decide +kernel), List.forall_mem_cons.mpr ⟨List.mem_of_getElem? (i := 160) (by decide +kernel), List.forall_mem_cons.mpr ⟨List.mem_of_getElem? (i := 161) (by decide +kernel), List.forall_mem_cons.mpr ⟨List.mem_of_getElem? (i := 169) (by decide +kernel), List.forall_mem_cons.mpr ⟨List.mem_of_getElem? (i := 165) (by decide +kernel), fun _ h => absurd h List.not_mem_nil⟩⟩⟩⟩⟩⟩⟩⟩⟩⟩⟩⟩⟩⟩⟩⟩
def TK_7 : List Cond := [.methodLink RK 115 yK_fractionPart, .instanceMethod yK_without, .selects RK yK_without yK_without, .instanceMethod yK_sourceOf, .selects RK yK_sourceOf yK_sourceOf, .instanceMethod yK_empty, .selects RK yK_empty yK_empty, .methodLink RK 119 yK_isLeastOfGroup, .instanceMethod yK_fill, .selects RK yK_fill yK_fill, .methodLink RK 122 yK_nearestWithReadings, .instanceMethod yK_marked, .selects RK yK_marked yK_marked, .instanceMethod yK_joined, .selects RK yK_joined yK_joined, .methodLink RK 125 yK_dropFills]
theorem TK_7_in : ∀ w ∈ TK_7, w ∈ lw_tbl := List.forall_mem_cons.mpr ⟨List.mem_of_getElem? (i := 173) (by decide +kernel), List.forall_mem_cons.mpr ⟨List.mem_of_getElem? (i := 183) (by decide +kernel), List.forall_mem_cons.mpr ⟨List.mem_of_getElem? (i := 184) (by decide +kernel), List.forall_mem_cons.mpr ⟨List.mem_of_getElem? (i := 163) (by decide +kernel), List.forall_mem_cons.mpr ⟨List.mem_of_getElem? (i := 5) (by decide +kernel), List.forall_mem_cons.mpr ⟨List.mem_of_getElem? (i := 187) (by decide +kernel), List.forall_mem_cons.mpr ⟨List.mem_of_getElem? (i := 188) (by decide +kernel), List.forall_mem_cons.mpr ⟨List.mem_of_getElem? (i := 190) (by decide +kernel), List.forall_mem_cons.mpr ⟨List.mem_of_getElem? (i := 195) (by decide +kernel), List.forall_mem_cons.mpr ⟨List.mem_of_getElem? (i := 196) (by decide +kernel), List.forall_mem_cons.mpr ⟨List.mem_of_getElem? (i := 198) (by decide +kernel), List.forall_mem_cons.mpr ⟨List.mem_of_getElem? (i := 210) (by decide +kernel), List.forall_mem_cons.mpr ⟨List.mem_of_getElem? (i := 211) (by decide +kernel), List.forall_mem_cons.mpr ⟨List.mem_of_getElem? (i := 214) (by decide +kernel), List.forall_mem_cons.mpr ⟨List.mem_of_getElem? (i := 215) (by decide +kernel), List.forall_mem_cons.mpr ⟨List.mem_of_getElem? (i := 217) (by decide +kernel), fun _ h => absurd h List.not_mem_nil⟩⟩⟩⟩⟩⟩⟩⟩⟩⟩⟩⟩⟩⟩⟩⟩
def TK_8 : List Cond := [.methodLink RK 129 yK_moveReadings, .instanceMethod yK_groups, .selects RK yK_groups yK_groups, .instanceMethod yK_nearestWithReadings, .selects RK yK_nearestWithReadings yK_nearestWithReadings, .methodLink RK 132 yK_distanceTo, .instanceMethod yK_distanceTo, .selects RK yK_distanceTo yK_distanceTo, .methodLink RK 135 Lib.Math.abs.name, .static Lib.Math.abs.name, .instanceMethod yK_dropFills, .selects RK yK_dropFills yK_dropFills, .instanceMethod yK_moveReadings, .selects RK yK_moveReadings yK_moveReadings, .instanceMethod yK_sample, .selects RK yK_sample yK_sample]
theorem TK_8_in : ∀ w ∈ TK_8, w ∈ lw_tbl := List.forall_mem_cons.mpr ⟨List.mem_of_getElem? (i := 221) (by decide +kernel), List.forall_mem_cons.mpr ⟨List.mem_of_getElem? (i := 226) (by decide +kernel), List.forall_mem_cons.mpr ⟨List.mem_of_getElem? (i := 227) (by decide +kernel), List.forall_mem_cons.mpr ⟨List.mem_of_getElem? (i := 200) (by decide +kernel), List.forall_mem_cons.mpr ⟨List.mem_of_getElem? (i := 9) (by decide +kernel), List.forall_mem_cons.mpr ⟨List.mem_of_getElem? (i := 202) (by decide +kernel), List.forall_mem_cons.mpr ⟨List.mem_of_getElem? (i := 204) (by decide +kernel), List.forall_mem_cons.mpr ⟨List.mem_of_getElem? (i := 10) (by decide +kernel), List.forall_mem_cons.mpr ⟨List.mem_of_getElem? (i := 206) (by decide +kernel), List.forall_mem_cons.mpr ⟨List.mem_of_getElem? (i := 207) (by decide +kernel), List.forall_mem_cons.mpr ⟨List.mem_of_getElem? (i := 219) (by decide +kernel), List.forall_mem_cons.mpr ⟨List.mem_of_getElem? (i := 11) (by decide +kernel), List.forall_mem_cons.mpr ⟨List.mem_of_getElem? (i := 223) (by decide +kernel), List.forall_mem_cons.mpr ⟨List.mem_of_getElem? (i := 12) (by decide +kernel), List.forall_mem_cons.mpr ⟨List.mem_of_getElem? (i := 230) (by decide +kernel), List.forall_mem_cons.mpr ⟨List.mem_of_getElem? (i := 231) (by decide +kernel), fun _ h => absurd h List.not_mem_nil⟩⟩⟩⟩⟩⟩⟩⟩⟩⟩⟩⟩⟩⟩⟩⟩
def TK_9 : List Cond := [.constantLong RK 138 (10000), .instanceMethod yK_raised, .selects RK yK_raised yK_raised, .methodLink RK 140 yK_canRaise, .methodLink RK 144 yK_measuredOfAge, .constantLong RK 148 (232792560), .instanceMethod yK_sums, .selects RK yK_sums yK_sums, .instanceMethod yK_canRaise, .selects RK yK_canRaise yK_canRaise, .instanceMethod yK_measuredOfAge, .selects RK yK_measuredOfAge yK_measuredOfAge, .methodLink RK 150 yK_commonShare, .instanceMethod yK_commonShare, .selects RK yK_commonShare yK_commonShare, .instanceMethod yK_error]
theorem TK_9_in : ∀ w ∈ TK_9, w ∈ lw_tbl := List.forall_mem_cons.mpr ⟨List.mem_of_getElem? (i := 233) (by decide +kernel), List.forall_mem_cons.mpr ⟨List.mem_of_getElem? (i := 235) (by decide +kernel), List.forall_mem_cons.mpr ⟨List.mem_of_getElem? (i := 236) (by decide +kernel), List.forall_mem_cons.mpr ⟨List.mem_of_getElem? (i := 238) (by decide +kernel), List.forall_mem_cons.mpr ⟨List.mem_of_getElem? (i := 242) (by decide +kernel), List.forall_mem_cons.mpr ⟨List.mem_of_getElem? (i := 250) (by decide +kernel), List.forall_mem_cons.mpr ⟨List.mem_of_getElem? (i := 252) (by decide +kernel), List.forall_mem_cons.mpr ⟨List.mem_of_getElem? (i := 253) (by decide +kernel), List.forall_mem_cons.mpr ⟨List.mem_of_getElem? (i := 240) (by decide +kernel), List.forall_mem_cons.mpr ⟨List.mem_of_getElem? (i := 13) (by decide +kernel), List.forall_mem_cons.mpr ⟨List.mem_of_getElem? (i := 244) (by decide +kernel), List.forall_mem_cons.mpr ⟨List.mem_of_getElem? (i := 14) (by decide +kernel), List.forall_mem_cons.mpr ⟨List.mem_of_getElem? (i := 246) (by decide +kernel), List.forall_mem_cons.mpr ⟨List.mem_of_getElem? (i := 248) (by decide +kernel), List.forall_mem_cons.mpr ⟨List.mem_of_getElem? (i := 15) (by decide +kernel), List.forall_mem_cons.mpr ⟨List.mem_of_getElem? (i := 256) (by decide +kernel), fun _ h => absurd h List.not_mem_nil⟩⟩⟩⟩⟩⟩⟩⟩⟩⟩⟩⟩⟩⟩⟩⟩
def TK_10 : List Cond := [.selects RK yK_error yK_error, .instanceMethod yK_undo, .selects RK yK_undo yK_undo, .methodLink RK 154 yK_errorSum, .methodLink RK 157 yK_loadErrors, .methodLink RK 160 yK_determinant, .instanceMethod yK_undone, .selects RK yK_undone yK_undone, .methodLink RK 164 yK_undo, .constantLong RK 168 (20), .instanceMethod yK_errorSum, .selects RK yK_errorSum yK_errorSum, .instanceMethod yK_loadErrors, .selects RK yK_loadErrors yK_loadErrors, .instanceMethod yK_determinant, .selects RK yK_determinant yK_determinant]
theorem TK_10_in : ∀ w ∈ TK_10, w ∈ lw_tbl := List.forall_mem_cons.mpr ⟨List.mem_of_getElem? (i := 257) (by decide +kernel), List.forall_mem_cons.mpr ⟨List.mem_of_getElem? (i := 260) (by decide +kernel), List.forall_mem_cons.mpr ⟨List.mem_of_getElem? (i := 261) (by decide +kernel), List.forall_mem_cons.mpr ⟨List.mem_of_getElem? (i := 263) (by decide +kernel), List.forall_mem_cons.mpr ⟨List.mem_of_getElem? (i := 267) (by decide +kernel), List.forall_mem_cons.mpr ⟨List.mem_of_getElem? (i := 271) (by decide +kernel), List.forall_mem_cons.mpr ⟨List.mem_of_getElem? (i := 288) (by decide +kernel), List.forall_mem_cons.mpr ⟨List.mem_of_getElem? (i := 289) (by decide +kernel), List.forall_mem_cons.mpr ⟨List.mem_of_getElem? (i := 291) (by decide +kernel), List.forall_mem_cons.mpr ⟨List.mem_of_getElem? (i := 292) (by decide +kernel), List.forall_mem_cons.mpr ⟨List.mem_of_getElem? (i := 265) (by decide +kernel), List.forall_mem_cons.mpr ⟨List.mem_of_getElem? (i := 16) (by decide +kernel), List.forall_mem_cons.mpr ⟨List.mem_of_getElem? (i := 269) (by decide +kernel), List.forall_mem_cons.mpr ⟨List.mem_of_getElem? (i := 17) (by decide +kernel), List.forall_mem_cons.mpr ⟨List.mem_of_getElem? (i := 273) (by decide +kernel), List.forall_mem_cons.mpr ⟨List.mem_of_getElem? (i := 18) (by decide +kernel), fun _ h => absurd h List.not_mem_nil⟩⟩⟩⟩⟩⟩⟩⟩⟩⟩⟩⟩⟩⟩⟩⟩
def TK_11 : List Cond := [.methodLink RK 170 yK_pivotRow, .methodLink RK 173 yK_swapRows, .methodLink RK 176 yK_clearBelow, .instanceMethod yK_pivotRow, .selects RK yK_pivotRow yK_pivotRow, .instanceMethod yK_swapRows, .selects RK yK_swapRows yK_swapRows, .instanceMethod yK_clearBelow, .selects RK yK_clearBelow yK_clearBelow, .instanceMethod yK_apart, .selects RK yK_apart yK_apart, .instanceMethod yK_length, .selects RK yK_length yK_length, .methodLink RK 180 yK_poolOf, .instanceMethod yK_pooled, .selects RK yK_pooled yK_pooled]
theorem TK_11_in : ∀ w ∈ TK_11, w ∈ lw_tbl := List.forall_mem_cons.mpr ⟨List.mem_of_getElem? (i := 275) (by decide +kernel), List.forall_mem_cons.mpr ⟨List.mem_of_getElem? (i := 279) (by decide +kernel), List.forall_mem_cons.mpr ⟨List.mem_of_getElem? (i := 283) (by decide +kernel), List.forall_mem_cons.mpr ⟨List.mem_of_getElem? (i := 277) (by decide +kernel), List.forall_mem_cons.mpr ⟨List.mem_of_getElem? (i := 19) (by decide +kernel), List.forall_mem_cons.mpr ⟨List.mem_of_getElem? (i := 281) (by decide +kernel), List.forall_mem_cons.mpr ⟨List.mem_of_getElem? (i := 20) (by decide +kernel), List.forall_mem_cons.mpr ⟨List.mem_of_getElem? (i := 285) (by decide +kernel), List.forall_mem_cons.mpr ⟨List.mem_of_getElem? (i := 21) (by decide +kernel), List.forall_mem_cons.mpr ⟨List.mem_of_getElem? (i := 294) (by decide +kernel), List.forall_mem_cons.mpr ⟨List.mem_of_getElem? (i := 295) (by decide +kernel), List.forall_mem_cons.mpr ⟨List.mem_of_getElem? (i := 298) (by decide +kernel), List.forall_mem_cons.mpr ⟨List.mem_of_getElem? (i := 299) (by decide +kernel), List.forall_mem_cons.mpr ⟨List.mem_of_getElem? (i := 301) (by decide +kernel), List.forall_mem_cons.mpr ⟨List.mem_of_getElem? (i := 326) (by decide +kernel), List.forall_mem_cons.mpr ⟨List.mem_of_getElem? (i := 327) (by decide +kernel), fun _ h => absurd h List.not_mem_nil⟩⟩⟩⟩⟩⟩⟩⟩⟩⟩⟩⟩⟩⟩⟩⟩
def TK_12 : List Cond := [.instanceMethod yK_poolOf, .selects RK yK_poolOf yK_poolOf, .methodLink RK 183 yK_readingsOfAge, .methodLink RK 186 yK_makePools, .instanceMethod yK_makePools, .selects RK yK_makePools yK_makePools, .methodLink RK 189 yK_openPool, .methodLink RK 192 yK_doesNotRise, .methodLink RK 195 yK_joinWithPoolBefore, .instanceMethod yK_openPool, .selects RK yK_openPool yK_openPool, .instanceMethod yK_doesNotRise, .selects RK yK_doesNotRise yK_doesNotRise, .instanceMethod yK_joinWithPoolBefore, .selects RK yK_joinWithPoolBefore yK_joinWithPoolBefore, .instanceMethod yK_readingsOfAge]
theorem TK_12_in : ∀ w ∈ TK_12, w ∈ lw_tbl := List.forall_mem_cons.mpr ⟨List.mem_of_getElem? (i := 303) (by decide +kernel), List.forall_mem_cons.mpr ⟨List.mem_of_getElem? (i := 22) (by decide +kernel), List.forall_mem_cons.mpr ⟨List.mem_of_getElem? (i := 305) (by decide +kernel), List.forall_mem_cons.mpr ⟨List.mem_of_getElem? (i := 309) (by decide +kernel), List.forall_mem_cons.mpr ⟨List.mem_of_getElem? (i := 311) (by decide +kernel), List.forall_mem_cons.mpr ⟨List.mem_of_getElem? (i := 24) (by decide +kernel), List.forall_mem_cons.mpr ⟨List.mem_of_getElem? (i := 313) (by decide +kernel), List.forall_mem_cons.mpr ⟨List.mem_of_getElem? (i := 317) (by decide +kernel), List.forall_mem_cons.mpr ⟨List.mem_of_getElem? (i := 321) (by decide +kernel), List.forall_mem_cons.mpr ⟨List.mem_of_getElem? (i := 315) (by decide +kernel), List.forall_mem_cons.mpr ⟨List.mem_of_getElem? (i := 25) (by decide +kernel), List.forall_mem_cons.mpr ⟨List.mem_of_getElem? (i := 319) (by decide +kernel), List.forall_mem_cons.mpr ⟨List.mem_of_getElem? (i := 26) (by decide +kernel), List.forall_mem_cons.mpr ⟨List.mem_of_getElem? (i := 323) (by decide +kernel), List.forall_mem_cons.mpr ⟨List.mem_of_getElem? (i := 27) (by decide +kernel), List.forall_mem_cons.mpr ⟨List.mem_of_getElem? (i := 307) (by decide +kernel), fun _ h => absurd h List.not_mem_nil⟩⟩⟩⟩⟩⟩⟩⟩⟩⟩⟩⟩⟩⟩⟩⟩
def TK_13 : List Cond := [.selects RK yK_readingsOfAge yK_readingsOfAge, .instanceMethod yK_sex, .selects RK yK_sex yK_sex, .instanceMethod yK_males, .selects RK yK_males yK_males, .instanceMethod yK_isClass, .selects RK yK_isClass yK_isClass, .instanceMethod yK_isAge, .selects RK yK_isAge yK_isAge, .static yK_isPlace, .static yK_isZeroOrOne, .instanceMethod yK_isLeastOfGroup, .selects RK yK_isLeastOfGroup yK_isLeastOfGroup, .instanceMethod yK_cell, .selects RK yK_cell yK_cell, .instanceMethod yK_sizeIn]
theorem TK_13_in : ∀ w ∈ TK_13, w ∈ lw_tbl := List.forall_mem_cons.mpr ⟨List.mem_of_getElem? (i := 23) (by decide +kernel), List.forall_mem_cons.mpr ⟨List.mem_of_getElem? (i := 330) (by decide +kernel), List.forall_mem_cons.mpr ⟨List.mem_of_getElem? (i := 331) (by decide +kernel), List.forall_mem_cons.mpr ⟨List.mem_of_getElem? (i := 334) (by decide +kernel), List.forall_mem_cons.mpr ⟨List.mem_of_getElem? (i := 335) (by decide +kernel), List.forall_mem_cons.mpr ⟨List.mem_of_getElem? (i := 128) (by decide +kernel), List.forall_mem_cons.mpr ⟨List.mem_of_getElem? (i := 0) (by decide +kernel), List.forall_mem_cons.mpr ⟨List.mem_of_getElem? (i := 132) (by decide +kernel), List.forall_mem_cons.mpr ⟨List.mem_of_getElem? (i := 1) (by decide +kernel), List.forall_mem_cons.mpr ⟨List.mem_of_getElem? (i := 135) (by decide +kernel), List.forall_mem_cons.mpr ⟨List.mem_of_getElem? (i := 158) (by decide +kernel), List.forall_mem_cons.mpr ⟨List.mem_of_getElem? (i := 192) (by decide +kernel), List.forall_mem_cons.mpr ⟨List.mem_of_getElem? (i := 8) (by decide +kernel), List.forall_mem_cons.mpr ⟨List.mem_of_getElem? (i := 147) (by decide +kernel), List.forall_mem_cons.mpr ⟨List.mem_of_getElem? (i := 4) (by decide +kernel), List.forall_mem_cons.mpr ⟨List.mem_of_getElem? (i := 139) (by decide +kernel), fun _ h => absurd h List.not_mem_nil⟩⟩⟩⟩⟩⟩⟩⟩⟩⟩⟩⟩⟩⟩⟩⟩
def TK_14 : List Cond := [.selects RK yK_sizeIn yK_sizeIn, .instanceMethod yK_own, .selects RK yK_own yK_own, .instanceMethod yK_ownOfAge, .selects RK yK_ownOfAge yK_ownOfAge, .static yK_fractionPart, .methodLink RK 199 Lib.MathLoose.abs_long.x, .static Lib.MathLoose.abs_long.x, .methodLink RK 202 yK_commonDivisor, .static yK_commonDivisor, .initialized RK]
theorem TK_14_in : ∀ w ∈ TK_14, w ∈ lw_tbl := List.forall_mem_cons.mpr ⟨List.mem_of_getElem? (i := 2) (by decide +kernel), List.forall_mem_cons.mpr ⟨List.mem_of_getElem? (i := 167) (by decide +kernel), List.forall_mem_cons.mpr ⟨List.mem_of_getElem? (i := 6) (by decide +kernel), List.forall_mem_cons.mpr ⟨List.mem_of_getElem? (i := 171) (by decide +kernel), List.forall_mem_cons.mpr ⟨List.mem_of_getElem? (i := 7) (by decide +kernel), List.forall_mem_cons.mpr ⟨List.mem_of_getElem? (i := 174) (by decide +kernel), List.forall_mem_cons.mpr ⟨List.mem_of_getElem? (i := 176) (by decide +kernel), List.forall_mem_cons.mpr ⟨List.mem_of_getElem? (i := 177) (by decide +kernel), List.forall_mem_cons.mpr ⟨List.mem_of_getElem? (i := 179) (by decide +kernel), List.forall_mem_cons.mpr ⟨List.mem_of_getElem? (i := 180) (by decide +kernel), List.forall_mem_cons.mpr ⟨List.mem_of_getElem? (i := 45) (by decide +kernel), fun _ h => absurd h List.not_mem_nil⟩⟩⟩⟩⟩⟩⟩⟩⟩⟩⟩
def TK_15 : List Cond := u_ws RK FK 19
set_option maxRecDepth 20000 in
theorem TK_15_in : ∀ w ∈ TK_15, w ∈ lw_tbl := by decide +kernel
def TK : List Cond := TK_0 ++ (TK_1 ++ (TK_2 ++ (TK_3 ++ (TK_4 ++ (TK_5 ++ (TK_6 ++ (TK_7 ++ (TK_8 ++ (TK_9 ++ (TK_10 ++ (TK_11 ++ (TK_12 ++ (TK_13 ++ (TK_14 ++ (TK_15)))))))))))))))
set_option maxRecDepth 20000 in
theorem TK_good : GoodIn TK TK := kgood_self (by decide +kernel)
theorem TK_in : ∀ w ∈ TK, w ∈ lw_tbl := List.forall_mem_append.mpr ⟨TK_0_in, List.forall_mem_append.mpr ⟨TK_1_in, List.forall_mem_append.mpr ⟨TK_2_in, List.forall_mem_append.mpr ⟨TK_3_in, List.forall_mem_append.mpr ⟨TK_4_in, List.forall_mem_append.mpr ⟨TK_5_in, List.forall_mem_append.mpr ⟨TK_6_in, List.forall_mem_append.mpr ⟨TK_7_in, List.forall_mem_append.mpr ⟨TK_8_in, List.forall_mem_append.mpr ⟨TK_9_in, List.forall_mem_append.mpr ⟨TK_10_in, List.forall_mem_append.mpr ⟨TK_11_in, List.forall_mem_append.mpr ⟨TK_12_in, List.forall_mem_append.mpr ⟨TK_13_in, List.forall_mem_append.mpr ⟨TK_14_in, TK_15_in⟩⟩⟩⟩⟩⟩⟩⟩⟩⟩⟩⟩⟩⟩⟩
theorem iK_u : ∀ w ∈ u_ws RK FK 19, w ∈ TK := fun w h => List.mem_append_right _ (List.mem_append_right _ (List.mem_append_right _ (List.mem_append_right _ (List.mem_append_right _ (List.mem_append_right _ (List.mem_append_right _ (List.mem_append_right _ (List.mem_append_right _ (List.mem_append_right _ (List.mem_append_right _ (List.mem_append_right _ (List.mem_append_right _ (List.mem_append_right _ (List.mem_append_right _ (h)))))))))))))))
theorem nK_ok : ∀ a, a < 19 → ∀ b, b < 19 → a ≠ b → (FK a).2.1 ≠ (FK b).2.1 := by decide +kernel
theorem tyK_ok : ∀ k, k < 19 → parseFieldDescriptor (FK k).2.2.1 = some (tyK k) := by decide +kernel
end
section
def TM_0 : List Cond := [.code yM_init cM_init 4 none, .code yM_isClass cM_isClass 2 (some .boolean), .code yM_isAge cM_isAge 2 (some .boolean), .code yM_isPart cM_isPart 1 (some .boolean), .code yM_at cM_at 3 (some .int), .code yM_count cM_count 6 (some .int), .code yM_inGroup cM_inGroup 7 (some .int), .code yM_inAll cM_inAll 5 (some .int), .code yM_partOf cM_partOf 13 (some .long), .code yM_read cM_read 4 (some .boolean), .code yM_place cM_place 2 (some .int), .code yM_own cM_own 2 (some .int), .code yM_source cM_source 3 (some .int), .code yM_share cM_share 5 (some .long), .code yM_empty cM_empty 4 (some .int), .code yM_distance cM_distance 7 (some .int)]
set_option maxRecDepth 20000 in
theorem TM_0_in : ∀ w ∈ TM_0, w ∈ lw_tbl := fun w h => (goodIn_p TM_0 [344, 393, 397, 423, 408, 405, 401, 412, 435, 389, 416, 432, 428, 420, 439, 447] (by decide +kernel) (by decide +kernel) w h).1
def TM_1 : List Cond := [.code yM_fill cM_fill 4 (some .int), .code yM_marked cM_marked 2 (some .boolean), .code yM_joined cM_joined 6 (some .int), .code yM_groups cM_groups 3 (some .int), .code yM_allMeasured cM_allMeasured 4 (some .long), .code yM_sample cM_sample 4 (some .boolean), .code yM_raise cM_raise 7 (some .boolean), .code yM_raised cM_raised 5 (some .long), .code yM_sums cM_sums 7 (some .boolean), .code yM_without cM_without 9 (some .long), .code yM_error cM_error 4 (some .boolean), .code yM_determinant cM_determinant 10 (some .long), .code yM_lay cM_lay 5 none, .code yM_undo cM_undo 4 (some .int), .code yM_undone cM_undone 8 (some .long), .code yM_apart cM_apart 14 (some .long)]
set_option maxRecDepth 20000 in
theorem TM_1_in : ∀ w ∈ TM_1, w ∈ lw_tbl := fun w h => (goodIn_p TM_1 [443, 451, 455, 459, 468, 463, 476, 472, 481, 485, 489, 502, 497, 493, 506, 511] (by decide +kernel) (by decide +kernel) w h).1
def TM_2 : List Cond := [.code yM_ofAge cM_ofAge 4 (some .int), .code yM_classesOf cM_classesOf 4 (some .int), .code yM_mean cM_mean 13 none, .code yM_length cM_length 3 (some .long), .code yM_isSame cM_isSame 7 (some .boolean), .code yM_pooled cM_pooled 4 (some .int), .code yM_sex cM_sex 4 (some .boolean), .code yM_males cM_males 6 (some .long), .code objectInit ⟨#[0xb1]⟩ 1 none]
set_option maxRecDepth 20000 in
theorem TM_2_in : ∀ w ∈ TM_2, w ∈ lw_tbl := fun w h => (goodIn_p TM_2 [519, 527, 523, 515, 535, 531, 539, 543, 55] (by decide +kernel) (by decide +kernel) w h).1
def TM_3 : List Cond := [.instanceMethod yM_init, .methodLink RM 1 objectInit, .instanceMethod objectInit, .arrayClass .int, .fieldLink RM 7 "AgeKeysModel" "counts" "[I", .fieldLink RM 13 "AgeKeysModel" "chosen" "I", .fieldLink RM 17 "AgeKeysModel" "group" "[I", .fieldLink RM 20 "AgeKeysModel" "filler" "[I", .arrayClass .long, .fieldLink RM 23 "AgeKeysModel" "measured" "[J", .fieldLink RM 27 "AgeKeysModel" "errors" "[I", .fieldLink RM 30 "AgeKeysModel" "maleCount" "[I", .fieldLink RM 33 "AgeKeysModel" "sexCount" "[I", .fieldLink RM 36 "AgeKeysModel" "cells" "[J", .fieldLink RM 39 "AgeKeysModel" "classes" "I", .fieldLink RM 42 "AgeKeysModel" "ages" "I"]
theorem TM_3_in : ∀ w ∈ TM_3, w ∈ lw_tbl := List.forall_mem_cons.mpr ⟨List.mem_of_getElem? (i := 343) (by decide +kernel), List.forall_mem_cons.mpr ⟨List.mem_of_getElem? (i := 345) (by decide +kernel), List.forall_mem_cons.mpr ⟨List.mem_of_getElem? (i := 54) (by decide +kernel), List.forall_mem_cons.mpr ⟨List.mem_of_getElem? (i := 120) (by decide +kernel), List.forall_mem_cons.mpr ⟨List.mem_of_getElem? (i := 348) (by decide +kernel), List.forall_mem_cons.mpr ⟨List.mem_of_getElem? (i := 349) (by decide +kernel), List.forall_mem_cons.mpr ⟨List.mem_of_getElem? (i := 350) (by decide +kernel), List.forall_mem_cons.mpr ⟨List.mem_of_getElem? (i := 351) (by decide +kernel), List.forall_mem_cons.mpr ⟨List.mem_of_getElem? (i := 121) (by decide +kernel), List.forall_mem_cons.mpr ⟨List.mem_of_getElem? (i := 352) (by decide +kernel), List.forall_mem_cons.mpr ⟨List.mem_of_getElem? (i := 353) (by decide +kernel), List.forall_mem_cons.mpr ⟨List.mem_of_getElem? (i := 354) (by decide +kernel), List.forall_mem_cons.mpr ⟨List.mem_of_getElem? (i := 355) (by decide +kernel), List.forall_mem_cons.mpr ⟨List.mem_of_getElem? (i := 356) (by decide +kernel), List.forall_mem_cons.mpr ⟨List.mem_of_getElem? (i := 346) (by decide +kernel), List.forall_mem_cons.mpr ⟨List.mem_of_getElem? (i := 347) (by decide +kernel), fun _ h => absurd h List.not_mem_nil⟩⟩⟩⟩⟩⟩⟩⟩⟩⟩⟩⟩⟩⟩⟩⟩
def TM_4 : List Cond := [.instanceMethod yM_isClass, .selects RM yM_isClass yM_isClass, .instanceMethod yM_isAge, .selects RM yM_isAge yM_isAge, .static yM_isPart, .static yM_at, .instanceMethod yM_count, .selects RM yM_count yM_count, .methodLink RM 45 yM_at, .instanceMethod yM_inGroup, .selects RM yM_inGroup yM_inGroup, .methodLink RM 49 yM_count, .instanceMethod yM_inAll, .selects RM yM_inAll yM_inAll, .static yM_partOf, .constantLong RM 52 (-1)]
theorem TM_4_in : ∀ w ∈ TM_4, w ∈ lw_tbl := List.forall_mem_cons.mpr ⟨List.mem_of_getElem? (i := 392) (by decide +kernel), List.forall_mem_cons.mpr ⟨List.mem_of_getElem? (i := 28) (by decide +kernel), List.forall_mem_cons.mpr ⟨List.mem_of_getElem? (i := 396) (by decide +kernel), List.forall_mem_cons.mpr ⟨List.mem_of_getElem? (i := 29) (by decide +kernel), List.forall_mem_cons.mpr ⟨List.mem_of_getElem? (i := 422) (by decide +kernel), List.forall_mem_cons.mpr ⟨List.mem_of_getElem? (i := 407) (by decide +kernel), List.forall_mem_cons.mpr ⟨List.mem_of_getElem? (i := 404) (by decide +kernel), List.forall_mem_cons.mpr ⟨List.mem_of_getElem? (i := 31) (by decide +kernel), List.forall_mem_cons.mpr ⟨List.mem_of_getElem? (i := 406) (by decide +kernel), List.forall_mem_cons.mpr ⟨List.mem_of_getElem? (i := 400) (by decide +kernel), List.forall_mem_cons.mpr ⟨List.mem_of_getElem? (i := 30) (by decide +kernel), List.forall_mem_cons.mpr ⟨List.mem_of_getElem? (i := 402) (by decide +kernel), List.forall_mem_cons.mpr ⟨List.mem_of_getElem? (i := 411) (by decide +kernel), List.forall_mem_cons.mpr ⟨List.mem_of_getElem? (i := 32) (by decide +kernel), List.forall_mem_cons.mpr ⟨List.mem_of_getElem? (i := 434) (by decide +kernel), List.forall_mem_cons.mpr ⟨List.mem_of_getElem? (i := 424) (by decide +kernel), fun _ h => absurd h List.not_mem_nil⟩⟩⟩⟩⟩⟩⟩⟩⟩⟩⟩⟩⟩⟩⟩⟩
def TM_5 : List Cond := [.instanceMethod yM_read, .selects RM yM_read yM_read, .methodLink RM 54 yM_isClass, .methodLink RM 58 yM_isAge, .methodLink RM 61 yM_inGroup, .methodLink RM 64 yM_inAll, .instanceMethod yM_place, .selects RM yM_place yM_place, .instanceMethod yM_own, .selects RM yM_own yM_own, .instanceMethod yM_source, .selects RM yM_source yM_source, .methodLink RM 68 yM_own, .instanceMethod yM_share, .selects RM yM_share yM_share, .methodLink RM 71 yM_isPart]
theorem TM_5_in : ∀ w ∈ TM_5, w ∈ lw_tbl := List.forall_mem_cons.mpr ⟨List.mem_of_getElem? (i := 387) (by decide +kernel), List.forall_mem_cons.mpr ⟨List.mem_of_getElem? (i := 388) (by decide +kernel), List.forall_mem_cons.mpr ⟨List.mem_of_getElem? (i := 390) (by decide +kernel), List.forall_mem_cons.mpr ⟨List.mem_of_getElem? (i := 394) (by decide +kernel), List.forall_mem_cons.mpr ⟨List.mem_of_getElem? (i := 398) (by decide +kernel), List.forall_mem_cons.mpr ⟨List.mem_of_getElem? (i := 409) (by decide +kernel), List.forall_mem_cons.mpr ⟨List.mem_of_getElem? (i := 414) (by decide +kernel), List.forall_mem_cons.mpr ⟨List.mem_of_getElem? (i := 415) (by decide +kernel), List.forall_mem_cons.mpr ⟨List.mem_of_getElem? (i := 431) (by decide +kernel), List.forall_mem_cons.mpr ⟨List.mem_of_getElem? (i := 34) (by decide +kernel), List.forall_mem_cons.mpr ⟨List.mem_of_getElem? (i := 427) (by decide +kernel), List.forall_mem_cons.mpr ⟨List.mem_of_getElem? (i := 33) (by decide +kernel), List.forall_mem_cons.mpr ⟨List.mem_of_getElem? (i := 429) (by decide +kernel), List.forall_mem_cons.mpr ⟨List.mem_of_getElem? (i := 418) (by decide +kernel), List.forall_mem_cons.mpr ⟨List.mem_of_getElem? (i := 419) (by decide +kernel), List.forall_mem_cons.mpr ⟨List.mem_of_getElem? (i := 421) (by decide +kernel), fun _ h => absurd h List.not_mem_nil⟩⟩⟩⟩⟩⟩⟩⟩⟩⟩⟩⟩⟩⟩⟩⟩
def TM_6 : List Cond := [.methodLink RM 74 yM_source, .methodLink RM 77 yM_partOf, .instanceMethod yM_empty, .selects RM yM_empty yM_empty, .instanceMethod yM_distance, .selects RM yM_distance yM_distance, .instanceMethod yM_fill, .selects RM yM_fill yM_fill, .methodLink RM 81 yM_distance, .instanceMethod yM_marked, .selects RM yM_marked yM_marked, .instanceMethod yM_joined, .selects RM yM_joined yM_joined, .instanceMethod yM_groups, .selects RM yM_groups yM_groups, .instanceMethod yM_allMeasured]
theorem TM_6_in : ∀ w ∈ TM_6, w ∈ lw_tbl := List.forall_mem_cons.mpr ⟨List.mem_of_getElem? (i := 425) (by decide +kernel), List.forall_mem_cons.mpr ⟨List.mem_of_getElem? (i := 433) (by decide +kernel), List.forall_mem_cons.mpr ⟨List.mem_of_getElem? (i := 437) (by decide +kernel), List.forall_mem_cons.mpr ⟨List.mem_of_getElem? (i := 438) (by decide +kernel), List.forall_mem_cons.mpr ⟨List.mem_of_getElem? (i := 446) (by decide +kernel), List.forall_mem_cons.mpr ⟨List.mem_of_getElem? (i := 35) (by decide +kernel), List.forall_mem_cons.mpr ⟨List.mem_of_getElem? (i := 441) (by decide +kernel), List.forall_mem_cons.mpr ⟨List.mem_of_getElem? (i := 442) (by decide +kernel), List.forall_mem_cons.mpr ⟨List.mem_of_getElem? (i := 444) (by decide +kernel), List.forall_mem_cons.mpr ⟨List.mem_of_getElem? (i := 449) (by decide +kernel), List.forall_mem_cons.mpr ⟨List.mem_of_getElem? (i := 450) (by decide +kernel), List.forall_mem_cons.mpr ⟨List.mem_of_getElem? (i := 453) (by decide +kernel), List.forall_mem_cons.mpr ⟨List.mem_of_getElem? (i := 454) (by decide +kernel), List.forall_mem_cons.mpr ⟨List.mem_of_getElem? (i := 457) (by decide +kernel), List.forall_mem_cons.mpr ⟨List.mem_of_getElem? (i := 458) (by decide +kernel), List.forall_mem_cons.mpr ⟨List.mem_of_getElem? (i := 467) (by decide +kernel), fun _ h => absurd h List.not_mem_nil⟩⟩⟩⟩⟩⟩⟩⟩⟩⟩⟩⟩⟩⟩⟩⟩
def TM_7 : List Cond := [.selects RM yM_allMeasured yM_allMeasured, .instanceMethod yM_sample, .selects RM yM_sample yM_sample, .constantLong RM 85 (10000), .methodLink RM 87 yM_allMeasured, .instanceMethod yM_raise, .selects RM yM_raise yM_raise, .fieldLink RM 91 "AgeKeysModel" "above" "J", .constantLong RM 95 (232792560), .fieldLink RM 97 "AgeKeysModel" "below" "J", .instanceMethod yM_raised, .selects RM yM_raised yM_raised, .methodLink RM 100 yM_raise, .instanceMethod yM_sums, .selects RM yM_sums yM_sums, .instanceMethod yM_without]
theorem TM_7_in : ∀ w ∈ TM_7, w ∈ lw_tbl := List.forall_mem_cons.mpr ⟨List.mem_of_getElem? (i := 36) (by decide +kernel), List.forall_mem_cons.mpr ⟨List.mem_of_getElem? (i := 461) (by decide +kernel), List.forall_mem_cons.mpr ⟨List.mem_of_getElem? (i := 462) (by decide +kernel), List.forall_mem_cons.mpr ⟨List.mem_of_getElem? (i := 464) (by decide +kernel), List.forall_mem_cons.mpr ⟨List.mem_of_getElem? (i := 465) (by decide +kernel), List.forall_mem_cons.mpr ⟨List.mem_of_getElem? (i := 475) (by decide +kernel), List.forall_mem_cons.mpr ⟨List.mem_of_getElem? (i := 37) (by decide +kernel), List.forall_mem_cons.mpr ⟨List.mem_of_getElem? (i := 357) (by decide +kernel), List.forall_mem_cons.mpr ⟨List.mem_of_getElem? (i := 477) (by decide +kernel), List.forall_mem_cons.mpr ⟨List.mem_of_getElem? (i := 358) (by decide +kernel), List.forall_mem_cons.mpr ⟨List.mem_of_getElem? (i := 470) (by decide +kernel), List.forall_mem_cons.mpr ⟨List.mem_of_getElem? (i := 471) (by decide +kernel), List.forall_mem_cons.mpr ⟨List.mem_of_getElem? (i := 473) (by decide +kernel), List.forall_mem_cons.mpr ⟨List.mem_of_getElem? (i := 479) (by decide +kernel), List.forall_mem_cons.mpr ⟨List.mem_of_getElem? (i := 480) (by decide +kernel), List.forall_mem_cons.mpr ⟨List.mem_of_getElem? (i := 483) (by decide +kernel), fun _ h => absurd h List.not_mem_nil⟩⟩⟩⟩⟩⟩⟩⟩⟩⟩⟩⟩⟩⟩⟩⟩
def TM_8 : List Cond := [.selects RM yM_without yM_without, .instanceMethod yM_error, .selects RM yM_error yM_error, .instanceMethod yM_determinant, .selects RM yM_determinant yM_determinant, .instanceMethod yM_lay, .selects RM yM_lay yM_lay, .constantLong RM 104 (20), .instanceMethod yM_undo, .selects RM yM_undo yM_undo, .methodLink RM 106 yM_lay, .methodLink RM 110 yM_determinant, .instanceMethod yM_undone, .selects RM yM_undone yM_undone, .methodLink RM 113 yM_undo, .instanceMethod yM_apart]
theorem TM_8_in : ∀ w ∈ TM_8, w ∈ lw_tbl := List.forall_mem_cons.mpr ⟨List.mem_of_getElem? (i := 484) (by decide +kernel), List.forall_mem_cons.mpr ⟨List.mem_of_getElem? (i := 487) (by decide +kernel), List.forall_mem_cons.mpr ⟨List.mem_of_getElem? (i := 488) (by decide +kernel), List.forall_mem_cons.mpr ⟨List.mem_of_getElem? (i := 501) (by decide +kernel), List.forall_mem_cons.mpr ⟨List.mem_of_getElem? (i := 39) (by decide +kernel), List.forall_mem_cons.mpr ⟨List.mem_of_getElem? (i := 496) (by decide +kernel), List.forall_mem_cons.mpr ⟨List.mem_of_getElem? (i := 38) (by decide +kernel), List.forall_mem_cons.mpr ⟨List.mem_of_getElem? (i := 498) (by decide +kernel), List.forall_mem_cons.mpr ⟨List.mem_of_getElem? (i := 491) (by decide +kernel), List.forall_mem_cons.mpr ⟨List.mem_of_getElem? (i := 492) (by decide +kernel), List.forall_mem_cons.mpr ⟨List.mem_of_getElem? (i := 494) (by decide +kernel), List.forall_mem_cons.mpr ⟨List.mem_of_getElem? (i := 499) (by decide +kernel), List.forall_mem_cons.mpr ⟨List.mem_of_getElem? (i := 504) (by decide +kernel), List.forall_mem_cons.mpr ⟨List.mem_of_getElem? (i := 505) (by decide +kernel), List.forall_mem_cons.mpr ⟨List.mem_of_getElem? (i := 507) (by decide +kernel), List.forall_mem_cons.mpr ⟨List.mem_of_getElem? (i := 509) (by decide +kernel), fun _ h => absurd h List.not_mem_nil⟩⟩⟩⟩⟩⟩⟩⟩⟩⟩⟩⟩⟩⟩⟩⟩
def TM_9 : List Cond := [.selects RM yM_apart yM_apart, .instanceMethod yM_ofAge, .selects RM yM_ofAge yM_ofAge, .instanceMethod yM_classesOf, .selects RM yM_classesOf yM_classesOf, .instanceMethod yM_mean, .selects RM yM_mean yM_mean, .methodLink RM 117 yM_classesOf, .methodLink RM 120 yM_ofAge, .instanceMethod yM_length, .selects RM yM_length yM_length, .methodLink RM 123 yM_mean, .instanceMethod yM_isSame, .selects RM yM_isSame yM_isSame, .instanceMethod yM_pooled, .selects RM yM_pooled yM_pooled]
theorem TM_9_in : ∀ w ∈ TM_9, w ∈ lw_tbl := List.forall_mem_cons.mpr ⟨List.mem_of_getElem? (i := 510) (by decide +kernel), List.forall_mem_cons.mpr ⟨List.mem_of_getElem? (i := 518) (by decide +kernel), List.forall_mem_cons.mpr ⟨List.mem_of_getElem? (i := 40) (by decide +kernel), List.forall_mem_cons.mpr ⟨List.mem_of_getElem? (i := 526) (by decide +kernel), List.forall_mem_cons.mpr ⟨List.mem_of_getElem? (i := 42) (by decide +kernel), List.forall_mem_cons.mpr ⟨List.mem_of_getElem? (i := 522) (by decide +kernel), List.forall_mem_cons.mpr ⟨List.mem_of_getElem? (i := 41) (by decide +kernel), List.forall_mem_cons.mpr ⟨List.mem_of_getElem? (i := 524) (by decide +kernel), List.forall_mem_cons.mpr ⟨List.mem_of_getElem? (i := 516) (by decide +kernel), List.forall_mem_cons.mpr ⟨List.mem_of_getElem? (i := 513) (by decide +kernel), List.forall_mem_cons.mpr ⟨List.mem_of_getElem? (i := 514) (by decide +kernel), List.forall_mem_cons.mpr ⟨List.mem_of_getElem? (i := 520) (by decide +kernel), List.forall_mem_cons.mpr ⟨List.mem_of_getElem? (i := 534) (by decide +kernel), List.forall_mem_cons.mpr ⟨List.mem_of_getElem? (i := 43) (by decide +kernel), List.forall_mem_cons.mpr ⟨List.mem_of_getElem? (i := 529) (by decide +kernel), List.forall_mem_cons.mpr ⟨List.mem_of_getElem? (i := 530) (by decide +kernel), fun _ h => absurd h List.not_mem_nil⟩⟩⟩⟩⟩⟩⟩⟩⟩⟩⟩⟩⟩⟩⟩⟩
def TM_10 : List Cond := [.methodLink RM 127 yM_isSame, .instanceMethod yM_sex, .selects RM yM_sex yM_sex, .instanceMethod yM_males, .selects RM yM_males yM_males, .initialized RM]
theorem TM_10_in : ∀ w ∈ TM_10, w ∈ lw_tbl := List.forall_mem_cons.mpr ⟨List.mem_of_getElem? (i := 532) (by decide +kernel), List.forall_mem_cons.mpr ⟨List.mem_of_getElem? (i := 537) (by decide +kernel), List.forall_mem_cons.mpr ⟨List.mem_of_getElem? (i := 538) (by decide +kernel), List.forall_mem_cons.mpr ⟨List.mem_of_getElem? (i := 541) (by decide +kernel), List.forall_mem_cons.mpr ⟨List.mem_of_getElem? (i := 542) (by decide +kernel), List.forall_mem_cons.mpr ⟨List.mem_of_getElem? (i := 47) (by decide +kernel), fun _ h => absurd h List.not_mem_nil⟩⟩⟩⟩⟩⟩
def TM_11 : List Cond := u_ws RM FM 13
set_option maxRecDepth 20000 in
theorem TM_11_in : ∀ w ∈ TM_11, w ∈ lw_tbl := by decide +kernel
def TM : List Cond := TM_0 ++ (TM_1 ++ (TM_2 ++ (TM_3 ++ (TM_4 ++ (TM_5 ++ (TM_6 ++ (TM_7 ++ (TM_8 ++ (TM_9 ++ (TM_10 ++ (TM_11)))))))))))
set_option maxRecDepth 20000 in
theorem TM_good : GoodIn TM TM := kgood_self (by decide +kernel)
theorem TM_in : ∀ w ∈ TM, w ∈ lw_tbl := List.forall_mem_append.mpr ⟨TM_0_in, List.forall_mem_append.mpr ⟨TM_1_in, List.forall_mem_append.mpr ⟨TM_2_in, List.forall_mem_append.mpr ⟨TM_3_in, List.forall_mem_append.mpr ⟨TM_4_in, List.forall_mem_append.mpr ⟨TM_5_in, List.forall_mem_append.mpr ⟨TM_6_in, List.forall_mem_append.mpr ⟨TM_7_in, List.forall_mem_append.mpr ⟨TM_8_in, List.forall_mem_append.mpr ⟨TM_9_in, List.forall_mem_append.mpr ⟨TM_10_in, TM_11_in⟩⟩⟩⟩⟩⟩⟩⟩⟩⟩⟩
theorem iM_u : ∀ w ∈ u_ws RM FM 13, w ∈ TM := fun w h => List.mem_append_right _ (List.mem_append_right _ (List.mem_append_right _ (List.mem_append_right _ (List.mem_append_right _ (List.mem_append_right _ (List.mem_append_right _ (List.mem_append_right _ (List.mem_append_right _ (List.mem_append_right _ (List.mem_append_right _ (h)))))))))))
theorem nM_ok : ∀ a, a < 13 → ∀ b, b < 13 → a ≠ b → (FM a).2.1 ≠ (FM b).2.1 := by decide +kernel
theorem tyM_ok : ∀ k, k < 13 → parseFieldDescriptor (FM k).2.2.1 = some (tyM k) := by decide +kernel
end
section
/-! Rows of our own over the kit's: what an instruction does by Option functions; contracts whose worlds are a function of a state. -/
def kld {α : Type} (n : Nat) (f : Nat → α) (i : Int32) : Option α := if i < 0 ∨ n ≤ i.toNatClampNeg then none else some (f i.toNatClampNeg)
def kstI (n : Nat) (f : Nat → Int32) (i x : Int32) : Option (Nat → Int32) := if i < 0 ∨ n ≤ i.toNatClampNeg then none else some (upd f i.toNatClampNeg x)
def kstJ (n : Nat) (f : Nat → Int64) (i : Int32) (x : Int64) : Option (Nat → Int64) := if i < 0 ∨ n ≤ i.toNatClampNeg then none else some (vp_updL f i.toNatClampNeg x)
def kdivI (x y : Int32) : Option Int32 := if y = 0 then none else some (x / y)
def kremI (x y : Int32) : Option Int32 := if y = 0 then none else some (x - x / y * y)
def kdivJ (x y : Int64) : Option Int64 := if y = 0 then none else some (x / y)
def kremJ (x y : Int64) : Option Int64 := if y = 0 then none else some (x - x / y * y)
def kbool (v : Int32) : Option Int32 := if v = 0 ∨ v = 1 then some v else none
theorem kbool_some {v b : Int32} (h : kbool v = some b) : v = b ∧ narrow .boolean (.int v) = .int v := by
  unfold kbool at h
  split at h
  · rename_i hv
    refine ⟨Option.some.inj h, ?_⟩
    rcases hv with rfl | rfl <;> rfl
  · cases h
def kbind2 {α β γ : Type} (x : Option (α × β)) (f : α → β → Option γ) : Option γ := match x with
  | none => none
  | some (a, b) => f a b
theorem kb1 {α β : Type} {x : Option α} {f : α → Option β} {b : β} (h : x.bind f = some b) : ∃ a, x = some a ∧ f a = some b := by
  cases x with
  | none => cases h
  | some a => exact ⟨a, rfl, h⟩
theorem kb2 {α β γ : Type} {x : Option (α × β)} {f : α → β → Option γ} {c : γ} (h : kbind2 x f = some c) : ∃ a b, x = some (a, b) ∧ f a b = some c := by
  cases x with
  | none => cases h
  | some q => exact ⟨q.1, q.2, rfl, h⟩
theorem kld_some {α : Type} {n : Nat} {f : Nat → α} {i : Int32} {v : α} (h : kld n f i = some v) : vp_in i n ∧ f i.toNatClampNeg = v := by
  unfold kld at h
  split at h
  · cases h
  · rename_i hn
    exact ⟨hn, Option.some.inj h⟩
theorem kstI_some {n : Nat} {f : Nat → Int32} {i x : Int32} {v : Nat → Int32} (h : kstI n f i x = some v) : vp_in i n ∧ upd f i.toNatClampNeg x = v := by
  unfold kstI at h
  split at h
  · cases h
  · rename_i hn
    exact ⟨hn, Option.some.inj h⟩
theorem kstJ_some {n : Nat} {f : Nat → Int64} {i : Int32} {x : Int64} {v : Nat → Int64} (h : kstJ n f i x = some v) : vp_in i n ∧ vp_updL f i.toNatClampNeg x = v := by
  unfold kstJ at h
  split at h
  · cases h
  · rename_i hn
    exact ⟨hn, Option.some.inj h⟩
/-- what a method's body stands on -/
def Cx (p : Program) (s : State) (m : MethodId) (args : Array Value) (meth : Method) (c : Code) (cc : ByteArray) (nL : Nat) (ret : Option FieldType) (own : String) (Ts : List Cond) : Prop :=
  p.tables.exec = Jvm.exec ∧ c.code = cc ∧ meth.sig.returnType = ret ∧ c.maxLocals = nL ∧ s.vm.findClass own = some m.cls ∧ (∀ w ∈ Ts, w.before args s = true) ∧ meth.locks = false
abbrev kPre {S : Type} (D : va_G) (cl : List vw_C) (tys : List (ClassId × FieldType)) (wd : S → va_W) (sz : Nat) (σ : S) (av : List Value) : Array Value → State → Prop := va_Pc av (fun U => U.heap.size = sz ∧ va_P D cl (wd σ) U.heap ∧ va_K D cl tys U ∧ va_D (fun _ => True) (wd σ))
abbrev kB {S : Type} (D : va_G) (cl : List vw_C) (tys : List (ClassId × FieldType)) (wd : S → va_W) (A : Nat → Prop) (u : S) (t : State) : Prop := va_P D cl (wd u) t.heap ∧ va_K D cl tys t ∧ va_D A (wd u)
abbrev kQi {S : Type} (D : va_G) (cl : List vw_C) (tys : List (ClassId × FieldType)) (wd : S → va_W) (A : Nat → Prop) (r : Int32) (σ' : S) : Array Value → State → Outcome → State → Prop := va_Qi (fun (r2 : Int32) (u : S) => r2 = r ∧ u = σ') (kB D cl tys wd A) A
abbrev kQl {S : Type} (D : va_G) (cl : List vw_C) (tys : List (ClassId × FieldType)) (wd : S → va_W) (A : Nat → Prop) (r : Int64) (σ' : S) : Array Value → State → Outcome → State → Prop := va_Ql (fun (r2 : Int64) (u : S) => r2 = r ∧ u = σ') (kB D cl tys wd A) A
abbrev kQv {S : Type} (D : va_G) (cl : List vw_C) (tys : List (ClassId × FieldType)) (wd : S → va_W) (A : Nat → Prop) (σ' : S) : Array Value → State → Outcome → State → Prop := va_Qv (fun (u : S) => u = σ') (kB D cl tys wd A) A
theorem kgood_V {T : List Cond} {own C : String} {idx : Nat} {y : MethodName} {b : ByteArray} {n : Nat} {r : Option FieldType} (hT : GoodIn T T) (h : ∀ w ∈ ([.methodLink own idx y, .instanceMethod y, .selects C y y, .initialized C, .code y b n r] : List Cond), w ∈ T) : GoodIn T (wsV own idx C y (.code y b n r :: T)) := by
  intro w hw
  unfold wsV at hw
  have hin : w ∈ T := by
    rcases List.mem_append.mp hw with h1 | h1
    · exact h w (List.mem_append_left ([Cond.code y b n r] : List Cond) h1)
    · rcases List.mem_cons.mp h1 with h2 | h2
      · exact h w (by rw [h2]; simp)
      · exact h2
  exact hT w hin
theorem kgood_S {T : List Cond} {own : String} {idx : Nat} {y : MethodName} {b : ByteArray} {n : Nat} {r : Option FieldType} (hT : GoodIn T T) (h : ∀ w ∈ ([.methodLink own idx y, .static y, .initialized own, .code y b n r] : List Cond), w ∈ T) : GoodIn T (wsS own idx y (.code y b n r :: T)) := by
  intro w hw
  unfold wsS at hw
  have hin : w ∈ T := by
    rcases List.mem_append.mp hw with h1 | h1
    · exact h w (List.mem_append_left ([Cond.code y b n r] : List Cond) h1)
    · rcases List.mem_cons.mp h1 with h2 | h2
      · exact h w (by rw [h2]; simp)
      · exact h2
  exact hT w hin
section KR
variable {p : Program} {l : Launch} {e : Env} {R : Room} {s : State} {m : MethodId} {args : Array Value} {below : List Frame} {meth : Method} {c : Code} {H : Heap} {locs : List Loc} {cells slots : Nat} {Q : State → Prop}
variable {cc : ByteArray} {nL pc : Nat} {ret : Option FieldType} {own : String} {Ts : List Cond} {ls : Array Slot} {rest : List Value}
variable {S : Type} {wd : S → va_W} {σ σ' : S} {D : va_G} {cl : List vw_C} {tys : List (ClassId × FieldType)} {A : Nat → Prop}
theorem kr_start {y : MethodName} {maxL : Nat} {rm : Room} {sz mc ms : Nat} {av : List Value} {Qc : Array Value → State → Outcome → State → Prop} {free : Addr → Prop} (hy : plainName y.cls = true) (ho : y.cls = own) (hlen : (lg_sl av).length ≤ maxL)
    (body : ∀ (p : Program) (e : Env) (s : State) (m : MethodId) (args : Array Value) (below : List Frame) (meth : Method) (c : Code) (ls : Array Slot), Cx p s m args meth c cc maxL ret own Ts → s.heap.size = sz → va_K D cl tys s → va_P D cl (wd σ) s.heap → va_D (va_A (wd σ) sz) (wd σ) → lv_has ls maxL (lv_args 0 av) →
      W p l e rm s m args below meth c s.heap [] 0 0 (MQ below Qc args s mc ms free) (F0 m 0 ls [])) : Met l y (.code y cc maxL ret :: Ts) rm (kPre D cl tys wd sz σ av) Qc mc ms free := by
  refine Met.ofW (cc := cc) (maxL := maxL) (ret := ret) hy rfl ?_
  intro p e s m args below meth c s₁ B hml hv
  obtain ⟨rfl, hsz, hP, hK, hD0⟩ := hv
  have hts := atoms_spec (ws := .code y cc maxL ret :: Ts) B.pre
  have hown : s.vm.findClass y.cls = some m.cls := findClass_of_methodNamed B.named
  rw [ho] at hown
  have hl := lv_entry av (n := maxL) hlen
  rw [lg_entry_eq]
  exact body p e s m _ below meth c _ ⟨B.exec, B.bytes, B.returns, hml, hown, fun w h => hts w (List.mem_cons_of_mem _ h), B.notSynchronized⟩ hsz hK hP hD0.self hl
theorem kr_iret {v r : Int32} (C0 : Cx p s m args meth c cc nL (some .int) own Ts) (hK : va_K D cl tys s) (hP : va_P D cl (wd σ) H) (hD : va_D A (wd σ)) (hS : va_S A s.heap H locs) (hv : v = r) (hσ : σ = σ') (hdg : decode cc pc = .ok (.ireturn, 1)) :
    W p l e R s m args below meth c H locs cells slots (MQ below (kQi D cl tys wd A r σ') args s cells slots A) (F0 m pc ls [.int v]) := by
  obtain ⟨hx, hb, hr, hml, hown, hts, hlocks⟩ := C0
  exact W.iret hx hb hr (fun t ht hW => ⟨⟨v, σ, rfl, ⟨hv, hσ⟩, by rw [ht]; exact hP, va_K.moved hW.alike hK, hD⟩, hS.F ht⟩) hS.2.2 hdg hlocks
theorem kr_zret {v r : Int32} (C0 : Cx p s m args meth c cc nL (some .boolean) own Ts) (hK : va_K D cl tys s) (hP : va_P D cl (wd σ) H) (hD : va_D A (wd σ)) (hS : va_S A s.heap H locs) (hn : narrow .boolean (.int v) = .int v) (hv : v = r) (hσ : σ = σ') (hdg : decode cc pc = .ok (.ireturn, 1)) :
    W p l e R s m args below meth c H locs cells slots (MQ below (kQi D cl tys wd A r σ') args s cells slots A) (F0 m pc ls [.int v]) := by
  obtain ⟨hx, hb, hr, hml, hown, hts, hlocks⟩ := C0
  exact W.zret hx hb hr hn (fun t ht hW => ⟨⟨v, σ, rfl, ⟨hv, hσ⟩, by rw [ht]; exact hP, va_K.moved hW.alike hK, hD⟩, hS.F ht⟩) hS.2.2 hdg hlocks
theorem kr_lret {v r : Int64} (C0 : Cx p s m args meth c cc nL (some .long) own Ts) (hK : va_K D cl tys s) (hP : va_P D cl (wd σ) H) (hD : va_D A (wd σ)) (hS : va_S A s.heap H locs) (hv : v = r) (hσ : σ = σ') (hdg : decode cc pc = .ok (.lreturn, 1)) :
    W p l e R s m args below meth c H locs cells slots (MQ below (kQl D cl tys wd A r σ') args s cells slots A) (F0 m pc ls [.long v]) := by
  obtain ⟨hx, hb, hr, hml, hown, hts, hlocks⟩ := C0
  exact W.lret hx hb hr (fun t ht hW => ⟨⟨v, σ, rfl, ⟨hv, hσ⟩, by rw [ht]; exact hP, va_K.moved hW.alike hK, hD⟩, hS.F ht⟩) hS.2.2 hdg hlocks
theorem kr_vret (C0 : Cx p s m args meth c cc nL none own Ts) (hK : va_K D cl tys s) (hP : va_P D cl (wd σ) H) (hD : va_D A (wd σ)) (hS : va_S A s.heap H locs) (hσ : σ = σ') (hdg : decode cc pc = .ok (.return_, 1)) :
    W p l e R s m args below meth c H locs cells slots (MQ below (kQv D cl tys wd A σ') args s cells slots A) (F0 m pc ls []) := by
  obtain ⟨hx, hb, hr, hml, hown, hts, hlocks⟩ := C0
  exact W.vret hx hb hr (fun t ht hW => ⟨⟨σ, rfl, hσ, by rw [ht]; exact hP, va_K.moved hW.alike hK, hD⟩, hS.F ht⟩) hS.2.2 hdg hlocks
theorem kr_iaload (hx : p.tables.exec = Jvm.exec) (hb : c.code = cc) {ws : va_W} (hK : va_K D cl tys s) (hP : va_P D cl ws H) (q0 t0 : Nat) {cA : ClassId} {a n : Nat} {f : Nat → Int32} (ha : ws[q0]? = some (a, .inl (cA, n, .inl f))) (ht : tys[t0]? = some (cA, .int)) {i v : Int32} (h : kld n f i = some v) (hdg : decode cc pc = .ok (.iaload, 1))
    (kk : W p l e R s m args below meth c H locs cells slots Q (F0 m (pc + 1) ls (.int v :: rest))) : W p l e R s m args below meth c H locs cells slots Q (F0 m pc ls (.int i :: .ref a :: rest)) := by
  obtain ⟨h1, rfl⟩ := kld_some h
  exact va_iald hx hb hK hP q0 t0 ha ht h1 hdg kk
theorem kr_laload (hx : p.tables.exec = Jvm.exec) (hb : c.code = cc) {ws : va_W} (hK : va_K D cl tys s) (hP : va_P D cl ws H) (q0 t0 : Nat) {cA : ClassId} {a n : Nat} {f : Nat → Int64} (ha : ws[q0]? = some (a, .inl (cA, n, .inr (.inl f)))) (ht : tys[t0]? = some (cA, .long)) {i : Int32} {v : Int64} (h : kld n f i = some v) (hdg : decode cc pc = .ok (.laload, 1))
    (kk : W p l e R s m args below meth c H locs cells slots Q (F0 m (pc + 1) ls (.long v :: rest))) : W p l e R s m args below meth c H locs cells slots Q (F0 m pc ls (.int i :: .ref a :: rest)) := by
  obtain ⟨h1, rfl⟩ := kld_some h
  exact va_lald hx hb hK hP q0 t0 ha ht h1 hdg kk
theorem kr_iastore (hx : p.tables.exec = Jvm.exec) (hb : c.code = cc) (hK : va_K D cl tys s) (hP : va_P D cl (wd σ) H) (hD : va_D A (wd σ)) (hS : va_S A s.heap H locs) (q0 t0 : Nat) {cA : ClassId} {a n : Nat} {f f' : Nat → Int32} (ha : (wd σ)[q0]? = some (a, .inl (cA, n, .inl f))) (ht : tys[t0]? = some (cA, .int)) {i x : Int32} (h : kstI n f i x = some f') (hw : (wd σ).set q0 (a, .inl (cA, n, .inl f')) = wd σ') (hdg : decode cc pc = .ok (.iastore, 1))
    (kk : ∀ (H1 : Heap) (locs1 : List Loc), va_P D cl (wd σ') H1 → va_D A (wd σ') → va_S A s.heap H1 locs1 → W p l e R s m args below meth c H1 locs1 cells slots Q (F0 m (pc + 1) ls rest)) : W p l e R s m args below meth c H locs cells slots Q (F0 m pc ls (.int x :: .int i :: .ref a :: rest)) := by
  obtain ⟨h1, rfl⟩ := kstI_some h
  rw [← hw] at kk
  exact va_iast hx hb hK hP hD hS q0 t0 ha ht h1 hdg kk
theorem kr_lastore (hx : p.tables.exec = Jvm.exec) (hb : c.code = cc) (hK : va_K D cl tys s) (hP : va_P D cl (wd σ) H) (hD : va_D A (wd σ)) (hS : va_S A s.heap H locs) (q0 t0 : Nat) {cA : ClassId} {a n : Nat} {f f' : Nat → Int64} (ha : (wd σ)[q0]? = some (a, .inl (cA, n, .inr (.inl f)))) (ht : tys[t0]? = some (cA, .long)) {i : Int32} {x : Int64} (h : kstJ n f i x = some f') (hw : (wd σ).set q0 (a, .inl (cA, n, .inr (.inl f'))) = wd σ') (hdg : decode cc pc = .ok (.lastore, 1))
    (kk : ∀ (H1 : Heap) (locs1 : List Loc), va_P D cl (wd σ') H1 → va_D A (wd σ') → va_S A s.heap H1 locs1 → W p l e R s m args below meth c H1 locs1 cells slots Q (F0 m (pc + 1) ls rest)) : W p l e R s m args below meth c H locs cells slots Q (F0 m pc ls (.long x :: .int i :: .ref a :: rest)) := by
  obtain ⟨h1, rfl⟩ := kstJ_some h
  rw [← hw] at kk
  exact va_last hx hb hK hP hD hS q0 t0 ha ht h1 hdg kk
theorem kr_ldiv (hx : p.tables.exec = Jvm.exec) (hb : c.code = cc) {x y v : Int64} (h : kdivJ x y = some v) (hdg : decode cc pc = .ok (.ldiv, 1))
    (kk : W p l e R s m args below meth c H locs cells slots Q (F0 m (pc + 1) ls (.long v :: rest))) : W p l e R s m args below meth c H locs cells slots Q (F0 m pc ls (.long y :: .long x :: rest)) := by
  unfold kdivJ at h
  split at h
  · cases h
  · rename_i hn
    rw [← Option.some.inj h] at kk
    exact lv_ldiv hx hb hdg hn kk
theorem kr_lrem (hx : p.tables.exec = Jvm.exec) (hb : c.code = cc) {x y v : Int64} (h : kremJ x y = some v) (hdg : decode cc pc = .ok (.lrem, 1))
    (kk : W p l e R s m args below meth c H locs cells slots Q (F0 m (pc + 1) ls (.long v :: rest))) : W p l e R s m args below meth c H locs cells slots Q (F0 m pc ls (.long y :: .long x :: rest)) := by
  unfold kremJ at h
  split at h
  · cases h
  · rename_i hn
    rw [← Option.some.inj h] at kk
    exact lv_lrem hx hb hdg hn kk
theorem kr_idiv (hx : p.tables.exec = Jvm.exec) (hb : c.code = cc) {x y v : Int32} (h : kdivI x y = some v) (hdg : decode cc pc = .ok (.idiv, 1))
    (kk : W p l e R s m args below meth c H locs cells slots Q (F0 m (pc + 1) ls (.int v :: rest))) : W p l e R s m args below meth c H locs cells slots Q (F0 m pc ls (.int y :: .int x :: rest)) := by
  unfold kdivI at h
  split at h
  · cases h
  · rename_i hn
    rw [← Option.some.inj h] at kk
    exact lv_idiv hx hb hdg hn kk
theorem kr_irem (hx : p.tables.exec = Jvm.exec) (hb : c.code = cc) {x y v : Int32} (h : kremI x y = some v) (hdg : decode cc pc = .ok (.irem, 1))
    (kk : W p l e R s m args below meth c H locs cells slots Q (F0 m (pc + 1) ls (.int v :: rest))) : W p l e R s m args below meth c H locs cells slots Q (F0 m pc ls (.int y :: .int x :: rest)) := by
  unfold kremI at h
  split at h
  · cases h
  · rename_i hn
    rw [← Option.some.inj h] at kk
    exact lv_irem hx hb hdg hn kk
variable {y : MethodName} {ws : List Cond} {rm : Room} {bytes : ByteArray} {maxL index n a0 : Nat} {C : String} {rt : Option FieldType} {av st0 : List Value}
theorem kr_free (hD : va_D A (wd σ)) (hS : va_S A s.heap H locs) (hA : ∀ z, s.heap.size ≤ z → A z) : ∀ z, va_A (wd σ) H.size z → A z := by
  intro z h
  rcases h with ⟨k, e1, h⟩ | h
  · exact hD.2 k (z, e1) h
  · exact hA z (Nat.le_trans hS.1 h)
theorem kr_blind {sz : Nat} : FrameBlind (kPre D cl tys wd sz σ av) := fun a U g mk q => by
  obtain ⟨q0, q1, qP, qK, qD⟩ := q
  exact ⟨q0, q1, qP, va_K.moved (u := U) (U := U.calling g mk a) (Vm.Alike.refl U.vm) qK, qD⟩
theorem kr_callVi {r : Int32} (S0 : CallFix p m c cc nL s args Ts own) (hM : Met l y ws rm (kPre D cl tys wd H.size σ (.ref a0 :: av)) (kQi D cl tys wd (va_A (wd σ) H.size) r σ') 0 0 (va_A (wd σ) H.size)) (cw : CallW R s args own C index y bytes maxL rt ws rm 0 0 n)
    (hK : va_K D cl tys s) (hP : va_P D cl (wd σ) H) (hD : va_D A (wd σ)) (hS : va_S A s.heap H locs) (hA : ∀ z, s.heap.size ≤ z → A z) {ci q0 : Nat} {T : u_T} {N : Nat} {fs : List Value} (hc : cl[ci]? = some (C, T, N)) (he : (wd σ)[q0]? = some (a0, .inr (ci, fs)))
    (hn : av.length = n) (hsz : ls.size = nL) (hst : st0 = av.reverse ++ .ref a0 :: rest) (hcat : (rest.map fun v => v.category).sum ≤ 8) (hdg : decode cc pc = .ok (.invokevirtual index, 3)) (hfit : cells ≤ R.cells ∧ slots ≤ R.slots)
    (kk : ∀ (H1 : Heap) (locs1 : List Loc), va_P D cl (wd σ') H1 → va_D A (wd σ') → va_S A s.heap H1 locs1 → W p l e R s m args below meth c H1 locs1 cells slots Q (F0 m (pc + 3) ls (.int r :: rest))) : W p l e R s m args below meth c H locs cells slots Q (F0 m pc ls st0) := by
  have hF := kr_free hD hS hA
  refine va_calli (va_runV (As := av) (rest := rest) S0 hM cw ⟨kr_blind, va_recv hK hP hc he, fun U hU hW => ⟨rfl, by rw [hU], by rw [hU]; exact hP, va_K.moved hW.alike hK, hD.weaken (fun _ _ _ _ => trivial)⟩⟩ rfl hn hsz hst (lv_room hcat) hdg hfit) hS (fun z _ h => hF z h) hF (fun r2 u t H1 locs1 ht hvm hw hB hz1 hk1 hS1 => ?_)
  obtain ⟨rfl, rfl⟩ := hw
  obtain ⟨hP1, hK1, hD1⟩ := hB
  rw [ht] at hP1
  exact kk H1 locs1 hP1 (hD1.weaken (fun _ z _ h => hF z.1 h)) hS1
theorem kr_callVl {r : Int64} (S0 : CallFix p m c cc nL s args Ts own) (hM : Met l y ws rm (kPre D cl tys wd H.size σ (.ref a0 :: av)) (kQl D cl tys wd (va_A (wd σ) H.size) r σ') 0 0 (va_A (wd σ) H.size)) (cw : CallW R s args own C index y bytes maxL rt ws rm 0 0 n)
    (hK : va_K D cl tys s) (hP : va_P D cl (wd σ) H) (hD : va_D A (wd σ)) (hS : va_S A s.heap H locs) (hA : ∀ z, s.heap.size ≤ z → A z) {ci q0 : Nat} {T : u_T} {N : Nat} {fs : List Value} (hc : cl[ci]? = some (C, T, N)) (he : (wd σ)[q0]? = some (a0, .inr (ci, fs)))
    (hn : av.length = n) (hsz : ls.size = nL) (hst : st0 = av.reverse ++ .ref a0 :: rest) (hcat : (rest.map fun v => v.category).sum ≤ 8) (hdg : decode cc pc = .ok (.invokevirtual index, 3)) (hfit : cells ≤ R.cells ∧ slots ≤ R.slots)
    (kk : ∀ (H1 : Heap) (locs1 : List Loc), va_P D cl (wd σ') H1 → va_D A (wd σ') → va_S A s.heap H1 locs1 → W p l e R s m args below meth c H1 locs1 cells slots Q (F0 m (pc + 3) ls (.long r :: rest))) : W p l e R s m args below meth c H locs cells slots Q (F0 m pc ls st0) := by
  have hF := kr_free hD hS hA
  refine va_calll (va_runV (As := av) (rest := rest) S0 hM cw ⟨kr_blind, va_recv hK hP hc he, fun U hU hW => ⟨rfl, by rw [hU], by rw [hU]; exact hP, va_K.moved hW.alike hK, hD.weaken (fun _ _ _ _ => trivial)⟩⟩ rfl hn hsz hst (lv_room hcat) hdg hfit) hS (fun z _ h => hF z h) hF (fun r2 u t H1 locs1 ht hvm hw hB hz1 hk1 hS1 => ?_)
  obtain ⟨rfl, rfl⟩ := hw
  obtain ⟨hP1, hK1, hD1⟩ := hB
  rw [ht] at hP1
  exact kk H1 locs1 hP1 (hD1.weaken (fun _ z _ h => hF z.1 h)) hS1
theorem kr_callVv (S0 : CallFix p m c cc nL s args Ts own) (hM : Met l y ws rm (kPre D cl tys wd H.size σ (.ref a0 :: av)) (kQv D cl tys wd (va_A (wd σ) H.size) σ') 0 0 (va_A (wd σ) H.size)) (cw : CallW R s args own C index y bytes maxL rt ws rm 0 0 n)
    (hK : va_K D cl tys s) (hP : va_P D cl (wd σ) H) (hD : va_D A (wd σ)) (hS : va_S A s.heap H locs) (hA : ∀ z, s.heap.size ≤ z → A z) {ci q0 : Nat} {T : u_T} {N : Nat} {fs : List Value} (hc : cl[ci]? = some (C, T, N)) (he : (wd σ)[q0]? = some (a0, .inr (ci, fs)))
    (hn : av.length = n) (hsz : ls.size = nL) (hst : st0 = av.reverse ++ .ref a0 :: rest) (hcat : (rest.map fun v => v.category).sum ≤ 8) (hdg : decode cc pc = .ok (.invokevirtual index, 3)) (hfit : cells ≤ R.cells ∧ slots ≤ R.slots)
    (kk : ∀ (H1 : Heap) (locs1 : List Loc), va_P D cl (wd σ') H1 → va_D A (wd σ') → va_S A s.heap H1 locs1 → W p l e R s m args below meth c H1 locs1 cells slots Q (F0 m (pc + 3) ls rest)) : W p l e R s m args below meth c H locs cells slots Q (F0 m pc ls st0) := by
  have hF := kr_free hD hS hA
  refine va_callv (va_runV (As := av) (rest := rest) S0 hM cw ⟨kr_blind, va_recv hK hP hc he, fun U hU hW => ⟨rfl, by rw [hU], by rw [hU]; exact hP, va_K.moved hW.alike hK, hD.weaken (fun _ _ _ _ => trivial)⟩⟩ rfl hn hsz hst (lv_room hcat) hdg hfit) hS (fun z _ h => hF z h) hF (fun u t H1 locs1 ht hvm hw hB hz1 hk1 hS1 => ?_)
  obtain rfl := hw
  obtain ⟨hP1, hK1, hD1⟩ := hB
  rw [ht] at hP1
  exact kk H1 locs1 hP1 (hD1.weaken (fun _ z _ h => hF z.1 h)) hS1
theorem kr_callSi {r : Int32} (S0 : CallFix p m c cc nL s args Ts own) (hM : Met l y ws rm (kPre D cl tys wd H.size σ av) (kQi D cl tys wd (va_A (wd σ) H.size) r σ') 0 0 (va_A (wd σ) H.size)) (cw : CallB R s args own index y bytes maxL rt ws rm 0 0 n ∧ (Cond.static y).before args s = true)
    (hK : va_K D cl tys s) (hP : va_P D cl (wd σ) H) (hD : va_D A (wd σ)) (hS : va_S A s.heap H locs) (hA : ∀ z, s.heap.size ≤ z → A z)
    (hn : av.length = n) (hsz : ls.size = nL) (hst : st0 = av.reverse ++ rest) (hcat : (rest.map fun v => v.category).sum ≤ 8) (hdg : decode cc pc = .ok (.invokestatic index, 3)) (hfit : cells ≤ R.cells ∧ slots ≤ R.slots)
    (kk : ∀ (H1 : Heap) (locs1 : List Loc), va_P D cl (wd σ') H1 → va_D A (wd σ') → va_S A s.heap H1 locs1 → W p l e R s m args below meth c H1 locs1 cells slots Q (F0 m (pc + 3) ls (.int r :: rest))) : W p l e R s m args below meth c H locs cells slots Q (F0 m pc ls st0) := by
  have hF := kr_free hD hS hA
  refine va_calli (va_runS (As := av) (rest := rest) S0 hM cw ⟨kr_blind, fun U hU hW => ⟨rfl, by rw [hU], by rw [hU]; exact hP, va_K.moved hW.alike hK, hD.weaken (fun _ _ _ _ => trivial)⟩⟩ rfl hn hsz hst (lv_room hcat) hdg hfit) hS (fun z _ h => hF z h) hF (fun r2 u t H1 locs1 ht hvm hw hB hz1 hk1 hS1 => ?_)
  obtain ⟨rfl, rfl⟩ := hw
  obtain ⟨hP1, hK1, hD1⟩ := hB
  rw [ht] at hP1
  exact kk H1 locs1 hP1 (hD1.weaken (fun _ z _ h => hF z.1 h)) hS1
theorem kr_callSl {r : Int64} (S0 : CallFix p m c cc nL s args Ts own) (hM : Met l y ws rm (kPre D cl tys wd H.size σ av) (kQl D cl tys wd (va_A (wd σ) H.size) r σ') 0 0 (va_A (wd σ) H.size)) (cw : CallB R s args own index y bytes maxL rt ws rm 0 0 n ∧ (Cond.static y).before args s = true)
    (hK : va_K D cl tys s) (hP : va_P D cl (wd σ) H) (hD : va_D A (wd σ)) (hS : va_S A s.heap H locs) (hA : ∀ z, s.heap.size ≤ z → A z)
    (hn : av.length = n) (hsz : ls.size = nL) (hst : st0 = av.reverse ++ rest) (hcat : (rest.map fun v => v.category).sum ≤ 8) (hdg : decode cc pc = .ok (.invokestatic index, 3)) (hfit : cells ≤ R.cells ∧ slots ≤ R.slots)
    (kk : ∀ (H1 : Heap) (locs1 : List Loc), va_P D cl (wd σ') H1 → va_D A (wd σ') → va_S A s.heap H1 locs1 → W p l e R s m args below meth c H1 locs1 cells slots Q (F0 m (pc + 3) ls (.long r :: rest))) : W p l e R s m args below meth c H locs cells slots Q (F0 m pc ls st0) := by
  have hF := kr_free hD hS hA
  refine va_calll (va_runS (As := av) (rest := rest) S0 hM cw ⟨kr_blind, fun U hU hW => ⟨rfl, by rw [hU], by rw [hU]; exact hP, va_K.moved hW.alike hK, hD.weaken (fun _ _ _ _ => trivial)⟩⟩ rfl hn hsz hst (lv_room hcat) hdg hfit) hS (fun z _ h => hF z h) hF (fun r2 u t H1 locs1 ht hvm hw hB hz1 hk1 hS1 => ?_)
  obtain ⟨rfl, rfl⟩ := hw
  obtain ⟨hP1, hK1, hD1⟩ := hB
  rw [ht] at hP1
  exact kk H1 locs1 hP1 (hD1.weaken (fun _ z _ h => hF z.1 h)) hS1
end KR
end
section
abbrev kK : Type := Int32 × Int32 × (Nat → Nat)
def kK_classes (k : kK) : Int32 := k.1
def kK_ages (k : kK) : Int32 := k.2.1
def kK_n (k : kK) : Nat → Nat := k.2.2
abbrev sK : Type := Int32 × Int64 × (Nat → Int32) × (Nat → Int32) × (Nat → Int32) × (Nat → Int32) × (Nat → Int32) × (Nat → Int32) × (Nat → Int64) × (Nat → Int32) × (Nat → Int64) × (Nat → Int32) × (Nat → Int32) × (Nat → Int32) × (Nat → Int32) × (Nat → Int32) × (Nat → Int32)
def sK_chosenRow (σ : sK) : Int32 := σ.1
def sK_measuredInAll (σ : sK) : Int64 := σ.2.1
def sK_readings (σ : sK) : (Nat → Int32) := σ.2.2.1
def sK_rowSize (σ : sK) : (Nat → Int32) := σ.2.2.2.1
def sK_groupReadings (σ : sK) : (Nat → Int32) := σ.2.2.2.2.1
def sK_groupSize (σ : sK) : (Nat → Int32) := σ.2.2.2.2.2.1
def sK_groupOf (σ : sK) : (Nat → Int32) := σ.2.2.2.2.2.2.1
def sK_filledBy (σ : sK) : (Nat → Int32) := σ.2.2.2.2.2.2.2.1
def sK_measured (σ : sK) : (Nat → Int64) := σ.2.2.2.2.2.2.2.2.1
def sK_errors (σ : sK) : (Nat → Int32) := σ.2.2.2.2.2.2.2.2.2.1
def sK_square (σ : sK) : (Nat → Int64) := σ.2.2.2.2.2.2.2.2.2.2.1
def sK_poolSum (σ : sK) : (Nat → Int32) := σ.2.2.2.2.2.2.2.2.2.2.2.1
def sK_poolSize (σ : sK) : (Nat → Int32) := σ.2.2.2.2.2.2.2.2.2.2.2.2.1
def sK_poolAges (σ : sK) : (Nat → Int32) := σ.2.2.2.2.2.2.2.2.2.2.2.2.2.1
def sK_poolLastAge (σ : sK) : (Nat → Int32) := σ.2.2.2.2.2.2.2.2.2.2.2.2.2.2.1
def sK_maleCount (σ : sK) : (Nat → Int32) := σ.2.2.2.2.2.2.2.2.2.2.2.2.2.2.2.1
def sK_lookedAt (σ : sK) : (Nat → Int32) := σ.2.2.2.2.2.2.2.2.2.2.2.2.2.2.2.2
def uK_chosenRow (σ : sK) (v : Int32) : sK := (v, σ.2.1, σ.2.2.1, σ.2.2.2.1, σ.2.2.2.2.1, σ.2.2.2.2.2.1, σ.2.2.2.2.2.2.1, σ.2.2.2.2.2.2.2.1, σ.2.2.2.2.2.2.2.2.1, σ.2.2.2.2.2.2.2.2.2.1, σ.2.2.2.2.2.2.2.2.2.2.1, σ.2.2.2.2.2.2.2.2.2.2.2.1, σ.2.2.2.2.2.2.2.2.2.2.2.2.1, σ.2.2.2.2.2.2.2.2.2.2.2.2.2.1, σ.2.2.2.2.2.2.2.2.2.2.2.2.2.2.1, σ.2.2.2.2.2.2.2.2.2.2.2.2.2.2.2.1, σ.2.2.2.2.2.2.2.2.2.2.2.2.2.2.2.2)
def uK_measuredInAll (σ : sK) (v : Int64) : sK := (σ.1, v, σ.2.2.1, σ.2.2.2.1, σ.2.2.2.2.1, σ.2.2.2.2.2.1, σ.2.2.2.2.2.2.1, σ.2.2.2.2.2.2.2.1, σ.2.2.2.2.2.2.2.2.1, σ.2.2.2.2.2.2.2.2.2.1, σ.2.2.2.2.2.2.2.2.2.2.1, σ.2.2.2.2.2.2.2.2.2.2.2.1, σ.2.2.2.2.2.2.2.2.2.2.2.2.1, σ.2.2.2.2.2.2.2.2.2.2.2.2.2.1, σ.2.2.2.2.2.2.2.2.2.2.2.2.2.2.1, σ.2.2.2.2.2.2.2.2.2.2.2.2.2.2.2.1, σ.2.2.2.2.2.2.2.2.2.2.2.2.2.2.2.2)
def uK_readings (σ : sK) (v : (Nat → Int32)) : sK := (σ.1, σ.2.1, v, σ.2.2.2.1, σ.2.2.2.2.1, σ.2.2.2.2.2.1, σ.2.2.2.2.2.2.1, σ.2.2.2.2.2.2.2.1, σ.2.2.2.2.2.2.2.2.1, σ.2.2.2.2.2.2.2.2.2.1, σ.2.2.2.2.2.2.2.2.2.2.1, σ.2.2.2.2.2.2.2.2.2.2.2.1, σ.2.2.2.2.2.2.2.2.2.2.2.2.1, σ.2.2.2.2.2.2.2.2.2.2.2.2.2.1, σ.2.2.2.2.2.2.2.2.2.2.2.2.2.2.1, σ.2.2.2.2.2.2.2.2.2.2.2.2.2.2.2.1, σ.2.2.2.2.2.2.2.2.2.2.2.2.2.2.2.2)
def uK_rowSize (σ : sK) (v : (Nat → Int32)) : sK := (σ.1, σ.2.1, σ.2.2.1, v, σ.2.2.2.2.1, σ.2.2.2.2.2.1, σ.2.2.2.2.2.2.1, σ.2.2.2.2.2.2.2.1, σ.2.2.2.2.2.2.2.2.1, σ.2.2.2.2.2.2.2.2.2.1, σ.2.2.2.2.2.2.2.2.2.2.1, σ.2.2.2.2.2.2.2.2.2.2.2.1, σ.2.2.2.2.2.2.2.2.2.2.2.2.1, σ.2.2.2.2.2.2.2.2.2.2.2.2.2.1, σ.2.2.2.2.2.2.2.2.2.2.2.2.2.2.1, σ.2.2.2.2.2.2.2.2.2.2.2.2.2.2.2.1, σ.2.2.2.2.2.2.2.2.2.2.2.2.2.2.2.2)
def uK_groupReadings (σ : sK) (v : (Nat → Int32)) : sK := (σ.1, σ.2.1, σ.2.2.1, σ.2.2.2.1, v, σ.2.2.2.2.2.1, σ.2.2.2.2.2.2.1, σ.2.2.2.2.2.2.2.1, σ.2.2.2.2.2.2.2.2.1, σ.2.2.2.2.2.2.2.2.2.1, σ.2.2.2.2.2.2.2.2.2.2.1, σ.2.2.2.2.2.2.2.2.2.2.2.1, σ.2.2.2.2.2.2.2.2.2.2.2.2.1, σ.2.2.2.2.2.2.2.2.2.2.2.2.2.1, σ.2.2.2.2.2.2.2.2.2.2.2.2.2.2.1, σ.2.2.2.2.2.2.2.2.2.2.2.2.2.2.2.1, σ.2.2.2.2.2.2.2.2.2.2.2.2.2.2.2.2)
def uK_groupSize (σ : sK) (v : (Nat → Int32)) : sK := (σ.1, σ.2.1, σ.2.2.1, σ.2.2.2.1, σ.2.2.2.2.1, v, σ.2.2.2.2.2.2.1, σ.2.2.2.2.2.2.2.1, σ.2.2.2.2.2.2.2.2.1, σ.2.2.2.2.2.2.2.2.2.1, σ.2.2.2.2.2.2.2.2.2.2.1, σ.2.2.2.2.2.2.2.2.2.2.2.1, σ.2.2.2.2.2.2.2.2.2.2.2.2.1, σ.2.2.2.2.2.2.2.2.2.2.2.2.2.1, σ.2.2.2.2.2.2.2.2.2.2.2.2.2.2.1, σ.2.2.2.2.2.2.2.2.2.2.2.2.2.2.2.1, σ.2.2.2.2.2.2.2.2.2.2.2.2.2.2.2.2)
def uK_groupOf (σ : sK) (v : (Nat → Int32)) : sK := (σ.1, σ.2.1, σ.2.2.1, σ.2.2.2.1, σ.2.2.2.2.1, σ.2.2.2.2.2.1, v, σ.2.2.2.2.2.2.2.1, σ.2.2.2.2.2.2.2.2.1, σ.2.2.2.2.2.2.2.2.2.1, σ.2.2.2.2.2.2.2.2.2.2.1, σ.2.2.2.2.2.2.2.2.2.2.2.1, σ.2.2.2.2.2.2.2.2.2.2.2.2.1, σ.2.2.2.2.2.2.2.2.2.2.2.2.2.1, σ.2.2.2.2.2.2.2.2.2.2.2.2.2.2.1, σ.2.2.2.2.2.2.2.2.2.2.2.2.2.2.2.1, σ.2.2.2.2.2.2.2.2.2.2.2.2.2.2.2.2)
def uK_filledBy (σ : sK) (v : (Nat → Int32)) : sK := (σ.1, σ.2.1, σ.2.2.1, σ.2.2.2.1, σ.2.2.2.2.1, σ.2.2.2.2.2.1, σ.2.2.2.2.2.2.1, v, σ.2.2.2.2.2.2.2.2.1, σ.2.2.2.2.2.2.2.2.2.1, σ.2.2.2.2.2.2.2.2.2.2.1, σ.2.2.2.2.2.2.2.2.2.2.2.1, σ.2.2.2.2.2.2.2.2.2.2.2.2.1, σ.2.2.2.2.2.2.2.2.2.2.2.2.2.1, σ.2.2.2.2.2.2.2.2.2.2.2.2.2.2.1, σ.2.2.2.2.2.2.2.2.2.2.2.2.2.2.2.1, σ.2.2.2.2.2.2.2.2.2.2.2.2.2.2.2.2)
def uK_measured (σ : sK) (v : (Nat → Int64)) : sK := (σ.1, σ.2.1, σ.2.2.1, σ.2.2.2.1, σ.2.2.2.2.1, σ.2.2.2.2.2.1, σ.2.2.2.2.2.2.1, σ.2.2.2.2.2.2.2.1, v, σ.2.2.2.2.2.2.2.2.2.1, σ.2.2.2.2.2.2.2.2.2.2.1, σ.2.2.2.2.2.2.2.2.2.2.2.1, σ.2.2.2.2.2.2.2.2.2.2.2.2.1, σ.2.2.2.2.2.2.2.2.2.2.2.2.2.1, σ.2.2.2.2.2.2.2.2.2.2.2.2.2.2.1, σ.2.2.2.2.2.2.2.2.2.2.2.2.2.2.2.1, σ.2.2.2.2.2.2.2.2.2.2.2.2.2.2.2.2)
def uK_errors (σ : sK) (v : (Nat → Int32)) : sK := (σ.1, σ.2.1, σ.2.2.1, σ.2.2.2.1, σ.2.2.2.2.1, σ.2.2.2.2.2.1, σ.2.2.2.2.2.2.1, σ.2.2.2.2.2.2.2.1, σ.2.2.2.2.2.2.2.2.1, v, σ.2.2.2.2.2.2.2.2.2.2.1, σ.2.2.2.2.2.2.2.2.2.2.2.1, σ.2.2.2.2.2.2.2.2.2.2.2.2.1, σ.2.2.2.2.2.2.2.2.2.2.2.2.2.1, σ.2.2.2.2.2.2.2.2.2.2.2.2.2.2.1, σ.2.2.2.2.2.2.2.2.2.2.2.2.2.2.2.1, σ.2.2.2.2.2.2.2.2.2.2.2.2.2.2.2.2)
def uK_square (σ : sK) (v : (Nat → Int64)) : sK := (σ.1, σ.2.1, σ.2.2.1, σ.2.2.2.1, σ.2.2.2.2.1, σ.2.2.2.2.2.1, σ.2.2.2.2.2.2.1, σ.2.2.2.2.2.2.2.1, σ.2.2.2.2.2.2.2.2.1, σ.2.2.2.2.2.2.2.2.2.1, v, σ.2.2.2.2.2.2.2.2.2.2.2.1, σ.2.2.2.2.2.2.2.2.2.2.2.2.1, σ.2.2.2.2.2.2.2.2.2.2.2.2.2.1, σ.2.2.2.2.2.2.2.2.2.2.2.2.2.2.1, σ.2.2.2.2.2.2.2.2.2.2.2.2.2.2.2.1, σ.2.2.2.2.2.2.2.2.2.2.2.2.2.2.2.2)
def uK_poolSum (σ : sK) (v : (Nat → Int32)) : sK := (σ.1, σ.2.1, σ.2.2.1, σ.2.2.2.1, σ.2.2.2.2.1, σ.2.2.2.2.2.1, σ.2.2.2.2.2.2.1, σ.2.2.2.2.2.2.2.1, σ.2.2.2.2.2.2.2.2.1, σ.2.2.2.2.2.2.2.2.2.1, σ.2.2.2.2.2.2.2.2.2.2.1, v, σ.2.2.2.2.2.2.2.2.2.2.2.2.1, σ.2.2.2.2.2.2.2.2.2.2.2.2.2.1, σ.2.2.2.2.2.2.2.2.2.2.2.2.2.2.1, σ.2.2.2.2.2.2.2.2.2.2.2.2.2.2.2.1, σ.2.2.2.2.2.2.2.2.2.2.2.2.2.2.2.2)
def uK_poolSize (σ : sK) (v : (Nat → Int32)) : sK := (σ.1, σ.2.1, σ.2.2.1, σ.2.2.2.1, σ.2.2.2.2.1, σ.2.2.2.2.2.1, σ.2.2.2.2.2.2.1, σ.2.2.2.2.2.2.2.1, σ.2.2.2.2.2.2.2.2.1, σ.2.2.2.2.2.2.2.2.2.1, σ.2.2.2.2.2.2.2.2.2.2.1, σ.2.2.2.2.2.2.2.2.2.2.2.1, v, σ.2.2.2.2.2.2.2.2.2.2.2.2.2.1, σ.2.2.2.2.2.2.2.2.2.2.2.2.2.2.1, σ.2.2.2.2.2.2.2.2.2.2.2.2.2.2.2.1, σ.2.2.2.2.2.2.2.2.2.2.2.2.2.2.2.2)
def uK_poolAges (σ : sK) (v : (Nat → Int32)) : sK := (σ.1, σ.2.1, σ.2.2.1, σ.2.2.2.1, σ.2.2.2.2.1, σ.2.2.2.2.2.1, σ.2.2.2.2.2.2.1, σ.2.2.2.2.2.2.2.1, σ.2.2.2.2.2.2.2.2.1, σ.2.2.2.2.2.2.2.2.2.1, σ.2.2.2.2.2.2.2.2.2.2.1, σ.2.2.2.2.2.2.2.2.2.2.2.1, σ.2.2.2.2.2.2.2.2.2.2.2.2.1, v, σ.2.2.2.2.2.2.2.2.2.2.2.2.2.2.1, σ.2.2.2.2.2.2.2.2.2.2.2.2.2.2.2.1, σ.2.2.2.2.2.2.2.2.2.2.2.2.2.2.2.2)
def uK_poolLastAge (σ : sK) (v : (Nat → Int32)) : sK := (σ.1, σ.2.1, σ.2.2.1, σ.2.2.2.1, σ.2.2.2.2.1, σ.2.2.2.2.2.1, σ.2.2.2.2.2.2.1, σ.2.2.2.2.2.2.2.1, σ.2.2.2.2.2.2.2.2.1, σ.2.2.2.2.2.2.2.2.2.1, σ.2.2.2.2.2.2.2.2.2.2.1, σ.2.2.2.2.2.2.2.2.2.2.2.1, σ.2.2.2.2.2.2.2.2.2.2.2.2.1, σ.2.2.2.2.2.2.2.2.2.2.2.2.2.1, v, σ.2.2.2.2.2.2.2.2.2.2.2.2.2.2.2.1, σ.2.2.2.2.2.2.2.2.2.2.2.2.2.2.2.2)
def uK_maleCount (σ : sK) (v : (Nat → Int32)) : sK := (σ.1, σ.2.1, σ.2.2.1, σ.2.2.2.1, σ.2.2.2.2.1, σ.2.2.2.2.2.1, σ.2.2.2.2.2.2.1, σ.2.2.2.2.2.2.2.1, σ.2.2.2.2.2.2.2.2.1, σ.2.2.2.2.2.2.2.2.2.1, σ.2.2.2.2.2.2.2.2.2.2.1, σ.2.2.2.2.2.2.2.2.2.2.2.1, σ.2.2.2.2.2.2.2.2.2.2.2.2.1, σ.2.2.2.2.2.2.2.2.2.2.2.2.2.1, σ.2.2.2.2.2.2.2.2.2.2.2.2.2.2.1, v, σ.2.2.2.2.2.2.2.2.2.2.2.2.2.2.2.2)
def uK_lookedAt (σ : sK) (v : (Nat → Int32)) : sK := (σ.1, σ.2.1, σ.2.2.1, σ.2.2.2.1, σ.2.2.2.2.1, σ.2.2.2.2.2.1, σ.2.2.2.2.2.2.1, σ.2.2.2.2.2.2.2.1, σ.2.2.2.2.2.2.2.2.1, σ.2.2.2.2.2.2.2.2.2.1, σ.2.2.2.2.2.2.2.2.2.2.1, σ.2.2.2.2.2.2.2.2.2.2.2.1, σ.2.2.2.2.2.2.2.2.2.2.2.2.1, σ.2.2.2.2.2.2.2.2.2.2.2.2.2.1, σ.2.2.2.2.2.2.2.2.2.2.2.2.2.2.1, σ.2.2.2.2.2.2.2.2.2.2.2.2.2.2.2.1, v)
def wdK (q : Nat → Nat) (k : kK) (cI cJ : ClassId) (σ : sK) : va_W := [(q 0, .inr (0, [.int (kK_classes k), .int (kK_ages k), .int (sK_chosenRow σ), .ref (q 1), .ref (q 2), .ref (q 3), .ref (q 4), .ref (q 5), .ref (q 6), .ref (q 7), .long (sK_measuredInAll σ), .ref (q 8), .ref (q 9), .ref (q 10), .ref (q 11), .ref (q 12), .ref (q 13), .ref (q 14), .ref (q 15)])),
  (q 1, .inl (cI, kK_n k 0, .inl (sK_readings σ))),
  (q 2, .inl (cI, kK_n k 1, .inl (sK_rowSize σ))),
  (q 3, .inl (cI, kK_n k 2, .inl (sK_groupReadings σ))),
  (q 4, .inl (cI, kK_n k 3, .inl (sK_groupSize σ))),
  (q 5, .inl (cI, kK_n k 4, .inl (sK_groupOf σ))),
  (q 6, .inl (cI, kK_n k 5, .inl (sK_filledBy σ))),
  (q 7, .inl (cJ, kK_n k 6, .inr (.inl (sK_measured σ)))),
  (q 8, .inl (cI, kK_n k 7, .inl (sK_errors σ))),
  (q 9, .inl (cJ, kK_n k 8, .inr (.inl (sK_square σ)))),
  (q 10, .inl (cI, kK_n k 9, .inl (sK_poolSum σ))),
  (q 11, .inl (cI, kK_n k 10, .inl (sK_poolSize σ))),
  (q 12, .inl (cI, kK_n k 11, .inl (sK_poolAges σ))),
  (q 13, .inl (cI, kK_n k 12, .inl (sK_poolLastAge σ))),
  (q 14, .inl (cI, kK_n k 13, .inl (sK_maleCount σ))),
  (q 15, .inl (cI, kK_n k 14, .inl (sK_lookedAt σ)))]
theorem gK_classes {p : Program} {l : Launch} {e : Env} {R : Room} {s : State} {m : MethodId} {args : Array Value} {below : List Frame} {meth : Method} {c : Code} {H : Heap} {locs : List Loc} {cells slots : Nat} {Q : State → Prop} {cc : ByteArray} {pc : Nat} {ls : Array Slot} {rest : List Value} {D : va_G} {tys : List (ClassId × FieldType)} {q : Nat → Nat} {k : kK} {cI cJ : ClassId} {σ : sK} (hx : p.tables.exec = Jvm.exec) (hb : c.code = cc) (hown : s.vm.findClass RK = some m.cls) (hts : ∀ w ∈ TK, w.before args s = true) (hK : va_K D cl0 tys s) (hP : va_P D cl0 (wdK q k cI cJ σ) H) (hdg : decode cc pc = .ok (.getfield 26, 3))
    (kk : W p l e R s m args below meth c H locs cells slots Q (F0 m (pc + 3) ls (.int (kK_classes k) :: rest))) : W p l e R s m args below meth c H locs cells slots Q (F0 m pc ls (.ref (q 0) :: rest)) :=
  va_get (D := D) (ci := 0) (v := .int (kK_classes k)) (C := RK) (T := FK) (N := 19) hx hb hts iK_u hown hK hP 0 rfl rfl 0 (by decide) (hts (.fieldLink RK 26 "AgeKeys" "classes" "I") (by decide +kernel)) (fun _ h9 => h9) rfl hdg kk
theorem gK_ages {p : Program} {l : Launch} {e : Env} {R : Room} {s : State} {m : MethodId} {args : Array Value} {below : List Frame} {meth : Method} {c : Code} {H : Heap} {locs : List Loc} {cells slots : Nat} {Q : State → Prop} {cc : ByteArray} {pc : Nat} {ls : Array Slot} {rest : List Value} {D : va_G} {tys : List (ClassId × FieldType)} {q : Nat → Nat} {k : kK} {cI cJ : ClassId} {σ : sK} (hx : p.tables.exec = Jvm.exec) (hb : c.code = cc) (hown : s.vm.findClass RK = some m.cls) (hts : ∀ w ∈ TK, w.before args s = true) (hK : va_K D cl0 tys s) (hP : va_P D cl0 (wdK q k cI cJ σ) H) (hdg : decode cc pc = .ok (.getfield 29, 3))
    (kk : W p l e R s m args below meth c H locs cells slots Q (F0 m (pc + 3) ls (.int (kK_ages k) :: rest))) : W p l e R s m args below meth c H locs cells slots Q (F0 m pc ls (.ref (q 0) :: rest)) :=
  va_get (D := D) (ci := 0) (v := .int (kK_ages k)) (C := RK) (T := FK) (N := 19) hx hb hts iK_u hown hK hP 0 rfl rfl 1 (by decide) (hts (.fieldLink RK 29 "AgeKeys" "ages" "I") (by decide +kernel)) (fun _ h9 => h9) rfl hdg kk
theorem gK_chosenRow {p : Program} {l : Launch} {e : Env} {R : Room} {s : State} {m : MethodId} {args : Array Value} {below : List Frame} {meth : Method} {c : Code} {H : Heap} {locs : List Loc} {cells slots : Nat} {Q : State → Prop} {cc : ByteArray} {pc : Nat} {ls : Array Slot} {rest : List Value} {D : va_G} {tys : List (ClassId × FieldType)} {q : Nat → Nat} {k : kK} {cI cJ : ClassId} {σ : sK} (hx : p.tables.exec = Jvm.exec) (hb : c.code = cc) (hown : s.vm.findClass RK = some m.cls) (hts : ∀ w ∈ TK, w.before args s = true) (hK : va_K D cl0 tys s) (hP : va_P D cl0 (wdK q k cI cJ σ) H) (hdg : decode cc pc = .ok (.getfield 9, 3))
    (kk : W p l e R s m args below meth c H locs cells slots Q (F0 m (pc + 3) ls (.int (sK_chosenRow σ) :: rest))) : W p l e R s m args below meth c H locs cells slots Q (F0 m pc ls (.ref (q 0) :: rest)) :=
  va_get (D := D) (ci := 0) (v := .int (sK_chosenRow σ)) (C := RK) (T := FK) (N := 19) hx hb hts iK_u hown hK hP 0 rfl rfl 2 (by decide) (hts (.fieldLink RK 9 "AgeKeys" "chosenRow" "I") (by decide +kernel)) (fun _ h9 => h9) rfl hdg kk
theorem pK_chosenRow {p : Program} {l : Launch} {e : Env} {R : Room} {s : State} {m : MethodId} {args : Array Value} {below : List Frame} {meth : Method} {c : Code} {H : Heap} {locs : List Loc} {cells slots : Nat} {Q : State → Prop} {cc : ByteArray} {pc : Nat} {ls : Array Slot} {rest : List Value} {D : va_G} {tys : List (ClassId × FieldType)} {q : Nat → Nat} {k : kK} {cI cJ : ClassId} {σ : sK} {A : Nat → Prop} (hx : p.tables.exec = Jvm.exec) (hb : c.code = cc) (hown : s.vm.findClass RK = some m.cls) (hts : ∀ w ∈ TK, w.before args s = true) (hK : va_K D cl0 tys s) (hP : va_P D cl0 (wdK q k cI cJ σ) H) (hD : va_D A (wdK q k cI cJ σ)) (hS : va_S A s.heap H locs) {v : Int32} (hdg : decode cc pc = .ok (.putfield 9, 3))
    (kk : ∀ (H1 : Heap) (locs1 : List Loc), va_P D cl0 (wdK q k cI cJ (uK_chosenRow σ v)) H1 → va_D A (wdK q k cI cJ (uK_chosenRow σ v)) → va_S A s.heap H1 locs1 → W p l e R s m args below meth c H1 locs1 cells slots Q (F0 m (pc + 3) ls rest)) : W p l e R s m args below meth c H locs cells slots Q (F0 m pc ls (.int v :: .ref (q 0) :: rest)) :=
  va_put (D := D) (ci := 0) (v := .int v) (ty := .int) (C := RK) (T := FK) (N := 19) hx hb hts iK_u tyK tyK_ok nK_ok hown hK hP hD hS 0 rfl rfl 2 (by decide) (hts (.fieldLink RK 9 "AgeKeys" "chosenRow" "I") (by decide +kernel)) (fun _ h9 => h9) rfl (by decide +kernel) rfl rfl (Nat.le_of_ble_eq_true rfl) hdg kk
theorem gK_readings {p : Program} {l : Launch} {e : Env} {R : Room} {s : State} {m : MethodId} {args : Array Value} {below : List Frame} {meth : Method} {c : Code} {H : Heap} {locs : List Loc} {cells slots : Nat} {Q : State → Prop} {cc : ByteArray} {pc : Nat} {ls : Array Slot} {rest : List Value} {D : va_G} {tys : List (ClassId × FieldType)} {q : Nat → Nat} {k : kK} {cI cJ : ClassId} {σ : sK} (hx : p.tables.exec = Jvm.exec) (hb : c.code = cc) (hown : s.vm.findClass RK = some m.cls) (hts : ∀ w ∈ TK, w.before args s = true) (hK : va_K D cl0 tys s) (hP : va_P D cl0 (wdK q k cI cJ σ) H) (hdg : decode cc pc = .ok (.getfield 32, 3))
    (kk : W p l e R s m args below meth c H locs cells slots Q (F0 m (pc + 3) ls (.ref (q 1) :: rest))) : W p l e R s m args below meth c H locs cells slots Q (F0 m pc ls (.ref (q 0) :: rest)) :=
  va_get (D := D) (ci := 0) (v := .ref (q 1)) (C := RK) (T := FK) (N := 19) hx hb hts iK_u hown hK hP 0 rfl rfl 3 (by decide) (hts (.fieldLink RK 32 "AgeKeys" "readings" "[I") (by decide +kernel)) (fun _ h9 => h9) rfl hdg kk
theorem gK_rowSize {p : Program} {l : Launch} {e : Env} {R : Room} {s : State} {m : MethodId} {args : Array Value} {below : List Frame} {meth : Method} {c : Code} {H : Heap} {locs : List Loc} {cells slots : Nat} {Q : State → Prop} {cc : ByteArray} {pc : Nat} {ls : Array Slot} {rest : List Value} {D : va_G} {tys : List (ClassId × FieldType)} {q : Nat → Nat} {k : kK} {cI cJ : ClassId} {σ : sK} (hx : p.tables.exec = Jvm.exec) (hb : c.code = cc) (hown : s.vm.findClass RK = some m.cls) (hts : ∀ w ∈ TK, w.before args s = true) (hK : va_K D cl0 tys s) (hP : va_P D cl0 (wdK q k cI cJ σ) H) (hdg : decode cc pc = .ok (.getfield 36, 3))
    (kk : W p l e R s m args below meth c H locs cells slots Q (F0 m (pc + 3) ls (.ref (q 2) :: rest))) : W p l e R s m args below meth c H locs cells slots Q (F0 m pc ls (.ref (q 0) :: rest)) :=
  va_get (D := D) (ci := 0) (v := .ref (q 2)) (C := RK) (T := FK) (N := 19) hx hb hts iK_u hown hK hP 0 rfl rfl 4 (by decide) (hts (.fieldLink RK 36 "AgeKeys" "rowSize" "[I") (by decide +kernel)) (fun _ h9 => h9) rfl hdg kk
theorem gK_groupReadings {p : Program} {l : Launch} {e : Env} {R : Room} {s : State} {m : MethodId} {args : Array Value} {below : List Frame} {meth : Method} {c : Code} {H : Heap} {locs : List Loc} {cells slots : Nat} {Q : State → Prop} {cc : ByteArray} {pc : Nat} {ls : Array Slot} {rest : List Value} {D : va_G} {tys : List (ClassId × FieldType)} {q : Nat → Nat} {k : kK} {cI cJ : ClassId} {σ : sK} (hx : p.tables.exec = Jvm.exec) (hb : c.code = cc) (hown : s.vm.findClass RK = some m.cls) (hts : ∀ w ∈ TK, w.before args s = true) (hK : va_K D cl0 tys s) (hP : va_P D cl0 (wdK q k cI cJ σ) H) (hdg : decode cc pc = .ok (.getfield 39, 3))
    (kk : W p l e R s m args below meth c H locs cells slots Q (F0 m (pc + 3) ls (.ref (q 3) :: rest))) : W p l e R s m args below meth c H locs cells slots Q (F0 m pc ls (.ref (q 0) :: rest)) :=
  va_get (D := D) (ci := 0) (v := .ref (q 3)) (C := RK) (T := FK) (N := 19) hx hb hts iK_u hown hK hP 0 rfl rfl 5 (by decide) (hts (.fieldLink RK 39 "AgeKeys" "groupReadings" "[I") (by decide +kernel)) (fun _ h9 => h9) rfl hdg kk
theorem gK_groupSize {p : Program} {l : Launch} {e : Env} {R : Room} {s : State} {m : MethodId} {args : Array Value} {below : List Frame} {meth : Method} {c : Code} {H : Heap} {locs : List Loc} {cells slots : Nat} {Q : State → Prop} {cc : ByteArray} {pc : Nat} {ls : Array Slot} {rest : List Value} {D : va_G} {tys : List (ClassId × FieldType)} {q : Nat → Nat} {k : kK} {cI cJ : ClassId} {σ : sK} (hx : p.tables.exec = Jvm.exec) (hb : c.code = cc) (hown : s.vm.findClass RK = some m.cls) (hts : ∀ w ∈ TK, w.before args s = true) (hK : va_K D cl0 tys s) (hP : va_P D cl0 (wdK q k cI cJ σ) H) (hdg : decode cc pc = .ok (.getfield 42, 3))
    (kk : W p l e R s m args below meth c H locs cells slots Q (F0 m (pc + 3) ls (.ref (q 4) :: rest))) : W p l e R s m args below meth c H locs cells slots Q (F0 m pc ls (.ref (q 0) :: rest)) :=
  va_get (D := D) (ci := 0) (v := .ref (q 4)) (C := RK) (T := FK) (N := 19) hx hb hts iK_u hown hK hP 0 rfl rfl 6 (by decide) (hts (.fieldLink RK 42 "AgeKeys" "groupSize" "[I") (by decide +kernel)) (fun _ h9 => h9) rfl hdg kk
theorem gK_groupOf {p : Program} {l : Launch} {e : Env} {R : Room} {s : State} {m : MethodId} {args : Array Value} {below : List Frame} {meth : Method} {c : Code} {H : Heap} {locs : List Loc} {cells slots : Nat} {Q : State → Prop} {cc : ByteArray} {pc : Nat} {ls : Array Slot} {rest : List Value} {D : va_G} {tys : List (ClassId × FieldType)} {q : Nat → Nat} {k : kK} {cI cJ : ClassId} {σ : sK} (hx : p.tables.exec = Jvm.exec) (hb : c.code = cc) (hown : s.vm.findClass RK = some m.cls) (hts : ∀ w ∈ TK, w.before args s = true) (hK : va_K D cl0 tys s) (hP : va_P D cl0 (wdK q k cI cJ σ) H) (hdg : decode cc pc = .ok (.getfield 45, 3))
    (kk : W p l e R s m args below meth c H locs cells slots Q (F0 m (pc + 3) ls (.ref (q 5) :: rest))) : W p l e R s m args below meth c H locs cells slots Q (F0 m pc ls (.ref (q 0) :: rest)) :=
  va_get (D := D) (ci := 0) (v := .ref (q 5)) (C := RK) (T := FK) (N := 19) hx hb hts iK_u hown hK hP 0 rfl rfl 7 (by decide) (hts (.fieldLink RK 45 "AgeKeys" "groupOf" "[I") (by decide +kernel)) (fun _ h9 => h9) rfl hdg kk
theorem gK_filledBy {p : Program} {l : Launch} {e : Env} {R : Room} {s : State} {m : MethodId} {args : Array Value} {below : List Frame} {meth : Method} {c : Code} {H : Heap} {locs : List Loc} {cells slots : Nat} {Q : State → Prop} {cc : ByteArray} {pc : Nat} {ls : Array Slot} {rest : List Value} {D : va_G} {tys : List (ClassId × FieldType)} {q : Nat → Nat} {k : kK} {cI cJ : ClassId} {σ : sK} (hx : p.tables.exec = Jvm.exec) (hb : c.code = cc) (hown : s.vm.findClass RK = some m.cls) (hts : ∀ w ∈ TK, w.before args s = true) (hK : va_K D cl0 tys s) (hP : va_P D cl0 (wdK q k cI cJ σ) H) (hdg : decode cc pc = .ok (.getfield 48, 3))
    (kk : W p l e R s m args below meth c H locs cells slots Q (F0 m (pc + 3) ls (.ref (q 6) :: rest))) : W p l e R s m args below meth c H locs cells slots Q (F0 m pc ls (.ref (q 0) :: rest)) :=
  va_get (D := D) (ci := 0) (v := .ref (q 6)) (C := RK) (T := FK) (N := 19) hx hb hts iK_u hown hK hP 0 rfl rfl 8 (by decide) (hts (.fieldLink RK 48 "AgeKeys" "filledBy" "[I") (by decide +kernel)) (fun _ h9 => h9) rfl hdg kk
theorem gK_measured {p : Program} {l : Launch} {e : Env} {R : Room} {s : State} {m : MethodId} {args : Array Value} {below : List Frame} {meth : Method} {c : Code} {H : Heap} {locs : List Loc} {cells slots : Nat} {Q : State → Prop} {cc : ByteArray} {pc : Nat} {ls : Array Slot} {rest : List Value} {D : va_G} {tys : List (ClassId × FieldType)} {q : Nat → Nat} {k : kK} {cI cJ : ClassId} {σ : sK} (hx : p.tables.exec = Jvm.exec) (hb : c.code = cc) (hown : s.vm.findClass RK = some m.cls) (hts : ∀ w ∈ TK, w.before args s = true) (hK : va_K D cl0 tys s) (hP : va_P D cl0 (wdK q k cI cJ σ) H) (hdg : decode cc pc = .ok (.getfield 51, 3))
    (kk : W p l e R s m args below meth c H locs cells slots Q (F0 m (pc + 3) ls (.ref (q 7) :: rest))) : W p l e R s m args below meth c H locs cells slots Q (F0 m pc ls (.ref (q 0) :: rest)) :=
  va_get (D := D) (ci := 0) (v := .ref (q 7)) (C := RK) (T := FK) (N := 19) hx hb hts iK_u hown hK hP 0 rfl rfl 9 (by decide) (hts (.fieldLink RK 51 "AgeKeys" "measured" "[J") (by decide +kernel)) (fun _ h9 => h9) rfl hdg kk
theorem gK_measuredInAll {p : Program} {l : Launch} {e : Env} {R : Room} {s : State} {m : MethodId} {args : Array Value} {below : List Frame} {meth : Method} {c : Code} {H : Heap} {locs : List Loc} {cells slots : Nat} {Q : State → Prop} {cc : ByteArray} {pc : Nat} {ls : Array Slot} {rest : List Value} {D : va_G} {tys : List (ClassId × FieldType)} {q : Nat → Nat} {k : kK} {cI cJ : ClassId} {σ : sK} (hx : p.tables.exec = Jvm.exec) (hb : c.code = cc) (hown : s.vm.findClass RK = some m.cls) (hts : ∀ w ∈ TK, w.before args s = true) (hK : va_K D cl0 tys s) (hP : va_P D cl0 (wdK q k cI cJ σ) H) (hdg : decode cc pc = .ok (.getfield 13, 3))
    (kk : W p l e R s m args below meth c H locs cells slots Q (F0 m (pc + 3) ls (.long (sK_measuredInAll σ) :: rest))) : W p l e R s m args below meth c H locs cells slots Q (F0 m pc ls (.ref (q 0) :: rest)) :=
  va_get (D := D) (ci := 0) (v := .long (sK_measuredInAll σ)) (C := RK) (T := FK) (N := 19) hx hb hts iK_u hown hK hP 0 rfl rfl 10 (by decide) (hts (.fieldLink RK 13 "AgeKeys" "measuredInAll" "J") (by decide +kernel)) (fun _ h9 => h9) rfl hdg kk
theorem pK_measuredInAll {p : Program} {l : Launch} {e : Env} {R : Room} {s : State} {m : MethodId} {args : Array Value} {below : List Frame} {meth : Method} {c : Code} {H : Heap} {locs : List Loc} {cells slots : Nat} {Q : State → Prop} {cc : ByteArray} {pc : Nat} {ls : Array Slot} {rest : List Value} {D : va_G} {tys : List (ClassId × FieldType)} {q : Nat → Nat} {k : kK} {cI cJ : ClassId} {σ : sK} {A : Nat → Prop} (hx : p.tables.exec = Jvm.exec) (hb : c.code = cc) (hown : s.vm.findClass RK = some m.cls) (hts : ∀ w ∈ TK, w.before args s = true) (hK : va_K D cl0 tys s) (hP : va_P D cl0 (wdK q k cI cJ σ) H) (hD : va_D A (wdK q k cI cJ σ)) (hS : va_S A s.heap H locs) {v : Int64} (hdg : decode cc pc = .ok (.putfield 13, 3))
    (kk : ∀ (H1 : Heap) (locs1 : List Loc), va_P D cl0 (wdK q k cI cJ (uK_measuredInAll σ v)) H1 → va_D A (wdK q k cI cJ (uK_measuredInAll σ v)) → va_S A s.heap H1 locs1 → W p l e R s m args below meth c H1 locs1 cells slots Q (F0 m (pc + 3) ls rest)) : W p l e R s m args below meth c H locs cells slots Q (F0 m pc ls (.long v :: .ref (q 0) :: rest)) :=
  va_put (D := D) (ci := 0) (v := .long v) (ty := .long) (C := RK) (T := FK) (N := 19) hx hb hts iK_u tyK tyK_ok nK_ok hown hK hP hD hS 0 rfl rfl 10 (by decide) (hts (.fieldLink RK 13 "AgeKeys" "measuredInAll" "J") (by decide +kernel)) (fun _ h9 => h9) rfl (by decide +kernel) rfl rfl (Nat.le_of_ble_eq_true rfl) hdg kk
theorem gK_errors {p : Program} {l : Launch} {e : Env} {R : Room} {s : State} {m : MethodId} {args : Array Value} {below : List Frame} {meth : Method} {c : Code} {H : Heap} {locs : List Loc} {cells slots : Nat} {Q : State → Prop} {cc : ByteArray} {pc : Nat} {ls : Array Slot} {rest : List Value} {D : va_G} {tys : List (ClassId × FieldType)} {q : Nat → Nat} {k : kK} {cI cJ : ClassId} {σ : sK} (hx : p.tables.exec = Jvm.exec) (hb : c.code = cc) (hown : s.vm.findClass RK = some m.cls) (hts : ∀ w ∈ TK, w.before args s = true) (hK : va_K D cl0 tys s) (hP : va_P D cl0 (wdK q k cI cJ σ) H) (hdg : decode cc pc = .ok (.getfield 55, 3))
    (kk : W p l e R s m args below meth c H locs cells slots Q (F0 m (pc + 3) ls (.ref (q 8) :: rest))) : W p l e R s m args below meth c H locs cells slots Q (F0 m pc ls (.ref (q 0) :: rest)) :=
  va_get (D := D) (ci := 0) (v := .ref (q 8)) (C := RK) (T := FK) (N := 19) hx hb hts iK_u hown hK hP 0 rfl rfl 11 (by decide) (hts (.fieldLink RK 55 "AgeKeys" "errors" "[I") (by decide +kernel)) (fun _ h9 => h9) rfl hdg kk
theorem gK_square {p : Program} {l : Launch} {e : Env} {R : Room} {s : State} {m : MethodId} {args : Array Value} {below : List Frame} {meth : Method} {c : Code} {H : Heap} {locs : List Loc} {cells slots : Nat} {Q : State → Prop} {cc : ByteArray} {pc : Nat} {ls : Array Slot} {rest : List Value} {D : va_G} {tys : List (ClassId × FieldType)} {q : Nat → Nat} {k : kK} {cI cJ : ClassId} {σ : sK} (hx : p.tables.exec = Jvm.exec) (hb : c.code = cc) (hown : s.vm.findClass RK = some m.cls) (hts : ∀ w ∈ TK, w.before args s = true) (hK : va_K D cl0 tys s) (hP : va_P D cl0 (wdK q k cI cJ σ) H) (hdg : decode cc pc = .ok (.getfield 58, 3))
    (kk : W p l e R s m args below meth c H locs cells slots Q (F0 m (pc + 3) ls (.ref (q 9) :: rest))) : W p l e R s m args below meth c H locs cells slots Q (F0 m pc ls (.ref (q 0) :: rest)) :=
  va_get (D := D) (ci := 0) (v := .ref (q 9)) (C := RK) (T := FK) (N := 19) hx hb hts iK_u hown hK hP 0 rfl rfl 12 (by decide) (hts (.fieldLink RK 58 "AgeKeys" "square" "[J") (by decide +kernel)) (fun _ h9 => h9) rfl hdg kk
theorem gK_poolSum {p : Program} {l : Launch} {e : Env} {R : Room} {s : State} {m : MethodId} {args : Array Value} {below : List Frame} {meth : Method} {c : Code} {H : Heap} {locs : List Loc} {cells slots : Nat} {Q : State → Prop} {cc : ByteArray} {pc : Nat} {ls : Array Slot} {rest : List Value} {D : va_G} {tys : List (ClassId × FieldType)} {q : Nat → Nat} {k : kK} {cI cJ : ClassId} {σ : sK} (hx : p.tables.exec = Jvm.exec) (hb : c.code = cc) (hown : s.vm.findClass RK = some m.cls) (hts : ∀ w ∈ TK, w.before args s = true) (hK : va_K D cl0 tys s) (hP : va_P D cl0 (wdK q k cI cJ σ) H) (hdg : decode cc pc = .ok (.getfield 61, 3))
    (kk : W p l e R s m args below meth c H locs cells slots Q (F0 m (pc + 3) ls (.ref (q 10) :: rest))) : W p l e R s m args below meth c H locs cells slots Q (F0 m pc ls (.ref (q 0) :: rest)) :=
  va_get (D := D) (ci := 0) (v := .ref (q 10)) (C := RK) (T := FK) (N := 19) hx hb hts iK_u hown hK hP 0 rfl rfl 13 (by decide) (hts (.fieldLink RK 61 "AgeKeys" "poolSum" "[I") (by decide +kernel)) (fun _ h9 => h9) rfl hdg kk
theorem gK_poolSize {p : Program} {l : Launch} {e : Env} {R : Room} {s : State} {m : MethodId} {args : Array Value} {below : List Frame} {meth : Method} {c : Code} {H : Heap} {locs : List Loc} {cells slots : Nat} {Q : State → Prop} {cc : ByteArray} {pc : Nat} {ls : Array Slot} {rest : List Value} {D : va_G} {tys : List (ClassId × FieldType)} {q : Nat → Nat} {k : kK} {cI cJ : ClassId} {σ : sK} (hx : p.tables.exec = Jvm.exec) (hb : c.code = cc) (hown : s.vm.findClass RK = some m.cls) (hts : ∀ w ∈ TK, w.before args s = true) (hK : va_K D cl0 tys s) (hP : va_P D cl0 (wdK q k cI cJ σ) H) (hdg : decode cc pc = .ok (.getfield 64, 3))
    (kk : W p l e R s m args below meth c H locs cells slots Q (F0 m (pc + 3) ls (.ref (q 11) :: rest))) : W p l e R s m args below meth c H locs cells slots Q (F0 m pc ls (.ref (q 0) :: rest)) :=
  va_get (D := D) (ci := 0) (v := .ref (q 11)) (C := RK) (T := FK) (N := 19) hx hb hts iK_u hown hK hP 0 rfl rfl 14 (by decide) (hts (.fieldLink RK 64 "AgeKeys" "poolSize" "[I") (by decide +kernel)) (fun _ h9 => h9) rfl hdg kk
theorem gK_poolAges {p : Program} {l : Launch} {e : Env} {R : Room} {s : State} {m : MethodId} {args : Array Value} {below : List Frame} {meth : Method} {c : Code} {H : Heap} {locs : List Loc} {cells slots : Nat} {Q : State → Prop} {cc : ByteArray} {pc : Nat} {ls : Array Slot} {rest : List Value} {D : va_G} {tys : List (ClassId × FieldType)} {q : Nat → Nat} {k : kK} {cI cJ : ClassId} {σ : sK} (hx : p.tables.exec = Jvm.exec) (hb : c.code = cc) (hown : s.vm.findClass RK = some m.cls) (hts : ∀ w ∈ TK, w.before args s = true) (hK : va_K D cl0 tys s) (hP : va_P D cl0 (wdK q k cI cJ σ) H) (hdg : decode cc pc = .ok (.getfield 67, 3))
    (kk : W p l e R s m args below meth c H locs cells slots Q (F0 m (pc + 3) ls (.ref (q 12) :: rest))) : W p l e R s m args below meth c H locs cells slots Q (F0 m pc ls (.ref (q 0) :: rest)) :=
  va_get (D := D) (ci := 0) (v := .ref (q 12)) (C := RK) (T := FK) (N := 19) hx hb hts iK_u hown hK hP 0 rfl rfl 15 (by decide) (hts (.fieldLink RK 67 "AgeKeys" "poolAges" "[I") (by decide +kernel)) (fun _ h9 => h9) rfl hdg kk
theorem gK_poolLastAge {p : Program} {l : Launch} {e : Env} {R : Room} {s : State} {m : MethodId} {args : Array Value} {below : List Frame} {meth : Method} {c : Code} {H : Heap} {locs : List Loc} {cells slots : Nat} {Q : State → Prop} {cc : ByteArray} {pc : Nat} {ls : Array Slot} {rest : List Value} {D : va_G} {tys : List (ClassId × FieldType)} {q : Nat → Nat} {k : kK} {cI cJ : ClassId} {σ : sK} (hx : p.tables.exec = Jvm.exec) (hb : c.code = cc) (hown : s.vm.findClass RK = some m.cls) (hts : ∀ w ∈ TK, w.before args s = true) (hK : va_K D cl0 tys s) (hP : va_P D cl0 (wdK q k cI cJ σ) H) (hdg : decode cc pc = .ok (.getfield 70, 3))
    (kk : W p l e R s m args below meth c H locs cells slots Q (F0 m (pc + 3) ls (.ref (q 13) :: rest))) : W p l e R s m args below meth c H locs cells slots Q (F0 m pc ls (.ref (q 0) :: rest)) :=
  va_get (D := D) (ci := 0) (v := .ref (q 13)) (C := RK) (T := FK) (N := 19) hx hb hts iK_u hown hK hP 0 rfl rfl 16 (by decide) (hts (.fieldLink RK 70 "AgeKeys" "poolLastAge" "[I") (by decide +kernel)) (fun _ h9 => h9) rfl hdg kk
theorem gK_maleCount {p : Program} {l : Launch} {e : Env} {R : Room} {s : State} {m : MethodId} {args : Array Value} {below : List Frame} {meth : Method} {c : Code} {H : Heap} {locs : List Loc} {cells slots : Nat} {Q : State → Prop} {cc : ByteArray} {pc : Nat} {ls : Array Slot} {rest : List Value} {D : va_G} {tys : List (ClassId × FieldType)} {q : Nat → Nat} {k : kK} {cI cJ : ClassId} {σ : sK} (hx : p.tables.exec = Jvm.exec) (hb : c.code = cc) (hown : s.vm.findClass RK = some m.cls) (hts : ∀ w ∈ TK, w.before args s = true) (hK : va_K D cl0 tys s) (hP : va_P D cl0 (wdK q k cI cJ σ) H) (hdg : decode cc pc = .ok (.getfield 73, 3))
    (kk : W p l e R s m args below meth c H locs cells slots Q (F0 m (pc + 3) ls (.ref (q 14) :: rest))) : W p l e R s m args below meth c H locs cells slots Q (F0 m pc ls (.ref (q 0) :: rest)) :=
  va_get (D := D) (ci := 0) (v := .ref (q 14)) (C := RK) (T := FK) (N := 19) hx hb hts iK_u hown hK hP 0 rfl rfl 17 (by decide) (hts (.fieldLink RK 73 "AgeKeys" "maleCount" "[I") (by decide +kernel)) (fun _ h9 => h9) rfl hdg kk
theorem gK_lookedAt {p : Program} {l : Launch} {e : Env} {R : Room} {s : State} {m : MethodId} {args : Array Value} {below : List Frame} {meth : Method} {c : Code} {H : Heap} {locs : List Loc} {cells slots : Nat} {Q : State → Prop} {cc : ByteArray} {pc : Nat} {ls : Array Slot} {rest : List Value} {D : va_G} {tys : List (ClassId × FieldType)} {q : Nat → Nat} {k : kK} {cI cJ : ClassId} {σ : sK} (hx : p.tables.exec = Jvm.exec) (hb : c.code = cc) (hown : s.vm.findClass RK = some m.cls) (hts : ∀ w ∈ TK, w.before args s = true) (hK : va_K D cl0 tys s) (hP : va_P D cl0 (wdK q k cI cJ σ) H) (hdg : decode cc pc = .ok (.getfield 76, 3))
    (kk : W p l e R s m args below meth c H locs cells slots Q (F0 m (pc + 3) ls (.ref (q 15) :: rest))) : W p l e R s m args below meth c H locs cells slots Q (F0 m pc ls (.ref (q 0) :: rest)) :=
  va_get (D := D) (ci := 0) (v := .ref (q 15)) (C := RK) (T := FK) (N := 19) hx hb hts iK_u hown hK hP 0 rfl rfl 18 (by decide) (hts (.fieldLink RK 76 "AgeKeys" "lookedAt" "[I") (by decide +kernel)) (fun _ h9 => h9) rfl hdg kk
end
section
def fK_isClass (k : kK) (x1 : Int32) : Int32 :=
  if x1 < 0 then
    0
  else
    if (kK_classes k) ≤ x1 then
      0
    else
      1
def fK_isAge (k : kK) (x1 : Int32) : Int32 :=
  if x1 < 0 then
    0
  else
    if (kK_ages k) ≤ x1 then
      0
    else
      1
def fK_isPlace (x0 : Int32) : Int32 :=
  if x0 < 0 then
    0
  else
    if 4 ≤ x0 then
      0
    else
      1
def fK_sizeIn (k : kK) (σ : sK) (x1 : Int32) (x2 : Int32) : Option Int32 :=
  (kld (kK_n k 3) (sK_groupSize σ) ((x1 * (kK_classes k)) + x2)).bind fun v12 =>
  some v12
def fK_cell (k : kK) (x1 : Int32) (x2 : Int32) (x3 : Int32) : Int32 :=
  ((((x1 * (kK_classes k)) + x2) * (kK_ages k)) + x3)
def fK_countReading (k : kK) (σ : sK) (x1 : Int32) (x2 : Int32) (x3 : Int32) : Option sK :=
  (kld (kK_n k 4) (sK_groupOf σ) x2).bind fun v5 =>
  (kld (kK_n k 0) (sK_readings σ) (fK_cell k x1 x2 x3)).bind fun v20 =>
  (kstI (kK_n k 0) (sK_readings σ) (fK_cell k x1 x2 x3) (v20 + 1)).bind fun a23 =>
  (kld (kK_n k 1) (sK_rowSize (uK_readings σ a23)) x1).bind fun v30 =>
  (kstI (kK_n k 1) (sK_rowSize (uK_readings σ a23)) x1 (v30 + 1)).bind fun a33 =>
  (kld (kK_n k 2) (sK_groupReadings (uK_rowSize (uK_readings σ a23) a33)) (fK_cell k x1 v5 x3)).bind fun v47 =>
  (kstI (kK_n k 2) (sK_groupReadings (uK_rowSize (uK_readings σ a23) a33)) (fK_cell k x1 v5 x3) (v47 + 1)).bind fun a50 =>
  (kld (kK_n k 3) (sK_groupSize (uK_groupReadings (uK_rowSize (uK_readings σ a23) a33) a50)) ((x1 * (kK_classes k)) + v5)).bind fun v65 =>
  (kstI (kK_n k 3) (sK_groupSize (uK_groupReadings (uK_rowSize (uK_readings σ a23) a33) a50)) ((x1 * (kK_classes k)) + v5) (v65 + 1)).bind fun a68 =>
  some (uK_groupSize (uK_groupReadings (uK_rowSize (uK_readings σ a23) a33) a50) a68)
def fK_read (k : kK) (σ : sK) (x1 : Int32) (x2 : Int32) (x3 : Int32) : Option (Int32 × sK) :=
  if (fK_isClass k x1) = 0 then
    some (0, σ)
  else
    if (fK_isAge k x2) = 0 then
      some (0, σ)
    else
      if (fK_isPlace x3) = 0 then
        some (0, σ)
      else
        (kld (kK_n k 4) (sK_groupOf σ) x1).bind fun v32 =>
        (fK_sizeIn k σ 4 v32).bind fun v33 =>
        if 20 ≤ v33 then
          some (0, σ)
        else
          (kld (kK_n k 1) (sK_rowSize σ) 4).bind fun v46 =>
          if v46 < 100 then
            (fK_countReading k σ x3 x1 x2).bind fun s58 =>
            (fK_countReading k s58 4 x1 x2).bind fun s65 =>
            some (1, s65)
          else
            some (0, σ)
def fK_place_25 (k : kK) (σ : sK) (y1 : Int32) : Option (Int32 × sK) :=
  (kld (kK_n k 1) (sK_rowSize (uK_chosenRow σ y1)) (sK_chosenRow (uK_chosenRow σ y1))).bind fun v36 =>
  some (v36, (uK_chosenRow σ y1))
def fK_place_14 (k : kK) (σ : sK) (x1 : Int32) : Option (Int32 × sK) :=
  if x1 = (-1) then
    fK_place_25 k σ 4
  else
    fK_place_25 k σ x1
def fK_place (k : kK) (σ : sK) (x1 : Int32) : Option (Int32 × sK) :=
  if x1 = (-1) then
    fK_place_14 k σ x1
  else
    if (fK_isPlace x1) = 0 then
      some ((-1), σ)
    else
      fK_place_14 k σ x1
def fK_isZeroOrOne_9 : Int32 :=
  1
def fK_isZeroOrOne (x0 : Int32) : Int32 :=
  if x0 = 0 then
    fK_isZeroOrOne_9
  else
    if x0 = 1 then
      fK_isZeroOrOne_9
    else
      0
def fK_own (k : kK) (σ : sK) (x1 : Int32) : Option Int32 :=
  (fK_sizeIn k σ (sK_chosenRow σ) x1).bind fun v6 =>
  some v6
def fK_sourceOf (k : kK) (σ : sK) (x1 : Int32) : Option Int32 :=
  (fK_own k σ x1).bind fun v2 =>
  if v2 ≤ 0 then
    (kld (kK_n k 5) (sK_filledBy σ) x1).bind fun v15 =>
    if v15 = (-1) then
      some (-1)
    else
      (fK_own k σ v15).bind fun v24 =>
      if v24 ≤ 0 then
        some (-1)
      else
        some v15
  else
    some x1
def fK_ownOfAge (k : kK) (σ : sK) (x1 : Int32) (x2 : Int32) : Option Int32 :=
  (kld (kK_n k 2) (sK_groupReadings σ) (fK_cell k (sK_chosenRow σ) x1 x2)).bind fun v14 =>
  some v14
def fK_commonDivisor_9 (fu : Nat) : Nat → Int64 → Int64 → Int32 → Option Int64
  | 0, _, _, _ => none
  | n + 1, x4, x6, x8 =>
    if 100 ≤ x8 then
      some x4
    else
      if x6 = (0 : Int64) then
        some x4
      else
        (kremJ x4 x6).bind fun v27 =>
        fK_commonDivisor_9 fu n x6 v27 (x8 + 1)
def fK_commonDivisor (fu : Nat) (x0 : Int64) (x2 : Int64) : Option Int64 :=
  fK_commonDivisor_9 fu fu x0 x2 0
def fK_fractionPart (fu : Nat) (x0 : Int64) (x2 : Int64) (x4 : Int32) : Option Int64 :=
  (fK_commonDivisor fu (if 0 < x0 then x0 else -x0) x2).bind fun v5 =>
  if (0 : Int64) < v5 then
    if x4 = 0 then
      (kdivJ x0 v5).bind fun v33 =>
      some v33
    else
      (kdivJ x2 v5).bind fun v33 =>
      some v33
  else
    some (-1 : Int64)
def fK_share (fu : Nat) (k : kK) (σ : sK) (x1 : Int32) (x2 : Int32) (x3 : Int32) : Option Int64 :=
  if (fK_isClass k x1) = 0 then
    some (-1 : Int64)
  else
    if (fK_isAge k x2) = 0 then
      some (-1 : Int64)
    else
      if (fK_isZeroOrOne x3) = 0 then
        some (-1 : Int64)
      else
        (kld (kK_n k 4) (sK_groupOf σ) x1).bind fun v33 =>
        (fK_sourceOf k σ v33).bind fun v34 =>
        if v34 = (-1) then
          some (-1 : Int64)
        else
          (fK_ownOfAge k σ v34 x2).bind fun v53 =>
          (fK_own k σ v34).bind fun v60 =>
          (fK_fractionPart fu v53.toInt64 v60.toInt64 x3).bind fun v65 =>
          some v65
def fK_without_117 (fu : Nat) (k : kK) (σ : sK) (y0 : Int64) (x4 : Int32) (x5 : Int32) : Option Int64 :=
  (fK_fractionPart fu y0 ((x5 - 1).toInt64) x4).bind fun v124 =>
  some v124
def fK_without_99 (fu : Nat) (k : kK) (σ : sK) (y0 : Int32) (x4 : Int32) (x5 : Int32) (x6 : Int32) : Option Int64 :=
  if y0 = 0 then
    fK_without_117 fu k σ x6.toInt64 x4 x5
  else
    fK_without_117 fu k σ ((x6 - 1).toInt64) x4 x5
def fK_without (fu : Nat) (k : kK) (σ : sK) (x1 : Int32) (x2 : Int32) (x3 : Int32) (x4 : Int32) : Option Int64 :=
  if (fK_isClass k x1) = 0 then
    some (-1 : Int64)
  else
    if (fK_isAge k x2) = 0 then
      some (-1 : Int64)
    else
      if (fK_isZeroOrOne x3) = 0 then
        some (-1 : Int64)
      else
        if (fK_isZeroOrOne x4) = 0 then
          some (-1 : Int64)
        else
          (kld (kK_n k 4) (sK_groupOf σ) x1).bind fun v41 =>
          (fK_own k σ v41).bind fun v42 =>
          if 2 ≤ v42 then
            (kld (kK_n k 4) (sK_groupOf σ) x1).bind fun v63 =>
            (fK_ownOfAge k σ v63 x2).bind fun v65 =>
            if x3 = 0 then
              if v65 ≤ 0 then
                fK_without_99 fu k σ 0 x4 v42 v65
              else
                fK_without_99 fu k σ 1 x4 v42 v65
            else
              if v65 = v42 then
                fK_without_99 fu k σ 1 x4 v42 v65
              else
                fK_without_99 fu k σ 0 x4 v42 v65
          else
            some (-1 : Int64)
def fK_isLeastOfGroup (k : kK) (σ : sK) (x1 : Int32) : Option Int32 :=
  (kld (kK_n k 4) (sK_groupOf σ) x1).bind fun v5 =>
  if v5 = x1 then
    some 1
  else
    some 0
def fK_empty_4 (fu : Nat) (k : kK) (σ : sK) : Nat → Int32 → Int32 → Int32 → Option Int32
  | 0, _, _, _ => none
  | n + 1, x1, x2, x3 =>
    if (kK_classes k) ≤ x3 then
      some (-1)
    else
      (fK_isLeastOfGroup k σ x3).bind fun v14 =>
      if v14 = 0 then
        fK_empty_4 fu k σ n x1 x2 (x3 + 1)
      else
        (fK_own k σ x3).bind fun v22 =>
        if v22 = 0 then
          (kld (kK_n k 5) (sK_filledBy σ) x3).bind fun v33 =>
          if v33 = (-1) then
            if x2 = x1 then
              some x3
            else
              fK_empty_4 fu k σ n x1 (x2 + 1) (x3 + 1)
          else
            fK_empty_4 fu k σ n x1 x2 (x3 + 1)
        else
          fK_empty_4 fu k σ n x1 x2 (x3 + 1)
def fK_empty (fu : Nat) (k : kK) (σ : sK) (x1 : Int32) : Option Int32 :=
  fK_empty_4 fu k σ fu x1 0 0
def fK_distanceTo_8 (fu : Nat) (k : kK) (σ : sK) : Nat → Int32 → Int32 → Int32 → Int32 → Option Int32
  | 0, _, _, _, _ => none
  | n + 1, x1, x2, x3, x4 =>
    if (kK_classes k) ≤ x4 then
      some x3
    else
      (kld (kK_n k 4) (sK_groupOf σ) x4).bind fun v23 =>
      if v23 = x1 then
        fK_distanceTo_8 fu k σ n x1 x2 (if (if 0 ≤ (x4 - x2) then (x4 - x2) else 0 - (x4 - x2)) < x3 then (if 0 ≤ (x4 - x2) then (x4 - x2) else 0 - (x4 - x2)) else x3) (x4 + 1)
      else
        fK_distanceTo_8 fu k σ n x1 x2 x3 (x4 + 1)
def fK_distanceTo (fu : Nat) (k : kK) (σ : sK) (x1 : Int32) (x2 : Int32) : Option Int32 :=
  fK_distanceTo_8 fu k σ fu x1 x2 (kK_classes k) 0
def fK_nearestWithReadings_67 (fu : Nat) (k : kK) (σ : sK) (h10 : Int32 → Int32 → Int32 → Int32 → Option Int32) (x1 : Int32) (x4 : Int32) (x5 : Int32) (x6 : Int32) : Option Int32 :=
  h10 x1 x5 x6 (x4 + 1)
def fK_nearestWithReadings_10 (fu : Nat) (k : kK) (σ : sK) : Nat → Int32 → Int32 → Int32 → Int32 → Option Int32
  | 0, _, _, _, _ => none
  | n + 1, x1, x2, x3, x4 =>
    if (kK_classes k) ≤ x4 then
      some x2
    else
      (kld (kK_n k 4) (sK_groupOf σ) x4).bind fun v25 =>
      (fK_own k σ v25).bind fun v31 =>
      if v31 = 0 then
        fK_nearestWithReadings_10 fu k σ n x1 x2 x3 (x4 + 1)
      else
        (fK_distanceTo fu k σ x1 x4).bind fun v44 =>
        if v44 < x3 then
          fK_nearestWithReadings_67 fu k σ (fK_nearestWithReadings_10 fu k σ n) x1 x4 v25 v44
        else
          if v44 = x3 then
            if x2 ≤ v25 then
              fK_nearestWithReadings_10 fu k σ n x1 x2 x3 (x4 + 1)
            else
              fK_nearestWithReadings_67 fu k σ (fK_nearestWithReadings_10 fu k σ n) x1 x4 v25 v44
          else
            fK_nearestWithReadings_10 fu k σ n x1 x2 x3 (x4 + 1)
def fK_nearestWithReadings (fu : Nat) (k : kK) (σ : sK) (x1 : Int32) : Option Int32 :=
  fK_nearestWithReadings_10 fu k σ fu x1 (-1) (kK_classes k) 0
def fK_fill (fu : Nat) (k : kK) (σ : sK) (x1 : Int32) : Option (Int32 × sK) :=
  if (fK_isClass k x1) = 0 then
    some ((-1), σ)
  else
    (kld (kK_n k 4) (sK_groupOf σ) x1).bind fun v14 =>
    (fK_own k σ v14).bind fun v15 =>
    if v15 ≤ 0 then
      (kld (kK_n k 4) (sK_groupOf σ) x1).bind fun v29 =>
      (fK_nearestWithReadings fu k σ v29).bind fun v30 =>
      if v30 = (-1) then
        some (v30, σ)
      else
        (kld (kK_n k 4) (sK_groupOf σ) x1).bind fun v48 =>
        (kstI (kK_n k 5) (sK_filledBy σ) v48 v30).bind fun a50 =>
        some (v30, (uK_filledBy σ a50))
    else
      some ((-1), σ)
def fK_marked (k : kK) (σ : sK) (x1 : Int32) : Option Int32 :=
  if (fK_isClass k x1) = 0 then
    some 0
  else
    (kld (kK_n k 4) (sK_groupOf σ) x1).bind fun v17 =>
    (kld (kK_n k 5) (sK_filledBy σ) v17).bind fun v18 =>
    if v18 = (-1) then
      some 0
    else
      (kld (kK_n k 4) (sK_groupOf σ) x1).bind fun v29 =>
      (fK_own k σ v29).bind fun v30 =>
      if v30 = 0 then
        some 1
      else
        some 0
def fK_dropFills_44 (fu : Nat) (k : kK) (h16 : sK → Int32 → Int32 → Int32 → Option sK) (σ : sK) (x1 : Int32) (x2 : Int32) (x3 : Int32) : Option sK :=
  (kstI (kK_n k 5) (sK_filledBy σ) x3 (-1)).bind fun a50 =>
  h16 (uK_filledBy σ a50) x1 x2 (x3 + 1)
def fK_dropFills_16 (fu : Nat) (k : kK) : Nat → sK → Int32 → Int32 → Int32 → Option sK
  | 0, _, _, _, _ => none
  | n + 1, σ, x1, x2, x3 =>
    if (kK_classes k) ≤ x3 then
      some σ
    else
      (kld (kK_n k 5) (sK_filledBy σ) x3).bind fun v29 =>
      if v29 = x1 then
        fK_dropFills_44 fu k (fK_dropFills_16 fu k n) σ x1 x2 x3
      else
        (kld (kK_n k 5) (sK_filledBy σ) x3).bind fun v39 =>
        if v39 = x2 then
          fK_dropFills_44 fu k (fK_dropFills_16 fu k n) σ x1 x2 x3
        else
          fK_dropFills_16 fu k n σ x1 x2 (x3 + 1)
def fK_dropFills (fu : Nat) (k : kK) (σ : sK) (x1 : Int32) (x2 : Int32) : Option sK :=
  (kstI (kK_n k 5) (sK_filledBy σ) x1 (-1)).bind fun a6 =>
  (kstI (kK_n k 5) (sK_filledBy (uK_filledBy σ a6)) x2 (-1)).bind fun a13 =>
  fK_dropFills_16 fu k fu (uK_filledBy (uK_filledBy σ a6) a13) x1 x2 0
def fK_moveReadings_39 (fu : Nat) (k : kK) (h2 : sK → Int32 → Int32 → Int32 → Option sK) : Nat → sK → Int32 → Int32 → Int32 → Int32 → Option sK
  | 0, _, _, _, _, _ => none
  | n + 1, σ, x1, x2, x3, x4 =>
    if (kK_ages k) ≤ x4 then
      h2 σ x1 x2 (x3 + 1)
    else
      (kld (kK_n k 2) (sK_groupReadings σ) (fK_cell k x3 x1 x4)).bind fun v61 =>
      (kld (kK_n k 2) (sK_groupReadings σ) (fK_cell k x3 x2 x4)).bind fun v74 =>
      (kstI (kK_n k 2) (sK_groupReadings σ) (fK_cell k x3 x1 x4) (v61 + v74)).bind fun a76 =>
      fK_moveReadings_39 fu k h2 n (uK_groupReadings σ a76) x1 x2 x3 (x4 + 1)
def fK_moveReadings_2 (fu : Nat) (k : kK) : Nat → sK → Int32 → Int32 → Int32 → Option sK
  | 0, _, _, _, _ => none
  | n + 1, σ, x1, x2, x3 =>
    if 5 ≤ x3 then
      some σ
    else
      (kld (kK_n k 3) (sK_groupSize σ) ((x3 * (kK_classes k)) + x1)).bind fun v20 =>
      (kld (kK_n k 3) (sK_groupSize σ) ((x3 * (kK_classes k)) + x2)).bind fun v33 =>
      (kstI (kK_n k 3) (sK_groupSize σ) ((x3 * (kK_classes k)) + x1) (v20 + v33)).bind fun a35 =>
      fK_moveReadings_39 fu k (fK_moveReadings_2 fu k n) fu (uK_groupSize σ a35) x1 x2 x3 0
def fK_moveReadings (fu : Nat) (k : kK) (σ : sK) (x1 : Int32) (x2 : Int32) : Option sK :=
  fK_moveReadings_2 fu k fu σ x1 x2 0
def fK_joined_95 (fu : Nat) (k : kK) : Nat → sK → Int32 → Int32 → Int32 → Option (Int32 × sK)
  | 0, _, _, _, _ => none
  | n + 1, σ, x3, x4, x5 =>
    if (kK_classes k) ≤ x5 then
      some (x3, σ)
    else
      (kld (kK_n k 4) (sK_groupOf σ) x5).bind fun v110 =>
      if v110 = x4 then
        (kstI (kK_n k 4) (sK_groupOf σ) x5 x3).bind fun a123 =>
        fK_joined_95 fu k n (uK_groupOf σ a123) x3 x4 (x5 + 1)
      else
        fK_joined_95 fu k n σ x3 x4 (x5 + 1)
def fK_joined (fu : Nat) (k : kK) (σ : sK) (x1 : Int32) (x2 : Int32) : Option (Int32 × sK) :=
  if (fK_isClass k x1) = 0 then
    some ((-1), σ)
  else
    if (fK_isClass k x2) = 0 then
      some ((-1), σ)
    else
      (kld (kK_n k 4) (sK_groupOf σ) x1).bind fun v23 =>
      (kld (kK_n k 4) (sK_groupOf σ) x2).bind fun v29 =>
      (kld (kK_n k 4) (sK_groupOf σ) x1).bind fun v39 =>
      (kld (kK_n k 4) (sK_groupOf σ) x2).bind fun v45 =>
      if (if v29 < v23 then v29 else v23) = (if v39 < v45 then v45 else v39) then
        some ((-1), σ)
      else
        (fK_sizeIn k σ 4 (if v29 < v23 then v29 else v23)).bind fun v60 =>
        (fK_sizeIn k σ 4 (if v39 < v45 then v45 else v39)).bind fun v67 =>
        if (v60 + v67) ≤ 20 then
          (fK_dropFills fu k σ (if v29 < v23 then v29 else v23) (if v39 < v45 then v45 else v39)).bind fun s82 =>
          (fK_moveReadings fu k s82 (if v29 < v23 then v29 else v23) (if v39 < v45 then v45 else v39)).bind fun s89 =>
          fK_joined_95 fu k fu s89 (if v29 < v23 then v29 else v23) (if v39 < v45 then v45 else v39) 0
        else
          some ((-1), σ)
def fK_groups_4 (fu : Nat) (k : kK) (σ : sK) : Nat → Int32 → Int32 → Option Int32
  | 0, _, _ => none
  | n + 1, x1, x2 =>
    if (kK_classes k) ≤ x2 then
      some x1
    else
      (fK_isLeastOfGroup k σ x2).bind fun v14 =>
      if v14 = 0 then
        fK_groups_4 fu k σ n x1 (x2 + 1)
      else
        fK_groups_4 fu k σ n (x1 + 1) (x2 + 1)
def fK_groups (fu : Nat) (k : kK) (σ : sK) : Option Int32 :=
  fK_groups_4 fu k σ fu 0 0
def fK_sample (k : kK) (σ : sK) (x1 : Int32) (x2 : Int64) : Option (Int32 × sK) :=
  if (fK_isClass k x1) = 0 then
    some (0, σ)
  else
    if x2 < (0 : Int64) then
      some (0, σ)
    else
      if x2 ≤ ((10000 : Int64) - (sK_measuredInAll σ)) then
        (kld (kK_n k 6) (sK_measured σ) x1).bind fun v35 =>
        (kstJ (kK_n k 6) (sK_measured σ) x1 (v35 + x2)).bind fun a38 =>
        some (1, (uK_measuredInAll (uK_measured σ a38) ((sK_measuredInAll (uK_measured σ a38)) + x2)))
      else
        some (0, σ)
def fK_canRaise_27 (fu : Nat) (k : kK) (σ : sK) : Nat → Int32 → Option Int32
  | 0, _ => none
  | n + 1, x3 =>
    if (kK_classes k) ≤ x3 then
      some 1
    else
      (kld (kK_n k 6) (sK_measured σ) x3).bind fun v40 =>
      if v40 ≤ (0 : Int64) then
        fK_canRaise_27 fu k σ n (x3 + 1)
      else
        (kld (kK_n k 4) (sK_groupOf σ) x3).bind fun v52 =>
        (fK_sourceOf k σ v52).bind fun v53 =>
        if v53 = (-1) then
          some 0
        else
          fK_canRaise_27 fu k σ n (x3 + 1)
def fK_canRaise (fu : Nat) (k : kK) (σ : sK) (x1 : Int64) : Option Int32 :=
  if x1 < (0 : Int64) then
    some 0
  else
    if (10000 : Int64) < x1 then
      some 0
    else
      if (sK_measuredInAll σ) = (0 : Int64) then
        some 0
      else
        fK_canRaise_27 fu k σ fu 0
def fK_commonShare (k : kK) (σ : sK) (x1 : Int32) (x2 : Int32) : Option Int64 :=
  (fK_sourceOf k σ x1).bind fun v2 =>
  if v2 = (-1) then
    some (0 : Int64)
  else
    (fK_own k σ v2).bind fun v15 =>
    if v15 ≤ 0 then
      some (0 : Int64)
    else
      (fK_ownOfAge k σ v2 x2).bind fun v28 =>
      (kdivJ (232792560 : Int64) v15.toInt64).bind fun v38 =>
      some (v28.toInt64 * v38)
def fK_measuredOfAge_5 (fu : Nat) (k : kK) (σ : sK) : Nat → Int32 → Int64 → Int32 → Option Int64
  | 0, _, _, _ => none
  | n + 1, x1, x2, x4 =>
    if (kK_classes k) ≤ x4 then
      some x2
    else
      (kld (kK_n k 6) (sK_measured σ) x4).bind fun v20 =>
      if v20 ≤ (0 : Int64) then
        fK_measuredOfAge_5 fu k σ n x1 x2 (x4 + 1)
      else
        (kld (kK_n k 6) (sK_measured σ) x4).bind fun v33 =>
        (kld (kK_n k 4) (sK_groupOf σ) x4).bind fun v41 =>
        (fK_commonShare k σ v41 x1).bind fun v43 =>
        fK_measuredOfAge_5 fu k σ n x1 (x2 + (v33 * v43)) (x4 + 1)
def fK_measuredOfAge (fu : Nat) (k : kK) (σ : sK) (x1 : Int32) : Option Int64 :=
  fK_measuredOfAge_5 fu k σ fu x1 (0 : Int64) 0
def fK_raised (fu : Nat) (k : kK) (σ : sK) (x1 : Int64) (x3 : Int32) (x4 : Int32) : Option Int64 :=
  if (fK_isAge k x3) = 0 then
    some (-1 : Int64)
  else
    if (fK_isZeroOrOne x4) = 0 then
      some (-1 : Int64)
    else
      (fK_canRaise fu k σ x1).bind fun v18 =>
      if v18 = 0 then
        some (-1 : Int64)
      else
        (fK_measuredOfAge fu k σ x3).bind fun v31 =>
        (fK_fractionPart fu (x1 * v31) ((sK_measuredInAll σ) * (232792560 : Int64)) x4).bind fun v45 =>
        some v45
def fK_sums_15 (fu : Nat) (k : kK) (σ : sK) : Nat → Int64 → Int64 → Int32 → Option Int32
  | 0, _, _, _ => none
  | n + 1, x1, x3, x5 =>
    if (kK_ages k) ≤ x5 then
      if x3 = ((x1 * (sK_measuredInAll σ)) * (232792560 : Int64)) then
        some 1
      else
        some 0
    else
      (fK_measuredOfAge fu k σ x5).bind fun v29 =>
      fK_sums_15 fu k σ n x1 (x3 + (x1 * v29)) (x5 + 1)
def fK_sums (fu : Nat) (k : kK) (σ : sK) (x1 : Int64) : Option Int32 :=
  (fK_canRaise fu k σ x1).bind fun v2 =>
  if v2 = 0 then
    some 0
  else
    fK_sums_15 fu k σ fu x1 (0 : Int64) 0
def fK_error (k : kK) (σ : sK) (x1 : Int32) (x2 : Int32) (x3 : Int32) : Option (Int32 × sK) :=
  if (fK_isAge k x1) = 0 then
    some (0, σ)
  else
    if (fK_isAge k x2) = 0 then
      some (0, σ)
    else
      if x3 < 0 then
        some (0, σ)
      else
        if x3 ≤ 20 then
          (kstI (kK_n k 7) (sK_errors σ) ((x1 * (kK_ages k)) + x2) x3).bind fun a41 =>
          some (1, (uK_errors σ a41))
        else
          some (0, σ)
def fK_errorSum_4 (fu : Nat) (k : kK) (σ : sK) : Nat → Int32 → Int32 → Int32 → Option Int32
  | 0, _, _, _ => none
  | n + 1, x1, x2, x3 =>
    if (kK_ages k) ≤ x3 then
      some x2
    else
      (kld (kK_n k 7) (sK_errors σ) ((x1 * (kK_ages k)) + x3)).bind fun v25 =>
      fK_errorSum_4 fu k σ n x1 (x2 + v25) (x3 + 1)
def fK_errorSum (fu : Nat) (k : kK) (σ : sK) (x1 : Int32) : Option Int32 :=
  fK_errorSum_4 fu k σ fu x1 0 0
def fK_loadErrors_2 (fu : Nat) (k : kK) : Nat → sK → Int32 → Option sK
  | 0, _, _ => none
  | n + 1, σ, x1 =>
    if (Int32.ofNat (kK_n k 8)) ≤ x1 then
      some σ
    else
      if (Int32.ofNat (kK_n k 7)) ≤ x1 then
        some σ
      else
        (kld (kK_n k 7) (sK_errors σ) x1).bind fun v30 =>
        (kstJ (kK_n k 8) (sK_square σ) x1 v30.toInt64).bind fun a32 =>
        fK_loadErrors_2 fu k n (uK_square σ a32) (x1 + 1)
def fK_loadErrors (fu : Nat) (k : kK) (σ : sK) : Option sK :=
  fK_loadErrors_2 fu k fu σ 0
def fK_pivotRow_2 (fu : Nat) (k : kK) (σ : sK) : Nat → Int32 → Int32 → Option Int32
  | 0, _, _ => none
  | n + 1, x1, x2 =>
    if (kK_ages k) ≤ x2 then
      some (-1)
    else
      (kld (kK_n k 8) (sK_square σ) ((x2 * (kK_ages k)) + x1)).bind fun v22 =>
      if v22 = (0 : Int64) then
        fK_pivotRow_2 fu k σ n x1 (x2 + 1)
      else
        some x2
def fK_pivotRow (fu : Nat) (k : kK) (σ : sK) (x1 : Int32) : Option Int32 :=
  fK_pivotRow_2 fu k σ fu x1 x1
def fK_swapRows_2 (fu : Nat) (k : kK) : Nat → sK → Int32 → Int32 → Int32 → Option sK
  | 0, _, _, _, _ => none
  | n + 1, σ, x1, x2, x3 =>
    if (kK_ages k) ≤ x3 then
      some σ
    else
      (kld (kK_n k 8) (sK_square σ) ((x1 * (kK_ages k)) + x3)).bind fun v22 =>
      (kld (kK_n k 8) (sK_square σ) ((x2 * (kK_ages k)) + x3)).bind fun v49 =>
      (kstJ (kK_n k 8) (sK_square σ) ((x1 * (kK_ages k)) + x3) v49).bind fun a50 =>
      (kstJ (kK_n k 8) (sK_square (uK_square σ a50)) ((x2 * (kK_ages k)) + x3) v22).bind fun a65 =>
      fK_swapRows_2 fu k n (uK_square (uK_square σ a50) a65) x1 x2 (x3 + 1)
def fK_swapRows (fu : Nat) (k : kK) (σ : sK) (x1 : Int32) (x2 : Int32) : Option sK :=
  fK_swapRows_2 fu k fu σ x1 x2 0
def fK_clearBelow_55 (fu : Nat) (k : kK) (h27 : sK → Int32 → Int64 → Int64 → Int32 → Option sK) : Nat → sK → Int32 → Int64 → Int64 → Int32 → Int64 → Int32 → Option sK
  | 0, _, _, _, _, _, _, _ => none
  | n + 1, σ, x1, x2, x4, x6, x7, x9 =>
    if (kK_ages k) ≤ x9 then
      h27 σ x1 x2 x4 (x6 + 1)
    else
      (kld (kK_n k 8) (sK_square σ) ((x6 * (kK_ages k)) + x9)).bind fun v80 =>
      (kld (kK_n k 8) (sK_square σ) ((x1 * (kK_ages k)) + x9)).bind fun v97 =>
      (kdivJ ((x4 * v80) - (x7 * v97)) x2).bind fun v119 =>
      (kstJ (kK_n k 8) (sK_square σ) ((x6 * (kK_ages k)) + x9) v119).bind fun a120 =>
      fK_clearBelow_55 fu k h27 n (uK_square σ a120) x1 x2 x4 x6 x7 (x9 + 1)
def fK_clearBelow_27 (fu : Nat) (k : kK) : Nat → sK → Int32 → Int64 → Int64 → Int32 → Option sK
  | 0, _, _, _, _, _ => none
  | n + 1, σ, x1, x2, x4, x6 =>
    if (kK_ages k) ≤ x6 then
      some σ
    else
      (kld (kK_n k 8) (sK_square σ) ((x6 * (kK_ages k)) + x1)).bind fun v49 =>
      fK_clearBelow_55 fu k (fK_clearBelow_27 fu k n) fu σ x1 x2 x4 x6 v49 x1
def fK_clearBelow (fu : Nat) (k : kK) (σ : sK) (x1 : Int32) (x2 : Int64) : Option sK :=
  if x2 = (0 : Int64) then
    some σ
  else
    (kld (kK_n k 8) (sK_square σ) ((x1 * (kK_ages k)) + x1)).bind fun v19 =>
    fK_clearBelow_27 fu k fu σ x1 x2 v19 (x1 + 1)
def fK_determinant_50 (fu : Nat) (k : kK) (h7 : sK → Int64 → Int64 → Int32 → Option (Int64 × sK)) (σ : sK) (x1 : Int64) (x3 : Int64) (x5 : Int32) : Option (Int64 × sK) :=
  (fK_clearBelow fu k σ x5 x3).bind fun s54 =>
  (kld (kK_n k 8) (sK_square s54) ((x5 * (kK_ages k)) + x5)).bind fun v71 =>
  h7 s54 x1 v71 (x5 + 1)
def fK_determinant_7 (fu : Nat) (k : kK) : Nat → sK → Int64 → Int64 → Int32 → Option (Int64 × sK)
  | 0, _, _, _, _ => none
  | n + 1, σ, x1, x3, x5 =>
    if (kK_ages k) ≤ x5 then
      some ((x1 * x3), σ)
    else
      (fK_pivotRow fu k σ x5).bind fun v19 =>
      if v19 = (-1) then
        some ((0 : Int64), σ)
      else
        if v19 = x5 then
          fK_determinant_50 fu k (fK_determinant_7 fu k n) σ x1 x3 x5
        else
          (fK_swapRows fu k σ v19 x5).bind fun s44 =>
          fK_determinant_50 fu k (fK_determinant_7 fu k n) s44 (-x1) x3 x5
def fK_determinant (fu : Nat) (k : kK) (σ : sK) : Option (Int64 × sK) :=
  fK_determinant_7 fu k fu σ (1 : Int64) (1 : Int64) 0
def fK_undo_2 (fu : Nat) (k : kK) : Nat → sK → Int32 → Option (Int32 × sK)
  | 0, _, _ => none
  | n + 1, σ, x1 =>
    if (kK_ages k) ≤ x1 then
      (fK_loadErrors fu k σ).bind fun s29 =>
      kbind2 (fK_determinant fu k s29) fun v33 s33 =>
      if v33 = (0 : Int64) then
        some (1, s33)
      else
        some (0, s33)
    else
      (fK_errorSum fu k σ x1).bind fun v12 =>
      if v12 = 20 then
        fK_undo_2 fu k n σ (x1 + 1)
      else
        some (2, σ)
def fK_undo (fu : Nat) (k : kK) (σ : sK) : Option (Int32 × sK) :=
  fK_undo_2 fu k fu σ 0
def fK_undone_51 (fu : Nat) (k : kK) : Nat → sK → Int32 → Int32 → Int32 → Int64 → Int32 → Option (Int64 × sK)
  | 0, _, _, _, _, _, _ => none
  | n + 1, σ, x1, x2, x3, x4, x6 =>
    if (kK_ages k) ≤ x6 then
      kbind2 (fK_determinant fu k σ) fun v98 s98 =>
      if (0 : Int64) ≤ x4 then
        (fK_fractionPart fu v98 x4 x3).bind fun v128 =>
        some (v128, s98)
      else
        (fK_fractionPart fu (-v98) (-x4) x3).bind fun v117 =>
        some (v117, s98)
    else
      (kld (kK_n k 4) (sK_groupOf σ) x1).bind fun v82 =>
      (fK_ownOfAge k σ v82 x6).bind fun v85 =>
      (kstJ (kK_n k 8) (sK_square σ) ((x2 * (kK_ages k)) + x6) ((20 : Int64) * v85.toInt64)).bind fun a90 =>
      fK_undone_51 fu k n (uK_square σ a90) x1 x2 x3 x4 (x6 + 1)
def fK_undone (fu : Nat) (k : kK) (σ : sK) (x1 : Int32) (x2 : Int32) (x3 : Int32) : Option (Int64 × sK) :=
  if (fK_isClass k x1) = 0 then
    some ((-1 : Int64), σ)
  else
    if (fK_isAge k x2) = 0 then
      some ((-1 : Int64), σ)
    else
      if (fK_isZeroOrOne x3) = 0 then
        some ((-1 : Int64), σ)
      else
        kbind2 (fK_undo fu k σ) fun v24 s24 =>
        if v24 = 0 then
          (fK_loadErrors fu k s24).bind fun s35 =>
          kbind2 (fK_determinant fu k s35) fun v39 s39 =>
          (fK_loadErrors fu k s39).bind fun s45 =>
          fK_undone_51 fu k fu s45 x1 x2 x3 v39 0
        else
          some ((-1 : Int64), s24)
def fK_apart_73 (fu : Nat) (k : kK) (σ : sK) (h61 : Int32 → Int32 → Int32 → Int32 → Int32 → Int32 → Int32 → Option Int64) : Nat → Int32 → Int32 → Int32 → Int32 → Int32 → Int32 → Int32 → Int32 → Option Int64
  | 0, _, _, _, _, _, _, _, _ => none
  | n + 1, x1, x2, x3, x4, x5, x6, x7, x8 =>
    if (kK_ages k) ≤ x8 then
      h61 x1 x2 x3 x4 x5 x6 (x7 + 1)
    else
      (kld (kK_n k 0) (sK_readings σ) (fK_cell k x1 x7 x8)).bind fun v97 =>
      (kld (kK_n k 0) (sK_readings σ) (fK_cell k x2 x7 x8)).bind fun v114 =>
      fK_apart_73 fu k σ h61 n x1 x2 x3 x4 x5 (x6 + (if 0 ≤ ((v97 * x5) - (v114 * x4)) then ((v97 * x5) - (v114 * x4)) else 0 - ((v97 * x5) - (v114 * x4)))) x7 (x8 + 1)
def fK_apart_61 (fu : Nat) (k : kK) (σ : sK) : Nat → Int32 → Int32 → Int32 → Int32 → Int32 → Int32 → Int32 → Option Int64
  | 0, _, _, _, _, _, _, _ => none
  | n + 1, x1, x2, x3, x4, x5, x6, x7 =>
    if (kK_classes k) ≤ x7 then
      (fK_fractionPart fu x6.toInt64 ((x4 * x5).toInt64) x3).bind fun v147 =>
      some v147
    else
      fK_apart_73 fu k σ (fK_apart_61 fu k σ n) fu x1 x2 x3 x4 x5 x6 x7 0
def fK_apart (fu : Nat) (k : kK) (σ : sK) (x1 : Int32) (x2 : Int32) (x3 : Int32) : Option Int64 :=
  if (fK_isPlace x1) = 0 then
    some (-1 : Int64)
  else
    if (fK_isPlace x2) = 0 then
      some (-1 : Int64)
    else
      if (fK_isZeroOrOne x3) = 0 then
        some (-1 : Int64)
      else
        (kld (kK_n k 1) (sK_rowSize σ) x1).bind fun v30 =>
        (kld (kK_n k 1) (sK_rowSize σ) x2).bind fun v38 =>
        if v30 = 0 then
          some (-1 : Int64)
        else
          if v38 = 0 then
            some (-1 : Int64)
          else
            fK_apart_61 fu k σ fu x1 x2 x3 v30 v38 0 0
def fK_readingsOfAge_4 (fu : Nat) (k : kK) (σ : sK) : Nat → Int32 → Int32 → Int32 → Option Int32
  | 0, _, _, _ => none
  | n + 1, x1, x2, x3 =>
    if (kK_classes k) ≤ x3 then
      some x2
    else
      (kld (kK_n k 0) (sK_readings σ) (fK_cell k (sK_chosenRow σ) x3 x1)).bind fun v27 =>
      fK_readingsOfAge_4 fu k σ n x1 (x2 + v27) (x3 + 1)
def fK_readingsOfAge (fu : Nat) (k : kK) (σ : sK) (x1 : Int32) : Option Int32 :=
  fK_readingsOfAge_4 fu k σ fu x1 0 0
def fK_openPool_5 (fu : Nat) (k : kK) : Nat → sK → Int32 → Int32 → Int32 → Int32 → Option sK
  | 0, _, _, _, _, _ => none
  | n + 1, σ, x1, x2, x3, x4 =>
    if (kK_classes k) ≤ x4 then
      (kstI (kK_n k 9) (sK_poolSum σ) x1 x3).bind fun a48 =>
      (fK_readingsOfAge fu k (uK_poolSum σ a48) x2).bind fun v56 =>
      (kstI (kK_n k 10) (sK_poolSize (uK_poolSum σ a48)) x1 v56).bind fun a59 =>
      (kstI (kK_n k 11) (sK_poolAges (uK_poolSize (uK_poolSum σ a48) a59)) x1 1).bind fun a66 =>
      (kstI (kK_n k 12) (sK_poolLastAge (uK_poolAges (uK_poolSize (uK_poolSum σ a48) a59) a66)) x1 x2).bind fun a73 =>
      some (uK_poolLastAge (uK_poolAges (uK_poolSize (uK_poolSum σ a48) a59) a66) a73)
    else
      (kld (kK_n k 0) (sK_readings σ) (fK_cell k (sK_chosenRow σ) x4 x2)).bind fun v32 =>
      fK_openPool_5 fu k n σ x1 x2 (x3 + (x4 * v32)) (x4 + 1)
def fK_openPool (fu : Nat) (k : kK) (σ : sK) (x1 : Int32) (x2 : Int32) : Option sK :=
  fK_openPool_5 fu k fu σ x1 x2 0 0
def fK_doesNotRise (k : kK) (σ : sK) (x1 : Int32) : Option Int32 :=
  (kld (kK_n k 9) (sK_poolSum σ) x1).bind fun v5 =>
  (kld (kK_n k 10) (sK_poolSize σ) (x1 - 1)).bind fun v13 =>
  (kld (kK_n k 9) (sK_poolSum σ) (x1 - 1)).bind fun v22 =>
  (kld (kK_n k 10) (sK_poolSize σ) x1).bind fun v28 =>
  if (v22 * v28) < (v5 * v13) then
    some 0
  else
    some 1
def fK_joinWithPoolBefore (k : kK) (σ : sK) (x1 : Int32) : Option sK :=
  (kld (kK_n k 9) (sK_poolSum σ) (x1 - 1)).bind fun v8 =>
  (kld (kK_n k 9) (sK_poolSum σ) x1).bind fun v14 =>
  (kstI (kK_n k 9) (sK_poolSum σ) (x1 - 1) (v8 + v14)).bind fun a16 =>
  (kld (kK_n k 10) (sK_poolSize (uK_poolSum σ a16)) (x1 - 1)).bind fun v25 =>
  (kld (kK_n k 10) (sK_poolSize (uK_poolSum σ a16)) x1).bind fun v31 =>
  (kstI (kK_n k 10) (sK_poolSize (uK_poolSum σ a16)) (x1 - 1) (v25 + v31)).bind fun a33 =>
  (kld (kK_n k 11) (sK_poolAges (uK_poolSize (uK_poolSum σ a16) a33)) (x1 - 1)).bind fun v42 =>
  (kld (kK_n k 11) (sK_poolAges (uK_poolSize (uK_poolSum σ a16) a33)) x1).bind fun v48 =>
  (kstI (kK_n k 11) (sK_poolAges (uK_poolSize (uK_poolSum σ a16) a33)) (x1 - 1) (v42 + v48)).bind fun a50 =>
  (kld (kK_n k 12) (sK_poolLastAge (uK_poolAges (uK_poolSize (uK_poolSum σ a16) a33) a50)) x1).bind fun v63 =>
  (kstI (kK_n k 12) (sK_poolLastAge (uK_poolAges (uK_poolSize (uK_poolSum σ a16) a33) a50)) (x1 - 1) v63).bind fun a64 =>
  some (uK_poolLastAge (uK_poolAges (uK_poolSize (uK_poolSum σ a16) a33) a50) a64)
def fK_makePools_32 (fu : Nat) (k : kK) (h4 : sK → Int32 → Int32 → Option (Int32 × sK)) : Nat → sK → Int32 → Int32 → Option (Int32 × sK)
  | 0, _, _, _ => none
  | n + 1, σ, x1, x2 =>
    if x1 ≤ 1 then
      h4 σ x1 (x2 + 1)
    else
      (fK_doesNotRise k σ (x1 - 1)).bind fun v41 =>
      if v41 = 0 then
        h4 σ x1 (x2 + 1)
      else
        (fK_joinWithPoolBefore k σ (x1 - 1)).bind fun s51 =>
        fK_makePools_32 fu k h4 n s51 (x1 + (-1)) x2
def fK_makePools_4 (fu : Nat) (k : kK) : Nat → sK → Int32 → Int32 → Option (Int32 × sK)
  | 0, _, _, _ => none
  | n + 1, σ, x1, x2 =>
    if (kK_ages k) ≤ x2 then
      some (x1, σ)
    else
      (fK_readingsOfAge fu k σ x2).bind fun v14 =>
      if v14 = 0 then
        fK_makePools_4 fu k n σ x1 (x2 + 1)
      else
        (fK_openPool fu k σ x1 x2).bind fun s26 =>
        fK_makePools_32 fu k (fK_makePools_4 fu k n) fu s26 (x1 + 1) x2
def fK_makePools (fu : Nat) (k : kK) (σ : sK) : Option (Int32 × sK) :=
  fK_makePools_4 fu k fu σ 0 0
def fK_poolOf_25 (fu : Nat) (k : kK) : Nat → sK → Int32 → Int32 → Int32 → Option (Int32 × sK)
  | 0, _, _, _, _ => none
  | n + 1, σ, x1, x2, x3 =>
    if x2 ≤ x3 then
      some ((-1), σ)
    else
      (kld (kK_n k 12) (sK_poolLastAge σ) x3).bind fun v36 =>
      if v36 < x1 then
        fK_poolOf_25 fu k n σ x1 x2 (x3 + 1)
      else
        some (x3, σ)
def fK_poolOf (fu : Nat) (k : kK) (σ : sK) (x1 : Int32) : Option (Int32 × sK) :=
  if (fK_isAge k x1) = 0 then
    some ((-1), σ)
  else
    (fK_readingsOfAge fu k σ x1).bind fun v10 =>
    if v10 = 0 then
      some ((-1), σ)
    else
      kbind2 (fK_makePools fu k σ) fun v19 s19 =>
      fK_poolOf_25 fu k fu s19 x1 v19 0
def fK_length (fu : Nat) (k : kK) (σ : sK) (x1 : Int32) (x2 : Int32) : Option (Int64 × sK) :=
  if (fK_isZeroOrOne x2) = 0 then
    some ((-1 : Int64), σ)
  else
    kbind2 (fK_poolOf fu k σ x1) fun v13 s13 =>
    if v13 = (-1) then
      some ((-1 : Int64), s13)
    else
      (kld (kK_n k 9) (sK_poolSum s13) v13).bind fun v33 =>
      (kld (kK_n k 10) (sK_poolSize s13) v13).bind fun v40 =>
      (fK_fractionPart fu v33.toInt64 v40.toInt64 x2).bind fun v43 =>
      some (v43, s13)
def fK_pooled (fu : Nat) (k : kK) (σ : sK) (x1 : Int32) : Option (Int32 × sK) :=
  kbind2 (fK_poolOf fu k σ x1) fun v2 s2 =>
  if v2 = (-1) then
    some (0, s2)
  else
    (kld (kK_n k 11) (sK_poolAges s2) v2).bind fun v20 =>
    some (v20, s2)
def fK_sex (k : kK) (σ : sK) (x1 : Int32) (x2 : Int32) (x3 : Int32) : Option (Int32 × sK) :=
  if (fK_isClass k x1) = 0 then
    some (0, σ)
  else
    if x2 < 0 then
      some (0, σ)
    else
      if x3 < x2 then
        some (0, σ)
      else
        if x3 ≤ 100 then
          (kstI (kK_n k 13) (sK_maleCount σ) x1 x2).bind fun a31 =>
          (kstI (kK_n k 14) (sK_lookedAt (uK_maleCount σ a31)) x1 x3).bind fun a38 =>
          some (1, (uK_lookedAt (uK_maleCount σ a31) a38))
        else
          some (0, σ)
def fK_males_27 (fu : Nat) (k : kK) (σ : sK) : Nat → Int32 → Int32 → Int32 → Int32 → Int32 → Option Int64
  | 0, _, _, _, _, _ => none
  | n + 1, x1, x2, x3, x4, x5 =>
    if (kK_classes k) ≤ x5 then
      if x4 = 0 then
        some (-1 : Int64)
      else
        (fK_fractionPart fu x3.toInt64 x4.toInt64 x2).bind fun v97 =>
        some v97
    else
      (kld (kK_n k 4) (sK_groupOf σ) x5).bind fun v42 =>
      (kld (kK_n k 4) (sK_groupOf σ) x1).bind fun v48 =>
      if v42 = v48 then
        (kld (kK_n k 13) (sK_maleCount σ) x5).bind fun v59 =>
        (kld (kK_n k 14) (sK_lookedAt σ) x5).bind fun v70 =>
        fK_males_27 fu k σ n x1 x2 (x3 + v59) (x4 + v70) (x5 + 1)
      else
        fK_males_27 fu k σ n x1 x2 x3 x4 (x5 + 1)
def fK_males (fu : Nat) (k : kK) (σ : sK) (x1 : Int32) (x2 : Int32) : Option Int64 :=
  if (fK_isClass k x1) = 0 then
    some (-1 : Int64)
  else
    if (fK_isZeroOrOne x2) = 0 then
      some (-1 : Int64)
    else
      fK_males_27 fu k σ fu x1 x2 0 0 0
end
section
abbrev kM : Type := Int32 × Int32 × (Nat → Nat)
def kM_classes (k : kM) : Int32 := k.1
def kM_ages (k : kM) : Int32 := k.2.1
def kM_n (k : kM) : Nat → Nat := k.2.2
abbrev sM : Type := Int32 × Int64 × Int64 × (Nat → Int32) × (Nat → Int32) × (Nat → Int32) × (Nat → Int64) × (Nat → Int32) × (Nat → Int32) × (Nat → Int32) × (Nat → Int64)
def sM_chosen (σ : sM) : Int32 := σ.1
def sM_above (σ : sM) : Int64 := σ.2.1
def sM_below (σ : sM) : Int64 := σ.2.2.1
def sM_counts (σ : sM) : (Nat → Int32) := σ.2.2.2.1
def sM_group (σ : sM) : (Nat → Int32) := σ.2.2.2.2.1
def sM_filler (σ : sM) : (Nat → Int32) := σ.2.2.2.2.2.1
def sM_measured (σ : sM) : (Nat → Int64) := σ.2.2.2.2.2.2.1
def sM_errors (σ : sM) : (Nat → Int32) := σ.2.2.2.2.2.2.2.1
def sM_maleCount (σ : sM) : (Nat → Int32) := σ.2.2.2.2.2.2.2.2.1
def sM_sexCount (σ : sM) : (Nat → Int32) := σ.2.2.2.2.2.2.2.2.2.1
def sM_cells (σ : sM) : (Nat → Int64) := σ.2.2.2.2.2.2.2.2.2.2
def uM_chosen (σ : sM) (v : Int32) : sM := (v, σ.2.1, σ.2.2.1, σ.2.2.2.1, σ.2.2.2.2.1, σ.2.2.2.2.2.1, σ.2.2.2.2.2.2.1, σ.2.2.2.2.2.2.2.1, σ.2.2.2.2.2.2.2.2.1, σ.2.2.2.2.2.2.2.2.2.1, σ.2.2.2.2.2.2.2.2.2.2)
def uM_above (σ : sM) (v : Int64) : sM := (σ.1, v, σ.2.2.1, σ.2.2.2.1, σ.2.2.2.2.1, σ.2.2.2.2.2.1, σ.2.2.2.2.2.2.1, σ.2.2.2.2.2.2.2.1, σ.2.2.2.2.2.2.2.2.1, σ.2.2.2.2.2.2.2.2.2.1, σ.2.2.2.2.2.2.2.2.2.2)
def uM_below (σ : sM) (v : Int64) : sM := (σ.1, σ.2.1, v, σ.2.2.2.1, σ.2.2.2.2.1, σ.2.2.2.2.2.1, σ.2.2.2.2.2.2.1, σ.2.2.2.2.2.2.2.1, σ.2.2.2.2.2.2.2.2.1, σ.2.2.2.2.2.2.2.2.2.1, σ.2.2.2.2.2.2.2.2.2.2)
def uM_counts (σ : sM) (v : (Nat → Int32)) : sM := (σ.1, σ.2.1, σ.2.2.1, v, σ.2.2.2.2.1, σ.2.2.2.2.2.1, σ.2.2.2.2.2.2.1, σ.2.2.2.2.2.2.2.1, σ.2.2.2.2.2.2.2.2.1, σ.2.2.2.2.2.2.2.2.2.1, σ.2.2.2.2.2.2.2.2.2.2)
def uM_group (σ : sM) (v : (Nat → Int32)) : sM := (σ.1, σ.2.1, σ.2.2.1, σ.2.2.2.1, v, σ.2.2.2.2.2.1, σ.2.2.2.2.2.2.1, σ.2.2.2.2.2.2.2.1, σ.2.2.2.2.2.2.2.2.1, σ.2.2.2.2.2.2.2.2.2.1, σ.2.2.2.2.2.2.2.2.2.2)
def uM_filler (σ : sM) (v : (Nat → Int32)) : sM := (σ.1, σ.2.1, σ.2.2.1, σ.2.2.2.1, σ.2.2.2.2.1, v, σ.2.2.2.2.2.2.1, σ.2.2.2.2.2.2.2.1, σ.2.2.2.2.2.2.2.2.1, σ.2.2.2.2.2.2.2.2.2.1, σ.2.2.2.2.2.2.2.2.2.2)
def uM_measured (σ : sM) (v : (Nat → Int64)) : sM := (σ.1, σ.2.1, σ.2.2.1, σ.2.2.2.1, σ.2.2.2.2.1, σ.2.2.2.2.2.1, v, σ.2.2.2.2.2.2.2.1, σ.2.2.2.2.2.2.2.2.1, σ.2.2.2.2.2.2.2.2.2.1, σ.2.2.2.2.2.2.2.2.2.2)
def uM_errors (σ : sM) (v : (Nat → Int32)) : sM := (σ.1, σ.2.1, σ.2.2.1, σ.2.2.2.1, σ.2.2.2.2.1, σ.2.2.2.2.2.1, σ.2.2.2.2.2.2.1, v, σ.2.2.2.2.2.2.2.2.1, σ.2.2.2.2.2.2.2.2.2.1, σ.2.2.2.2.2.2.2.2.2.2)
def uM_maleCount (σ : sM) (v : (Nat → Int32)) : sM := (σ.1, σ.2.1, σ.2.2.1, σ.2.2.2.1, σ.2.2.2.2.1, σ.2.2.2.2.2.1, σ.2.2.2.2.2.2.1, σ.2.2.2.2.2.2.2.1, v, σ.2.2.2.2.2.2.2.2.2.1, σ.2.2.2.2.2.2.2.2.2.2)
def uM_sexCount (σ : sM) (v : (Nat → Int32)) : sM := (σ.1, σ.2.1, σ.2.2.1, σ.2.2.2.1, σ.2.2.2.2.1, σ.2.2.2.2.2.1, σ.2.2.2.2.2.2.1, σ.2.2.2.2.2.2.2.1, σ.2.2.2.2.2.2.2.2.1, v, σ.2.2.2.2.2.2.2.2.2.2)
def uM_cells (σ : sM) (v : (Nat → Int64)) : sM := (σ.1, σ.2.1, σ.2.2.1, σ.2.2.2.1, σ.2.2.2.2.1, σ.2.2.2.2.2.1, σ.2.2.2.2.2.2.1, σ.2.2.2.2.2.2.2.1, σ.2.2.2.2.2.2.2.2.1, σ.2.2.2.2.2.2.2.2.2.1, v)
def wdM (q : Nat → Nat) (k : kM) (cI cJ : ClassId) (σ : sM) : va_W := [(q 0, .inr (1, [.int (kM_classes k), .int (kM_ages k), .ref (q 1), .int (sM_chosen σ), .ref (q 2), .ref (q 3), .ref (q 4), .ref (q 5), .ref (q 6), .ref (q 7), .ref (q 8), .long (sM_above σ), .long (sM_below σ)])),
  (q 1, .inl (cI, kM_n k 0, .inl (sM_counts σ))),
  (q 2, .inl (cI, kM_n k 1, .inl (sM_group σ))),
  (q 3, .inl (cI, kM_n k 2, .inl (sM_filler σ))),
  (q 4, .inl (cJ, kM_n k 3, .inr (.inl (sM_measured σ)))),
  (q 5, .inl (cI, kM_n k 4, .inl (sM_errors σ))),
  (q 6, .inl (cI, kM_n k 5, .inl (sM_maleCount σ))),
  (q 7, .inl (cI, kM_n k 6, .inl (sM_sexCount σ))),
  (q 8, .inl (cJ, kM_n k 7, .inr (.inl (sM_cells σ))))]
theorem gM_classes {p : Program} {l : Launch} {e : Env} {R : Room} {s : State} {m : MethodId} {args : Array Value} {below : List Frame} {meth : Method} {c : Code} {H : Heap} {locs : List Loc} {cells slots : Nat} {Q : State → Prop} {cc : ByteArray} {pc : Nat} {ls : Array Slot} {rest : List Value} {D : va_G} {tys : List (ClassId × FieldType)} {q : Nat → Nat} {k : kM} {cI cJ : ClassId} {σ : sM} (hx : p.tables.exec = Jvm.exec) (hb : c.code = cc) (hown : s.vm.findClass RM = some m.cls) (hts : ∀ w ∈ TM, w.before args s = true) (hK : va_K D cl0 tys s) (hP : va_P D cl0 (wdM q k cI cJ σ) H) (hdg : decode cc pc = .ok (.getfield 39, 3))
    (kk : W p l e R s m args below meth c H locs cells slots Q (F0 m (pc + 3) ls (.int (kM_classes k) :: rest))) : W p l e R s m args below meth c H locs cells slots Q (F0 m pc ls (.ref (q 0) :: rest)) :=
  va_get (D := D) (ci := 1) (v := .int (kM_classes k)) (C := RM) (T := FM) (N := 13) hx hb hts iM_u hown hK hP 0 rfl rfl 0 (by decide) (hts (.fieldLink RM 39 "AgeKeysModel" "classes" "I") (by decide +kernel)) (fun _ h9 => h9) rfl hdg kk
theorem gM_ages {p : Program} {l : Launch} {e : Env} {R : Room} {s : State} {m : MethodId} {args : Array Value} {below : List Frame} {meth : Method} {c : Code} {H : Heap} {locs : List Loc} {cells slots : Nat} {Q : State → Prop} {cc : ByteArray} {pc : Nat} {ls : Array Slot} {rest : List Value} {D : va_G} {tys : List (ClassId × FieldType)} {q : Nat → Nat} {k : kM} {cI cJ : ClassId} {σ : sM} (hx : p.tables.exec = Jvm.exec) (hb : c.code = cc) (hown : s.vm.findClass RM = some m.cls) (hts : ∀ w ∈ TM, w.before args s = true) (hK : va_K D cl0 tys s) (hP : va_P D cl0 (wdM q k cI cJ σ) H) (hdg : decode cc pc = .ok (.getfield 42, 3))
    (kk : W p l e R s m args below meth c H locs cells slots Q (F0 m (pc + 3) ls (.int (kM_ages k) :: rest))) : W p l e R s m args below meth c H locs cells slots Q (F0 m pc ls (.ref (q 0) :: rest)) :=
  va_get (D := D) (ci := 1) (v := .int (kM_ages k)) (C := RM) (T := FM) (N := 13) hx hb hts iM_u hown hK hP 0 rfl rfl 1 (by decide) (hts (.fieldLink RM 42 "AgeKeysModel" "ages" "I") (by decide +kernel)) (fun _ h9 => h9) rfl hdg kk
theorem gM_counts {p : Program} {l : Launch} {e : Env} {R : Room} {s : State} {m : MethodId} {args : Array Value} {below : List Frame} {meth : Method} {c : Code} {H : Heap} {locs : List Loc} {cells slots : Nat} {Q : State → Prop} {cc : ByteArray} {pc : Nat} {ls : Array Slot} {rest : List Value} {D : va_G} {tys : List (ClassId × FieldType)} {q : Nat → Nat} {k : kM} {cI cJ : ClassId} {σ : sM} (hx : p.tables.exec = Jvm.exec) (hb : c.code = cc) (hown : s.vm.findClass RM = some m.cls) (hts : ∀ w ∈ TM, w.before args s = true) (hK : va_K D cl0 tys s) (hP : va_P D cl0 (wdM q k cI cJ σ) H) (hdg : decode cc pc = .ok (.getfield 7, 3))
    (kk : W p l e R s m args below meth c H locs cells slots Q (F0 m (pc + 3) ls (.ref (q 1) :: rest))) : W p l e R s m args below meth c H locs cells slots Q (F0 m pc ls (.ref (q 0) :: rest)) :=
  va_get (D := D) (ci := 1) (v := .ref (q 1)) (C := RM) (T := FM) (N := 13) hx hb hts iM_u hown hK hP 0 rfl rfl 2 (by decide) (hts (.fieldLink RM 7 "AgeKeysModel" "counts" "[I") (by decide +kernel)) (fun _ h9 => h9) rfl hdg kk
theorem gM_chosen {p : Program} {l : Launch} {e : Env} {R : Room} {s : State} {m : MethodId} {args : Array Value} {below : List Frame} {meth : Method} {c : Code} {H : Heap} {locs : List Loc} {cells slots : Nat} {Q : State → Prop} {cc : ByteArray} {pc : Nat} {ls : Array Slot} {rest : List Value} {D : va_G} {tys : List (ClassId × FieldType)} {q : Nat → Nat} {k : kM} {cI cJ : ClassId} {σ : sM} (hx : p.tables.exec = Jvm.exec) (hb : c.code = cc) (hown : s.vm.findClass RM = some m.cls) (hts : ∀ w ∈ TM, w.before args s = true) (hK : va_K D cl0 tys s) (hP : va_P D cl0 (wdM q k cI cJ σ) H) (hdg : decode cc pc = .ok (.getfield 13, 3))
    (kk : W p l e R s m args below meth c H locs cells slots Q (F0 m (pc + 3) ls (.int (sM_chosen σ) :: rest))) : W p l e R s m args below meth c H locs cells slots Q (F0 m pc ls (.ref (q 0) :: rest)) :=
  va_get (D := D) (ci := 1) (v := .int (sM_chosen σ)) (C := RM) (T := FM) (N := 13) hx hb hts iM_u hown hK hP 0 rfl rfl 3 (by decide) (hts (.fieldLink RM 13 "AgeKeysModel" "chosen" "I") (by decide +kernel)) (fun _ h9 => h9) rfl hdg kk
theorem pM_chosen {p : Program} {l : Launch} {e : Env} {R : Room} {s : State} {m : MethodId} {args : Array Value} {below : List Frame} {meth : Method} {c : Code} {H : Heap} {locs : List Loc} {cells slots : Nat} {Q : State → Prop} {cc : ByteArray} {pc : Nat} {ls : Array Slot} {rest : List Value} {D : va_G} {tys : List (ClassId × FieldType)} {q : Nat → Nat} {k : kM} {cI cJ : ClassId} {σ : sM} {A : Nat → Prop} (hx : p.tables.exec = Jvm.exec) (hb : c.code = cc) (hown : s.vm.findClass RM = some m.cls) (hts : ∀ w ∈ TM, w.before args s = true) (hK : va_K D cl0 tys s) (hP : va_P D cl0 (wdM q k cI cJ σ) H) (hD : va_D A (wdM q k cI cJ σ)) (hS : va_S A s.heap H locs) {v : Int32} (hdg : decode cc pc = .ok (.putfield 13, 3))
    (kk : ∀ (H1 : Heap) (locs1 : List Loc), va_P D cl0 (wdM q k cI cJ (uM_chosen σ v)) H1 → va_D A (wdM q k cI cJ (uM_chosen σ v)) → va_S A s.heap H1 locs1 → W p l e R s m args below meth c H1 locs1 cells slots Q (F0 m (pc + 3) ls rest)) : W p l e R s m args below meth c H locs cells slots Q (F0 m pc ls (.int v :: .ref (q 0) :: rest)) :=
  va_put (D := D) (ci := 1) (v := .int v) (ty := .int) (C := RM) (T := FM) (N := 13) hx hb hts iM_u tyM tyM_ok nM_ok hown hK hP hD hS 0 rfl rfl 3 (by decide) (hts (.fieldLink RM 13 "AgeKeysModel" "chosen" "I") (by decide +kernel)) (fun _ h9 => h9) rfl (by decide +kernel) rfl rfl (Nat.le_of_ble_eq_true rfl) hdg kk
theorem gM_group {p : Program} {l : Launch} {e : Env} {R : Room} {s : State} {m : MethodId} {args : Array Value} {below : List Frame} {meth : Method} {c : Code} {H : Heap} {locs : List Loc} {cells slots : Nat} {Q : State → Prop} {cc : ByteArray} {pc : Nat} {ls : Array Slot} {rest : List Value} {D : va_G} {tys : List (ClassId × FieldType)} {q : Nat → Nat} {k : kM} {cI cJ : ClassId} {σ : sM} (hx : p.tables.exec = Jvm.exec) (hb : c.code = cc) (hown : s.vm.findClass RM = some m.cls) (hts : ∀ w ∈ TM, w.before args s = true) (hK : va_K D cl0 tys s) (hP : va_P D cl0 (wdM q k cI cJ σ) H) (hdg : decode cc pc = .ok (.getfield 17, 3))
    (kk : W p l e R s m args below meth c H locs cells slots Q (F0 m (pc + 3) ls (.ref (q 2) :: rest))) : W p l e R s m args below meth c H locs cells slots Q (F0 m pc ls (.ref (q 0) :: rest)) :=
  va_get (D := D) (ci := 1) (v := .ref (q 2)) (C := RM) (T := FM) (N := 13) hx hb hts iM_u hown hK hP 0 rfl rfl 4 (by decide) (hts (.fieldLink RM 17 "AgeKeysModel" "group" "[I") (by decide +kernel)) (fun _ h9 => h9) rfl hdg kk
theorem gM_filler {p : Program} {l : Launch} {e : Env} {R : Room} {s : State} {m : MethodId} {args : Array Value} {below : List Frame} {meth : Method} {c : Code} {H : Heap} {locs : List Loc} {cells slots : Nat} {Q : State → Prop} {cc : ByteArray} {pc : Nat} {ls : Array Slot} {rest : List Value} {D : va_G} {tys : List (ClassId × FieldType)} {q : Nat → Nat} {k : kM} {cI cJ : ClassId} {σ : sM} (hx : p.tables.exec = Jvm.exec) (hb : c.code = cc) (hown : s.vm.findClass RM = some m.cls) (hts : ∀ w ∈ TM, w.before args s = true) (hK : va_K D cl0 tys s) (hP : va_P D cl0 (wdM q k cI cJ σ) H) (hdg : decode cc pc = .ok (.getfield 20, 3))
    (kk : W p l e R s m args below meth c H locs cells slots Q (F0 m (pc + 3) ls (.ref (q 3) :: rest))) : W p l e R s m args below meth c H locs cells slots Q (F0 m pc ls (.ref (q 0) :: rest)) :=
  va_get (D := D) (ci := 1) (v := .ref (q 3)) (C := RM) (T := FM) (N := 13) hx hb hts iM_u hown hK hP 0 rfl rfl 5 (by decide) (hts (.fieldLink RM 20 "AgeKeysModel" "filler" "[I") (by decide +kernel)) (fun _ h9 => h9) rfl hdg kk
theorem gM_measured {p : Program} {l : Launch} {e : Env} {R : Room} {s : State} {m : MethodId} {args : Array Value} {below : List Frame} {meth : Method} {c : Code} {H : Heap} {locs : List Loc} {cells slots : Nat} {Q : State → Prop} {cc : ByteArray} {pc : Nat} {ls : Array Slot} {rest : List Value} {D : va_G} {tys : List (ClassId × FieldType)} {q : Nat → Nat} {k : kM} {cI cJ : ClassId} {σ : sM} (hx : p.tables.exec = Jvm.exec) (hb : c.code = cc) (hown : s.vm.findClass RM = some m.cls) (hts : ∀ w ∈ TM, w.before args s = true) (hK : va_K D cl0 tys s) (hP : va_P D cl0 (wdM q k cI cJ σ) H) (hdg : decode cc pc = .ok (.getfield 23, 3))
    (kk : W p l e R s m args below meth c H locs cells slots Q (F0 m (pc + 3) ls (.ref (q 4) :: rest))) : W p l e R s m args below meth c H locs cells slots Q (F0 m pc ls (.ref (q 0) :: rest)) :=
  va_get (D := D) (ci := 1) (v := .ref (q 4)) (C := RM) (T := FM) (N := 13) hx hb hts iM_u hown hK hP 0 rfl rfl 6 (by decide) (hts (.fieldLink RM 23 "AgeKeysModel" "measured" "[J") (by decide +kernel)) (fun _ h9 => h9) rfl hdg kk
theorem gM_errors {p : Program} {l : Launch} {e : Env} {R : Room} {s : State} {m : MethodId} {args : Array Value} {below : List Frame} {meth : Method} {c : Code} {H : Heap} {locs : List Loc} {cells slots : Nat} {Q : State → Prop} {cc : ByteArray} {pc : Nat} {ls : Array Slot} {rest : List Value} {D : va_G} {tys : List (ClassId × FieldType)} {q : Nat → Nat} {k : kM} {cI cJ : ClassId} {σ : sM} (hx : p.tables.exec = Jvm.exec) (hb : c.code = cc) (hown : s.vm.findClass RM = some m.cls) (hts : ∀ w ∈ TM, w.before args s = true) (hK : va_K D cl0 tys s) (hP : va_P D cl0 (wdM q k cI cJ σ) H) (hdg : decode cc pc = .ok (.getfield 27, 3))
    (kk : W p l e R s m args below meth c H locs cells slots Q (F0 m (pc + 3) ls (.ref (q 5) :: rest))) : W p l e R s m args below meth c H locs cells slots Q (F0 m pc ls (.ref (q 0) :: rest)) :=
  va_get (D := D) (ci := 1) (v := .ref (q 5)) (C := RM) (T := FM) (N := 13) hx hb hts iM_u hown hK hP 0 rfl rfl 7 (by decide) (hts (.fieldLink RM 27 "AgeKeysModel" "errors" "[I") (by decide +kernel)) (fun _ h9 => h9) rfl hdg kk
theorem gM_maleCount {p : Program} {l : Launch} {e : Env} {R : Room} {s : State} {m : MethodId} {args : Array Value} {below : List Frame} {meth : Method} {c : Code} {H : Heap} {locs : List Loc} {cells slots : Nat} {Q : State → Prop} {cc : ByteArray} {pc : Nat} {ls : Array Slot} {rest : List Value} {D : va_G} {tys : List (ClassId × FieldType)} {q : Nat → Nat} {k : kM} {cI cJ : ClassId} {σ : sM} (hx : p.tables.exec = Jvm.exec) (hb : c.code = cc) (hown : s.vm.findClass RM = some m.cls) (hts : ∀ w ∈ TM, w.before args s = true) (hK : va_K D cl0 tys s) (hP : va_P D cl0 (wdM q k cI cJ σ) H) (hdg : decode cc pc = .ok (.getfield 30, 3))
    (kk : W p l e R s m args below meth c H locs cells slots Q (F0 m (pc + 3) ls (.ref (q 6) :: rest))) : W p l e R s m args below meth c H locs cells slots Q (F0 m pc ls (.ref (q 0) :: rest)) :=
  va_get (D := D) (ci := 1) (v := .ref (q 6)) (C := RM) (T := FM) (N := 13) hx hb hts iM_u hown hK hP 0 rfl rfl 8 (by decide) (hts (.fieldLink RM 30 "AgeKeysModel" "maleCount" "[I") (by decide +kernel)) (fun _ h9 => h9) rfl hdg kk
theorem gM_sexCount {p : Program} {l : Launch} {e : Env} {R : Room} {s : State} {m : MethodId} {args : Array Value} {below : List Frame} {meth : Method} {c : Code} {H : Heap} {locs : List Loc} {cells slots : Nat} {Q : State → Prop} {cc : ByteArray} {pc : Nat} {ls : Array Slot} {rest : List Value} {D : va_G} {tys : List (ClassId × FieldType)} {q : Nat → Nat} {k : kM} {cI cJ : ClassId} {σ : sM} (hx : p.tables.exec = Jvm.exec) (hb : c.code = cc) (hown : s.vm.findClass RM = some m.cls) (hts : ∀ w ∈ TM, w.before args s = true) (hK : va_K D cl0 tys s) (hP : va_P D cl0 (wdM q k cI cJ σ) H) (hdg : decode cc pc = .ok (.getfield 33, 3))
    (kk : W p l e R s m args below meth c H locs cells slots Q (F0 m (pc + 3) ls (.ref (q 7) :: rest))) : W p l e R s m args below meth c H locs cells slots Q (F0 m pc ls (.ref (q 0) :: rest)) :=
  va_get (D := D) (ci := 1) (v := .ref (q 7)) (C := RM) (T := FM) (N := 13) hx hb hts iM_u hown hK hP 0 rfl rfl 9 (by decide) (hts (.fieldLink RM 33 "AgeKeysModel" "sexCount" "[I") (by decide +kernel)) (fun _ h9 => h9) rfl hdg kk
theorem gM_cells {p : Program} {l : Launch} {e : Env} {R : Room} {s : State} {m : MethodId} {args : Array Value} {below : List Frame} {meth : Method} {c : Code} {H : Heap} {locs : List Loc} {cells slots : Nat} {Q : State → Prop} {cc : ByteArray} {pc : Nat} {ls : Array Slot} {rest : List Value} {D : va_G} {tys : List (ClassId × FieldType)} {q : Nat → Nat} {k : kM} {cI cJ : ClassId} {σ : sM} (hx : p.tables.exec = Jvm.exec) (hb : c.code = cc) (hown : s.vm.findClass RM = some m.cls) (hts : ∀ w ∈ TM, w.before args s = true) (hK : va_K D cl0 tys s) (hP : va_P D cl0 (wdM q k cI cJ σ) H) (hdg : decode cc pc = .ok (.getfield 36, 3))
    (kk : W p l e R s m args below meth c H locs cells slots Q (F0 m (pc + 3) ls (.ref (q 8) :: rest))) : W p l e R s m args below meth c H locs cells slots Q (F0 m pc ls (.ref (q 0) :: rest)) :=
  va_get (D := D) (ci := 1) (v := .ref (q 8)) (C := RM) (T := FM) (N := 13) hx hb hts iM_u hown hK hP 0 rfl rfl 10 (by decide) (hts (.fieldLink RM 36 "AgeKeysModel" "cells" "[J") (by decide +kernel)) (fun _ h9 => h9) rfl hdg kk
theorem gM_above {p : Program} {l : Launch} {e : Env} {R : Room} {s : State} {m : MethodId} {args : Array Value} {below : List Frame} {meth : Method} {c : Code} {H : Heap} {locs : List Loc} {cells slots : Nat} {Q : State → Prop} {cc : ByteArray} {pc : Nat} {ls : Array Slot} {rest : List Value} {D : va_G} {tys : List (ClassId × FieldType)} {q : Nat → Nat} {k : kM} {cI cJ : ClassId} {σ : sM} (hx : p.tables.exec = Jvm.exec) (hb : c.code = cc) (hown : s.vm.findClass RM = some m.cls) (hts : ∀ w ∈ TM, w.before args s = true) (hK : va_K D cl0 tys s) (hP : va_P D cl0 (wdM q k cI cJ σ) H) (hdg : decode cc pc = .ok (.getfield 91, 3))
    (kk : W p l e R s m args below meth c H locs cells slots Q (F0 m (pc + 3) ls (.long (sM_above σ) :: rest))) : W p l e R s m args below meth c H locs cells slots Q (F0 m pc ls (.ref (q 0) :: rest)) :=
  va_get (D := D) (ci := 1) (v := .long (sM_above σ)) (C := RM) (T := FM) (N := 13) hx hb hts iM_u hown hK hP 0 rfl rfl 11 (by decide) (hts (.fieldLink RM 91 "AgeKeysModel" "above" "J") (by decide +kernel)) (fun _ h9 => h9) rfl hdg kk
theorem pM_above {p : Program} {l : Launch} {e : Env} {R : Room} {s : State} {m : MethodId} {args : Array Value} {below : List Frame} {meth : Method} {c : Code} {H : Heap} {locs : List Loc} {cells slots : Nat} {Q : State → Prop} {cc : ByteArray} {pc : Nat} {ls : Array Slot} {rest : List Value} {D : va_G} {tys : List (ClassId × FieldType)} {q : Nat → Nat} {k : kM} {cI cJ : ClassId} {σ : sM} {A : Nat → Prop} (hx : p.tables.exec = Jvm.exec) (hb : c.code = cc) (hown : s.vm.findClass RM = some m.cls) (hts : ∀ w ∈ TM, w.before args s = true) (hK : va_K D cl0 tys s) (hP : va_P D cl0 (wdM q k cI cJ σ) H) (hD : va_D A (wdM q k cI cJ σ)) (hS : va_S A s.heap H locs) {v : Int64} (hdg : decode cc pc = .ok (.putfield 91, 3))
    (kk : ∀ (H1 : Heap) (locs1 : List Loc), va_P D cl0 (wdM q k cI cJ (uM_above σ v)) H1 → va_D A (wdM q k cI cJ (uM_above σ v)) → va_S A s.heap H1 locs1 → W p l e R s m args below meth c H1 locs1 cells slots Q (F0 m (pc + 3) ls rest)) : W p l e R s m args below meth c H locs cells slots Q (F0 m pc ls (.long v :: .ref (q 0) :: rest)) :=
  va_put (D := D) (ci := 1) (v := .long v) (ty := .long) (C := RM) (T := FM) (N := 13) hx hb hts iM_u tyM tyM_ok nM_ok hown hK hP hD hS 0 rfl rfl 11 (by decide) (hts (.fieldLink RM 91 "AgeKeysModel" "above" "J") (by decide +kernel)) (fun _ h9 => h9) rfl (by decide +kernel) rfl rfl (Nat.le_of_ble_eq_true rfl) hdg kk
theorem gM_below {p : Program} {l : Launch} {e : Env} {R : Room} {s : State} {m : MethodId} {args : Array Value} {below : List Frame} {meth : Method} {c : Code} {H : Heap} {locs : List Loc} {cells slots : Nat} {Q : State → Prop} {cc : ByteArray} {pc : Nat} {ls : Array Slot} {rest : List Value} {D : va_G} {tys : List (ClassId × FieldType)} {q : Nat → Nat} {k : kM} {cI cJ : ClassId} {σ : sM} (hx : p.tables.exec = Jvm.exec) (hb : c.code = cc) (hown : s.vm.findClass RM = some m.cls) (hts : ∀ w ∈ TM, w.before args s = true) (hK : va_K D cl0 tys s) (hP : va_P D cl0 (wdM q k cI cJ σ) H) (hdg : decode cc pc = .ok (.getfield 97, 3))
    (kk : W p l e R s m args below meth c H locs cells slots Q (F0 m (pc + 3) ls (.long (sM_below σ) :: rest))) : W p l e R s m args below meth c H locs cells slots Q (F0 m pc ls (.ref (q 0) :: rest)) :=
  va_get (D := D) (ci := 1) (v := .long (sM_below σ)) (C := RM) (T := FM) (N := 13) hx hb hts iM_u hown hK hP 0 rfl rfl 12 (by decide) (hts (.fieldLink RM 97 "AgeKeysModel" "below" "J") (by decide +kernel)) (fun _ h9 => h9) rfl hdg kk
theorem pM_below {p : Program} {l : Launch} {e : Env} {R : Room} {s : State} {m : MethodId} {args : Array Value} {below : List Frame} {meth : Method} {c : Code} {H : Heap} {locs : List Loc} {cells slots : Nat} {Q : State → Prop} {cc : ByteArray} {pc : Nat} {ls : Array Slot} {rest : List Value} {D : va_G} {tys : List (ClassId × FieldType)} {q : Nat → Nat} {k : kM} {cI cJ : ClassId} {σ : sM} {A : Nat → Prop} (hx : p.tables.exec = Jvm.exec) (hb : c.code = cc) (hown : s.vm.findClass RM = some m.cls) (hts : ∀ w ∈ TM, w.before args s = true) (hK : va_K D cl0 tys s) (hP : va_P D cl0 (wdM q k cI cJ σ) H) (hD : va_D A (wdM q k cI cJ σ)) (hS : va_S A s.heap H locs) {v : Int64} (hdg : decode cc pc = .ok (.putfield 97, 3))
    (kk : ∀ (H1 : Heap) (locs1 : List Loc), va_P D cl0 (wdM q k cI cJ (uM_below σ v)) H1 → va_D A (wdM q k cI cJ (uM_below σ v)) → va_S A s.heap H1 locs1 → W p l e R s m args below meth c H1 locs1 cells slots Q (F0 m (pc + 3) ls rest)) : W p l e R s m args below meth c H locs cells slots Q (F0 m pc ls (.long v :: .ref (q 0) :: rest)) :=
  va_put (D := D) (ci := 1) (v := .long v) (ty := .long) (C := RM) (T := FM) (N := 13) hx hb hts iM_u tyM tyM_ok nM_ok hown hK hP hD hS 0 rfl rfl 12 (by decide) (hts (.fieldLink RM 97 "AgeKeysModel" "below" "J") (by decide +kernel)) (fun _ h9 => h9) rfl (by decide +kernel) rfl rfl (Nat.le_of_ble_eq_true rfl) hdg kk
end
section
def fM_isClass (k : kM) (x1 : Int32) : Int32 :=
  if x1 < 0 then
    0
  else
    if (kM_classes k) ≤ x1 then
      0
    else
      1
def fM_isAge (k : kM) (x1 : Int32) : Int32 :=
  if x1 < 0 then
    0
  else
    if (kM_ages k) ≤ x1 then
      0
    else
      1
def fM_isPart_9 : Int32 :=
  1
def fM_isPart (x0 : Int32) : Int32 :=
  if x0 = 0 then
    fM_isPart_9
  else
    if x0 = 1 then
      fM_isPart_9
    else
      0
def fM_at (x0 : Int32) (x1 : Int32) (x2 : Int32) : Int32 :=
  (((60 * x0) + (6 * x1)) + x2)
def fM_count_41 (fu : Nat) (k : kM) (σ : sM) (h6 : Int32 → Int32 → Int32 → Int32 → Int32 → Option Int32) (y0 : Int32) (y1 : Int32) (x1 : Int32) (x2 : Int32) (x3 : Int32) (x5 : Int32) : Option Int32 :=
  h6 x1 x2 x3 (y0 + y1) (x5 + 1)
def fM_count_25 (fu : Nat) (k : kM) (σ : sM) (h6 : Int32 → Int32 → Int32 → Int32 → Int32 → Option Int32) (y0 : Int32) (x1 : Int32) (x2 : Int32) (x3 : Int32) (x5 : Int32) : Option Int32 :=
  (kld (kM_n k 0) (sM_counts σ) (fM_at x5 x2 x3)).bind fun v36 =>
  fM_count_41 fu k σ h6 y0 v36 x1 x2 x3 x5
def fM_count_6 (fu : Nat) (k : kM) (σ : sM) : Nat → Int32 → Int32 → Int32 → Int32 → Int32 → Option Int32
  | 0, _, _, _, _, _ => none
  | n + 1, x1, x2, x3, x4, x5 =>
    if 4 ≤ x5 then
      some x4
    else
      if x1 = (-1) then
        fM_count_25 fu k σ (fM_count_6 fu k σ n) x4 x1 x2 x3 x5
      else
        if x1 = x5 then
          fM_count_25 fu k σ (fM_count_6 fu k σ n) x4 x1 x2 x3 x5
        else
          fM_count_41 fu k σ (fM_count_6 fu k σ n) x4 0 x1 x2 x3 x5
def fM_count (fu : Nat) (k : kM) (σ : sM) (x1 : Int32) (x2 : Int32) (x3 : Int32) : Option Int32 :=
  fM_count_6 fu k σ fu x1 x2 x3 0 0
def fM_inGroup_64 (fu : Nat) (k : kM) (σ : sM) (h6 : Int32 → Int32 → Int32 → Int32 → Int32 → Option Int32) (h18 : Int32 → Int32 → Int32 → Int32 → Int32 → Int32 → Option Int32) (y0 : Int32) (y1 : Int32) (x1 : Int32) (x2 : Int32) (x3 : Int32) (x5 : Int32) (x6 : Int32) : Option Int32 :=
  h18 x1 x2 x3 (y0 + y1) x5 (x6 + 1)
def fM_inGroup_51 (fu : Nat) (k : kM) (σ : sM) (h6 : Int32 → Int32 → Int32 → Int32 → Int32 → Option Int32) (h18 : Int32 → Int32 → Int32 → Int32 → Int32 → Int32 → Option Int32) (y0 : Int32) (x1 : Int32) (x2 : Int32) (x3 : Int32) (x5 : Int32) (x6 : Int32) : Option Int32 :=
  (fM_count fu k σ x2 x5 x6).bind fun v57 =>
  fM_inGroup_64 fu k σ h6 h18 y0 v57 x1 x2 x3 x5 x6
def fM_inGroup_63 (fu : Nat) (k : kM) (σ : sM) (h6 : Int32 → Int32 → Int32 → Int32 → Int32 → Option Int32) (h18 : Int32 → Int32 → Int32 → Int32 → Int32 → Int32 → Option Int32) (y0 : Int32) (x1 : Int32) (x2 : Int32) (x3 : Int32) (x5 : Int32) (x6 : Int32) : Option Int32 :=
  fM_inGroup_64 fu k σ h6 h18 y0 0 x1 x2 x3 x5 x6
def fM_inGroup_18 (fu : Nat) (k : kM) (σ : sM) (h6 : Int32 → Int32 → Int32 → Int32 → Int32 → Option Int32) : Nat → Int32 → Int32 → Int32 → Int32 → Int32 → Int32 → Option Int32
  | 0, _, _, _, _, _, _ => none
  | n + 1, x1, x2, x3, x4, x5, x6 =>
    if (kM_ages k) ≤ x6 then
      h6 x1 x2 x3 x4 (x5 + 1)
    else
      (kld (kM_n k 1) (sM_group σ) x5).bind fun v35 =>
      if v35 = x1 then
        if x3 = (-1) then
          fM_inGroup_51 fu k σ h6 (fM_inGroup_18 fu k σ h6 n) x4 x1 x2 x3 x5 x6
        else
          if x3 = x6 then
            fM_inGroup_51 fu k σ h6 (fM_inGroup_18 fu k σ h6 n) x4 x1 x2 x3 x5 x6
          else
            fM_inGroup_63 fu k σ h6 (fM_inGroup_18 fu k σ h6 n) x4 x1 x2 x3 x5 x6
      else
        fM_inGroup_63 fu k σ h6 (fM_inGroup_18 fu k σ h6 n) x4 x1 x2 x3 x5 x6
def fM_inGroup_6 (fu : Nat) (k : kM) (σ : sM) : Nat → Int32 → Int32 → Int32 → Int32 → Int32 → Option Int32
  | 0, _, _, _, _, _ => none
  | n + 1, x1, x2, x3, x4, x5 =>
    if (kM_classes k) ≤ x5 then
      some x4
    else
      fM_inGroup_18 fu k σ (fM_inGroup_6 fu k σ n) fu x1 x2 x3 x4 x5 0
def fM_inGroup (fu : Nat) (k : kM) (σ : sM) (x1 : Int32) (x2 : Int32) (x3 : Int32) : Option Int32 :=
  fM_inGroup_6 fu k σ fu x1 x2 x3 0 0
def fM_inAll_15 (fu : Nat) (k : kM) (σ : sM) (h4 : Int32 → Int32 → Int32 → Option Int32) : Nat → Int32 → Int32 → Int32 → Int32 → Option Int32
  | 0, _, _, _, _ => none
  | n + 1, x1, x2, x3, x4 =>
    if (kM_ages k) ≤ x4 then
      h4 x1 x2 (x3 + 1)
    else
      (fM_count fu k σ x1 x3 x4).bind fun v30 =>
      fM_inAll_15 fu k σ h4 n x1 (x2 + v30) x3 (x4 + 1)
def fM_inAll_4 (fu : Nat) (k : kM) (σ : sM) : Nat → Int32 → Int32 → Int32 → Option Int32
  | 0, _, _, _ => none
  | n + 1, x1, x2, x3 =>
    if (kM_classes k) ≤ x3 then
      some x2
    else
      fM_inAll_15 fu k σ (fM_inAll_4 fu k σ n) fu x1 x2 x3 0
def fM_inAll (fu : Nat) (k : kM) (σ : sM) (x1 : Int32) : Option Int32 :=
  fM_inAll_4 fu k σ fu x1 0 0
def fM_partOf_110 (fu : Nat) (y0 : Int64) (y1 : Int64) (x5 : Int64) : Option Int64 :=
  (kdivJ y1 x5).bind fun v112 =>
  some (y0 * v112)
def fM_partOf_89 (fu : Nat) (y0 : Int64) (x0 : Int64) (x4 : Int32) (x5 : Int64) (x9 : Int64) : Option Int64 :=
  if x4 = 0 then
    if (0 : Int64) ≤ x0 then
      fM_partOf_110 fu y0 x0 x5
    else
      fM_partOf_110 fu y0 (-x0) x5
  else
    (kdivJ x9 x5).bind fun v121 =>
    some v121
def fM_partOf_79 (fu : Nat) (y0 : Int32) (y1 : Int32) (x0 : Int64) (x4 : Int32) (x5 : Int64) (x9 : Int64) : Option Int64 :=
  if y0 = y1 then
    fM_partOf_89 fu (1 : Int64) x0 x4 x5 x9
  else
    fM_partOf_89 fu (-1 : Int64) x0 x4 x5 x9
def fM_partOf_68 (fu : Nat) (y0 : Int32) (x0 : Int64) (x2 : Int64) (x4 : Int32) (x5 : Int64) (x9 : Int64) : Option Int64 :=
  if (0 : Int64) ≤ x2 then
    fM_partOf_79 fu y0 0 x0 x4 x5 x9
  else
    fM_partOf_79 fu y0 1 x0 x4 x5 x9
def fM_partOf_32 (fu : Nat) : Nat → Int64 → Int64 → Int32 → Int64 → Int64 → Int64 → Option Int64
  | 0, _, _, _, _, _, _ => none
  | n + 1, x0, x2, x4, x5, x7, x9 =>
    if x7 = (0 : Int64) then
      if (0 : Int64) ≤ x0 then
        fM_partOf_68 fu 0 x0 x2 x4 x5 x9
      else
        fM_partOf_68 fu 1 x0 x2 x4 x5 x9
    else
      (kremJ x5 x7).bind fun v43 =>
      fM_partOf_32 fu n x0 x2 x4 x7 v43 x9
def fM_partOf_26 (fu : Nat) (y0 : Int64) (x0 : Int64) (x2 : Int64) (x4 : Int32) (x5 : Int64) : Option Int64 :=
  fM_partOf_32 fu fu x0 x2 x4 x5 y0 y0
def fM_partOf_12 (fu : Nat) (y0 : Int64) (x0 : Int64) (x2 : Int64) (x4 : Int32) : Option Int64 :=
  if (0 : Int64) ≤ x2 then
    fM_partOf_26 fu x2 x0 x2 x4 y0
  else
    fM_partOf_26 fu (-x2) x0 x2 x4 y0
def fM_partOf (fu : Nat) (x0 : Int64) (x2 : Int64) (x4 : Int32) : Option Int64 :=
  if (0 : Int64) ≤ x0 then
    fM_partOf_12 fu x0 x0 x2 x4
  else
    fM_partOf_12 fu (-x0) x0 x2 x4
def fM_read (fu : Nat) (k : kM) (σ : sM) (x1 : Int32) (x2 : Int32) (x3 : Int32) : Option (Int32 × sM) :=
  if (fM_isClass k x1) = 0 then
    some (0, σ)
  else
    if (fM_isAge k x2) = 0 then
      some (0, σ)
    else
      if x3 < 0 then
        some (0, σ)
      else
        if x3 < 4 then
          (kld (kM_n k 1) (sM_group σ) x1).bind fun v33 =>
          (fM_inGroup fu k σ v33 (-1) (-1)).bind fun v36 =>
          if 20 ≤ v36 then
            some (0, σ)
          else
            (fM_inAll fu k σ (-1)).bind fun v46 =>
            if v46 < 100 then
              (kld (kM_n k 0) (sM_counts σ) (fM_at x3 x1 x2)).bind fun v67 =>
              (kstI (kM_n k 0) (sM_counts σ) (fM_at x3 x1 x2) (v67 + 1)).bind fun a70 =>
              some (1, (uM_counts σ a70))
            else
              some (0, σ)
        else
          some (0, σ)
def fM_place (fu : Nat) (k : kM) (σ : sM) (x1 : Int32) : Option (Int32 × sM) :=
  if x1 < (-1) then
    some ((-1), σ)
  else
    if x1 < 4 then
      (fM_inAll fu k (uM_chosen σ x1) x1).bind fun v19 =>
      some (v19, (uM_chosen σ x1))
    else
      some ((-1), σ)
def fM_own (fu : Nat) (k : kM) (σ : sM) (x1 : Int32) : Option Int32 :=
  (fM_inGroup fu k σ x1 (sM_chosen σ) (-1)).bind fun v7 =>
  some v7
def fM_source_18 (fu : Nat) (k : kM) (σ : sM) (y0 : Int32) : Option Int32 :=
  if y0 = (-1) then
    some (-1)
  else
    (fM_own fu k σ y0).bind fun v26 =>
    if v26 ≤ 0 then
      some (-1)
    else
      some y0
def fM_source (fu : Nat) (k : kM) (σ : sM) (x1 : Int32) : Option Int32 :=
  (fM_own fu k σ x1).bind fun v2 =>
  if v2 ≤ 0 then
    (kld (kM_n k 2) (sM_filler σ) x1).bind fun v17 =>
    fM_source_18 fu k σ v17
  else
    fM_source_18 fu k σ x1
def fM_share (fu : Nat) (k : kM) (σ : sM) (x1 : Int32) (x2 : Int32) (x3 : Int32) : Option Int64 :=
  if (fM_isClass k x1) = 0 then
    some (-1 : Int64)
  else
    if (fM_isAge k x2) = 0 then
      some (-1 : Int64)
    else
      if (fM_isPart x3) = 0 then
        some (-1 : Int64)
      else
        (kld (kM_n k 1) (sM_group σ) x1).bind fun v33 =>
        (fM_source fu k σ v33).bind fun v34 =>
        if v34 = (-1) then
          some (-1 : Int64)
        else
          (fM_inGroup fu k σ v34 (sM_chosen σ) x2).bind fun v59 =>
          (fM_own fu k σ v34).bind fun v66 =>
          (fM_partOf fu v59.toInt64 v66.toInt64 x3).bind fun v71 =>
          some v71
def fM_empty_4 (fu : Nat) (k : kM) (σ : sM) : Nat → Int32 → Int32 → Int32 → Option Int32
  | 0, _, _, _ => none
  | n + 1, x1, x2, x3 =>
    if (kM_classes k) ≤ x3 then
      some (-1)
    else
      (kld (kM_n k 1) (sM_group σ) x3).bind fun v17 =>
      if v17 = x3 then
        (fM_own fu k σ x3).bind fun v24 =>
        if v24 = 0 then
          (kld (kM_n k 2) (sM_filler σ) x3).bind fun v35 =>
          if v35 = (-1) then
            if x2 = x1 then
              some x3
            else
              fM_empty_4 fu k σ n x1 (x2 + 1) (x3 + 1)
          else
            fM_empty_4 fu k σ n x1 x2 (x3 + 1)
        else
          fM_empty_4 fu k σ n x1 x2 (x3 + 1)
      else
        fM_empty_4 fu k σ n x1 x2 (x3 + 1)
def fM_empty (fu : Nat) (k : kM) (σ : sM) (x1 : Int32) : Option Int32 :=
  fM_empty_4 fu k σ fu x1 0 0
def fM_distance_83 (fu : Nat) (k : kM) (σ : sM) (h6 : Int32 → Int32 → Int32 → Int32 → Option Int32) (h18 : Int32 → Int32 → Int32 → Int32 → Int32 → Option Int32) (y0 : Int32) (x1 : Int32) (x2 : Int32) (x4 : Int32) (x5 : Int32) : Option Int32 :=
  h18 x1 x2 y0 x4 (x5 + 1)
def fM_distance_82 (fu : Nat) (k : kM) (σ : sM) (h6 : Int32 → Int32 → Int32 → Int32 → Option Int32) (h18 : Int32 → Int32 → Int32 → Int32 → Int32 → Option Int32) (x1 : Int32) (x2 : Int32) (x3 : Int32) (x4 : Int32) (x5 : Int32) : Option Int32 :=
  fM_distance_83 fu k σ h6 h18 x3 x1 x2 x4 x5
def fM_distance_47 (fu : Nat) (k : kM) (σ : sM) (h6 : Int32 → Int32 → Int32 → Int32 → Option Int32) (h18 : Int32 → Int32 → Int32 → Int32 → Int32 → Option Int32) (y0 : Int32) (x1 : Int32) (x2 : Int32) (x3 : Int32) (x4 : Int32) (x5 : Int32) : Option Int32 :=
  (kld (kM_n k 1) (sM_group σ) x4).bind fun v55 =>
  if v55 = x1 then
    (kld (kM_n k 1) (sM_group σ) x5).bind fun v66 =>
    if v66 = x2 then
      if x3 ≤ y0 then
        fM_distance_82 fu k σ h6 h18 x1 x2 x3 x4 x5
      else
        fM_distance_83 fu k σ h6 h18 y0 x1 x2 x4 x5
    else
      fM_distance_82 fu k σ h6 h18 x1 x2 x3 x4 x5
  else
    fM_distance_82 fu k σ h6 h18 x1 x2 x3 x4 x5
def fM_distance_18 (fu : Nat) (k : kM) (σ : sM) (h6 : Int32 → Int32 → Int32 → Int32 → Option Int32) : Nat → Int32 → Int32 → Int32 → Int32 → Int32 → Option Int32
  | 0, _, _, _, _, _ => none
  | n + 1, x1, x2, x3, x4, x5 =>
    if (kM_classes k) ≤ x5 then
      h6 x1 x2 x3 (x4 + 1)
    else
      if x5 ≤ x4 then
        fM_distance_47 fu k σ h6 (fM_distance_18 fu k σ h6 n) (x4 - x5) x1 x2 x3 x4 x5
      else
        fM_distance_47 fu k σ h6 (fM_distance_18 fu k σ h6 n) (x5 - x4) x1 x2 x3 x4 x5
def fM_distance_6 (fu : Nat) (k : kM) (σ : sM) : Nat → Int32 → Int32 → Int32 → Int32 → Option Int32
  | 0, _, _, _, _ => none
  | n + 1, x1, x2, x3, x4 =>
    if (kM_classes k) ≤ x4 then
      some x3
    else
      fM_distance_18 fu k σ (fM_distance_6 fu k σ n) fu x1 x2 x3 x4 0
def fM_distance (fu : Nat) (k : kM) (σ : sM) (x1 : Int32) (x2 : Int32) : Option Int32 :=
  fM_distance_6 fu k σ fu x1 x2 100 0
def fM_fill_83 (fu : Nat) (k : kM) (h27 : sM → Int32 → Int32 → Int32 → Option (Int32 × sM)) (σ : sM) (x1 : Int32) (x3 : Int32) : Option (Int32 × sM) :=
  h27 σ x1 x3 (x3 + 1)
def fM_fill_27 (fu : Nat) (k : kM) : Nat → sM → Int32 → Int32 → Int32 → Option (Int32 × sM)
  | 0, _, _, _, _ => none
  | n + 1, σ, x1, x2, x3 =>
    if (kM_classes k) ≤ x3 then
      if x2 = (-1) then
        some (x2, σ)
      else
        (kld (kM_n k 1) (sM_group σ) x1).bind fun v105 =>
        (kstI (kM_n k 2) (sM_filler σ) v105 x2).bind fun a107 =>
        some (x2, (uM_filler σ a107))
    else
      (kld (kM_n k 1) (sM_group σ) x3).bind fun v40 =>
      if v40 = x3 then
        (fM_own fu k σ x3).bind fun v47 =>
        if v47 ≤ 0 then
          fM_fill_27 fu k n σ x1 x2 (x3 + 1)
        else
          if x2 = (-1) then
            fM_fill_83 fu k (fM_fill_27 fu k n) σ x1 x3
          else
            (kld (kM_n k 1) (sM_group σ) x1).bind fun v64 =>
            (fM_distance fu k σ v64 x3).bind fun v66 =>
            (kld (kM_n k 1) (sM_group σ) x1).bind fun v75 =>
            (fM_distance fu k σ v75 x2).bind fun v77 =>
            if v77 ≤ v66 then
              fM_fill_27 fu k n σ x1 x2 (x3 + 1)
            else
              fM_fill_83 fu k (fM_fill_27 fu k n) σ x1 x3
      else
        fM_fill_27 fu k n σ x1 x2 (x3 + 1)
def fM_fill (fu : Nat) (k : kM) (σ : sM) (x1 : Int32) : Option (Int32 × sM) :=
  if (fM_isClass k x1) = 0 then
    some ((-1), σ)
  else
    (kld (kM_n k 1) (sM_group σ) x1).bind fun v14 =>
    (fM_own fu k σ v14).bind fun v15 =>
    if v15 ≤ 0 then
      fM_fill_27 fu k fu σ x1 (-1) 0
    else
      some ((-1), σ)
def fM_marked (fu : Nat) (k : kM) (σ : sM) (x1 : Int32) : Option Int32 :=
  if (fM_isClass k x1) = 0 then
    some 0
  else
    (kld (kM_n k 1) (sM_group σ) x1).bind fun v17 =>
    (kld (kM_n k 2) (sM_filler σ) v17).bind fun v18 =>
    if v18 = (-1) then
      some 0
    else
      (kld (kM_n k 1) (sM_group σ) x1).bind fun v29 =>
      (fM_own fu k σ v29).bind fun v30 =>
      if v30 = 0 then
        some 1
      else
        some 0
def fM_joined_208 (fu : Nat) (k : kM) (h129 : sM → Int32 → Int32 → Int32 → Option (Int32 × sM)) (σ : sM) (y1 : Int32) (y2 : Int32) (x3 : Int32) (x4 : Int32) (x5 : Int32) : Option (Int32 × sM) :=
  (kstI (kM_n k 1) (sM_group σ) y1 y2).bind fun a208 =>
  h129 (uM_group σ a208) x3 x4 (x5 + 1)
def fM_joined_178 (fu : Nat) (k : kM) (h129 : sM → Int32 → Int32 → Int32 → Option (Int32 × sM)) (σ : sM) (y1 : Int32) (y2 : Int32) (x3 : Int32) (x4 : Int32) (x5 : Int32) : Option (Int32 × sM) :=
  (kstI (kM_n k 2) (sM_filler σ) y1 y2).bind fun a178 =>
  (kld (kM_n k 1) (sM_group (uM_filler σ a178)) x5).bind fun v191 =>
  if v191 = x4 then
    fM_joined_208 fu k h129 (uM_filler σ a178) x5 x3 x3 x4 x5
  else
    (kld (kM_n k 1) (sM_group (uM_filler σ a178)) x5).bind fun v207 =>
    fM_joined_208 fu k h129 (uM_filler σ a178) x5 v207 x3 x4 x5
def fM_joined_167 (fu : Nat) (k : kM) (h129 : sM → Int32 → Int32 → Int32 → Option (Int32 × sM)) (σ : sM) (y1 : Int32) (x3 : Int32) (x4 : Int32) (x5 : Int32) : Option (Int32 × sM) :=
  fM_joined_178 fu k h129 σ y1 (-1) x3 x4 x5
def fM_joined_129 (fu : Nat) (k : kM) : Nat → sM → Int32 → Int32 → Int32 → Option (Int32 × sM)
  | 0, _, _, _, _ => none
  | n + 1, σ, x3, x4, x5 =>
    if (kM_classes k) ≤ x5 then
      (kstI (kM_n k 2) (sM_filler σ) x3 (-1)).bind fun a221 =>
      (kstI (kM_n k 2) (sM_filler (uM_filler σ a221)) x4 (-1)).bind fun a229 =>
      some (x3, (uM_filler (uM_filler σ a221) a229))
    else
      (kld (kM_n k 2) (sM_filler σ) x5).bind fun v150 =>
      if v150 = x3 then
        fM_joined_167 fu k (fM_joined_129 fu k n) σ x5 x3 x4 x5
      else
        (kld (kM_n k 2) (sM_filler σ) x5).bind fun v161 =>
        if v161 = x4 then
          fM_joined_167 fu k (fM_joined_129 fu k n) σ x5 x3 x4 x5
        else
          (kld (kM_n k 2) (sM_filler σ) x5).bind fun v177 =>
          fM_joined_178 fu k (fM_joined_129 fu k n) σ x5 v177 x3 x4 x5
def fM_joined_124 (fu : Nat) (k : kM) (σ : sM) (y0 : Int32) (x3 : Int32) : Option (Int32 × sM) :=
  fM_joined_129 fu k fu σ x3 y0 0
def fM_joined_93 (fu : Nat) (k : kM) (σ : sM) (y0 : Int32) (x1 : Int32) (x2 : Int32) : Option (Int32 × sM) :=
  (kld (kM_n k 1) (sM_group σ) x1).bind fun v99 =>
  (kld (kM_n k 1) (sM_group σ) x2).bind fun v105 =>
  if v105 ≤ v99 then
    (kld (kM_n k 1) (sM_group σ) x1).bind fun v123 =>
    fM_joined_124 fu k σ v123 y0
  else
    (kld (kM_n k 1) (sM_group σ) x2).bind fun v114 =>
    fM_joined_124 fu k σ v114 y0
def fM_joined (fu : Nat) (k : kM) (σ : sM) (x1 : Int32) (x2 : Int32) : Option (Int32 × sM) :=
  if (fM_isClass k x1) = 0 then
    some ((-1), σ)
  else
    if (fM_isClass k x2) = 0 then
      some ((-1), σ)
    else
      (kld (kM_n k 1) (sM_group σ) x1).bind fun v21 =>
      (kld (kM_n k 1) (sM_group σ) x2).bind fun v27 =>
      if v21 = v27 then
        some ((-1), σ)
      else
        (kld (kM_n k 1) (sM_group σ) x1).bind fun v37 =>
        (fM_inGroup fu k σ v37 (-1) (-1)).bind fun v40 =>
        (kld (kM_n k 1) (sM_group σ) x2).bind fun v49 =>
        (fM_inGroup fu k σ v49 (-1) (-1)).bind fun v52 =>
        if (v40 + v52) ≤ 20 then
          (kld (kM_n k 1) (sM_group σ) x1).bind fun v68 =>
          (kld (kM_n k 1) (sM_group σ) x2).bind fun v74 =>
          if v74 ≤ v68 then
            (kld (kM_n k 1) (sM_group σ) x2).bind fun v92 =>
            fM_joined_93 fu k σ v92 x1 x2
          else
            (kld (kM_n k 1) (sM_group σ) x1).bind fun v83 =>
            fM_joined_93 fu k σ v83 x1 x2
        else
          some ((-1), σ)
def fM_groups_28 (fu : Nat) (k : kM) (σ : sM) (h4 : Int32 → Int32 → Option Int32) (y0 : Int32) (y1 : Int32) (x2 : Int32) : Option Int32 :=
  h4 (y0 + y1) (x2 + 1)
def fM_groups_4 (fu : Nat) (k : kM) (σ : sM) : Nat → Int32 → Int32 → Option Int32
  | 0, _, _ => none
  | n + 1, x1, x2 =>
    if (kM_classes k) ≤ x2 then
      some x1
    else
      (kld (kM_n k 1) (sM_group σ) x2).bind fun v18 =>
      if v18 = x2 then
        fM_groups_28 fu k σ (fM_groups_4 fu k σ n) x1 1 x2
      else
        fM_groups_28 fu k σ (fM_groups_4 fu k σ n) x1 0 x2
def fM_groups (fu : Nat) (k : kM) (σ : sM) : Option Int32 :=
  fM_groups_4 fu k σ fu 0 0
def fM_allMeasured_4 (fu : Nat) (k : kM) (σ : sM) : Nat → Int64 → Int32 → Option Int64
  | 0, _, _ => none
  | n + 1, x1, x3 =>
    if (kM_classes k) ≤ x3 then
      some x1
    else
      (kld (kM_n k 3) (sM_measured σ) x3).bind fun v18 =>
      fM_allMeasured_4 fu k σ n (x1 + v18) (x3 + 1)
def fM_allMeasured (fu : Nat) (k : kM) (σ : sM) : Option Int64 :=
  fM_allMeasured_4 fu k σ fu (0 : Int64) 0
def fM_sample (fu : Nat) (k : kM) (σ : sM) (x1 : Int32) (x2 : Int64) : Option (Int32 × sM) :=
  if (fM_isClass k x1) = 0 then
    some (0, σ)
  else
    if x2 < (0 : Int64) then
      some (0, σ)
    else
      if (10000 : Int64) < x2 then
        some (0, σ)
      else
        (fM_allMeasured fu k σ).bind fun v23 =>
        if (v23 + x2) ≤ (10000 : Int64) then
          (kld (kM_n k 3) (sM_measured σ) x1).bind fun v43 =>
          (kstJ (kM_n k 3) (sM_measured σ) x1 (v43 + x2)).bind fun a46 =>
          some (1, (uM_measured σ a46))
        else
          some (0, σ)
def fM_raise_125 (fu : Nat) (k : kM) (h59 : sM → Int64 → Int32 → Int32 → Int32 → Option (Int32 × sM)) (σ : sM) (y0 : Int32) (x1 : Int64) (x3 : Int32) (x5 : Int32) (x6 : Int32) : Option (Int32 × sM) :=
  if x6 = (-1) then
    h59 σ x1 x3 y0 (x5 + 1)
  else
    (kld (kM_n k 3) (sM_measured σ) x5).bind fun v145 =>
    (fM_inGroup fu k σ x6 (sM_chosen σ) x3).bind fun v155 =>
    (fM_own fu k σ x6).bind fun v165 =>
    (kdivJ (232792560 : Int64) v165.toInt64).bind fun v169 =>
    h59 (uM_above σ ((sM_above σ) + ((x1 * v145) * (v155.toInt64 * v169)))) x1 x3 y0 (x5 + 1)
def fM_raise_120 (fu : Nat) (k : kM) (h59 : sM → Int64 → Int32 → Int32 → Int32 → Option (Int32 × sM)) (σ : sM) (x1 : Int64) (x3 : Int32) (x5 : Int32) (x6 : Int32) : Option (Int32 × sM) :=
  fM_raise_125 fu k h59 σ 1 x1 x3 x5 x6
def fM_raise_100 (fu : Nat) (k : kM) (h59 : sM → Int64 → Int32 → Int32 → Int32 → Option (Int32 × sM)) (σ : sM) (y0 : Int32) (x1 : Int64) (x3 : Int32) (x5 : Int32) : Option (Int32 × sM) :=
  if y0 = (-1) then
    (kld (kM_n k 3) (sM_measured σ) x5).bind fun v114 =>
    if v114 = (0 : Int64) then
      fM_raise_120 fu k h59 σ x1 x3 x5 y0
    else
      fM_raise_125 fu k h59 σ 0 x1 x3 x5 y0
  else
    fM_raise_120 fu k h59 σ x1 x3 x5 y0
def fM_raise_59 (fu : Nat) (k : kM) : Nat → sM → Int64 → Int32 → Int32 → Int32 → Option (Int32 × sM)
  | 0, _, _, _, _, _ => none
  | n + 1, σ, x1, x3, x4, x5 =>
    if (kM_classes k) ≤ x5 then
      (kbool x4).bind fun b184 =>
      some (b184, σ)
    else
      if x4 = 0 then
        (kbool x4).bind fun b184 =>
        some (b184, σ)
      else
        (kld (kM_n k 3) (sM_measured σ) x5).bind fun v79 =>
        if v79 = (0 : Int64) then
          fM_raise_100 fu k (fM_raise_59 fu k n) σ (-1) x1 x3 x5
        else
          (kld (kM_n k 1) (sM_group σ) x5).bind fun v96 =>
          (fM_source fu k σ v96).bind fun v97 =>
          fM_raise_100 fu k (fM_raise_59 fu k n) σ v97 x1 x3 x5
def fM_raise_53 (fu : Nat) (k : kM) (σ : sM) (y1 : Int64) (x1 : Int64) (x3 : Int32) (x4 : Int32) : Option (Int32 × sM) :=
  fM_raise_59 fu k fu (uM_below σ y1) x1 x3 x4 0
def fM_raise_28 (fu : Nat) (k : kM) (σ : sM) (y0 : Int32) (x1 : Int64) (x3 : Int32) : Option (Int32 × sM) :=
  if y0 = 0 then
    fM_raise_53 fu k (uM_above σ (0 : Int64)) (1 : Int64) x1 x3 y0
  else
    (fM_allMeasured fu k (uM_above σ (0 : Int64))).bind fun v42 =>
    fM_raise_53 fu k (uM_above σ (0 : Int64)) (v42 * (232792560 : Int64)) x1 x3 y0
def fM_raise_27 (fu : Nat) (k : kM) (σ : sM) (x1 : Int64) (x3 : Int32) : Option (Int32 × sM) :=
  fM_raise_28 fu k σ 0 x1 x3
def fM_raise (fu : Nat) (k : kM) (σ : sM) (x1 : Int64) (x3 : Int32) : Option (Int32 × sM) :=
  if x1 < (0 : Int64) then
    fM_raise_27 fu k σ x1 x3
  else
    if (10000 : Int64) < x1 then
      fM_raise_27 fu k σ x1 x3
    else
      (fM_allMeasured fu k σ).bind fun v15 =>
      if v15 ≤ (0 : Int64) then
        fM_raise_27 fu k σ x1 x3
      else
        fM_raise_28 fu k σ 1 x1 x3
def fM_raised (fu : Nat) (k : kM) (σ : sM) (x1 : Int64) (x3 : Int32) (x4 : Int32) : Option (Int64 × sM) :=
  if (fM_isAge k x3) = 0 then
    some ((-1 : Int64), σ)
  else
    if (fM_isPart x4) = 0 then
      some ((-1 : Int64), σ)
    else
      kbind2 (fM_raise fu k σ x1 x3) fun v19 s19 =>
      if v19 = 0 then
        some ((-1 : Int64), s19)
      else
        (fM_partOf fu (sM_above s19) (sM_below s19) x4).bind fun v35 =>
        some (v35, s19)
def fM_sums_51 (fu : Nat) (k : kM) (h8 : sM → Int64 → Int32 → Int64 → Int32 → Option (Int32 × sM)) (σ : sM) (y0 : Int64) (y1 : Int64) (x1 : Int64) (x3 : Int32) (x6 : Int32) : Option (Int32 × sM) :=
  h8 σ x1 x3 (y0 + y1) (x6 + 1)
def fM_sums_36 (fu : Nat) (k : kM) (h8 : sM → Int64 → Int32 → Int64 → Int32 → Option (Int32 × sM)) (σ : sM) (y0 : Int32) (x1 : Int64) (x4 : Int64) (x6 : Int32) : Option (Int32 × sM) :=
  if y0 = 0 then
    fM_sums_51 fu k h8 σ x4 (0 : Int64) x1 y0 x6
  else
    fM_sums_51 fu k h8 σ x4 (sM_above σ) x1 y0 x6
def fM_sums_35 (fu : Nat) (k : kM) (h8 : sM → Int64 → Int32 → Int64 → Int32 → Option (Int32 × sM)) (σ : sM) (x1 : Int64) (x4 : Int64) (x6 : Int32) : Option (Int32 × sM) :=
  fM_sums_36 fu k h8 σ 0 x1 x4 x6
def fM_sums_8 (fu : Nat) (k : kM) : Nat → sM → Int64 → Int32 → Int64 → Int32 → Option (Int32 × sM)
  | 0, _, _, _, _, _ => none
  | n + 1, σ, x1, x3, x4, x6 =>
    if (kM_ages k) ≤ x6 then
      if x3 = 0 then
        some (0, σ)
      else
        if x4 = (x1 * (sM_below σ)) then
          some (1, σ)
        else
          some (0, σ)
    else
      if x3 = 0 then
        fM_sums_35 fu k (fM_sums_8 fu k n) σ x1 x4 x6
      else
        kbind2 (fM_raise fu k σ x1 x6) fun v25 s25 =>
        if v25 = 0 then
          fM_sums_35 fu k (fM_sums_8 fu k n) s25 x1 x4 x6
        else
          fM_sums_36 fu k (fM_sums_8 fu k n) s25 1 x1 x4 x6
def fM_sums (fu : Nat) (k : kM) (σ : sM) (x1 : Int64) : Option (Int32 × sM) :=
  fM_sums_8 fu k fu σ x1 1 (0 : Int64) 0
def fM_without_127 (fu : Nat) (k : kM) (σ : sM) (y0 : Int64) (x4 : Int32) (x5 : Int32) : Option Int64 :=
  (fM_partOf fu y0 ((x5 - 1).toInt64) x4).bind fun v134 =>
  some v134
def fM_without_112 (fu : Nat) (k : kM) (σ : sM) (y0 : Int32) (x3 : Int32) (x4 : Int32) (x5 : Int32) (x7 : Int32) : Option Int64 :=
  if x3 = 0 then
    fM_without_127 fu k σ x7.toInt64 x4 x5
  else
    fM_without_127 fu k σ y0.toInt64 x4 x5
def fM_without_94 (fu : Nat) (k : kM) (σ : sM) (y0 : Int32) (x3 : Int32) (x4 : Int32) (x5 : Int32) (x6 : Int32) : Option Int64 :=
  if x5 ≤ x6 then
    fM_without_112 fu k σ (x6 - 1) x3 x4 x5 y0
  else
    fM_without_112 fu k σ x6 x3 x4 x5 y0
def fM_without (fu : Nat) (k : kM) (σ : sM) (x1 : Int32) (x2 : Int32) (x3 : Int32) (x4 : Int32) : Option Int64 :=
  if (fM_isClass k x1) = 0 then
    some (-1 : Int64)
  else
    if (fM_isAge k x2) = 0 then
      some (-1 : Int64)
    else
      if x3 < 0 then
        some (-1 : Int64)
      else
        if 1 < x3 then
          some (-1 : Int64)
        else
          if (fM_isPart x4) = 0 then
            some (-1 : Int64)
          else
            (kld (kM_n k 1) (sM_group σ) x1).bind fun v39 =>
            (fM_own fu k σ v39).bind fun v40 =>
            if 2 ≤ v40 then
              (kld (kM_n k 1) (sM_group σ) x1).bind fun v57 =>
              (fM_own fu k σ v57).bind fun v58 =>
              (kld (kM_n k 1) (sM_group σ) x1).bind fun v69 =>
              (fM_inGroup fu k σ v69 (sM_chosen σ) x2).bind fun v75 =>
              if v75 ≤ 0 then
                fM_without_94 fu k σ v75 x3 x4 v58 v75
              else
                fM_without_94 fu k σ (v75 - 1) x3 x4 v58 v75
            else
              some (-1 : Int64)
def fM_error (k : kM) (σ : sM) (x1 : Int32) (x2 : Int32) (x3 : Int32) : Option (Int32 × sM) :=
  if (fM_isAge k x1) = 0 then
    some (0, σ)
  else
    if (fM_isAge k x2) = 0 then
      some (0, σ)
    else
      if x3 < 0 then
        some (0, σ)
      else
        if x3 ≤ 20 then
          (kstI (kM_n k 4) (sM_errors σ) ((6 * x1) + x2) x3).bind fun a39 =>
          some (1, (uM_errors σ a39))
        else
          some (0, σ)
def fM_determinant_180 (fu : Nat) (k : kM) (h7 : sM → Int64 → Int64 → Int32 → Option (Int64 × sM)) (h165 : sM → Int64 → Int64 → Int32 → Int32 → Option (Int64 × sM)) : Nat → sM → Int64 → Int64 → Int32 → Int32 → Int32 → Option (Int64 × sM)
  | 0, _, _, _, _, _, _ => none
  | n + 1, σ, x1, x3, x5, x7, x8 =>
    if (kM_ages k) ≤ x8 then
      h165 σ x1 x3 x5 (x7 + 1)
    else
      (kld (kM_n k 7) (sM_cells σ) ((6 * x7) + x8)).bind fun v213 =>
      (kld (kM_n k 7) (sM_cells σ) ((6 * x5) + x5)).bind fun v226 =>
      (kld (kM_n k 7) (sM_cells σ) ((6 * x7) + x5)).bind fun v240 =>
      (kld (kM_n k 7) (sM_cells σ) ((6 * x5) + x8)).bind fun v253 =>
      (kdivJ ((v213 * v226) - (v240 * v253)) x1).bind fun v257 =>
      (kstJ (kM_n k 7) (sM_cells σ) ((6 * x7) + x8) v257).bind fun a258 =>
      fM_determinant_180 fu k h7 h165 n (uM_cells σ a258) x1 x3 x5 x7 (x8 + 1)
def fM_determinant_165 (fu : Nat) (k : kM) (h7 : sM → Int64 → Int64 → Int32 → Option (Int64 × sM)) : Nat → sM → Int64 → Int64 → Int32 → Int32 → Option (Int64 × sM)
  | 0, _, _, _, _, _ => none
  | n + 1, σ, x1, x3, x5, x7 =>
    if (kM_ages k) ≤ x7 then
      (kld (kM_n k 7) (sM_cells σ) ((6 * x5) + x5)).bind fun v283 =>
      h7 σ v283 x3 (x5 + 1)
    else
      fM_determinant_180 fu k h7 (fM_determinant_165 fu k h7 n) fu σ x1 x3 x5 x7 (x5 + 1)
def fM_determinant_158 (fu : Nat) (k : kM) (h7 : sM → Int64 → Int64 → Int32 → Option (Int64 × sM)) (σ : sM) (y0 : Int64) (x1 : Int64) (x5 : Int32) : Option (Int64 × sM) :=
  fM_determinant_165 fu k h7 fu σ x1 y0 x5 (x5 + 1)
def fM_determinant_145 (fu : Nat) (k : kM) (h7 : sM → Int64 → Int64 → Int32 → Option (Int64 × sM)) (σ : sM) (x1 : Int64) (x3 : Int64) (x5 : Int32) (x6 : Int32) : Option (Int64 × sM) :=
  if x6 = x5 then
    fM_determinant_158 fu k h7 σ x3 x1 x5
  else
    fM_determinant_158 fu k h7 σ (-x3) x1 x5
def fM_determinant_67 (fu : Nat) (k : kM) (h7 : sM → Int64 → Int64 → Int32 → Option (Int64 × sM)) : Nat → sM → Int64 → Int64 → Int32 → Int32 → Int32 → Option (Int64 × sM)
  | 0, _, _, _, _, _, _ => none
  | n + 1, σ, x1, x3, x5, x6, x7 =>
    if (kM_ages k) ≤ x7 then
      fM_determinant_145 fu k h7 σ x1 x3 x5 x6
    else
      if x6 = x5 then
        fM_determinant_145 fu k h7 σ x1 x3 x5 x6
      else
        (kld (kM_n k 7) (sM_cells σ) ((6 * x5) + x7)).bind fun v95 =>
        (kld (kM_n k 7) (sM_cells σ) ((6 * x6) + x7)).bind fun v122 =>
        (kstJ (kM_n k 7) (sM_cells σ) ((6 * x5) + x7) v122).bind fun a123 =>
        (kstJ (kM_n k 7) (sM_cells (uM_cells σ a123)) ((6 * x6) + x7) v95).bind fun a138 =>
        fM_determinant_67 fu k h7 n (uM_cells (uM_cells σ a123) a138) x1 x3 x5 x6 (x7 + 1)
def fM_determinant_53 (fu : Nat) (k : kM) (h7 : sM → Int64 → Int64 → Int32 → Option (Int64 × sM)) (σ : sM) (x1 : Int64) (x3 : Int64) (x5 : Int32) (x6 : Int32) : Option (Int64 × sM) :=
  if x6 = (kM_ages k) then
    some ((0 : Int64), σ)
  else
    fM_determinant_67 fu k h7 fu σ x1 x3 x5 x6 0
def fM_determinant_20 (fu : Nat) (k : kM) (h7 : sM → Int64 → Int64 → Int32 → Option (Int64 × sM)) : Nat → sM → Int64 → Int64 → Int32 → Int32 → Option (Int64 × sM)
  | 0, _, _, _, _, _ => none
  | n + 1, σ, x1, x3, x5, x6 =>
    if (kM_ages k) ≤ x6 then
      fM_determinant_53 fu k h7 σ x1 x3 x5 x6
    else
      (kld (kM_n k 7) (sM_cells σ) ((6 * x6) + x5)).bind fun v41 =>
      if v41 = (0 : Int64) then
        fM_determinant_20 fu k h7 n σ x1 x3 x5 (x6 + 1)
      else
        fM_determinant_53 fu k h7 σ x1 x3 x5 x6
def fM_determinant_7 (fu : Nat) (k : kM) : Nat → sM → Int64 → Int64 → Int32 → Option (Int64 × sM)
  | 0, _, _, _, _ => none
  | n + 1, σ, x1, x3, x5 =>
    if (kM_ages k) ≤ x5 then
      some ((x3 * x1), σ)
    else
      fM_determinant_20 fu k (fM_determinant_7 fu k n) fu σ x1 x3 x5 x5
def fM_determinant (fu : Nat) (k : kM) (σ : sM) : Option (Int64 × sM) :=
  fM_determinant_7 fu k fu σ (1 : Int64) (1 : Int64) 0
def fM_lay_70 (fu : Nat) (k : kM) (h2 : sM → Int32 → Int32 → Int32 → Option sM) (h13 : sM → Int32 → Int32 → Int32 → Int32 → Option sM) (σ : sM) (y1 : Int32) (y2 : Int64) (x1 : Int32) (x2 : Int32) (x3 : Int32) (x4 : Int32) : Option sM :=
  (kstJ (kM_n k 7) (sM_cells σ) y1 y2).bind fun a70 =>
  h13 (uM_cells σ a70) x1 x2 x3 (x4 + 1)
def fM_lay_13 (fu : Nat) (k : kM) (h2 : sM → Int32 → Int32 → Int32 → Option sM) : Nat → sM → Int32 → Int32 → Int32 → Int32 → Option sM
  | 0, _, _, _, _, _ => none
  | n + 1, σ, x1, x2, x3, x4 =>
    if (kM_ages k) ≤ x4 then
      h2 σ x1 x2 (x3 + 1)
    else
      if x4 = x2 then
        (fM_inGroup fu k σ x1 (sM_chosen σ) x3).bind fun v49 =>
        fM_lay_70 fu k h2 (fM_lay_13 fu k h2 n) σ ((6 * x3) + x4) ((20 : Int64) * v49.toInt64) x1 x2 x3 x4
      else
        (kld (kM_n k 4) (sM_errors σ) ((6 * x4) + x3)).bind fun v68 =>
        fM_lay_70 fu k h2 (fM_lay_13 fu k h2 n) σ ((6 * x3) + x4) v68.toInt64 x1 x2 x3 x4
def fM_lay_2 (fu : Nat) (k : kM) : Nat → sM → Int32 → Int32 → Int32 → Option sM
  | 0, _, _, _, _ => none
  | n + 1, σ, x1, x2, x3 =>
    if (kM_ages k) ≤ x3 then
      some σ
    else
      fM_lay_13 fu k (fM_lay_2 fu k n) fu σ x1 x2 x3 0
def fM_lay (fu : Nat) (k : kM) (σ : sM) (x1 : Int32) (x2 : Int32) : Option sM :=
  fM_lay_2 fu k fu σ x1 x2 0
def fM_undo_14 (fu : Nat) (k : kM) (h2 : sM → Int32 → Option (Int32 × sM)) : Nat → sM → Int32 → Int32 → Int32 → Option (Int32 × sM)
  | 0, _, _, _, _ => none
  | n + 1, σ, x1, x2, x3 =>
    if (kM_ages k) ≤ x3 then
      if x2 = 20 then
        h2 σ (x1 + 1)
      else
        some (2, σ)
    else
      (kld (kM_n k 4) (sM_errors σ) ((6 * x1) + x3)).bind fun v33 =>
      fM_undo_14 fu k h2 n σ x1 (x2 + v33) (x3 + 1)
def fM_undo_2 (fu : Nat) (k : kM) : Nat → sM → Int32 → Option (Int32 × sM)
  | 0, _, _ => none
  | n + 1, σ, x1 =>
    if (kM_ages k) ≤ x1 then
      (fM_lay fu k σ 0 (-1)).bind fun s59 =>
      kbind2 (fM_determinant fu k s59) fun v63 s63 =>
      if v63 = (0 : Int64) then
        some (1, s63)
      else
        some (0, s63)
    else
      fM_undo_14 fu k (fM_undo_2 fu k n) fu σ x1 0 0
def fM_undo (fu : Nat) (k : kM) (σ : sM) : Option (Int32 × sM) :=
  fM_undo_2 fu k fu σ 0
def fM_undone (fu : Nat) (k : kM) (σ : sM) (x1 : Int32) (x2 : Int32) (x3 : Int32) : Option (Int64 × sM) :=
  if (fM_isClass k x1) = 0 then
    some ((-1 : Int64), σ)
  else
    if (fM_isAge k x2) = 0 then
      some ((-1 : Int64), σ)
    else
      if (fM_isPart x3) = 0 then
        some ((-1 : Int64), σ)
      else
        kbind2 (fM_undo fu k σ) fun v24 s24 =>
        if v24 = 0 then
          (kld (kM_n k 1) (sM_group s24) x1).bind fun v40 =>
          (fM_lay fu k s24 v40 (-1)).bind fun s42 =>
          kbind2 (fM_determinant fu k s42) fun v46 s46 =>
          (kld (kM_n k 1) (sM_group s46) x1).bind fun v57 =>
          (fM_lay fu k s46 v57 x2).bind fun s59 =>
          kbind2 (fM_determinant fu k s59) fun v63 s63 =>
          (fM_partOf fu v63 v46 x3).bind fun v73 =>
          some (v73, s63)
        else
          some ((-1 : Int64), s24)
def fM_apart_134 (fu : Nat) (k : kM) (σ : sM) (h67 : Int32 → Int32 → Int32 → Int64 → Int64 → Int64 → Int32 → Option Int64) (h79 : Int32 → Int32 → Int32 → Int64 → Int64 → Int64 → Int32 → Int32 → Option Int64) (y0 : Int64) (y1 : Int64) (x1 : Int32) (x2 : Int32) (x3 : Int32) (x4 : Int64) (x6 : Int64) (x10 : Int32) (x11 : Int32) : Option Int64 :=
  h79 x1 x2 x3 x4 x6 (y0 + y1) x10 (x11 + 1)
def fM_apart_79 (fu : Nat) (k : kM) (σ : sM) (h67 : Int32 → Int32 → Int32 → Int64 → Int64 → Int64 → Int32 → Option Int64) : Nat → Int32 → Int32 → Int32 → Int64 → Int64 → Int64 → Int32 → Int32 → Option Int64
  | 0, _, _, _, _, _, _, _, _ => none
  | n + 1, x1, x2, x3, x4, x6, x8, x10, x11 =>
    if (kM_ages k) ≤ x11 then
      h67 x1 x2 x3 x4 x6 x8 (x10 + 1)
    else
      (fM_count fu k σ x1 x10 x11).bind fun v94 =>
      (fM_count fu k σ x2 x10 x11).bind fun v107 =>
      if (0 : Int64) ≤ ((v94.toInt64 * x6) - (v107.toInt64 * x4)) then
        fM_apart_134 fu k σ h67 (fM_apart_79 fu k σ h67 n) x8 ((v94.toInt64 * x6) - (v107.toInt64 * x4)) x1 x2 x3 x4 x6 x10 x11
      else
        fM_apart_134 fu k σ h67 (fM_apart_79 fu k σ h67 n) x8 (-((v94.toInt64 * x6) - (v107.toInt64 * x4))) x1 x2 x3 x4 x6 x10 x11
def fM_apart_67 (fu : Nat) (k : kM) (σ : sM) : Nat → Int32 → Int32 → Int32 → Int64 → Int64 → Int64 → Int32 → Option Int64
  | 0, _, _, _, _, _, _, _ => none
  | n + 1, x1, x2, x3, x4, x6, x8, x10 =>
    if (kM_classes k) ≤ x10 then
      (fM_partOf fu x8 (x4 * x6) x3).bind fun v157 =>
      some v157
    else
      fM_apart_79 fu k σ (fM_apart_67 fu k σ n) fu x1 x2 x3 x4 x6 x8 x10 0
def fM_apart (fu : Nat) (k : kM) (σ : sM) (x1 : Int32) (x2 : Int32) (x3 : Int32) : Option Int64 :=
  if x1 < 0 then
    some (-1 : Int64)
  else
    if 4 ≤ x1 then
      some (-1 : Int64)
    else
      if x2 < 0 then
        some (-1 : Int64)
      else
        if 4 ≤ x2 then
          some (-1 : Int64)
        else
          if (fM_isPart x3) = 0 then
            some (-1 : Int64)
          else
            (fM_inAll fu k σ x1).bind fun v27 =>
            if v27 = 0 then
              some (-1 : Int64)
            else
              (fM_inAll fu k σ x2).bind fun v35 =>
              if v35 = 0 then
                some (-1 : Int64)
              else
                (fM_inAll fu k σ x1).bind fun v47 =>
                (fM_inAll fu k σ x2).bind fun v55 =>
                fM_apart_67 fu k σ fu x1 x2 x3 v47.toInt64 v55.toInt64 (0 : Int64) 0
def fM_ofAge_4 (fu : Nat) (k : kM) (σ : sM) : Nat → Int32 → Int32 → Int32 → Option Int32
  | 0, _, _, _ => none
  | n + 1, x1, x2, x3 =>
    if (kM_classes k) ≤ x3 then
      some x2
    else
      (fM_count fu k σ (sM_chosen σ) x3 x1).bind fun v20 =>
      fM_ofAge_4 fu k σ n x1 (x2 + v20) (x3 + 1)
def fM_ofAge (fu : Nat) (k : kM) (σ : sM) (x1 : Int32) : Option Int32 :=
  fM_ofAge_4 fu k σ fu x1 0 0
def fM_classesOf_4 (fu : Nat) (k : kM) (σ : sM) : Nat → Int32 → Int32 → Int32 → Option Int32
  | 0, _, _, _ => none
  | n + 1, x1, x2, x3 =>
    if (kM_classes k) ≤ x3 then
      some x2
    else
      (fM_count fu k σ (sM_chosen σ) x3 x1).bind fun v21 =>
      fM_classesOf_4 fu k σ n x1 (x2 + (x3 * v21)) (x3 + 1)
def fM_classesOf (fu : Nat) (k : kM) (σ : sM) (x1 : Int32) : Option Int32 :=
  fM_classesOf_4 fu k σ fu x1 0 0
def fM_mean_101 (fu : Nat) (k : kM) (h14 : sM → Int32 → Int32 → Option sM) (h26 : sM → Int32 → Int32 → Int64 → Int64 → Int32 → Option sM) (σ : sM) (x1 : Int32) (x2 : Int32) (x7 : Int32) (x8 : Int64) (x10 : Int64) : Option sM :=
  h26 σ x1 x2 x8 x10 (x7 + 1)
def fM_mean_44 (fu : Nat) (k : kM) (h14 : sM → Int32 → Int32 → Option sM) (h26 : sM → Int32 → Int32 → Int64 → Int64 → Int32 → Option sM) : Nat → sM → Int32 → Int32 → Int64 → Int64 → Int32 → Int64 → Int64 → Int32 → Option sM
  | 0, _, _, _, _, _, _, _, _, _ => none
  | n + 1, σ, x1, x2, x3, x5, x7, x8, x10, x12 =>
    if x7 < x12 then
      if x5 = (0 : Int64) then
        fM_mean_101 fu k h14 h26 σ x1 x2 x7 x8 x10
      else
        if (x3 * x10) ≤ (x8 * x5) then
          h26 σ x1 x2 x3 x5 (x7 + 1)
        else
          fM_mean_101 fu k h14 h26 σ x1 x2 x7 x8 x10
    else
      (fM_classesOf fu k σ x12).bind fun v56 =>
      (fM_ofAge fu k σ x12).bind fun v68 =>
      fM_mean_44 fu k h14 h26 n σ x1 x2 x3 x5 x7 (x8 + v56.toInt64) (x10 + v68.toInt64) (x12 + 1)
def fM_mean_26 (fu : Nat) (k : kM) (h14 : sM → Int32 → Int32 → Option sM) : Nat → sM → Int32 → Int32 → Int64 → Int64 → Int32 → Option sM
  | 0, _, _, _, _, _, _ => none
  | n + 1, σ, x1, x2, x3, x5, x7 =>
    if (kM_ages k) ≤ x7 then
      if (x3 * (sM_below σ)) ≤ ((sM_above σ) * x5) then
        h14 σ x1 (x2 + (-1))
      else
        h14 (uM_below (uM_above σ x3) x5) x1 (x2 + (-1))
    else
      fM_mean_44 fu k h14 (fM_mean_26 fu k h14 n) fu σ x1 x2 x3 x5 x7 (0 : Int64) (0 : Int64) x2
def fM_mean_14 (fu : Nat) (k : kM) : Nat → sM → Int32 → Int32 → Option sM
  | 0, _, _, _ => none
  | n + 1, σ, x1, x2 =>
    if x2 < 0 then
      some σ
    else
      fM_mean_26 fu k (fM_mean_14 fu k n) fu σ x1 x2 (0 : Int64) (0 : Int64) x1
def fM_mean (fu : Nat) (k : kM) (σ : sM) (x1 : Int32) : Option sM :=
  fM_mean_14 fu k fu (uM_below (uM_above σ (-1 : Int64)) (1 : Int64)) x1 x1
def fM_length (fu : Nat) (k : kM) (σ : sM) (x1 : Int32) (x2 : Int32) : Option (Int64 × sM) :=
  if (fM_isAge k x1) = 0 then
    some ((-1 : Int64), σ)
  else
    if (fM_isPart x2) = 0 then
      some ((-1 : Int64), σ)
    else
      (fM_ofAge fu k σ x1).bind fun v17 =>
      if v17 = 0 then
        some ((-1 : Int64), σ)
      else
        (fM_mean fu k σ x1).bind fun s29 =>
        (fM_partOf fu (sM_above s29) (sM_below s29) x2).bind fun v41 =>
        some (v41, s29)
def fM_isSame (fu : Nat) (k : kM) (σ : sM) (x1 : Int32) (x2 : Int32) : Option (Int32 × sM) :=
  (fM_mean fu k σ x1).bind fun s2 =>
  (fM_mean fu k s2 x2).bind fun s18 =>
  if ((sM_above s2) * (sM_below s18)) = ((sM_above s18) * (sM_below s2)) then
    some (1, s18)
  else
    some (0, s18)
def fM_pooled_53 (fu : Nat) (k : kM) (h22 : sM → Int32 → Int32 → Int32 → Option (Int32 × sM)) (σ : sM) (y0 : Int32) (y1 : Int32) (x1 : Int32) (x3 : Int32) : Option (Int32 × sM) :=
  h22 σ x1 (y0 + y1) (x3 + 1)
def fM_pooled_52 (fu : Nat) (k : kM) (h22 : sM → Int32 → Int32 → Int32 → Option (Int32 × sM)) (σ : sM) (y0 : Int32) (x1 : Int32) (x3 : Int32) : Option (Int32 × sM) :=
  fM_pooled_53 fu k h22 σ y0 0 x1 x3
def fM_pooled_22 (fu : Nat) (k : kM) : Nat → sM → Int32 → Int32 → Int32 → Option (Int32 × sM)
  | 0, _, _, _, _ => none
  | n + 1, σ, x1, x2, x3 =>
    if (kM_ages k) ≤ x3 then
      some (x2, σ)
    else
      (fM_ofAge fu k σ x3).bind fun v33 =>
      if v33 ≤ 0 then
        fM_pooled_52 fu k (fM_pooled_22 fu k n) σ x2 x1 x3
      else
        kbind2 (fM_isSame fu k σ x1 x3) fun v42 s42 =>
        if v42 = 0 then
          fM_pooled_52 fu k (fM_pooled_22 fu k n) s42 x2 x1 x3
        else
          fM_pooled_53 fu k (fM_pooled_22 fu k n) s42 x2 1 x1 x3
def fM_pooled (fu : Nat) (k : kM) (σ : sM) (x1 : Int32) : Option (Int32 × sM) :=
  if (fM_isAge k x1) = 0 then
    some (0, σ)
  else
    (fM_ofAge fu k σ x1).bind fun v10 =>
    if v10 = 0 then
      some (0, σ)
    else
      fM_pooled_22 fu k fu σ x1 0 0
def fM_sex (k : kM) (σ : sM) (x1 : Int32) (x2 : Int32) (x3 : Int32) : Option (Int32 × sM) :=
  if (fM_isClass k x1) = 0 then
    some (0, σ)
  else
    if x2 < 0 then
      some (0, σ)
    else
      if x3 < x2 then
        some (0, σ)
      else
        if x3 ≤ 100 then
          (kstI (kM_n k 5) (sM_maleCount σ) x1 x2).bind fun a31 =>
          (kstI (kM_n k 6) (sM_sexCount (uM_maleCount σ a31)) x1 x3).bind fun a38 =>
          some (1, (uM_sexCount (uM_maleCount σ a31) a38))
        else
          some (0, σ)
def fM_males_95 (fu : Nat) (k : kM) (σ : sM) (h27 : Int32 → Int32 → Int32 → Int32 → Int32 → Option Int64) (y0 : Int32) (y1 : Int32) (x1 : Int32) (x2 : Int32) (x3 : Int32) (x5 : Int32) : Option Int64 :=
  h27 x1 x2 x3 (y0 + y1) (x5 + 1)
def fM_males_64 (fu : Nat) (k : kM) (σ : sM) (h27 : Int32 → Int32 → Int32 → Int32 → Int32 → Option Int64) (y0 : Int32) (y1 : Int32) (x1 : Int32) (x2 : Int32) (x4 : Int32) (x5 : Int32) : Option Int64 :=
  (kld (kM_n k 1) (sM_group σ) x5).bind fun v74 =>
  (kld (kM_n k 1) (sM_group σ) x1).bind fun v80 =>
  if v74 = v80 then
    (kld (kM_n k 6) (sM_sexCount σ) x5).bind fun v90 =>
    fM_males_95 fu k σ h27 x4 v90 x1 x2 (y0 + y1) x5
  else
    fM_males_95 fu k σ h27 x4 0 x1 x2 (y0 + y1) x5
def fM_males_27 (fu : Nat) (k : kM) (σ : sM) : Nat → Int32 → Int32 → Int32 → Int32 → Int32 → Option Int64
  | 0, _, _, _, _, _ => none
  | n + 1, x1, x2, x3, x4, x5 =>
    if (kM_classes k) ≤ x5 then
      if x4 = 0 then
        some (-1 : Int64)
      else
        (fM_partOf fu x3.toInt64 x4.toInt64 x2).bind fun v121 =>
        some v121
    else
      (kld (kM_n k 1) (sM_group σ) x5).bind fun v43 =>
      (kld (kM_n k 1) (sM_group σ) x1).bind fun v49 =>
      if v43 = v49 then
        (kld (kM_n k 5) (sM_maleCount σ) x5).bind fun v59 =>
        fM_males_64 fu k σ (fM_males_27 fu k σ n) x3 v59 x1 x2 x4 x5
      else
        fM_males_64 fu k σ (fM_males_27 fu k σ n) x3 0 x1 x2 x4 x5
def fM_males (fu : Nat) (k : kM) (σ : sM) (x1 : Int32) (x2 : Int32) : Option Int64 :=
  if (fM_isClass k x1) = 0 then
    some (-1 : Int64)
  else
    if (fM_isPart x2) = 0 then
      some (-1 : Int64)
    else
      fM_males_27 fu k σ fu x1 x2 0 0 0
end
section
theorem dK_isClass_0 : decode cK_isClass 0 = .ok (.iload_n 1, 1) := by decide +kernel
theorem dK_isClass_1 : decode cK_isClass 1 = .ok (.ifCond .lt (15), 3) := by decide +kernel
theorem dK_isClass_4 : decode cK_isClass 4 = .ok (.iload_n 1, 1) := by decide +kernel
theorem dK_isClass_5 : decode cK_isClass 5 = .ok (.aload_n 0, 1) := by decide +kernel
theorem dK_isClass_6 : decode cK_isClass 6 = .ok (.getfield 26, 3) := by decide +kernel
theorem dK_isClass_9 : decode cK_isClass 9 = .ok (.if_icmp .ge (7), 3) := by decide +kernel
theorem dK_isClass_12 : decode cK_isClass 12 = .ok (.iconst 1, 1) := by decide +kernel
theorem dK_isClass_13 : decode cK_isClass 13 = .ok (.goto (4), 3) := by decide +kernel
theorem dK_isClass_16 : decode cK_isClass 16 = .ok (.iconst 0, 1) := by decide +kernel
theorem dK_isClass_17 : decode cK_isClass 17 = .ok (.ireturn, 1) := by decide +kernel
set_option maxHeartbeats 4000000 in
set_option maxRecDepth 100000 in
theorem mK_isClass (l : Launch) (D : va_G) (q : Nat → Nat) (k : kK) (cI cJ : ClassId) (sz : Nat) (σ : sK) (x1 : Int32) (r : Int32) (hf : fK_isClass k x1 = r) : Met l yK_isClass (.code yK_isClass cK_isClass 2 (some .boolean) :: TK) ({ frames := 0, cells := 0, slots := 0, locals := 0 }) (kPre D cl0 [(cI, .int), (cJ, .long)] (wdK q k cI cJ) sz σ [.ref (q 0), .int x1]) (kQi D cl0 [(cI, .int), (cJ, .long)] (wdK q k cI cJ) (va_A (wdK q k cI cJ σ) sz) r σ) 0 0 (va_A (wdK q k cI cJ σ) sz) := by
  refine kr_start (own := RK) (by decide) rfl (Nat.le_of_ble_eq_true rfl) ?_
  intro p e s m args below meth c ls C0 hsz hK hP hD hl
  subst hsz
  obtain ⟨hx, hb, hr, hml, hown, hts, hlocks⟩ := id C0
  have hA : ∀ z : Nat, s.heap.size ≤ z → va_A (wdK q k cI cJ σ) s.heap.size z := fun z h => Or.inr h
  generalize va_A (wdK q k cI cJ σ) s.heap.size = A at hD hA ⊢
  have hS : va_S A s.heap s.heap [] := va_S.rf
  have hl : lv_has ls 2 [(0, .ref (q 0)), (1, .int x1)] := hl
  unfold fK_isClass at hf
  refine lv_iload_n hx hb dK_isClass_0 rfl (lv_at hl 1 rfl) ?_
  refine lv_if_lt (tgt := 16) hx hb dK_isClass_1 (by decide) (fun c1 => ?_) (fun c1 => ?_)
  · have hf := (if_pos c1).symm.trans hf
    refine lv_iconst (v := 0) hx hb dK_isClass_16 (by decide) ?_
    exact kr_zret C0 hK hP hD hS rfl hf rfl dK_isClass_17
  · have hf := (if_neg c1).symm.trans hf
    refine lv_iload_n hx hb dK_isClass_4 rfl (lv_at hl 1 rfl) ?_
    refine lv_aload_n hx hb dK_isClass_5 rfl (lv_at hl 0 rfl) ?_
    refine gK_classes hx hb hown hts hK hP dK_isClass_6 ?_
    refine lv_icmp_ge (tgt := 16) hx hb dK_isClass_9 (by decide) (fun c9 => ?_) (fun c9 => ?_)
    · have hf := (if_pos c9).symm.trans hf
      refine lv_iconst (v := 0) hx hb dK_isClass_16 (by decide) ?_
      exact kr_zret C0 hK hP hD hS rfl hf rfl dK_isClass_17
    · have hf := (if_neg c9).symm.trans hf
      refine lv_iconst (v := 1) hx hb dK_isClass_12 (by decide) ?_
      refine lv_goto (tgt := 17) hx hb dK_isClass_13 (by decide) ?_
      exact kr_zret C0 hK hP hD hS rfl hf rfl dK_isClass_17
theorem dK_isAge_0 : decode cK_isAge 0 = .ok (.iload_n 1, 1) := by decide +kernel
theorem dK_isAge_1 : decode cK_isAge 1 = .ok (.ifCond .lt (15), 3) := by decide +kernel
theorem dK_isAge_4 : decode cK_isAge 4 = .ok (.iload_n 1, 1) := by decide +kernel
theorem dK_isAge_5 : decode cK_isAge 5 = .ok (.aload_n 0, 1) := by decide +kernel
theorem dK_isAge_6 : decode cK_isAge 6 = .ok (.getfield 29, 3) := by decide +kernel
theorem dK_isAge_9 : decode cK_isAge 9 = .ok (.if_icmp .ge (7), 3) := by decide +kernel
theorem dK_isAge_12 : decode cK_isAge 12 = .ok (.iconst 1, 1) := by decide +kernel
theorem dK_isAge_13 : decode cK_isAge 13 = .ok (.goto (4), 3) := by decide +kernel
theorem dK_isAge_16 : decode cK_isAge 16 = .ok (.iconst 0, 1) := by decide +kernel
theorem dK_isAge_17 : decode cK_isAge 17 = .ok (.ireturn, 1) := by decide +kernel
set_option maxHeartbeats 4000000 in
set_option maxRecDepth 100000 in
theorem mK_isAge (l : Launch) (D : va_G) (q : Nat → Nat) (k : kK) (cI cJ : ClassId) (sz : Nat) (σ : sK) (x1 : Int32) (r : Int32) (hf : fK_isAge k x1 = r) : Met l yK_isAge (.code yK_isAge cK_isAge 2 (some .boolean) :: TK) ({ frames := 0, cells := 0, slots := 0, locals := 0 }) (kPre D cl0 [(cI, .int), (cJ, .long)] (wdK q k cI cJ) sz σ [.ref (q 0), .int x1]) (kQi D cl0 [(cI, .int), (cJ, .long)] (wdK q k cI cJ) (va_A (wdK q k cI cJ σ) sz) r σ) 0 0 (va_A (wdK q k cI cJ σ) sz) := by
  refine kr_start (own := RK) (by decide) rfl (Nat.le_of_ble_eq_true rfl) ?_
  intro p e s m args below meth c ls C0 hsz hK hP hD hl
  subst hsz
  obtain ⟨hx, hb, hr, hml, hown, hts, hlocks⟩ := id C0
  have hA : ∀ z : Nat, s.heap.size ≤ z → va_A (wdK q k cI cJ σ) s.heap.size z := fun z h => Or.inr h
  generalize va_A (wdK q k cI cJ σ) s.heap.size = A at hD hA ⊢
  have hS : va_S A s.heap s.heap [] := va_S.rf
  have hl : lv_has ls 2 [(0, .ref (q 0)), (1, .int x1)] := hl
  unfold fK_isAge at hf
  refine lv_iload_n hx hb dK_isAge_0 rfl (lv_at hl 1 rfl) ?_
  refine lv_if_lt (tgt := 16) hx hb dK_isAge_1 (by decide) (fun c1 => ?_) (fun c1 => ?_)
  · have hf := (if_pos c1).symm.trans hf
    refine lv_iconst (v := 0) hx hb dK_isAge_16 (by decide) ?_
    exact kr_zret C0 hK hP hD hS rfl hf rfl dK_isAge_17
  · have hf := (if_neg c1).symm.trans hf
    refine lv_iload_n hx hb dK_isAge_4 rfl (lv_at hl 1 rfl) ?_
    refine lv_aload_n hx hb dK_isAge_5 rfl (lv_at hl 0 rfl) ?_
    refine gK_ages hx hb hown hts hK hP dK_isAge_6 ?_
    refine lv_icmp_ge (tgt := 16) hx hb dK_isAge_9 (by decide) (fun c9 => ?_) (fun c9 => ?_)
    · have hf := (if_pos c9).symm.trans hf
      refine lv_iconst (v := 0) hx hb dK_isAge_16 (by decide) ?_
      exact kr_zret C0 hK hP hD hS rfl hf rfl dK_isAge_17
    · have hf := (if_neg c9).symm.trans hf
      refine lv_iconst (v := 1) hx hb dK_isAge_12 (by decide) ?_
      refine lv_goto (tgt := 17) hx hb dK_isAge_13 (by decide) ?_
      exact kr_zret C0 hK hP hD hS rfl hf rfl dK_isAge_17
theorem dK_isPlace_0 : decode cK_isPlace 0 = .ok (.iload_n 0, 1) := by decide +kernel
theorem dK_isPlace_1 : decode cK_isPlace 1 = .ok (.ifCond .lt (12), 3) := by decide +kernel
theorem dK_isPlace_4 : decode cK_isPlace 4 = .ok (.iload_n 0, 1) := by decide +kernel
theorem dK_isPlace_5 : decode cK_isPlace 5 = .ok (.iconst 4, 1) := by decide +kernel
theorem dK_isPlace_6 : decode cK_isPlace 6 = .ok (.if_icmp .ge (7), 3) := by decide +kernel
theorem dK_isPlace_9 : decode cK_isPlace 9 = .ok (.iconst 1, 1) := by decide +kernel
theorem dK_isPlace_10 : decode cK_isPlace 10 = .ok (.goto (4), 3) := by decide +kernel
theorem dK_isPlace_13 : decode cK_isPlace 13 = .ok (.iconst 0, 1) := by decide +kernel
theorem dK_isPlace_14 : decode cK_isPlace 14 = .ok (.ireturn, 1) := by decide +kernel
set_option maxHeartbeats 4000000 in
set_option maxRecDepth 100000 in
theorem mK_isPlace (l : Launch) (D : va_G) (S : Type) (wd : S → va_W) (tys : List (ClassId × FieldType)) (cl : List vw_C) (sz : Nat) (σ : S) (x0 : Int32) (r : Int32) (hf : fK_isPlace x0 = r) : Met l yK_isPlace (.code yK_isPlace cK_isPlace 1 (some .boolean) :: TK) ({ frames := 0, cells := 0, slots := 0, locals := 0 }) (kPre D cl tys wd sz σ [.int x0]) (kQi D cl tys wd (va_A (wd σ) sz) r σ) 0 0 (va_A (wd σ) sz) := by
  refine kr_start (own := RK) (by decide) rfl (Nat.le_of_ble_eq_true rfl) ?_
  intro p e s m args below meth c ls C0 hsz hK hP hD hl
  subst hsz
  obtain ⟨hx, hb, hr, hml, hown, hts, hlocks⟩ := id C0
  have hA : ∀ z : Nat, s.heap.size ≤ z → va_A (wd σ) s.heap.size z := fun z h => Or.inr h
  generalize va_A (wd σ) s.heap.size = A at hD hA ⊢
  have hS : va_S A s.heap s.heap [] := va_S.rf
  have hl : lv_has ls 1 [(0, .int x0)] := hl
  unfold fK_isPlace at hf
  refine lv_iload_n hx hb dK_isPlace_0 rfl (lv_at hl 0 rfl) ?_
  refine lv_if_lt (tgt := 13) hx hb dK_isPlace_1 (by decide) (fun c1 => ?_) (fun c1 => ?_)
  · have hf := (if_pos c1).symm.trans hf
    refine lv_iconst (v := 0) hx hb dK_isPlace_13 (by decide) ?_
    exact kr_zret C0 hK hP hD hS rfl hf rfl dK_isPlace_14
  · have hf := (if_neg c1).symm.trans hf
    refine lv_iload_n hx hb dK_isPlace_4 rfl (lv_at hl 0 rfl) ?_
    refine lv_iconst (v := 4) hx hb dK_isPlace_5 (by decide) ?_
    refine lv_icmp_ge (tgt := 13) hx hb dK_isPlace_6 (by decide) (fun c6 => ?_) (fun c6 => ?_)
    · have hf := (if_pos c6).symm.trans hf
      refine lv_iconst (v := 0) hx hb dK_isPlace_13 (by decide) ?_
      exact kr_zret C0 hK hP hD hS rfl hf rfl dK_isPlace_14
    · have hf := (if_neg c6).symm.trans hf
      refine lv_iconst (v := 1) hx hb dK_isPlace_9 (by decide) ?_
      refine lv_goto (tgt := 14) hx hb dK_isPlace_10 (by decide) ?_
      exact kr_zret C0 hK hP hD hS rfl hf rfl dK_isPlace_14
theorem dK_sizeIn_0 : decode cK_sizeIn 0 = .ok (.aload_n 0, 1) := by decide +kernel
theorem dK_sizeIn_1 : decode cK_sizeIn 1 = .ok (.getfield 42, 3) := by decide +kernel
theorem dK_sizeIn_4 : decode cK_sizeIn 4 = .ok (.iload_n 1, 1) := by decide +kernel
theorem dK_sizeIn_5 : decode cK_sizeIn 5 = .ok (.aload_n 0, 1) := by decide +kernel
theorem dK_sizeIn_6 : decode cK_sizeIn 6 = .ok (.getfield 26, 3) := by decide +kernel
theorem dK_sizeIn_9 : decode cK_sizeIn 9 = .ok (.imul, 1) := by decide +kernel
theorem dK_sizeIn_10 : decode cK_sizeIn 10 = .ok (.iload_n 2, 1) := by decide +kernel
theorem dK_sizeIn_11 : decode cK_sizeIn 11 = .ok (.iadd, 1) := by decide +kernel
theorem dK_sizeIn_12 : decode cK_sizeIn 12 = .ok (.iaload, 1) := by decide +kernel
theorem dK_sizeIn_13 : decode cK_sizeIn 13 = .ok (.ireturn, 1) := by decide +kernel
set_option maxHeartbeats 4000000 in
set_option maxRecDepth 100000 in
theorem mK_sizeIn (l : Launch) (D : va_G) (q : Nat → Nat) (k : kK) (cI cJ : ClassId) (sz : Nat) (σ : sK) (x1 : Int32) (x2 : Int32) (r : Int32) (hf : fK_sizeIn k σ x1 x2 = some r) : Met l yK_sizeIn (.code yK_sizeIn cK_sizeIn 3 (some .int) :: TK) ({ frames := 0, cells := 0, slots := 0, locals := 0 }) (kPre D cl0 [(cI, .int), (cJ, .long)] (wdK q k cI cJ) sz σ [.ref (q 0), .int x1, .int x2]) (kQi D cl0 [(cI, .int), (cJ, .long)] (wdK q k cI cJ) (va_A (wdK q k cI cJ σ) sz) r σ) 0 0 (va_A (wdK q k cI cJ σ) sz) := by
  refine kr_start (own := RK) (by decide) rfl (Nat.le_of_ble_eq_true rfl) ?_
  intro p e s m args below meth c ls C0 hsz hK hP hD hl
  subst hsz
  obtain ⟨hx, hb, hr, hml, hown, hts, hlocks⟩ := id C0
  have hA : ∀ z : Nat, s.heap.size ≤ z → va_A (wdK q k cI cJ σ) s.heap.size z := fun z h => Or.inr h
  generalize va_A (wdK q k cI cJ σ) s.heap.size = A at hD hA ⊢
  have hS : va_S A s.heap s.heap [] := va_S.rf
  have hl : lv_has ls 3 [(0, .ref (q 0)), (1, .int x1), (2, .int x2)] := hl
  unfold fK_sizeIn at hf
  refine lv_aload_n hx hb dK_sizeIn_0 rfl (lv_at hl 0 rfl) ?_
  refine gK_groupSize hx hb hown hts hK hP dK_sizeIn_1 ?_
  refine lv_iload_n hx hb dK_sizeIn_4 rfl (lv_at hl 1 rfl) ?_
  refine lv_aload_n hx hb dK_sizeIn_5 rfl (lv_at hl 0 rfl) ?_
  refine gK_classes hx hb hown hts hK hP dK_sizeIn_6 ?_
  refine lv_imul hx hb dK_sizeIn_9 ?_
  refine lv_iload_n hx hb dK_sizeIn_10 rfl (lv_at hl 2 rfl) ?_
  refine lv_iadd hx hb dK_sizeIn_11 ?_
  obtain ⟨v12, ev12, hf⟩ := kb1 hf
  refine kr_iaload hx hb hK hP 4 0 rfl rfl ev12 dK_sizeIn_12 ?_
  exact kr_iret C0 hK hP hD hS (Option.some.inj hf) rfl dK_sizeIn_13
theorem dK_cell_0 : decode cK_cell 0 = .ok (.iload_n 1, 1) := by decide +kernel
theorem dK_cell_1 : decode cK_cell 1 = .ok (.aload_n 0, 1) := by decide +kernel
theorem dK_cell_2 : decode cK_cell 2 = .ok (.getfield 26, 3) := by decide +kernel
theorem dK_cell_5 : decode cK_cell 5 = .ok (.imul, 1) := by decide +kernel
theorem dK_cell_6 : decode cK_cell 6 = .ok (.iload_n 2, 1) := by decide +kernel
theorem dK_cell_7 : decode cK_cell 7 = .ok (.iadd, 1) := by decide +kernel
theorem dK_cell_8 : decode cK_cell 8 = .ok (.aload_n 0, 1) := by decide +kernel
theorem dK_cell_9 : decode cK_cell 9 = .ok (.getfield 29, 3) := by decide +kernel
theorem dK_cell_12 : decode cK_cell 12 = .ok (.imul, 1) := by decide +kernel
theorem dK_cell_13 : decode cK_cell 13 = .ok (.iload_n 3, 1) := by decide +kernel
theorem dK_cell_14 : decode cK_cell 14 = .ok (.iadd, 1) := by decide +kernel
theorem dK_cell_15 : decode cK_cell 15 = .ok (.ireturn, 1) := by decide +kernel
set_option maxHeartbeats 4000000 in
set_option maxRecDepth 100000 in
theorem mK_cell (l : Launch) (D : va_G) (q : Nat → Nat) (k : kK) (cI cJ : ClassId) (sz : Nat) (σ : sK) (x1 : Int32) (x2 : Int32) (x3 : Int32) (r : Int32) (hf : fK_cell k x1 x2 x3 = r) : Met l yK_cell (.code yK_cell cK_cell 4 (some .int) :: TK) ({ frames := 0, cells := 0, slots := 0, locals := 0 }) (kPre D cl0 [(cI, .int), (cJ, .long)] (wdK q k cI cJ) sz σ [.ref (q 0), .int x1, .int x2, .int x3]) (kQi D cl0 [(cI, .int), (cJ, .long)] (wdK q k cI cJ) (va_A (wdK q k cI cJ σ) sz) r σ) 0 0 (va_A (wdK q k cI cJ σ) sz) := by
  refine kr_start (own := RK) (by decide) rfl (Nat.le_of_ble_eq_true rfl) ?_
  intro p e s m args below meth c ls C0 hsz hK hP hD hl
  subst hsz
  obtain ⟨hx, hb, hr, hml, hown, hts, hlocks⟩ := id C0
  have hA : ∀ z : Nat, s.heap.size ≤ z → va_A (wdK q k cI cJ σ) s.heap.size z := fun z h => Or.inr h
  generalize va_A (wdK q k cI cJ σ) s.heap.size = A at hD hA ⊢
  have hS : va_S A s.heap s.heap [] := va_S.rf
  have hl : lv_has ls 4 [(0, .ref (q 0)), (1, .int x1), (2, .int x2), (3, .int x3)] := hl
  unfold fK_cell at hf
  refine lv_iload_n hx hb dK_cell_0 rfl (lv_at hl 1 rfl) ?_
  refine lv_aload_n hx hb dK_cell_1 rfl (lv_at hl 0 rfl) ?_
  refine gK_classes hx hb hown hts hK hP dK_cell_2 ?_
  refine lv_imul hx hb dK_cell_5 ?_
  refine lv_iload_n hx hb dK_cell_6 rfl (lv_at hl 2 rfl) ?_
  refine lv_iadd hx hb dK_cell_7 ?_
  refine lv_aload_n hx hb dK_cell_8 rfl (lv_at hl 0 rfl) ?_
  refine gK_ages hx hb hown hts hK hP dK_cell_9 ?_
  refine lv_imul hx hb dK_cell_12 ?_
  refine lv_iload_n hx hb dK_cell_13 rfl (lv_at hl 3 rfl) ?_
  refine lv_iadd hx hb dK_cell_14 ?_
  exact kr_iret C0 hK hP hD hS hf rfl dK_cell_15
theorem dK_countReading_0 : decode cK_countReading 0 = .ok (.aload_n 0, 1) := by decide +kernel
theorem dK_countReading_1 : decode cK_countReading 1 = .ok (.getfield 45, 3) := by decide +kernel
theorem dK_countReading_4 : decode cK_countReading 4 = .ok (.iload_n 2, 1) := by decide +kernel
theorem dK_countReading_5 : decode cK_countReading 5 = .ok (.iaload, 1) := by decide +kernel
theorem dK_countReading_6 : decode cK_countReading 6 = .ok (.istore 4, 2) := by decide +kernel
theorem dK_countReading_8 : decode cK_countReading 8 = .ok (.aload_n 0, 1) := by decide +kernel
theorem dK_countReading_9 : decode cK_countReading 9 = .ok (.getfield 32, 3) := by decide +kernel
theorem dK_countReading_12 : decode cK_countReading 12 = .ok (.aload_n 0, 1) := by decide +kernel
theorem dK_countReading_13 : decode cK_countReading 13 = .ok (.iload_n 1, 1) := by decide +kernel
theorem dK_countReading_14 : decode cK_countReading 14 = .ok (.iload_n 2, 1) := by decide +kernel
theorem dK_countReading_15 : decode cK_countReading 15 = .ok (.iload_n 3, 1) := by decide +kernel
theorem dK_countReading_16 : decode cK_countReading 16 = .ok (.invokevirtual 96, 3) := by decide +kernel
theorem dK_countReading_19 : decode cK_countReading 19 = .ok (.dup2, 1) := by decide +kernel
theorem dK_countReading_20 : decode cK_countReading 20 = .ok (.iaload, 1) := by decide +kernel
theorem dK_countReading_21 : decode cK_countReading 21 = .ok (.iconst 1, 1) := by decide +kernel
theorem dK_countReading_22 : decode cK_countReading 22 = .ok (.iadd, 1) := by decide +kernel
theorem dK_countReading_23 : decode cK_countReading 23 = .ok (.iastore, 1) := by decide +kernel
theorem dK_countReading_24 : decode cK_countReading 24 = .ok (.aload_n 0, 1) := by decide +kernel
theorem dK_countReading_25 : decode cK_countReading 25 = .ok (.getfield 36, 3) := by decide +kernel
theorem dK_countReading_28 : decode cK_countReading 28 = .ok (.iload_n 1, 1) := by decide +kernel
theorem dK_countReading_29 : decode cK_countReading 29 = .ok (.dup2, 1) := by decide +kernel
theorem dK_countReading_30 : decode cK_countReading 30 = .ok (.iaload, 1) := by decide +kernel
theorem dK_countReading_31 : decode cK_countReading 31 = .ok (.iconst 1, 1) := by decide +kernel
theorem dK_countReading_32 : decode cK_countReading 32 = .ok (.iadd, 1) := by decide +kernel
theorem dK_countReading_33 : decode cK_countReading 33 = .ok (.iastore, 1) := by decide +kernel
theorem dK_countReading_34 : decode cK_countReading 34 = .ok (.aload_n 0, 1) := by decide +kernel
theorem dK_countReading_35 : decode cK_countReading 35 = .ok (.getfield 39, 3) := by decide +kernel
theorem dK_countReading_38 : decode cK_countReading 38 = .ok (.aload_n 0, 1) := by decide +kernel
theorem dK_countReading_39 : decode cK_countReading 39 = .ok (.iload_n 1, 1) := by decide +kernel
theorem dK_countReading_40 : decode cK_countReading 40 = .ok (.iload 4, 2) := by decide +kernel
theorem dK_countReading_42 : decode cK_countReading 42 = .ok (.iload_n 3, 1) := by decide +kernel
theorem dK_countReading_43 : decode cK_countReading 43 = .ok (.invokevirtual 96, 3) := by decide +kernel
theorem dK_countReading_46 : decode cK_countReading 46 = .ok (.dup2, 1) := by decide +kernel
theorem dK_countReading_47 : decode cK_countReading 47 = .ok (.iaload, 1) := by decide +kernel
theorem dK_countReading_48 : decode cK_countReading 48 = .ok (.iconst 1, 1) := by decide +kernel
theorem dK_countReading_49 : decode cK_countReading 49 = .ok (.iadd, 1) := by decide +kernel
theorem dK_countReading_50 : decode cK_countReading 50 = .ok (.iastore, 1) := by decide +kernel
theorem dK_countReading_51 : decode cK_countReading 51 = .ok (.aload_n 0, 1) := by decide +kernel
theorem dK_countReading_52 : decode cK_countReading 52 = .ok (.getfield 42, 3) := by decide +kernel
theorem dK_countReading_55 : decode cK_countReading 55 = .ok (.iload_n 1, 1) := by decide +kernel
theorem dK_countReading_56 : decode cK_countReading 56 = .ok (.aload_n 0, 1) := by decide +kernel
theorem dK_countReading_57 : decode cK_countReading 57 = .ok (.getfield 26, 3) := by decide +kernel
theorem dK_countReading_60 : decode cK_countReading 60 = .ok (.imul, 1) := by decide +kernel
theorem dK_countReading_61 : decode cK_countReading 61 = .ok (.iload 4, 2) := by decide +kernel
theorem dK_countReading_63 : decode cK_countReading 63 = .ok (.iadd, 1) := by decide +kernel
theorem dK_countReading_64 : decode cK_countReading 64 = .ok (.dup2, 1) := by decide +kernel
theorem dK_countReading_65 : decode cK_countReading 65 = .ok (.iaload, 1) := by decide +kernel
theorem dK_countReading_66 : decode cK_countReading 66 = .ok (.iconst 1, 1) := by decide +kernel
theorem dK_countReading_67 : decode cK_countReading 67 = .ok (.iadd, 1) := by decide +kernel
theorem dK_countReading_68 : decode cK_countReading 68 = .ok (.iastore, 1) := by decide +kernel
theorem dK_countReading_69 : decode cK_countReading 69 = .ok (.return_, 1) := by decide +kernel
set_option maxHeartbeats 4000000 in
set_option maxRecDepth 100000 in
theorem mK_countReading (l : Launch) (D : va_G) (q : Nat → Nat) (k : kK) (cI cJ : ClassId) (sz : Nat) (σ : sK) (σ' : sK) (x1 : Int32) (x2 : Int32) (x3 : Int32) (hf : fK_countReading k σ x1 x2 x3 = some σ') : Met l yK_countReading (.code yK_countReading cK_countReading 5 none :: TK) ({ frames := 1, cells := 0, slots := 0, locals := 23 }) (kPre D cl0 [(cI, .int), (cJ, .long)] (wdK q k cI cJ) sz σ [.ref (q 0), .int x1, .int x2, .int x3]) (kQv D cl0 [(cI, .int), (cJ, .long)] (wdK q k cI cJ) (va_A (wdK q k cI cJ σ) sz) σ') 0 0 (va_A (wdK q k cI cJ σ) sz) := by
  refine kr_start (own := RK) (by decide) rfl (Nat.le_of_ble_eq_true rfl) ?_
  intro p e s m args below meth c ls C0 hsz hK hP hD hl
  subst hsz
  obtain ⟨hx, hb, hr, hml, hown, hts, hlocks⟩ := id C0
  have hA : ∀ z : Nat, s.heap.size ≤ z → va_A (wdK q k cI cJ σ) s.heap.size z := fun z h => Or.inr h
  generalize va_A (wdK q k cI cJ σ) s.heap.size = A at hD hA ⊢
  have hS : va_S A s.heap s.heap [] := va_S.rf
  have hl : lv_has ls 5 [(0, .ref (q 0)), (1, .int x1), (2, .int x2), (3, .int x3)] := hl
  unfold fK_countReading at hf
  refine lv_aload_n hx hb dK_countReading_0 rfl (lv_at hl 0 rfl) ?_
  refine gK_groupOf hx hb hown hts hK hP dK_countReading_1 ?_
  refine lv_iload_n hx hb dK_countReading_4 rfl (lv_at hl 2 rfl) ?_
  obtain ⟨v5, ev5, hf⟩ := kb1 hf
  refine kr_iaload hx hb hK hP 5 0 rfl rfl ev5 dK_countReading_5 ?_
  refine lv_istore (lv' := [(4, .int v5), (0, .ref (q 0)), (1, .int x1), (2, .int x2), (3, .int x3)]) hx hb dK_countReading_6 hl (by decide) rfl (fun ls hl => ?_)
  refine lv_aload_n hx hb dK_countReading_8 rfl (lv_at hl 1 rfl) ?_
  refine gK_readings hx hb hown hts hK hP dK_countReading_9 ?_
  refine lv_aload_n hx hb dK_countReading_12 rfl (lv_at hl 1 rfl) ?_
  refine lv_iload_n hx hb dK_countReading_13 rfl (lv_at hl 2 rfl) ?_
  refine lv_iload_n hx hb dK_countReading_14 rfl (lv_at hl 3 rfl) ?_
  refine lv_iload_n hx hb dK_countReading_15 rfl (lv_at hl 4 rfl) ?_
  refine kr_callVi (av := [.int x1, .int x2, .int x3]) ⟨hx, hb, hml, hown, hts⟩ (mK_cell l D q k cI cJ _ σ x1 x2 x3 _ rfl) (cwV 3 hts (kgood_V TK_good (by decide +kernel)) rfl rfl rfl (by decide +kernel) ⟨Nat.le_of_ble_eq_true rfl, Nat.le_of_ble_eq_true rfl⟩) hK hP hD hS hA (ci := 0) (q0 := 0) rfl rfl rfl hl.1 rfl (Nat.le_of_ble_eq_true rfl) dK_countReading_16 ⟨Nat.le_of_ble_eq_true rfl, Nat.le_of_ble_eq_true rfl⟩ (fun H locs hP hD hS => ?_)
  refine lv_dup2_11 hx hb dK_countReading_19 rfl rfl ?_
  obtain ⟨v20, ev20, hf⟩ := kb1 hf
  refine kr_iaload hx hb hK hP 1 0 rfl rfl ev20 dK_countReading_20 ?_
  refine lv_iconst (v := 1) hx hb dK_countReading_21 (by decide) ?_
  refine lv_iadd hx hb dK_countReading_22 ?_
  obtain ⟨a23, ea23, hf⟩ := kb1 hf
  refine kr_iastore (σ' := (uK_readings σ a23)) hx hb hK hP hD hS 1 0 rfl rfl ea23 rfl dK_countReading_23 (fun H locs hP hD hS => ?_)
  generalize (uK_readings σ a23) = s23 at hf hP hD
  refine lv_aload_n hx hb dK_countReading_24 rfl (lv_at hl 1 rfl) ?_
  refine gK_rowSize hx hb hown hts hK hP dK_countReading_25 ?_
  refine lv_iload_n hx hb dK_countReading_28 rfl (lv_at hl 2 rfl) ?_
  refine lv_dup2_11 hx hb dK_countReading_29 rfl rfl ?_
  obtain ⟨v30, ev30, hf⟩ := kb1 hf
  refine kr_iaload hx hb hK hP 2 0 rfl rfl ev30 dK_countReading_30 ?_
  refine lv_iconst (v := 1) hx hb dK_countReading_31 (by decide) ?_
  refine lv_iadd hx hb dK_countReading_32 ?_
  obtain ⟨a33, ea33, hf⟩ := kb1 hf
  refine kr_iastore (σ' := (uK_rowSize s23 a33)) hx hb hK hP hD hS 2 0 rfl rfl ea33 rfl dK_countReading_33 (fun H locs hP hD hS => ?_)
  generalize (uK_rowSize s23 a33) = s33 at hf hP hD
  refine lv_aload_n hx hb dK_countReading_34 rfl (lv_at hl 1 rfl) ?_
  refine gK_groupReadings hx hb hown hts hK hP dK_countReading_35 ?_
  refine lv_aload_n hx hb dK_countReading_38 rfl (lv_at hl 1 rfl) ?_
  refine lv_iload_n hx hb dK_countReading_39 rfl (lv_at hl 2 rfl) ?_
  refine lv_iload hx hb dK_countReading_40 (lv_at hl 0 rfl) ?_
  refine lv_iload_n hx hb dK_countReading_42 rfl (lv_at hl 4 rfl) ?_
  refine kr_callVi (av := [.int x1, .int v5, .int x3]) ⟨hx, hb, hml, hown, hts⟩ (mK_cell l D q k cI cJ _ s33 x1 v5 x3 _ rfl) (cwV 3 hts (kgood_V TK_good (by decide +kernel)) rfl rfl rfl (by decide +kernel) ⟨Nat.le_of_ble_eq_true rfl, Nat.le_of_ble_eq_true rfl⟩) hK hP hD hS hA (ci := 0) (q0 := 0) rfl rfl rfl hl.1 rfl (Nat.le_of_ble_eq_true rfl) dK_countReading_43 ⟨Nat.le_of_ble_eq_true rfl, Nat.le_of_ble_eq_true rfl⟩ (fun H locs hP hD hS => ?_)
  refine lv_dup2_11 hx hb dK_countReading_46 rfl rfl ?_
  obtain ⟨v47, ev47, hf⟩ := kb1 hf
  refine kr_iaload hx hb hK hP 3 0 rfl rfl ev47 dK_countReading_47 ?_
  refine lv_iconst (v := 1) hx hb dK_countReading_48 (by decide) ?_
  refine lv_iadd hx hb dK_countReading_49 ?_
  obtain ⟨a50, ea50, hf⟩ := kb1 hf
  refine kr_iastore (σ' := (uK_groupReadings s33 a50)) hx hb hK hP hD hS 3 0 rfl rfl ea50 rfl dK_countReading_50 (fun H locs hP hD hS => ?_)
  generalize (uK_groupReadings s33 a50) = s50 at hf hP hD
  refine lv_aload_n hx hb dK_countReading_51 rfl (lv_at hl 1 rfl) ?_
  refine gK_groupSize hx hb hown hts hK hP dK_countReading_52 ?_
  refine lv_iload_n hx hb dK_countReading_55 rfl (lv_at hl 2 rfl) ?_
  refine lv_aload_n hx hb dK_countReading_56 rfl (lv_at hl 1 rfl) ?_
  refine gK_classes hx hb hown hts hK hP dK_countReading_57 ?_
  refine lv_imul hx hb dK_countReading_60 ?_
  refine lv_iload hx hb dK_countReading_61 (lv_at hl 0 rfl) ?_
  refine lv_iadd hx hb dK_countReading_63 ?_
  refine lv_dup2_11 hx hb dK_countReading_64 rfl rfl ?_
  obtain ⟨v65, ev65, hf⟩ := kb1 hf
  refine kr_iaload hx hb hK hP 4 0 rfl rfl ev65 dK_countReading_65 ?_
  refine lv_iconst (v := 1) hx hb dK_countReading_66 (by decide) ?_
  refine lv_iadd hx hb dK_countReading_67 ?_
  obtain ⟨a68, ea68, hf⟩ := kb1 hf
  refine kr_iastore (σ' := (uK_groupSize s50 a68)) hx hb hK hP hD hS 4 0 rfl rfl ea68 rfl dK_countReading_68 (fun H locs hP hD hS => ?_)
  generalize (uK_groupSize s50 a68) = s68 at hf hP hD
  exact kr_vret C0 hK hP hD hS (Option.some.inj hf) dK_countReading_69
theorem dK_read_0 : decode cK_read 0 = .ok (.aload_n 0, 1) := by decide +kernel
theorem dK_read_1 : decode cK_read 1 = .ok (.iload_n 1, 1) := by decide +kernel
theorem dK_read_2 : decode cK_read 2 = .ok (.invokevirtual 79, 3) := by decide +kernel
theorem dK_read_5 : decode cK_read 5 = .ok (.ifCond .eq (18), 3) := by decide +kernel
theorem dK_read_8 : decode cK_read 8 = .ok (.aload_n 0, 1) := by decide +kernel
theorem dK_read_9 : decode cK_read 9 = .ok (.iload_n 2, 1) := by decide +kernel
theorem dK_read_10 : decode cK_read 10 = .ok (.invokevirtual 83, 3) := by decide +kernel
theorem dK_read_13 : decode cK_read 13 = .ok (.ifCond .eq (10), 3) := by decide +kernel
theorem dK_read_16 : decode cK_read 16 = .ok (.iload_n 3, 1) := by decide +kernel
theorem dK_read_17 : decode cK_read 17 = .ok (.invokestatic 86, 3) := by decide +kernel
theorem dK_read_20 : decode cK_read 20 = .ok (.ifCond .ne (5), 3) := by decide +kernel
theorem dK_read_23 : decode cK_read 23 = .ok (.iconst 0, 1) := by decide +kernel
theorem dK_read_24 : decode cK_read 24 = .ok (.ireturn, 1) := by decide +kernel
theorem dK_read_25 : decode cK_read 25 = .ok (.aload_n 0, 1) := by decide +kernel
theorem dK_read_26 : decode cK_read 26 = .ok (.iconst 4, 1) := by decide +kernel
theorem dK_read_27 : decode cK_read 27 = .ok (.aload_n 0, 1) := by decide +kernel
theorem dK_read_28 : decode cK_read 28 = .ok (.getfield 45, 3) := by decide +kernel
theorem dK_read_31 : decode cK_read 31 = .ok (.iload_n 1, 1) := by decide +kernel
theorem dK_read_32 : decode cK_read 32 = .ok (.iaload, 1) := by decide +kernel
theorem dK_read_33 : decode cK_read 33 = .ok (.invokevirtual 89, 3) := by decide +kernel
theorem dK_read_36 : decode cK_read 36 = .ok (.bipush (20), 2) := by decide +kernel
theorem dK_read_38 : decode cK_read 38 = .ok (.if_icmp .ge (14), 3) := by decide +kernel
theorem dK_read_41 : decode cK_read 41 = .ok (.aload_n 0, 1) := by decide +kernel
theorem dK_read_42 : decode cK_read 42 = .ok (.getfield 36, 3) := by decide +kernel
theorem dK_read_45 : decode cK_read 45 = .ok (.iconst 4, 1) := by decide +kernel
theorem dK_read_46 : decode cK_read 46 = .ok (.iaload, 1) := by decide +kernel
theorem dK_read_47 : decode cK_read 47 = .ok (.bipush (100), 2) := by decide +kernel
theorem dK_read_49 : decode cK_read 49 = .ok (.if_icmp .lt (5), 3) := by decide +kernel
theorem dK_read_52 : decode cK_read 52 = .ok (.iconst 0, 1) := by decide +kernel
theorem dK_read_53 : decode cK_read 53 = .ok (.ireturn, 1) := by decide +kernel
theorem dK_read_54 : decode cK_read 54 = .ok (.aload_n 0, 1) := by decide +kernel
theorem dK_read_55 : decode cK_read 55 = .ok (.iload_n 3, 1) := by decide +kernel
theorem dK_read_56 : decode cK_read 56 = .ok (.iload_n 1, 1) := by decide +kernel
theorem dK_read_57 : decode cK_read 57 = .ok (.iload_n 2, 1) := by decide +kernel
theorem dK_read_58 : decode cK_read 58 = .ok (.invokevirtual 92, 3) := by decide +kernel
theorem dK_read_61 : decode cK_read 61 = .ok (.aload_n 0, 1) := by decide +kernel
theorem dK_read_62 : decode cK_read 62 = .ok (.iconst 4, 1) := by decide +kernel
theorem dK_read_63 : decode cK_read 63 = .ok (.iload_n 1, 1) := by decide +kernel
theorem dK_read_64 : decode cK_read 64 = .ok (.iload_n 2, 1) := by decide +kernel
theorem dK_read_65 : decode cK_read 65 = .ok (.invokevirtual 92, 3) := by decide +kernel
theorem dK_read_68 : decode cK_read 68 = .ok (.iconst 1, 1) := by decide +kernel
theorem dK_read_69 : decode cK_read 69 = .ok (.ireturn, 1) := by decide +kernel
set_option maxHeartbeats 4000000 in
set_option maxRecDepth 100000 in
theorem mK_read (l : Launch) (D : va_G) (q : Nat → Nat) (k : kK) (cI cJ : ClassId) (sz : Nat) (σ : sK) (σ' : sK) (x1 : Int32) (x2 : Int32) (x3 : Int32) (r : Int32) (hf : fK_read k σ x1 x2 x3 = some (r, σ')) : Met l yK_read (.code yK_read cK_read 4 (some .boolean) :: TK) ({ frames := 2, cells := 0, slots := 0, locals := 47 }) (kPre D cl0 [(cI, .int), (cJ, .long)] (wdK q k cI cJ) sz σ [.ref (q 0), .int x1, .int x2, .int x3]) (kQi D cl0 [(cI, .int), (cJ, .long)] (wdK q k cI cJ) (va_A (wdK q k cI cJ σ) sz) r σ') 0 0 (va_A (wdK q k cI cJ σ) sz) := by
  refine kr_start (own := RK) (by decide) rfl (Nat.le_of_ble_eq_true rfl) ?_
  intro p e s m args below meth c ls C0 hsz hK hP hD hl
  subst hsz
  obtain ⟨hx, hb, hr, hml, hown, hts, hlocks⟩ := id C0
  have hA : ∀ z : Nat, s.heap.size ≤ z → va_A (wdK q k cI cJ σ) s.heap.size z := fun z h => Or.inr h
  generalize va_A (wdK q k cI cJ σ) s.heap.size = A at hD hA ⊢
  have hS : va_S A s.heap s.heap [] := va_S.rf
  have hl : lv_has ls 4 [(0, .ref (q 0)), (1, .int x1), (2, .int x2), (3, .int x3)] := hl
  unfold fK_read at hf
  refine lv_aload_n hx hb dK_read_0 rfl (lv_at hl 0 rfl) ?_
  refine lv_iload_n hx hb dK_read_1 rfl (lv_at hl 1 rfl) ?_
  refine kr_callVi (av := [.int x1]) ⟨hx, hb, hml, hown, hts⟩ (mK_isClass l D q k cI cJ _ σ x1 _ rfl) (cwV 1 hts (kgood_V TK_good (by decide +kernel)) rfl rfl rfl (by decide +kernel) ⟨Nat.le_of_ble_eq_true rfl, Nat.le_of_ble_eq_true rfl⟩) hK hP hD hS hA (ci := 0) (q0 := 0) rfl rfl rfl hl.1 rfl (Nat.le_of_ble_eq_true rfl) dK_read_2 ⟨Nat.le_of_ble_eq_true rfl, Nat.le_of_ble_eq_true rfl⟩ (fun H locs hP hD hS => ?_)
  refine lv_if_eq (tgt := 23) hx hb dK_read_5 (by decide) (fun c5 => ?_) (fun c5 => ?_)
  · have hf := (if_pos c5).symm.trans hf
    refine lv_iconst (v := 0) hx hb dK_read_23 (by decide) ?_
    exact kr_zret C0 hK hP hD hS rfl (congrArg Prod.fst (Option.some.inj hf)) (congrArg Prod.snd (Option.some.inj hf)) dK_read_24
  · have hf := (if_neg c5).symm.trans hf
    refine lv_aload_n hx hb dK_read_8 rfl (lv_at hl 0 rfl) ?_
    refine lv_iload_n hx hb dK_read_9 rfl (lv_at hl 2 rfl) ?_
    refine kr_callVi (av := [.int x2]) ⟨hx, hb, hml, hown, hts⟩ (mK_isAge l D q k cI cJ _ σ x2 _ rfl) (cwV 1 hts (kgood_V TK_good (by decide +kernel)) rfl rfl rfl (by decide +kernel) ⟨Nat.le_of_ble_eq_true rfl, Nat.le_of_ble_eq_true rfl⟩) hK hP hD hS hA (ci := 0) (q0 := 0) rfl rfl rfl hl.1 rfl (Nat.le_of_ble_eq_true rfl) dK_read_10 ⟨Nat.le_of_ble_eq_true rfl, Nat.le_of_ble_eq_true rfl⟩ (fun H locs hP hD hS => ?_)
    refine lv_if_eq (tgt := 23) hx hb dK_read_13 (by decide) (fun c13 => ?_) (fun c13 => ?_)
    · have hf := (if_pos c13).symm.trans hf
      refine lv_iconst (v := 0) hx hb dK_read_23 (by decide) ?_
      exact kr_zret C0 hK hP hD hS rfl (congrArg Prod.fst (Option.some.inj hf)) (congrArg Prod.snd (Option.some.inj hf)) dK_read_24
    · have hf := (if_neg c13).symm.trans hf
      refine lv_iload_n hx hb dK_read_16 rfl (lv_at hl 3 rfl) ?_
      refine kr_callSi (av := [.int x3]) ⟨hx, hb, hml, hown, hts⟩ (mK_isPlace l D _ (wdK q k cI cJ) [(cI, .int), (cJ, .long)] cl0 _ σ x3 _ rfl) (cwS 1 hts (kgood_S TK_good (by decide +kernel)) rfl rfl rfl (by decide +kernel) ⟨Nat.le_of_ble_eq_true rfl, Nat.le_of_ble_eq_true rfl⟩) hK hP hD hS hA rfl hl.1 rfl (Nat.le_of_ble_eq_true rfl) dK_read_17 ⟨Nat.le_of_ble_eq_true rfl, Nat.le_of_ble_eq_true rfl⟩ (fun H locs hP hD hS => ?_)
      refine lv_if_ne (tgt := 25) hx hb dK_read_20 (by decide) (fun c20 => ?_) (fun c20 => ?_)
      · have hf := (if_neg c20).symm.trans hf
        refine lv_aload_n hx hb dK_read_25 rfl (lv_at hl 0 rfl) ?_
        refine lv_iconst (v := 4) hx hb dK_read_26 (by decide) ?_
        refine lv_aload_n hx hb dK_read_27 rfl (lv_at hl 0 rfl) ?_
        refine gK_groupOf hx hb hown hts hK hP dK_read_28 ?_
        refine lv_iload_n hx hb dK_read_31 rfl (lv_at hl 1 rfl) ?_
        obtain ⟨v32, ev32, hf⟩ := kb1 hf
        refine kr_iaload hx hb hK hP 5 0 rfl rfl ev32 dK_read_32 ?_
        obtain ⟨v33, ev33, hf⟩ := kb1 hf
        refine kr_callVi (av := [.int 4, .int v32]) ⟨hx, hb, hml, hown, hts⟩ (mK_sizeIn l D q k cI cJ _ σ 4 v32 v33 ev33) (cwV 2 hts (kgood_V TK_good (by decide +kernel)) rfl rfl rfl (by decide +kernel) ⟨Nat.le_of_ble_eq_true rfl, Nat.le_of_ble_eq_true rfl⟩) hK hP hD hS hA (ci := 0) (q0 := 0) rfl rfl rfl hl.1 rfl (Nat.le_of_ble_eq_true rfl) dK_read_33 ⟨Nat.le_of_ble_eq_true rfl, Nat.le_of_ble_eq_true rfl⟩ (fun H locs hP hD hS => ?_)
        refine lv_bipush (v := 20) hx hb dK_read_36 (by decide) ?_
        refine lv_icmp_ge (tgt := 52) hx hb dK_read_38 (by decide) (fun c38 => ?_) (fun c38 => ?_)
        · have hf := (if_pos c38).symm.trans hf
          refine lv_iconst (v := 0) hx hb dK_read_52 (by decide) ?_
          exact kr_zret C0 hK hP hD hS rfl (congrArg Prod.fst (Option.some.inj hf)) (congrArg Prod.snd (Option.some.inj hf)) dK_read_53
        · have hf := (if_neg c38).symm.trans hf
          refine lv_aload_n hx hb dK_read_41 rfl (lv_at hl 0 rfl) ?_
          refine gK_rowSize hx hb hown hts hK hP dK_read_42 ?_
          refine lv_iconst (v := 4) hx hb dK_read_45 (by decide) ?_
          obtain ⟨v46, ev46, hf⟩ := kb1 hf
          refine kr_iaload hx hb hK hP 2 0 rfl rfl ev46 dK_read_46 ?_
          refine lv_bipush (v := 100) hx hb dK_read_47 (by decide) ?_
          refine lv_icmp_lt (tgt := 54) hx hb dK_read_49 (by decide) (fun c49 => ?_) (fun c49 => ?_)
          · have hf := (if_pos c49).symm.trans hf
            refine lv_aload_n hx hb dK_read_54 rfl (lv_at hl 0 rfl) ?_
            refine lv_iload_n hx hb dK_read_55 rfl (lv_at hl 3 rfl) ?_
            refine lv_iload_n hx hb dK_read_56 rfl (lv_at hl 1 rfl) ?_
            refine lv_iload_n hx hb dK_read_57 rfl (lv_at hl 2 rfl) ?_
            obtain ⟨s58, es58, hf⟩ := kb1 hf
            refine kr_callVv (av := [.int x3, .int x1, .int x2]) ⟨hx, hb, hml, hown, hts⟩ (mK_countReading l D q k cI cJ _ σ s58 x3 x1 x2 es58) (cwV 3 hts (kgood_V TK_good (by decide +kernel)) rfl rfl rfl (by decide +kernel) ⟨Nat.le_of_ble_eq_true rfl, Nat.le_of_ble_eq_true rfl⟩) hK hP hD hS hA (ci := 0) (q0 := 0) rfl rfl rfl hl.1 rfl (Nat.le_of_ble_eq_true rfl) dK_read_58 ⟨Nat.le_of_ble_eq_true rfl, Nat.le_of_ble_eq_true rfl⟩ (fun H locs hP hD hS => ?_)
            refine lv_aload_n hx hb dK_read_61 rfl (lv_at hl 0 rfl) ?_
            refine lv_iconst (v := 4) hx hb dK_read_62 (by decide) ?_
            refine lv_iload_n hx hb dK_read_63 rfl (lv_at hl 1 rfl) ?_
            refine lv_iload_n hx hb dK_read_64 rfl (lv_at hl 2 rfl) ?_
            obtain ⟨s65, es65, hf⟩ := kb1 hf
            refine kr_callVv (av := [.int 4, .int x1, .int x2]) ⟨hx, hb, hml, hown, hts⟩ (mK_countReading l D q k cI cJ _ s58 s65 4 x1 x2 es65) (cwV 3 hts (kgood_V TK_good (by decide +kernel)) rfl rfl rfl (by decide +kernel) ⟨Nat.le_of_ble_eq_true rfl, Nat.le_of_ble_eq_true rfl⟩) hK hP hD hS hA (ci := 0) (q0 := 0) rfl rfl rfl hl.1 rfl (Nat.le_of_ble_eq_true rfl) dK_read_65 ⟨Nat.le_of_ble_eq_true rfl, Nat.le_of_ble_eq_true rfl⟩ (fun H locs hP hD hS => ?_)
            refine lv_iconst (v := 1) hx hb dK_read_68 (by decide) ?_
            exact kr_zret C0 hK hP hD hS rfl (congrArg Prod.fst (Option.some.inj hf)) (congrArg Prod.snd (Option.some.inj hf)) dK_read_69
          · have hf := (if_neg c49).symm.trans hf
            refine lv_iconst (v := 0) hx hb dK_read_52 (by decide) ?_
            exact kr_zret C0 hK hP hD hS rfl (congrArg Prod.fst (Option.some.inj hf)) (congrArg Prod.snd (Option.some.inj hf)) dK_read_53
      · have hf := (if_pos c20).symm.trans hf
        refine lv_iconst (v := 0) hx hb dK_read_23 (by decide) ?_
        exact kr_zret C0 hK hP hD hS rfl (congrArg Prod.fst (Option.some.inj hf)) (congrArg Prod.snd (Option.some.inj hf)) dK_read_24
theorem dK_place_0 : decode cK_place 0 = .ok (.iload_n 1, 1) := by decide +kernel
theorem dK_place_1 : decode cK_place 1 = .ok (.iconst (-1), 1) := by decide +kernel
theorem dK_place_2 : decode cK_place 2 = .ok (.if_icmp .eq (12), 3) := by decide +kernel
theorem dK_place_5 : decode cK_place 5 = .ok (.iload_n 1, 1) := by decide +kernel
theorem dK_place_6 : decode cK_place 6 = .ok (.invokestatic 86, 3) := by decide +kernel
theorem dK_place_9 : decode cK_place 9 = .ok (.ifCond .ne (5), 3) := by decide +kernel
theorem dK_place_12 : decode cK_place 12 = .ok (.iconst (-1), 1) := by decide +kernel
theorem dK_place_13 : decode cK_place 13 = .ok (.ireturn, 1) := by decide +kernel
theorem dK_place_14 : decode cK_place 14 = .ok (.aload_n 0, 1) := by decide +kernel
theorem dK_place_15 : decode cK_place 15 = .ok (.iload_n 1, 1) := by decide +kernel
theorem dK_place_16 : decode cK_place 16 = .ok (.iconst (-1), 1) := by decide +kernel
theorem dK_place_17 : decode cK_place 17 = .ok (.if_icmp .ne (7), 3) := by decide +kernel
theorem dK_place_20 : decode cK_place 20 = .ok (.iconst 4, 1) := by decide +kernel
theorem dK_place_21 : decode cK_place 21 = .ok (.goto (4), 3) := by decide +kernel
theorem dK_place_24 : decode cK_place 24 = .ok (.iload_n 1, 1) := by decide +kernel
theorem dK_place_25 : decode cK_place 25 = .ok (.putfield 9, 3) := by decide +kernel
theorem dK_place_28 : decode cK_place 28 = .ok (.aload_n 0, 1) := by decide +kernel
theorem dK_place_29 : decode cK_place 29 = .ok (.getfield 36, 3) := by decide +kernel
theorem dK_place_32 : decode cK_place 32 = .ok (.aload_n 0, 1) := by decide +kernel
theorem dK_place_33 : decode cK_place 33 = .ok (.getfield 9, 3) := by decide +kernel
theorem dK_place_36 : decode cK_place 36 = .ok (.iaload, 1) := by decide +kernel
theorem dK_place_37 : decode cK_place 37 = .ok (.ireturn, 1) := by decide +kernel
set_option maxHeartbeats 4000000 in
set_option maxRecDepth 100000 in
theorem tK_place_25 {p : Program} {l : Launch} {e : Env} {s : State} {m : MethodId} {args : Array Value} {below : List Frame} {meth : Method} {c : Code} {D : va_G} {A : Nat → Prop} {q : Nat → Nat} {k : kK} {cI cJ : ClassId} {r : Int32} {σ' : sK} (C0 : Cx p s m args meth c cK_place 2 (some .int) RK TK) (hK : va_K D cl0 [(cI, .int), (cJ, .long)] s) (hA : ∀ z, s.heap.size ≤ z → A z) : ∀ (σ : sK) (y1 : Int32)(H : Heap) (locs : List Loc) (ls : Array Slot), fK_place_25 k σ y1 = some (r, σ') → lv_has ls 2 [(0, .ref (q 0))] → va_P D cl0 (wdK q k cI cJ σ) H → va_D A (wdK q k cI cJ σ) → va_S A s.heap H locs → W p l e ({ frames := 1, cells := 0, slots := 0, locals := 20 }) s m args below meth c H locs 0 0 (MQ below (kQi D cl0 [(cI, .int), (cJ, .long)] (wdK q k cI cJ) A r σ') args s 0 0 A) (F0 m 25 ls [.int y1, .ref (q 0)]) := by
  obtain ⟨hx, hb, hr, hml, hown, hts, hlocks⟩ := id C0
  intro σ y1 H locs ls hf hl hP hD hS
  unfold fK_place_25 at hf
  refine pK_chosenRow hx hb hown hts hK hP hD hS dK_place_25 (fun H locs hP hD hS => ?_)
  generalize (uK_chosenRow σ y1) = s25 at hf hP hD
  refine lv_aload_n hx hb dK_place_28 rfl (lv_at hl 0 rfl) ?_
  refine gK_rowSize hx hb hown hts hK hP dK_place_29 ?_
  refine lv_aload_n hx hb dK_place_32 rfl (lv_at hl 0 rfl) ?_
  refine gK_chosenRow hx hb hown hts hK hP dK_place_33 ?_
  obtain ⟨v36, ev36, hf⟩ := kb1 hf
  refine kr_iaload hx hb hK hP 2 0 rfl rfl ev36 dK_place_36 ?_
  exact kr_iret C0 hK hP hD hS (congrArg Prod.fst (Option.some.inj hf)) (congrArg Prod.snd (Option.some.inj hf)) dK_place_37
set_option maxHeartbeats 4000000 in
set_option maxRecDepth 100000 in
theorem tK_place_14 {p : Program} {l : Launch} {e : Env} {s : State} {m : MethodId} {args : Array Value} {below : List Frame} {meth : Method} {c : Code} {D : va_G} {A : Nat → Prop} {q : Nat → Nat} {k : kK} {cI cJ : ClassId} {r : Int32} {σ' : sK} (C0 : Cx p s m args meth c cK_place 2 (some .int) RK TK) (hK : va_K D cl0 [(cI, .int), (cJ, .long)] s) (hA : ∀ z, s.heap.size ≤ z → A z) : ∀ (σ : sK) (x1 : Int32)(H : Heap) (locs : List Loc) (ls : Array Slot), fK_place_14 k σ x1 = some (r, σ') → lv_has ls 2 [(0, .ref (q 0)), (1, .int x1)] → va_P D cl0 (wdK q k cI cJ σ) H → va_D A (wdK q k cI cJ σ) → va_S A s.heap H locs → W p l e ({ frames := 1, cells := 0, slots := 0, locals := 20 }) s m args below meth c H locs 0 0 (MQ below (kQi D cl0 [(cI, .int), (cJ, .long)] (wdK q k cI cJ) A r σ') args s 0 0 A) (F0 m 14 ls []) := by
  obtain ⟨hx, hb, hr, hml, hown, hts, hlocks⟩ := id C0
  intro σ x1 H locs ls hf hl hP hD hS
  unfold fK_place_14 at hf
  refine lv_aload_n hx hb dK_place_14 rfl (lv_at hl 0 rfl) ?_
  refine lv_iload_n hx hb dK_place_15 rfl (lv_at hl 1 rfl) ?_
  refine lv_iconst (v := (-1)) hx hb dK_place_16 (by decide) ?_
  refine lv_icmp_ne (tgt := 24) hx hb dK_place_17 (by decide) (fun c17 => ?_) (fun c17 => ?_)
  · have hf := (if_neg c17).symm.trans hf
    refine lv_iload_n hx hb dK_place_24 rfl (lv_at hl 1 rfl) ?_
    exact tK_place_25 C0 hK hA σ x1 _ _ ls hf (lv_sub hl [0] rfl) hP hD hS
  · have hf := (if_pos c17).symm.trans hf
    refine lv_iconst (v := 4) hx hb dK_place_20 (by decide) ?_
    refine lv_goto (tgt := 25) hx hb dK_place_21 (by decide) ?_
    exact tK_place_25 C0 hK hA σ 4 _ _ ls hf (lv_sub hl [0] rfl) hP hD hS
set_option maxHeartbeats 4000000 in
set_option maxRecDepth 100000 in
theorem mK_place (l : Launch) (D : va_G) (q : Nat → Nat) (k : kK) (cI cJ : ClassId) (sz : Nat) (σ : sK) (σ' : sK) (x1 : Int32) (r : Int32) (hf : fK_place k σ x1 = some (r, σ')) : Met l yK_place (.code yK_place cK_place 2 (some .int) :: TK) ({ frames := 1, cells := 0, slots := 0, locals := 20 }) (kPre D cl0 [(cI, .int), (cJ, .long)] (wdK q k cI cJ) sz σ [.ref (q 0), .int x1]) (kQi D cl0 [(cI, .int), (cJ, .long)] (wdK q k cI cJ) (va_A (wdK q k cI cJ σ) sz) r σ') 0 0 (va_A (wdK q k cI cJ σ) sz) := by
  refine kr_start (own := RK) (by decide) rfl (Nat.le_of_ble_eq_true rfl) ?_
  intro p e s m args below meth c ls C0 hsz hK hP hD hl
  subst hsz
  obtain ⟨hx, hb, hr, hml, hown, hts, hlocks⟩ := id C0
  have hA : ∀ z : Nat, s.heap.size ≤ z → va_A (wdK q k cI cJ σ) s.heap.size z := fun z h => Or.inr h
  generalize va_A (wdK q k cI cJ σ) s.heap.size = A at hD hA ⊢
  have hS : va_S A s.heap s.heap [] := va_S.rf
  have hl : lv_has ls 2 [(0, .ref (q 0)), (1, .int x1)] := hl
  unfold fK_place at hf
  refine lv_iload_n hx hb dK_place_0 rfl (lv_at hl 1 rfl) ?_
  refine lv_iconst (v := (-1)) hx hb dK_place_1 (by decide) ?_
  refine lv_icmp_eq (tgt := 14) hx hb dK_place_2 (by decide) (fun c2 => ?_) (fun c2 => ?_)
  · have hf := (if_pos c2).symm.trans hf
    exact tK_place_14 C0 hK hA σ x1 _ _ ls hf (lv_sub hl [0, 1] rfl) hP hD hS
  · have hf := (if_neg c2).symm.trans hf
    refine lv_iload_n hx hb dK_place_5 rfl (lv_at hl 1 rfl) ?_
    refine kr_callSi (av := [.int x1]) ⟨hx, hb, hml, hown, hts⟩ (mK_isPlace l D _ (wdK q k cI cJ) [(cI, .int), (cJ, .long)] cl0 _ σ x1 _ rfl) (cwS 1 hts (kgood_S TK_good (by decide +kernel)) rfl rfl rfl (by decide +kernel) ⟨Nat.le_of_ble_eq_true rfl, Nat.le_of_ble_eq_true rfl⟩) hK hP hD hS hA rfl hl.1 rfl (Nat.le_of_ble_eq_true rfl) dK_place_6 ⟨Nat.le_of_ble_eq_true rfl, Nat.le_of_ble_eq_true rfl⟩ (fun H locs hP hD hS => ?_)
    refine lv_if_ne (tgt := 14) hx hb dK_place_9 (by decide) (fun c9 => ?_) (fun c9 => ?_)
    · have hf := (if_neg c9).symm.trans hf
      exact tK_place_14 C0 hK hA σ x1 _ _ ls hf (lv_sub hl [0, 1] rfl) hP hD hS
    · have hf := (if_pos c9).symm.trans hf
      refine lv_iconst (v := (-1)) hx hb dK_place_12 (by decide) ?_
      exact kr_iret C0 hK hP hD hS (congrArg Prod.fst (Option.some.inj hf)) (congrArg Prod.snd (Option.some.inj hf)) dK_place_13
theorem dK_isZeroOrOne_0 : decode cK_isZeroOrOne 0 = .ok (.iload_n 0, 1) := by decide +kernel
theorem dK_isZeroOrOne_1 : decode cK_isZeroOrOne 1 = .ok (.ifCond .eq (8), 3) := by decide +kernel
theorem dK_isZeroOrOne_4 : decode cK_isZeroOrOne 4 = .ok (.iload_n 0, 1) := by decide +kernel
theorem dK_isZeroOrOne_5 : decode cK_isZeroOrOne 5 = .ok (.iconst 1, 1) := by decide +kernel
theorem dK_isZeroOrOne_6 : decode cK_isZeroOrOne 6 = .ok (.if_icmp .ne (7), 3) := by decide +kernel
theorem dK_isZeroOrOne_9 : decode cK_isZeroOrOne 9 = .ok (.iconst 1, 1) := by decide +kernel
theorem dK_isZeroOrOne_10 : decode cK_isZeroOrOne 10 = .ok (.goto (4), 3) := by decide +kernel
theorem dK_isZeroOrOne_13 : decode cK_isZeroOrOne 13 = .ok (.iconst 0, 1) := by decide +kernel
theorem dK_isZeroOrOne_14 : decode cK_isZeroOrOne 14 = .ok (.ireturn, 1) := by decide +kernel
set_option maxHeartbeats 4000000 in
set_option maxRecDepth 100000 in
theorem tK_isZeroOrOne_9 {p : Program} {l : Launch} {e : Env} {s : State} {m : MethodId} {args : Array Value} {below : List Frame} {meth : Method} {c : Code} {D : va_G} {A : Nat → Prop} {S : Type} {wd : S → va_W} {tys : List (ClassId × FieldType)} {cl : List vw_C} {r : Int32} {σ : S} (C0 : Cx p s m args meth c cK_isZeroOrOne 1 (some .boolean) RK TK) (hK : va_K D cl tys s) (hA : ∀ z, s.heap.size ≤ z → A z) : ∀ (H : Heap) (locs : List Loc) (ls : Array Slot), fK_isZeroOrOne_9 = r → lv_has ls 1 [] → va_P D cl (wd σ) H → va_D A (wd σ) → va_S A s.heap H locs → W p l e ({ frames := 0, cells := 0, slots := 0, locals := 0 }) s m args below meth c H locs 0 0 (MQ below (kQi D cl tys wd A r σ) args s 0 0 A) (F0 m 9 ls []) := by
  obtain ⟨hx, hb, hr, hml, hown, hts, hlocks⟩ := id C0
  intro  H locs ls hf hl hP hD hS
  unfold fK_isZeroOrOne_9 at hf
  refine lv_iconst (v := 1) hx hb dK_isZeroOrOne_9 (by decide) ?_
  refine lv_goto (tgt := 14) hx hb dK_isZeroOrOne_10 (by decide) ?_
  exact kr_zret C0 hK hP hD hS rfl hf rfl dK_isZeroOrOne_14
set_option maxHeartbeats 4000000 in
set_option maxRecDepth 100000 in
theorem mK_isZeroOrOne (l : Launch) (D : va_G) (S : Type) (wd : S → va_W) (tys : List (ClassId × FieldType)) (cl : List vw_C) (sz : Nat) (σ : S) (x0 : Int32) (r : Int32) (hf : fK_isZeroOrOne x0 = r) : Met l yK_isZeroOrOne (.code yK_isZeroOrOne cK_isZeroOrOne 1 (some .boolean) :: TK) ({ frames := 0, cells := 0, slots := 0, locals := 0 }) (kPre D cl tys wd sz σ [.int x0]) (kQi D cl tys wd (va_A (wd σ) sz) r σ) 0 0 (va_A (wd σ) sz) := by
  refine kr_start (own := RK) (by decide) rfl (Nat.le_of_ble_eq_true rfl) ?_
  intro p e s m args below meth c ls C0 hsz hK hP hD hl
  subst hsz
  obtain ⟨hx, hb, hr, hml, hown, hts, hlocks⟩ := id C0
  have hA : ∀ z : Nat, s.heap.size ≤ z → va_A (wd σ) s.heap.size z := fun z h => Or.inr h
  generalize va_A (wd σ) s.heap.size = A at hD hA ⊢
  have hS : va_S A s.heap s.heap [] := va_S.rf
  have hl : lv_has ls 1 [(0, .int x0)] := hl
  unfold fK_isZeroOrOne at hf
  refine lv_iload_n hx hb dK_isZeroOrOne_0 rfl (lv_at hl 0 rfl) ?_
  refine lv_if_eq (tgt := 9) hx hb dK_isZeroOrOne_1 (by decide) (fun c1 => ?_) (fun c1 => ?_)
  · have hf := (if_pos c1).symm.trans hf
    exact tK_isZeroOrOne_9 C0 hK hA _ _ ls hf (lv_sub hl [] rfl) hP hD hS
  · have hf := (if_neg c1).symm.trans hf
    refine lv_iload_n hx hb dK_isZeroOrOne_4 rfl (lv_at hl 0 rfl) ?_
    refine lv_iconst (v := 1) hx hb dK_isZeroOrOne_5 (by decide) ?_
    refine lv_icmp_ne (tgt := 13) hx hb dK_isZeroOrOne_6 (by decide) (fun c6 => ?_) (fun c6 => ?_)
    · have hf := (if_neg c6).symm.trans hf
      refine lv_iconst (v := 0) hx hb dK_isZeroOrOne_13 (by decide) ?_
      exact kr_zret C0 hK hP hD hS rfl hf rfl dK_isZeroOrOne_14
    · have hf := (if_pos c6).symm.trans hf
      exact tK_isZeroOrOne_9 C0 hK hA _ _ ls hf (lv_sub hl [] rfl) hP hD hS
theorem dK_own_0 : decode cK_own 0 = .ok (.aload_n 0, 1) := by decide +kernel
theorem dK_own_1 : decode cK_own 1 = .ok (.aload_n 0, 1) := by decide +kernel
theorem dK_own_2 : decode cK_own 2 = .ok (.getfield 9, 3) := by decide +kernel
theorem dK_own_5 : decode cK_own 5 = .ok (.iload_n 1, 1) := by decide +kernel
theorem dK_own_6 : decode cK_own 6 = .ok (.invokevirtual 89, 3) := by decide +kernel
theorem dK_own_9 : decode cK_own 9 = .ok (.ireturn, 1) := by decide +kernel
set_option maxHeartbeats 4000000 in
set_option maxRecDepth 100000 in
theorem mK_own (l : Launch) (D : va_G) (q : Nat → Nat) (k : kK) (cI cJ : ClassId) (sz : Nat) (σ : sK) (x1 : Int32) (r : Int32) (hf : fK_own k σ x1 = some r) : Met l yK_own (.code yK_own cK_own 2 (some .int) :: TK) ({ frames := 1, cells := 0, slots := 0, locals := 22 }) (kPre D cl0 [(cI, .int), (cJ, .long)] (wdK q k cI cJ) sz σ [.ref (q 0), .int x1]) (kQi D cl0 [(cI, .int), (cJ, .long)] (wdK q k cI cJ) (va_A (wdK q k cI cJ σ) sz) r σ) 0 0 (va_A (wdK q k cI cJ σ) sz) := by
  refine kr_start (own := RK) (by decide) rfl (Nat.le_of_ble_eq_true rfl) ?_
  intro p e s m args below meth c ls C0 hsz hK hP hD hl
  subst hsz
  obtain ⟨hx, hb, hr, hml, hown, hts, hlocks⟩ := id C0
  have hA : ∀ z : Nat, s.heap.size ≤ z → va_A (wdK q k cI cJ σ) s.heap.size z := fun z h => Or.inr h
  generalize va_A (wdK q k cI cJ σ) s.heap.size = A at hD hA ⊢
  have hS : va_S A s.heap s.heap [] := va_S.rf
  have hl : lv_has ls 2 [(0, .ref (q 0)), (1, .int x1)] := hl
  unfold fK_own at hf
  refine lv_aload_n hx hb dK_own_0 rfl (lv_at hl 0 rfl) ?_
  refine lv_aload_n hx hb dK_own_1 rfl (lv_at hl 0 rfl) ?_
  refine gK_chosenRow hx hb hown hts hK hP dK_own_2 ?_
  refine lv_iload_n hx hb dK_own_5 rfl (lv_at hl 1 rfl) ?_
  obtain ⟨v6, ev6, hf⟩ := kb1 hf
  refine kr_callVi (av := [.int (sK_chosenRow σ), .int x1]) ⟨hx, hb, hml, hown, hts⟩ (mK_sizeIn l D q k cI cJ _ σ (sK_chosenRow σ) x1 v6 ev6) (cwV 2 hts (kgood_V TK_good (by decide +kernel)) rfl rfl rfl (by decide +kernel) ⟨Nat.le_of_ble_eq_true rfl, Nat.le_of_ble_eq_true rfl⟩) hK hP hD hS hA (ci := 0) (q0 := 0) rfl rfl rfl hl.1 rfl (Nat.le_of_ble_eq_true rfl) dK_own_6 ⟨Nat.le_of_ble_eq_true rfl, Nat.le_of_ble_eq_true rfl⟩ (fun H locs hP hD hS => ?_)
  exact kr_iret C0 hK hP hD hS (Option.some.inj hf) rfl dK_own_9
theorem dK_sourceOf_0 : decode cK_sourceOf 0 = .ok (.aload_n 0, 1) := by decide +kernel
theorem dK_sourceOf_1 : decode cK_sourceOf 1 = .ok (.iload_n 1, 1) := by decide +kernel
theorem dK_sourceOf_2 : decode cK_sourceOf 2 = .ok (.invokevirtual 112, 3) := by decide +kernel
theorem dK_sourceOf_5 : decode cK_sourceOf 5 = .ok (.ifCond .le (5), 3) := by decide +kernel
theorem dK_sourceOf_8 : decode cK_sourceOf 8 = .ok (.iload_n 1, 1) := by decide +kernel
theorem dK_sourceOf_9 : decode cK_sourceOf 9 = .ok (.ireturn, 1) := by decide +kernel
theorem dK_sourceOf_10 : decode cK_sourceOf 10 = .ok (.aload_n 0, 1) := by decide +kernel
theorem dK_sourceOf_11 : decode cK_sourceOf 11 = .ok (.getfield 48, 3) := by decide +kernel
theorem dK_sourceOf_14 : decode cK_sourceOf 14 = .ok (.iload_n 1, 1) := by decide +kernel
theorem dK_sourceOf_15 : decode cK_sourceOf 15 = .ok (.iaload, 1) := by decide +kernel
theorem dK_sourceOf_16 : decode cK_sourceOf 16 = .ok (.istore_n 2, 1) := by decide +kernel
theorem dK_sourceOf_17 : decode cK_sourceOf 17 = .ok (.iload_n 2, 1) := by decide +kernel
theorem dK_sourceOf_18 : decode cK_sourceOf 18 = .ok (.iconst (-1), 1) := by decide +kernel
theorem dK_sourceOf_19 : decode cK_sourceOf 19 = .ok (.if_icmp .eq (15), 3) := by decide +kernel
theorem dK_sourceOf_22 : decode cK_sourceOf 22 = .ok (.aload_n 0, 1) := by decide +kernel
theorem dK_sourceOf_23 : decode cK_sourceOf 23 = .ok (.iload_n 2, 1) := by decide +kernel
theorem dK_sourceOf_24 : decode cK_sourceOf 24 = .ok (.invokevirtual 112, 3) := by decide +kernel
theorem dK_sourceOf_27 : decode cK_sourceOf 27 = .ok (.ifCond .le (7), 3) := by decide +kernel
theorem dK_sourceOf_30 : decode cK_sourceOf 30 = .ok (.iload_n 2, 1) := by decide +kernel
theorem dK_sourceOf_31 : decode cK_sourceOf 31 = .ok (.goto (4), 3) := by decide +kernel
theorem dK_sourceOf_34 : decode cK_sourceOf 34 = .ok (.iconst (-1), 1) := by decide +kernel
theorem dK_sourceOf_35 : decode cK_sourceOf 35 = .ok (.ireturn, 1) := by decide +kernel
set_option maxHeartbeats 4000000 in
set_option maxRecDepth 100000 in
theorem mK_sourceOf (l : Launch) (D : va_G) (q : Nat → Nat) (k : kK) (cI cJ : ClassId) (sz : Nat) (σ : sK) (x1 : Int32) (r : Int32) (hf : fK_sourceOf k σ x1 = some r) : Met l yK_sourceOf (.code yK_sourceOf cK_sourceOf 3 (some .int) :: TK) ({ frames := 2, cells := 0, slots := 0, locals := 43 }) (kPre D cl0 [(cI, .int), (cJ, .long)] (wdK q k cI cJ) sz σ [.ref (q 0), .int x1]) (kQi D cl0 [(cI, .int), (cJ, .long)] (wdK q k cI cJ) (va_A (wdK q k cI cJ σ) sz) r σ) 0 0 (va_A (wdK q k cI cJ σ) sz) := by
  refine kr_start (own := RK) (by decide) rfl (Nat.le_of_ble_eq_true rfl) ?_
  intro p e s m args below meth c ls C0 hsz hK hP hD hl
  subst hsz
  obtain ⟨hx, hb, hr, hml, hown, hts, hlocks⟩ := id C0
  have hA : ∀ z : Nat, s.heap.size ≤ z → va_A (wdK q k cI cJ σ) s.heap.size z := fun z h => Or.inr h
  generalize va_A (wdK q k cI cJ σ) s.heap.size = A at hD hA ⊢
  have hS : va_S A s.heap s.heap [] := va_S.rf
  have hl : lv_has ls 3 [(0, .ref (q 0)), (1, .int x1)] := hl
  unfold fK_sourceOf at hf
  refine lv_aload_n hx hb dK_sourceOf_0 rfl (lv_at hl 0 rfl) ?_
  refine lv_iload_n hx hb dK_sourceOf_1 rfl (lv_at hl 1 rfl) ?_
  obtain ⟨v2, ev2, hf⟩ := kb1 hf
  refine kr_callVi (av := [.int x1]) ⟨hx, hb, hml, hown, hts⟩ (mK_own l D q k cI cJ _ σ x1 v2 ev2) (cwV 1 hts (kgood_V TK_good (by decide +kernel)) rfl rfl rfl (by decide +kernel) ⟨Nat.le_of_ble_eq_true rfl, Nat.le_of_ble_eq_true rfl⟩) hK hP hD hS hA (ci := 0) (q0 := 0) rfl rfl rfl hl.1 rfl (Nat.le_of_ble_eq_true rfl) dK_sourceOf_2 ⟨Nat.le_of_ble_eq_true rfl, Nat.le_of_ble_eq_true rfl⟩ (fun H locs hP hD hS => ?_)
  refine lv_if_le (tgt := 10) hx hb dK_sourceOf_5 (by decide) (fun c5 => ?_) (fun c5 => ?_)
  · have hf := (if_pos c5).symm.trans hf
    refine lv_aload_n hx hb dK_sourceOf_10 rfl (lv_at hl 0 rfl) ?_
    refine gK_filledBy hx hb hown hts hK hP dK_sourceOf_11 ?_
    refine lv_iload_n hx hb dK_sourceOf_14 rfl (lv_at hl 1 rfl) ?_
    obtain ⟨v15, ev15, hf⟩ := kb1 hf
    refine kr_iaload hx hb hK hP 6 0 rfl rfl ev15 dK_sourceOf_15 ?_
    refine lv_istore_n (lv' := [(2, .int v15), (0, .ref (q 0)), (1, .int x1)]) hx hb dK_sourceOf_16 rfl hl (by decide) rfl (fun ls hl => ?_)
    refine lv_iload_n hx hb dK_sourceOf_17 rfl (lv_at hl 0 rfl) ?_
    refine lv_iconst (v := (-1)) hx hb dK_sourceOf_18 (by decide) ?_
    refine lv_icmp_eq (tgt := 34) hx hb dK_sourceOf_19 (by decide) (fun c19 => ?_) (fun c19 => ?_)
    · have hf := (if_pos c19).symm.trans hf
      refine lv_iconst (v := (-1)) hx hb dK_sourceOf_34 (by decide) ?_
      exact kr_iret C0 hK hP hD hS (Option.some.inj hf) rfl dK_sourceOf_35
    · have hf := (if_neg c19).symm.trans hf
      refine lv_aload_n hx hb dK_sourceOf_22 rfl (lv_at hl 1 rfl) ?_
      refine lv_iload_n hx hb dK_sourceOf_23 rfl (lv_at hl 0 rfl) ?_
      obtain ⟨v24, ev24, hf⟩ := kb1 hf
      refine kr_callVi (av := [.int v15]) ⟨hx, hb, hml, hown, hts⟩ (mK_own l D q k cI cJ _ σ v15 v24 ev24) (cwV 1 hts (kgood_V TK_good (by decide +kernel)) rfl rfl rfl (by decide +kernel) ⟨Nat.le_of_ble_eq_true rfl, Nat.le_of_ble_eq_true rfl⟩) hK hP hD hS hA (ci := 0) (q0 := 0) rfl rfl rfl hl.1 rfl (Nat.le_of_ble_eq_true rfl) dK_sourceOf_24 ⟨Nat.le_of_ble_eq_true rfl, Nat.le_of_ble_eq_true rfl⟩ (fun H locs hP hD hS => ?_)
      refine lv_if_le (tgt := 34) hx hb dK_sourceOf_27 (by decide) (fun c27 => ?_) (fun c27 => ?_)
      · have hf := (if_pos c27).symm.trans hf
        refine lv_iconst (v := (-1)) hx hb dK_sourceOf_34 (by decide) ?_
        exact kr_iret C0 hK hP hD hS (Option.some.inj hf) rfl dK_sourceOf_35
      · have hf := (if_neg c27).symm.trans hf
        refine lv_iload_n hx hb dK_sourceOf_30 rfl (lv_at hl 0 rfl) ?_
        refine lv_goto (tgt := 35) hx hb dK_sourceOf_31 (by decide) ?_
        exact kr_iret C0 hK hP hD hS (Option.some.inj hf) rfl dK_sourceOf_35
  · have hf := (if_neg c5).symm.trans hf
    refine lv_iload_n hx hb dK_sourceOf_8 rfl (lv_at hl 1 rfl) ?_
    exact kr_iret C0 hK hP hD hS (Option.some.inj hf) rfl dK_sourceOf_9
theorem dK_ownOfAge_0 : decode cK_ownOfAge 0 = .ok (.aload_n 0, 1) := by decide +kernel
theorem dK_ownOfAge_1 : decode cK_ownOfAge 1 = .ok (.getfield 39, 3) := by decide +kernel
theorem dK_ownOfAge_4 : decode cK_ownOfAge 4 = .ok (.aload_n 0, 1) := by decide +kernel
theorem dK_ownOfAge_5 : decode cK_ownOfAge 5 = .ok (.aload_n 0, 1) := by decide +kernel
theorem dK_ownOfAge_6 : decode cK_ownOfAge 6 = .ok (.getfield 9, 3) := by decide +kernel
theorem dK_ownOfAge_9 : decode cK_ownOfAge 9 = .ok (.iload_n 1, 1) := by decide +kernel
theorem dK_ownOfAge_10 : decode cK_ownOfAge 10 = .ok (.iload_n 2, 1) := by decide +kernel
theorem dK_ownOfAge_11 : decode cK_ownOfAge 11 = .ok (.invokevirtual 96, 3) := by decide +kernel
theorem dK_ownOfAge_14 : decode cK_ownOfAge 14 = .ok (.iaload, 1) := by decide +kernel
theorem dK_ownOfAge_15 : decode cK_ownOfAge 15 = .ok (.ireturn, 1) := by decide +kernel
set_option maxHeartbeats 4000000 in
set_option maxRecDepth 100000 in
theorem mK_ownOfAge (l : Launch) (D : va_G) (q : Nat → Nat) (k : kK) (cI cJ : ClassId) (sz : Nat) (σ : sK) (x1 : Int32) (x2 : Int32) (r : Int32) (hf : fK_ownOfAge k σ x1 x2 = some r) : Met l yK_ownOfAge (.code yK_ownOfAge cK_ownOfAge 3 (some .int) :: TK) ({ frames := 1, cells := 0, slots := 0, locals := 23 }) (kPre D cl0 [(cI, .int), (cJ, .long)] (wdK q k cI cJ) sz σ [.ref (q 0), .int x1, .int x2]) (kQi D cl0 [(cI, .int), (cJ, .long)] (wdK q k cI cJ) (va_A (wdK q k cI cJ σ) sz) r σ) 0 0 (va_A (wdK q k cI cJ σ) sz) := by
  refine kr_start (own := RK) (by decide) rfl (Nat.le_of_ble_eq_true rfl) ?_
  intro p e s m args below meth c ls C0 hsz hK hP hD hl
  subst hsz
  obtain ⟨hx, hb, hr, hml, hown, hts, hlocks⟩ := id C0
  have hA : ∀ z : Nat, s.heap.size ≤ z → va_A (wdK q k cI cJ σ) s.heap.size z := fun z h => Or.inr h
  generalize va_A (wdK q k cI cJ σ) s.heap.size = A at hD hA ⊢
  have hS : va_S A s.heap s.heap [] := va_S.rf
  have hl : lv_has ls 3 [(0, .ref (q 0)), (1, .int x1), (2, .int x2)] := hl
  unfold fK_ownOfAge at hf
  refine lv_aload_n hx hb dK_ownOfAge_0 rfl (lv_at hl 0 rfl) ?_
  refine gK_groupReadings hx hb hown hts hK hP dK_ownOfAge_1 ?_
  refine lv_aload_n hx hb dK_ownOfAge_4 rfl (lv_at hl 0 rfl) ?_
  refine lv_aload_n hx hb dK_ownOfAge_5 rfl (lv_at hl 0 rfl) ?_
  refine gK_chosenRow hx hb hown hts hK hP dK_ownOfAge_6 ?_
  refine lv_iload_n hx hb dK_ownOfAge_9 rfl (lv_at hl 1 rfl) ?_
  refine lv_iload_n hx hb dK_ownOfAge_10 rfl (lv_at hl 2 rfl) ?_
  refine kr_callVi (av := [.int (sK_chosenRow σ), .int x1, .int x2]) ⟨hx, hb, hml, hown, hts⟩ (mK_cell l D q k cI cJ _ σ (sK_chosenRow σ) x1 x2 _ rfl) (cwV 3 hts (kgood_V TK_good (by decide +kernel)) rfl rfl rfl (by decide +kernel) ⟨Nat.le_of_ble_eq_true rfl, Nat.le_of_ble_eq_true rfl⟩) hK hP hD hS hA (ci := 0) (q0 := 0) rfl rfl rfl hl.1 rfl (Nat.le_of_ble_eq_true rfl) dK_ownOfAge_11 ⟨Nat.le_of_ble_eq_true rfl, Nat.le_of_ble_eq_true rfl⟩ (fun H locs hP hD hS => ?_)
  obtain ⟨v14, ev14, hf⟩ := kb1 hf
  refine kr_iaload hx hb hK hP 3 0 rfl rfl ev14 dK_ownOfAge_14 ?_
  exact kr_iret C0 hK hP hD hS (Option.some.inj hf) rfl dK_ownOfAge_15
theorem dK_commonDivisor_0 : decode cK_commonDivisor 0 = .ok (.lload_n 0, 1) := by decide +kernel
theorem dK_commonDivisor_1 : decode cK_commonDivisor 1 = .ok (.lstore 4, 2) := by decide +kernel
theorem dK_commonDivisor_3 : decode cK_commonDivisor 3 = .ok (.lload_n 2, 1) := by decide +kernel
theorem dK_commonDivisor_4 : decode cK_commonDivisor 4 = .ok (.lstore 6, 2) := by decide +kernel
theorem dK_commonDivisor_6 : decode cK_commonDivisor 6 = .ok (.iconst 0, 1) := by decide +kernel
theorem dK_commonDivisor_7 : decode cK_commonDivisor 7 = .ok (.istore 8, 2) := by decide +kernel
theorem dK_commonDivisor_9 : decode cK_commonDivisor 9 = .ok (.iload 8, 2) := by decide +kernel
theorem dK_commonDivisor_11 : decode cK_commonDivisor 11 = .ok (.bipush (100), 2) := by decide +kernel
theorem dK_commonDivisor_13 : decode cK_commonDivisor 13 = .ok (.if_icmp .ge (31), 3) := by decide +kernel
theorem dK_commonDivisor_16 : decode cK_commonDivisor 16 = .ok (.lload 6, 2) := by decide +kernel
theorem dK_commonDivisor_18 : decode cK_commonDivisor 18 = .ok (.lconst 0, 1) := by decide +kernel
theorem dK_commonDivisor_19 : decode cK_commonDivisor 19 = .ok (.lcmp, 1) := by decide +kernel
theorem dK_commonDivisor_20 : decode cK_commonDivisor 20 = .ok (.ifCond .eq (24), 3) := by decide +kernel
theorem dK_commonDivisor_23 : decode cK_commonDivisor 23 = .ok (.lload 4, 2) := by decide +kernel
theorem dK_commonDivisor_25 : decode cK_commonDivisor 25 = .ok (.lload 6, 2) := by decide +kernel
theorem dK_commonDivisor_27 : decode cK_commonDivisor 27 = .ok (.lrem, 1) := by decide +kernel
theorem dK_commonDivisor_28 : decode cK_commonDivisor 28 = .ok (.lstore 9, 2) := by decide +kernel
theorem dK_commonDivisor_30 : decode cK_commonDivisor 30 = .ok (.lload 6, 2) := by decide +kernel
theorem dK_commonDivisor_32 : decode cK_commonDivisor 32 = .ok (.lstore 4, 2) := by decide +kernel
theorem dK_commonDivisor_34 : decode cK_commonDivisor 34 = .ok (.lload 9, 2) := by decide +kernel
theorem dK_commonDivisor_36 : decode cK_commonDivisor 36 = .ok (.lstore 6, 2) := by decide +kernel
theorem dK_commonDivisor_38 : decode cK_commonDivisor 38 = .ok (.iinc 8 (1), 3) := by decide +kernel
theorem dK_commonDivisor_41 : decode cK_commonDivisor 41 = .ok (.goto (-32), 3) := by decide +kernel
theorem dK_commonDivisor_44 : decode cK_commonDivisor 44 = .ok (.lload 4, 2) := by decide +kernel
theorem dK_commonDivisor_46 : decode cK_commonDivisor 46 = .ok (.lreturn, 1) := by decide +kernel
set_option maxHeartbeats 4000000 in
set_option maxRecDepth 100000 in
theorem tK_commonDivisor_9 {p : Program} {l : Launch} {e : Env} {s : State} {m : MethodId} {args : Array Value} {below : List Frame} {meth : Method} {c : Code} {D : va_G} {A : Nat → Prop} {S : Type} {wd : S → va_W} {tys : List (ClassId × FieldType)} {cl : List vw_C} {r : Int64} {σ : S} {fu : Nat} (C0 : Cx p s m args meth c cK_commonDivisor 11 (some .long) RK TK) (hK : va_K D cl tys s) (hA : ∀ z, s.heap.size ≤ z → A z) : ∀ n : Nat, ∀ (x4 : Int64) (x6 : Int64) (x8 : Int32)(H : Heap) (locs : List Loc) (ls : Array Slot), fK_commonDivisor_9 fu n x4 x6 x8 = some r → lv_has ls 11 [(4, .long x4), (6, .long x6), (8, .int x8)] → va_P D cl (wd σ) H → va_D A (wd σ) → va_S A s.heap H locs → W p l e ({ frames := 0, cells := 0, slots := 0, locals := 0 }) s m args below meth c H locs 0 0 (MQ below (kQl D cl tys wd A r σ) args s 0 0 A) (F0 m 9 ls []) := by
  obtain ⟨hx, hb, hr, hml, hown, hts, hlocks⟩ := id C0
  intro n
  induction n with
  | zero =>
    intro x4 x6 x8 H locs ls hf hl hP hD hS
    cases hf
  | succ n ih =>
    intro x4 x6 x8 H locs ls hf hl hP hD hS
    rw [fK_commonDivisor_9] at hf
    refine lv_iload hx hb dK_commonDivisor_9 (lv_at hl 2 rfl) ?_
    refine lv_bipush (v := 100) hx hb dK_commonDivisor_11 (by decide) ?_
    refine lv_icmp_ge (tgt := 44) hx hb dK_commonDivisor_13 (by decide) (fun c13 => ?_) (fun c13 => ?_)
    · have hf := (if_pos c13).symm.trans hf
      refine lv_lload hx hb dK_commonDivisor_44 (lv_at hl 0 rfl) ?_
      exact kr_lret C0 hK hP hD hS (Option.some.inj hf) rfl dK_commonDivisor_46
    · have hf := (if_neg c13).symm.trans hf
      refine lv_lload hx hb dK_commonDivisor_16 (lv_at hl 1 rfl) ?_
      refine lv_lconst (v := 0) hx hb dK_commonDivisor_18 (by decide) ?_
      refine W.lcmp hx hb dK_commonDivisor_19 ?_
      refine lv_if_eq (tgt := 44) hx hb dK_commonDivisor_20 (by decide) (fun c19 => ?_) (fun c19 => ?_)
      · rw [lg_cmp_eq] at c19
        have hf := (if_pos c19).symm.trans hf
        refine lv_lload hx hb dK_commonDivisor_44 (lv_at hl 0 rfl) ?_
        exact kr_lret C0 hK hP hD hS (Option.some.inj hf) rfl dK_commonDivisor_46
      · rw [lg_cmp_eq] at c19
        have hf := (if_neg c19).symm.trans hf
        refine lv_lload hx hb dK_commonDivisor_23 (lv_at hl 0 rfl) ?_
        refine lv_lload hx hb dK_commonDivisor_25 (lv_at hl 1 rfl) ?_
        obtain ⟨v27, ev27, hf⟩ := kb1 hf
        refine kr_lrem hx hb ev27 dK_commonDivisor_27 ?_
        refine lv_lstore (lv' := [(9, .long v27), (4, .long x4), (6, .long x6), (8, .int x8)]) hx hb dK_commonDivisor_28 hl (by decide) rfl (fun ls hl => ?_)
        refine lv_lload hx hb dK_commonDivisor_30 (lv_at hl 2 rfl) ?_
        refine lv_lstore (lv' := [(4, .long x6), (9, .long v27), (6, .long x6), (8, .int x8)]) hx hb dK_commonDivisor_32 hl (by decide) rfl (fun ls hl => ?_)
        refine lv_lload hx hb dK_commonDivisor_34 (lv_at hl 1 rfl) ?_
        refine lv_lstore (lv' := [(6, .long v27), (4, .long x6), (9, .long v27), (8, .int x8)]) hx hb dK_commonDivisor_36 hl (by decide) rfl (fun ls hl => ?_)
        refine lv_iinc (v := (x8 + 1)) (lv' := [(8, .int (x8 + 1)), (6, .long v27), (4, .long x6), (9, .long v27)]) hx hb dK_commonDivisor_38 hl (k := 3) rfl rfl (by decide) rfl (fun ls hl => ?_)
        refine lv_goto (tgt := 9) hx hb dK_commonDivisor_41 (by decide) ?_
        exact ih x6 v27 (x8 + 1) _ _ ls hf (lv_sub hl [2, 1, 0] rfl) hP hD hS
set_option maxHeartbeats 4000000 in
set_option maxRecDepth 100000 in
theorem mK_commonDivisor (l : Launch) (D : va_G) (S : Type) (wd : S → va_W) (tys : List (ClassId × FieldType)) (cl : List vw_C) (sz : Nat) (fu : Nat) (σ : S) (x0 : Int64) (x2 : Int64) (r : Int64) (hf : fK_commonDivisor fu x0 x2 = some r) : Met l yK_commonDivisor (.code yK_commonDivisor cK_commonDivisor 11 (some .long) :: TK) ({ frames := 0, cells := 0, slots := 0, locals := 0 }) (kPre D cl tys wd sz σ [.long x0, .long x2]) (kQl D cl tys wd (va_A (wd σ) sz) r σ) 0 0 (va_A (wd σ) sz) := by
  refine kr_start (own := RK) (by decide) rfl (Nat.le_of_ble_eq_true rfl) ?_
  intro p e s m args below meth c ls C0 hsz hK hP hD hl
  subst hsz
  obtain ⟨hx, hb, hr, hml, hown, hts, hlocks⟩ := id C0
  have hA : ∀ z : Nat, s.heap.size ≤ z → va_A (wd σ) s.heap.size z := fun z h => Or.inr h
  generalize va_A (wd σ) s.heap.size = A at hD hA ⊢
  have hS : va_S A s.heap s.heap [] := va_S.rf
  have hl : lv_has ls 11 [(0, .long x0), (2, .long x2)] := hl
  unfold fK_commonDivisor at hf
  refine lv_lload_n hx hb dK_commonDivisor_0 rfl (lv_at hl 0 rfl) ?_
  refine lv_lstore (lv' := [(4, .long x0), (0, .long x0), (2, .long x2)]) hx hb dK_commonDivisor_1 hl (by decide) rfl (fun ls hl => ?_)
  refine lv_lload_n hx hb dK_commonDivisor_3 rfl (lv_at hl 2 rfl) ?_
  refine lv_lstore (lv' := [(6, .long x2), (4, .long x0), (0, .long x0), (2, .long x2)]) hx hb dK_commonDivisor_4 hl (by decide) rfl (fun ls hl => ?_)
  refine lv_iconst (v := 0) hx hb dK_commonDivisor_6 (by decide) ?_
  refine lv_istore (lv' := [(8, .int 0), (6, .long x2), (4, .long x0), (0, .long x0), (2, .long x2)]) hx hb dK_commonDivisor_7 hl (by decide) rfl (fun ls hl => ?_)
  exact tK_commonDivisor_9 C0 hK hA fu x0 x2 0 _ _ ls hf (lv_sub hl [2, 1, 0] rfl) hP hD hS
theorem dK_fractionPart_0 : decode cK_fractionPart 0 = .ok (.lload_n 0, 1) := by decide +kernel
theorem dK_fractionPart_1 : decode cK_fractionPart 1 = .ok (.invokestatic 199, 3) := by decide +kernel
theorem dK_fractionPart_4 : decode cK_fractionPart 4 = .ok (.lload_n 2, 1) := by decide +kernel
theorem dK_fractionPart_5 : decode cK_fractionPart 5 = .ok (.invokestatic 202, 3) := by decide +kernel
theorem dK_fractionPart_8 : decode cK_fractionPart 8 = .ok (.lstore 5, 2) := by decide +kernel
theorem dK_fractionPart_10 : decode cK_fractionPart 10 = .ok (.lload 5, 2) := by decide +kernel
theorem dK_fractionPart_12 : decode cK_fractionPart 12 = .ok (.lconst 0, 1) := by decide +kernel
theorem dK_fractionPart_13 : decode cK_fractionPart 13 = .ok (.lcmp, 1) := by decide +kernel
theorem dK_fractionPart_14 : decode cK_fractionPart 14 = .ok (.ifCond .gt (7), 3) := by decide +kernel
theorem dK_fractionPart_17 : decode cK_fractionPart 17 = .ok (.ldc2_w 103, 3) := by decide +kernel
theorem dK_fractionPart_20 : decode cK_fractionPart 20 = .ok (.lreturn, 1) := by decide +kernel
theorem dK_fractionPart_21 : decode cK_fractionPart 21 = .ok (.iload 4, 2) := by decide +kernel
theorem dK_fractionPart_23 : decode cK_fractionPart 23 = .ok (.ifCond .ne (7), 3) := by decide +kernel
theorem dK_fractionPart_26 : decode cK_fractionPart 26 = .ok (.lload_n 0, 1) := by decide +kernel
theorem dK_fractionPart_27 : decode cK_fractionPart 27 = .ok (.goto (4), 3) := by decide +kernel
theorem dK_fractionPart_30 : decode cK_fractionPart 30 = .ok (.lload_n 2, 1) := by decide +kernel
theorem dK_fractionPart_31 : decode cK_fractionPart 31 = .ok (.lload 5, 2) := by decide +kernel
theorem dK_fractionPart_33 : decode cK_fractionPart 33 = .ok (.ldiv, 1) := by decide +kernel
theorem dK_fractionPart_34 : decode cK_fractionPart 34 = .ok (.lreturn, 1) := by decide +kernel
set_option maxHeartbeats 4000000 in
set_option maxRecDepth 100000 in
theorem mK_fractionPart (l : Launch) (D : va_G) (S : Type) (wd : S → va_W) (tys : List (ClassId × FieldType)) (cl : List vw_C) (sz : Nat) (fu : Nat) (σ : S) (x0 : Int64) (x2 : Int64) (x4 : Int32) (r : Int64) (hf : fK_fractionPart fu x0 x2 x4 = some r) : Met l yK_fractionPart (.code yK_fractionPart cK_fractionPart 7 (some .long) :: TK) ({ frames := 1, cells := 0, slots := 0, locals := 30 }) (kPre D cl tys wd sz σ [.long x0, .long x2, .int x4]) (kQl D cl tys wd (va_A (wd σ) sz) r σ) 0 0 (va_A (wd σ) sz) := by
  refine kr_start (own := RK) (by decide) rfl (Nat.le_of_ble_eq_true rfl) ?_
  intro p e s m args below meth c ls C0 hsz hK hP hD hl
  subst hsz
  obtain ⟨hx, hb, hr, hml, hown, hts, hlocks⟩ := id C0
  have hA : ∀ z : Nat, s.heap.size ≤ z → va_A (wd σ) s.heap.size z := fun z h => Or.inr h
  generalize va_A (wd σ) s.heap.size = A at hD hA ⊢
  have hS : va_S A s.heap s.heap [] := va_S.rf
  have hl : lv_has ls 7 [(0, .long x0), (2, .long x2), (4, .int x4)] := hl
  unfold fK_fractionPart at hf
  refine lv_lload_n hx hb dK_fractionPart_0 rfl (lv_at hl 0 rfl) ?_
  refine va_mabs_long hx hb (hml.trans hl.1.symm) hown (hts (.methodLink RK 199 Lib.MathLoose.abs_long.x) (by decide +kernel)) (hts (.static Lib.MathLoose.abs_long.x) (by decide +kernel)) (hts (.initialized "java/lang/Math") (by decide +kernel)) (hts (.code Lib.MathLoose.abs_long.x Lib.MathLoose.abs_long.code 2 (some .long)) (by decide +kernel)) (Nat.le_of_ble_eq_true rfl) (Nat.le_of_ble_eq_true rfl) (Nat.le_of_ble_eq_true rfl) (Nat.le_of_ble_eq_true rfl) dK_fractionPart_1 ?_
  refine lv_lload_n hx hb dK_fractionPart_4 rfl (lv_at hl 1 rfl) ?_
  obtain ⟨v5, ev5, hf⟩ := kb1 hf
  refine kr_callSl (av := [.long (if 0 < x0 then x0 else -x0), .long x2]) ⟨hx, hb, hml, hown, hts⟩ (mK_commonDivisor l D _ wd tys cl _ fu σ (if 0 < x0 then x0 else -x0) x2 v5 ev5) (cwS 2 hts (kgood_S TK_good (by decide +kernel)) rfl rfl rfl (by decide +kernel) ⟨Nat.le_of_ble_eq_true rfl, Nat.le_of_ble_eq_true rfl⟩) hK hP hD hS hA rfl hl.1 rfl (Nat.le_of_ble_eq_true rfl) dK_fractionPart_5 ⟨Nat.le_of_ble_eq_true rfl, Nat.le_of_ble_eq_true rfl⟩ (fun H locs hP hD hS => ?_)
  refine lv_lstore (lv' := [(5, .long v5), (0, .long x0), (2, .long x2), (4, .int x4)]) hx hb dK_fractionPart_8 hl (by decide) rfl (fun ls hl => ?_)
  refine lv_lload hx hb dK_fractionPart_10 (lv_at hl 0 rfl) ?_
  refine lv_lconst (v := 0) hx hb dK_fractionPart_12 (by decide) ?_
  refine W.lcmp hx hb dK_fractionPart_13 ?_
  refine lv_if_gt (tgt := 21) hx hb dK_fractionPart_14 (by decide) (fun c13 => ?_) (fun c13 => ?_)
  · rw [lg_cmp_gt] at c13
    have hf := (if_pos c13).symm.trans hf
    refine lv_iload hx hb dK_fractionPart_21 (lv_at hl 3 rfl) ?_
    refine lv_if_ne (tgt := 30) hx hb dK_fractionPart_23 (by decide) (fun c23 => ?_) (fun c23 => ?_)
    · have hf := (if_neg c23).symm.trans hf
      refine lv_lload_n hx hb dK_fractionPart_30 rfl (lv_at hl 2 rfl) ?_
      refine lv_lload hx hb dK_fractionPart_31 (lv_at hl 0 rfl) ?_
      obtain ⟨v33, ev33, hf⟩ := kb1 hf
      refine kr_ldiv hx hb ev33 dK_fractionPart_33 ?_
      exact kr_lret C0 hK hP hD hS (Option.some.inj hf) rfl dK_fractionPart_34
    · have hf := (if_pos c23).symm.trans hf
      refine lv_lload_n hx hb dK_fractionPart_26 rfl (lv_at hl 1 rfl) ?_
      refine lv_goto (tgt := 31) hx hb dK_fractionPart_27 (by decide) ?_
      refine lv_lload hx hb dK_fractionPart_31 (lv_at hl 0 rfl) ?_
      obtain ⟨v33, ev33, hf⟩ := kb1 hf
      refine kr_ldiv hx hb ev33 dK_fractionPart_33 ?_
      exact kr_lret C0 hK hP hD hS (Option.some.inj hf) rfl dK_fractionPart_34
  · rw [lg_cmp_gt] at c13
    have hf := (if_neg c13).symm.trans hf
    refine lv_ldc2 (v := -1) hx hb hown (hts (.constantLong RK 103 (-1)) (by decide +kernel)) dK_fractionPart_17 ?_
    exact kr_lret C0 hK hP hD hS (Option.some.inj hf) rfl dK_fractionPart_20
theorem dK_share_0 : decode cK_share 0 = .ok (.aload_n 0, 1) := by decide +kernel
theorem dK_share_1 : decode cK_share 1 = .ok (.iload_n 1, 1) := by decide +kernel
theorem dK_share_2 : decode cK_share 2 = .ok (.invokevirtual 79, 3) := by decide +kernel
theorem dK_share_5 : decode cK_share 5 = .ok (.ifCond .eq (18), 3) := by decide +kernel
theorem dK_share_8 : decode cK_share 8 = .ok (.aload_n 0, 1) := by decide +kernel
theorem dK_share_9 : decode cK_share 9 = .ok (.iload_n 2, 1) := by decide +kernel
theorem dK_share_10 : decode cK_share 10 = .ok (.invokevirtual 83, 3) := by decide +kernel
theorem dK_share_13 : decode cK_share 13 = .ok (.ifCond .eq (10), 3) := by decide +kernel
theorem dK_share_16 : decode cK_share 16 = .ok (.iload_n 3, 1) := by decide +kernel
theorem dK_share_17 : decode cK_share 17 = .ok (.invokestatic 100, 3) := by decide +kernel
theorem dK_share_20 : decode cK_share 20 = .ok (.ifCond .ne (7), 3) := by decide +kernel
theorem dK_share_23 : decode cK_share 23 = .ok (.ldc2_w 103, 3) := by decide +kernel
theorem dK_share_26 : decode cK_share 26 = .ok (.lreturn, 1) := by decide +kernel
theorem dK_share_27 : decode cK_share 27 = .ok (.aload_n 0, 1) := by decide +kernel
theorem dK_share_28 : decode cK_share 28 = .ok (.aload_n 0, 1) := by decide +kernel
theorem dK_share_29 : decode cK_share 29 = .ok (.getfield 45, 3) := by decide +kernel
theorem dK_share_32 : decode cK_share 32 = .ok (.iload_n 1, 1) := by decide +kernel
theorem dK_share_33 : decode cK_share 33 = .ok (.iaload, 1) := by decide +kernel
theorem dK_share_34 : decode cK_share 34 = .ok (.invokevirtual 105, 3) := by decide +kernel
theorem dK_share_37 : decode cK_share 37 = .ok (.istore 4, 2) := by decide +kernel
theorem dK_share_39 : decode cK_share 39 = .ok (.iload 4, 2) := by decide +kernel
theorem dK_share_41 : decode cK_share 41 = .ok (.iconst (-1), 1) := by decide +kernel
theorem dK_share_42 : decode cK_share 42 = .ok (.if_icmp .ne (7), 3) := by decide +kernel
theorem dK_share_45 : decode cK_share 45 = .ok (.ldc2_w 103, 3) := by decide +kernel
theorem dK_share_48 : decode cK_share 48 = .ok (.lreturn, 1) := by decide +kernel
theorem dK_share_49 : decode cK_share 49 = .ok (.aload_n 0, 1) := by decide +kernel
theorem dK_share_50 : decode cK_share 50 = .ok (.iload 4, 2) := by decide +kernel
theorem dK_share_52 : decode cK_share 52 = .ok (.iload_n 2, 1) := by decide +kernel
theorem dK_share_53 : decode cK_share 53 = .ok (.invokevirtual 109, 3) := by decide +kernel
theorem dK_share_56 : decode cK_share 56 = .ok (.i2l, 1) := by decide +kernel
theorem dK_share_57 : decode cK_share 57 = .ok (.aload_n 0, 1) := by decide +kernel
theorem dK_share_58 : decode cK_share 58 = .ok (.iload 4, 2) := by decide +kernel
theorem dK_share_60 : decode cK_share 60 = .ok (.invokevirtual 112, 3) := by decide +kernel
theorem dK_share_63 : decode cK_share 63 = .ok (.i2l, 1) := by decide +kernel
theorem dK_share_64 : decode cK_share 64 = .ok (.iload_n 3, 1) := by decide +kernel
theorem dK_share_65 : decode cK_share 65 = .ok (.invokestatic 115, 3) := by decide +kernel
theorem dK_share_68 : decode cK_share 68 = .ok (.lreturn, 1) := by decide +kernel
set_option maxHeartbeats 4000000 in
set_option maxRecDepth 100000 in
theorem mK_share (l : Launch) (D : va_G) (q : Nat → Nat) (k : kK) (cI cJ : ClassId) (sz : Nat) (fu : Nat) (σ : sK) (x1 : Int32) (x2 : Int32) (x3 : Int32) (r : Int64) (hf : fK_share fu k σ x1 x2 x3 = some r) : Met l yK_share (.code yK_share cK_share 5 (some .long) :: TK) ({ frames := 3, cells := 0, slots := 0, locals := 65 }) (kPre D cl0 [(cI, .int), (cJ, .long)] (wdK q k cI cJ) sz σ [.ref (q 0), .int x1, .int x2, .int x3]) (kQl D cl0 [(cI, .int), (cJ, .long)] (wdK q k cI cJ) (va_A (wdK q k cI cJ σ) sz) r σ) 0 0 (va_A (wdK q k cI cJ σ) sz) := by
  refine kr_start (own := RK) (by decide) rfl (Nat.le_of_ble_eq_true rfl) ?_
  intro p e s m args below meth c ls C0 hsz hK hP hD hl
  subst hsz
  obtain ⟨hx, hb, hr, hml, hown, hts, hlocks⟩ := id C0
  have hA : ∀ z : Nat, s.heap.size ≤ z → va_A (wdK q k cI cJ σ) s.heap.size z := fun z h => Or.inr h
  generalize va_A (wdK q k cI cJ σ) s.heap.size = A at hD hA ⊢
  have hS : va_S A s.heap s.heap [] := va_S.rf
  have hl : lv_has ls 5 [(0, .ref (q 0)), (1, .int x1), (2, .int x2), (3, .int x3)] := hl
  unfold fK_share at hf
  refine lv_aload_n hx hb dK_share_0 rfl (lv_at hl 0 rfl) ?_
  refine lv_iload_n hx hb dK_share_1 rfl (lv_at hl 1 rfl) ?_
  refine kr_callVi (av := [.int x1]) ⟨hx, hb, hml, hown, hts⟩ (mK_isClass l D q k cI cJ _ σ x1 _ rfl) (cwV 1 hts (kgood_V TK_good (by decide +kernel)) rfl rfl rfl (by decide +kernel) ⟨Nat.le_of_ble_eq_true rfl, Nat.le_of_ble_eq_true rfl⟩) hK hP hD hS hA (ci := 0) (q0 := 0) rfl rfl rfl hl.1 rfl (Nat.le_of_ble_eq_true rfl) dK_share_2 ⟨Nat.le_of_ble_eq_true rfl, Nat.le_of_ble_eq_true rfl⟩ (fun H locs hP hD hS => ?_)
  refine lv_if_eq (tgt := 23) hx hb dK_share_5 (by decide) (fun c5 => ?_) (fun c5 => ?_)
  · have hf := (if_pos c5).symm.trans hf
    refine lv_ldc2 (v := -1) hx hb hown (hts (.constantLong RK 103 (-1)) (by decide +kernel)) dK_share_23 ?_
    exact kr_lret C0 hK hP hD hS (Option.some.inj hf) rfl dK_share_26
  · have hf := (if_neg c5).symm.trans hf
    refine lv_aload_n hx hb dK_share_8 rfl (lv_at hl 0 rfl) ?_
    refine lv_iload_n hx hb dK_share_9 rfl (lv_at hl 2 rfl) ?_
    refine kr_callVi (av := [.int x2]) ⟨hx, hb, hml, hown, hts⟩ (mK_isAge l D q k cI cJ _ σ x2 _ rfl) (cwV 1 hts (kgood_V TK_good (by decide +kernel)) rfl rfl rfl (by decide +kernel) ⟨Nat.le_of_ble_eq_true rfl, Nat.le_of_ble_eq_true rfl⟩) hK hP hD hS hA (ci := 0) (q0 := 0) rfl rfl rfl hl.1 rfl (Nat.le_of_ble_eq_true rfl) dK_share_10 ⟨Nat.le_of_ble_eq_true rfl, Nat.le_of_ble_eq_true rfl⟩ (fun H locs hP hD hS => ?_)
    refine lv_if_eq (tgt := 23) hx hb dK_share_13 (by decide) (fun c13 => ?_) (fun c13 => ?_)
    · have hf := (if_pos c13).symm.trans hf
      refine lv_ldc2 (v := -1) hx hb hown (hts (.constantLong RK 103 (-1)) (by decide +kernel)) dK_share_23 ?_
      exact kr_lret C0 hK hP hD hS (Option.some.inj hf) rfl dK_share_26
    · have hf := (if_neg c13).symm.trans hf
      refine lv_iload_n hx hb dK_share_16 rfl (lv_at hl 3 rfl) ?_
      refine kr_callSi (av := [.int x3]) ⟨hx, hb, hml, hown, hts⟩ (mK_isZeroOrOne l D _ (wdK q k cI cJ) [(cI, .int), (cJ, .long)] cl0 _ σ x3 _ rfl) (cwS 1 hts (kgood_S TK_good (by decide +kernel)) rfl rfl rfl (by decide +kernel) ⟨Nat.le_of_ble_eq_true rfl, Nat.le_of_ble_eq_true rfl⟩) hK hP hD hS hA rfl hl.1 rfl (Nat.le_of_ble_eq_true rfl) dK_share_17 ⟨Nat.le_of_ble_eq_true rfl, Nat.le_of_ble_eq_true rfl⟩ (fun H locs hP hD hS => ?_)
      refine lv_if_ne (tgt := 27) hx hb dK_share_20 (by decide) (fun c20 => ?_) (fun c20 => ?_)
      · have hf := (if_neg c20).symm.trans hf
        refine lv_aload_n hx hb dK_share_27 rfl (lv_at hl 0 rfl) ?_
        refine lv_aload_n hx hb dK_share_28 rfl (lv_at hl 0 rfl) ?_
        refine gK_groupOf hx hb hown hts hK hP dK_share_29 ?_
        refine lv_iload_n hx hb dK_share_32 rfl (lv_at hl 1 rfl) ?_
        obtain ⟨v33, ev33, hf⟩ := kb1 hf
        refine kr_iaload hx hb hK hP 5 0 rfl rfl ev33 dK_share_33 ?_
        obtain ⟨v34, ev34, hf⟩ := kb1 hf
        refine kr_callVi (av := [.int v33]) ⟨hx, hb, hml, hown, hts⟩ (mK_sourceOf l D q k cI cJ _ σ v33 v34 ev34) (cwV 1 hts (kgood_V TK_good (by decide +kernel)) rfl rfl rfl (by decide +kernel) ⟨Nat.le_of_ble_eq_true rfl, Nat.le_of_ble_eq_true rfl⟩) hK hP hD hS hA (ci := 0) (q0 := 0) rfl rfl rfl hl.1 rfl (Nat.le_of_ble_eq_true rfl) dK_share_34 ⟨Nat.le_of_ble_eq_true rfl, Nat.le_of_ble_eq_true rfl⟩ (fun H locs hP hD hS => ?_)
        refine lv_istore (lv' := [(4, .int v34), (0, .ref (q 0)), (1, .int x1), (2, .int x2), (3, .int x3)]) hx hb dK_share_37 hl (by decide) rfl (fun ls hl => ?_)
        refine lv_iload hx hb dK_share_39 (lv_at hl 0 rfl) ?_
        refine lv_iconst (v := (-1)) hx hb dK_share_41 (by decide) ?_
        refine lv_icmp_ne (tgt := 49) hx hb dK_share_42 (by decide) (fun c42 => ?_) (fun c42 => ?_)
        · have hf := (if_neg c42).symm.trans hf
          refine lv_aload_n hx hb dK_share_49 rfl (lv_at hl 1 rfl) ?_
          refine lv_iload hx hb dK_share_50 (lv_at hl 0 rfl) ?_
          refine lv_iload_n hx hb dK_share_52 rfl (lv_at hl 3 rfl) ?_
          obtain ⟨v53, ev53, hf⟩ := kb1 hf
          refine kr_callVi (av := [.int v34, .int x2]) ⟨hx, hb, hml, hown, hts⟩ (mK_ownOfAge l D q k cI cJ _ σ v34 x2 v53 ev53) (cwV 2 hts (kgood_V TK_good (by decide +kernel)) rfl rfl rfl (by decide +kernel) ⟨Nat.le_of_ble_eq_true rfl, Nat.le_of_ble_eq_true rfl⟩) hK hP hD hS hA (ci := 0) (q0 := 0) rfl rfl rfl hl.1 rfl (Nat.le_of_ble_eq_true rfl) dK_share_53 ⟨Nat.le_of_ble_eq_true rfl, Nat.le_of_ble_eq_true rfl⟩ (fun H locs hP hD hS => ?_)
          refine lv_i2l (v := v53.toInt64) hx hb dK_share_56 rfl ?_
          refine lv_aload_n hx hb dK_share_57 rfl (lv_at hl 1 rfl) ?_
          refine lv_iload hx hb dK_share_58 (lv_at hl 0 rfl) ?_
          obtain ⟨v60, ev60, hf⟩ := kb1 hf
          refine kr_callVi (av := [.int v34]) ⟨hx, hb, hml, hown, hts⟩ (mK_own l D q k cI cJ _ σ v34 v60 ev60) (cwV 1 hts (kgood_V TK_good (by decide +kernel)) rfl rfl rfl (by decide +kernel) ⟨Nat.le_of_ble_eq_true rfl, Nat.le_of_ble_eq_true rfl⟩) hK hP hD hS hA (ci := 0) (q0 := 0) rfl rfl rfl hl.1 rfl (Nat.le_of_ble_eq_true rfl) dK_share_60 ⟨Nat.le_of_ble_eq_true rfl, Nat.le_of_ble_eq_true rfl⟩ (fun H locs hP hD hS => ?_)
          refine lv_i2l (v := v60.toInt64) hx hb dK_share_63 rfl ?_
          refine lv_iload_n hx hb dK_share_64 rfl (lv_at hl 4 rfl) ?_
          obtain ⟨v65, ev65, hf⟩ := kb1 hf
          refine kr_callSl (av := [.long v53.toInt64, .long v60.toInt64, .int x3]) ⟨hx, hb, hml, hown, hts⟩ (mK_fractionPart l D _ (wdK q k cI cJ) [(cI, .int), (cJ, .long)] cl0 _ fu σ v53.toInt64 v60.toInt64 x3 v65 ev65) (cwS 3 hts (kgood_S TK_good (by decide +kernel)) rfl rfl rfl (by decide +kernel) ⟨Nat.le_of_ble_eq_true rfl, Nat.le_of_ble_eq_true rfl⟩) hK hP hD hS hA rfl hl.1 rfl (Nat.le_of_ble_eq_true rfl) dK_share_65 ⟨Nat.le_of_ble_eq_true rfl, Nat.le_of_ble_eq_true rfl⟩ (fun H locs hP hD hS => ?_)
          exact kr_lret C0 hK hP hD hS (Option.some.inj hf) rfl dK_share_68
        · have hf := (if_pos c42).symm.trans hf
          refine lv_ldc2 (v := -1) hx hb hown (hts (.constantLong RK 103 (-1)) (by decide +kernel)) dK_share_45 ?_
          exact kr_lret C0 hK hP hD hS (Option.some.inj hf) rfl dK_share_48
      · have hf := (if_pos c20).symm.trans hf
        refine lv_ldc2 (v := -1) hx hb hown (hts (.constantLong RK 103 (-1)) (by decide +kernel)) dK_share_23 ?_
        exact kr_lret C0 hK hP hD hS (Option.some.inj hf) rfl dK_share_26
theorem dK_without_0 : decode cK_without 0 = .ok (.aload_n 0, 1) := by decide +kernel
theorem dK_without_1 : decode cK_without 1 = .ok (.iload_n 1, 1) := by decide +kernel
theorem dK_without_2 : decode cK_without 2 = .ok (.invokevirtual 79, 3) := by decide +kernel
theorem dK_without_5 : decode cK_without 5 = .ok (.ifCond .eq (26), 3) := by decide +kernel
theorem dK_without_8 : decode cK_without 8 = .ok (.aload_n 0, 1) := by decide +kernel
theorem dK_without_9 : decode cK_without 9 = .ok (.iload_n 2, 1) := by decide +kernel
theorem dK_without_10 : decode cK_without 10 = .ok (.invokevirtual 83, 3) := by decide +kernel
theorem dK_without_13 : decode cK_without 13 = .ok (.ifCond .eq (18), 3) := by decide +kernel
theorem dK_without_16 : decode cK_without 16 = .ok (.iload_n 3, 1) := by decide +kernel
theorem dK_without_17 : decode cK_without 17 = .ok (.invokestatic 100, 3) := by decide +kernel
theorem dK_without_20 : decode cK_without 20 = .ok (.ifCond .eq (11), 3) := by decide +kernel
theorem dK_without_23 : decode cK_without 23 = .ok (.iload 4, 2) := by decide +kernel
theorem dK_without_25 : decode cK_without 25 = .ok (.invokestatic 100, 3) := by decide +kernel
theorem dK_without_28 : decode cK_without 28 = .ok (.ifCond .ne (7), 3) := by decide +kernel
theorem dK_without_31 : decode cK_without 31 = .ok (.ldc2_w 103, 3) := by decide +kernel
theorem dK_without_34 : decode cK_without 34 = .ok (.lreturn, 1) := by decide +kernel
theorem dK_without_35 : decode cK_without 35 = .ok (.aload_n 0, 1) := by decide +kernel
theorem dK_without_36 : decode cK_without 36 = .ok (.aload_n 0, 1) := by decide +kernel
theorem dK_without_37 : decode cK_without 37 = .ok (.getfield 45, 3) := by decide +kernel
theorem dK_without_40 : decode cK_without 40 = .ok (.iload_n 1, 1) := by decide +kernel
theorem dK_without_41 : decode cK_without 41 = .ok (.iaload, 1) := by decide +kernel
theorem dK_without_42 : decode cK_without 42 = .ok (.invokevirtual 112, 3) := by decide +kernel
theorem dK_without_45 : decode cK_without 45 = .ok (.istore 5, 2) := by decide +kernel
theorem dK_without_47 : decode cK_without 47 = .ok (.iload 5, 2) := by decide +kernel
theorem dK_without_49 : decode cK_without 49 = .ok (.iconst 2, 1) := by decide +kernel
theorem dK_without_50 : decode cK_without 50 = .ok (.if_icmp .ge (7), 3) := by decide +kernel
theorem dK_without_53 : decode cK_without 53 = .ok (.ldc2_w 103, 3) := by decide +kernel
theorem dK_without_56 : decode cK_without 56 = .ok (.lreturn, 1) := by decide +kernel
theorem dK_without_57 : decode cK_without 57 = .ok (.aload_n 0, 1) := by decide +kernel
theorem dK_without_58 : decode cK_without 58 = .ok (.aload_n 0, 1) := by decide +kernel
theorem dK_without_59 : decode cK_without 59 = .ok (.getfield 45, 3) := by decide +kernel
theorem dK_without_62 : decode cK_without 62 = .ok (.iload_n 1, 1) := by decide +kernel
theorem dK_without_63 : decode cK_without 63 = .ok (.iaload, 1) := by decide +kernel
theorem dK_without_64 : decode cK_without 64 = .ok (.iload_n 2, 1) := by decide +kernel
theorem dK_without_65 : decode cK_without 65 = .ok (.invokevirtual 109, 3) := by decide +kernel
theorem dK_without_68 : decode cK_without 68 = .ok (.istore 6, 2) := by decide +kernel
theorem dK_without_70 : decode cK_without 70 = .ok (.iload_n 3, 1) := by decide +kernel
theorem dK_without_71 : decode cK_without 71 = .ok (.ifCond .ne (16), 3) := by decide +kernel
theorem dK_without_74 : decode cK_without 74 = .ok (.iload 6, 2) := by decide +kernel
theorem dK_without_76 : decode cK_without 76 = .ok (.ifCond .le (7), 3) := by decide +kernel
theorem dK_without_79 : decode cK_without 79 = .ok (.iconst 1, 1) := by decide +kernel
theorem dK_without_80 : decode cK_without 80 = .ok (.goto (19), 3) := by decide +kernel
theorem dK_without_83 : decode cK_without 83 = .ok (.iconst 0, 1) := by decide +kernel
theorem dK_without_84 : decode cK_without 84 = .ok (.goto (15), 3) := by decide +kernel
theorem dK_without_87 : decode cK_without 87 = .ok (.iload 6, 2) := by decide +kernel
theorem dK_without_89 : decode cK_without 89 = .ok (.iload 5, 2) := by decide +kernel
theorem dK_without_91 : decode cK_without 91 = .ok (.if_icmp .ne (7), 3) := by decide +kernel
theorem dK_without_94 : decode cK_without 94 = .ok (.iconst 1, 1) := by decide +kernel
theorem dK_without_95 : decode cK_without 95 = .ok (.goto (4), 3) := by decide +kernel
theorem dK_without_98 : decode cK_without 98 = .ok (.iconst 0, 1) := by decide +kernel
theorem dK_without_99 : decode cK_without 99 = .ok (.istore 7, 2) := by decide +kernel
theorem dK_without_101 : decode cK_without 101 = .ok (.iload 7, 2) := by decide +kernel
theorem dK_without_103 : decode cK_without 103 = .ok (.ifCond .eq (11), 3) := by decide +kernel
theorem dK_without_106 : decode cK_without 106 = .ok (.iload 6, 2) := by decide +kernel
theorem dK_without_108 : decode cK_without 108 = .ok (.iconst 1, 1) := by decide +kernel
theorem dK_without_109 : decode cK_without 109 = .ok (.isub, 1) := by decide +kernel
theorem dK_without_110 : decode cK_without 110 = .ok (.i2l, 1) := by decide +kernel
theorem dK_without_111 : decode cK_without 111 = .ok (.goto (6), 3) := by decide +kernel
theorem dK_without_114 : decode cK_without 114 = .ok (.iload 6, 2) := by decide +kernel
theorem dK_without_116 : decode cK_without 116 = .ok (.i2l, 1) := by decide +kernel
theorem dK_without_117 : decode cK_without 117 = .ok (.iload 5, 2) := by decide +kernel
theorem dK_without_119 : decode cK_without 119 = .ok (.iconst 1, 1) := by decide +kernel
theorem dK_without_120 : decode cK_without 120 = .ok (.isub, 1) := by decide +kernel
theorem dK_without_121 : decode cK_without 121 = .ok (.i2l, 1) := by decide +kernel
theorem dK_without_122 : decode cK_without 122 = .ok (.iload 4, 2) := by decide +kernel
theorem dK_without_124 : decode cK_without 124 = .ok (.invokestatic 115, 3) := by decide +kernel
theorem dK_without_127 : decode cK_without 127 = .ok (.lreturn, 1) := by decide +kernel
set_option maxHeartbeats 4000000 in
set_option maxRecDepth 100000 in
theorem tK_without_117 {p : Program} {l : Launch} {e : Env} {s : State} {m : MethodId} {args : Array Value} {below : List Frame} {meth : Method} {c : Code} {D : va_G} {A : Nat → Prop} {q : Nat → Nat} {k : kK} {cI cJ : ClassId} {r : Int64} {σ : sK} {fu : Nat} (C0 : Cx p s m args meth c cK_without 8 (some .long) RK TK) (hK : va_K D cl0 [(cI, .int), (cJ, .long)] s) (hA : ∀ z, s.heap.size ≤ z → A z) : ∀ (y0 : Int64) (x4 : Int32) (x5 : Int32)(H : Heap) (locs : List Loc) (ls : Array Slot), fK_without_117 fu k σ y0 x4 x5 = some r → lv_has ls 8 [(4, .int x4), (5, .int x5)] → va_P D cl0 (wdK q k cI cJ σ) H → va_D A (wdK q k cI cJ σ) → va_S A s.heap H locs → W p l e ({ frames := 2, cells := 0, slots := 0, locals := 56 }) s m args below meth c H locs 0 0 (MQ below (kQl D cl0 [(cI, .int), (cJ, .long)] (wdK q k cI cJ) A r σ) args s 0 0 A) (F0 m 117 ls [.long y0]) := by
  obtain ⟨hx, hb, hr, hml, hown, hts, hlocks⟩ := id C0
  intro y0 x4 x5 H locs ls hf hl hP hD hS
  unfold fK_without_117 at hf
  refine lv_iload hx hb dK_without_117 (lv_at hl 1 rfl) ?_
  refine lv_iconst (v := 1) hx hb dK_without_119 (by decide) ?_
  refine lv_isub hx hb dK_without_120 ?_
  refine lv_i2l (v := (x5 - 1).toInt64) hx hb dK_without_121 rfl ?_
  refine lv_iload hx hb dK_without_122 (lv_at hl 0 rfl) ?_
  obtain ⟨v124, ev124, hf⟩ := kb1 hf
  refine kr_callSl (av := [.long y0, .long (x5 - 1).toInt64, .int x4]) ⟨hx, hb, hml, hown, hts⟩ (mK_fractionPart l D _ (wdK q k cI cJ) [(cI, .int), (cJ, .long)] cl0 _ fu σ y0 ((x5 - 1).toInt64) x4 v124 ev124) (cwS 3 hts (kgood_S TK_good (by decide +kernel)) rfl rfl rfl (by decide +kernel) ⟨Nat.le_of_ble_eq_true rfl, Nat.le_of_ble_eq_true rfl⟩) hK hP hD hS hA rfl hl.1 rfl (Nat.le_of_ble_eq_true rfl) dK_without_124 ⟨Nat.le_of_ble_eq_true rfl, Nat.le_of_ble_eq_true rfl⟩ (fun H locs hP hD hS => ?_)
  exact kr_lret C0 hK hP hD hS (Option.some.inj hf) rfl dK_without_127
set_option maxHeartbeats 4000000 in
set_option maxRecDepth 100000 in
theorem tK_without_99 {p : Program} {l : Launch} {e : Env} {s : State} {m : MethodId} {args : Array Value} {below : List Frame} {meth : Method} {c : Code} {D : va_G} {A : Nat → Prop} {q : Nat → Nat} {k : kK} {cI cJ : ClassId} {r : Int64} {σ : sK} {fu : Nat} (C0 : Cx p s m args meth c cK_without 8 (some .long) RK TK) (hK : va_K D cl0 [(cI, .int), (cJ, .long)] s) (hA : ∀ z, s.heap.size ≤ z → A z) : ∀ (y0 : Int32) (x4 : Int32) (x5 : Int32) (x6 : Int32)(H : Heap) (locs : List Loc) (ls : Array Slot), fK_without_99 fu k σ y0 x4 x5 x6 = some r → lv_has ls 8 [(4, .int x4), (5, .int x5), (6, .int x6)] → va_P D cl0 (wdK q k cI cJ σ) H → va_D A (wdK q k cI cJ σ) → va_S A s.heap H locs → W p l e ({ frames := 2, cells := 0, slots := 0, locals := 56 }) s m args below meth c H locs 0 0 (MQ below (kQl D cl0 [(cI, .int), (cJ, .long)] (wdK q k cI cJ) A r σ) args s 0 0 A) (F0 m 99 ls [.int y0]) := by
  obtain ⟨hx, hb, hr, hml, hown, hts, hlocks⟩ := id C0
  intro y0 x4 x5 x6 H locs ls hf hl hP hD hS
  unfold fK_without_99 at hf
  refine lv_istore (lv' := [(7, .int y0), (4, .int x4), (5, .int x5), (6, .int x6)]) hx hb dK_without_99 hl (by decide) rfl (fun ls hl => ?_)
  refine lv_iload hx hb dK_without_101 (lv_at hl 0 rfl) ?_
  refine lv_if_eq (tgt := 114) hx hb dK_without_103 (by decide) (fun c103 => ?_) (fun c103 => ?_)
  · have hf := (if_pos c103).symm.trans hf
    refine lv_iload hx hb dK_without_114 (lv_at hl 3 rfl) ?_
    refine lv_i2l (v := x6.toInt64) hx hb dK_without_116 rfl ?_
    exact tK_without_117 C0 hK hA x6.toInt64 x4 x5 _ _ ls hf (lv_sub hl [1, 2] rfl) hP hD hS
  · have hf := (if_neg c103).symm.trans hf
    refine lv_iload hx hb dK_without_106 (lv_at hl 3 rfl) ?_
    refine lv_iconst (v := 1) hx hb dK_without_108 (by decide) ?_
    refine lv_isub hx hb dK_without_109 ?_
    refine lv_i2l (v := (x6 - 1).toInt64) hx hb dK_without_110 rfl ?_
    refine lv_goto (tgt := 117) hx hb dK_without_111 (by decide) ?_
    exact tK_without_117 C0 hK hA ((x6 - 1).toInt64) x4 x5 _ _ ls hf (lv_sub hl [1, 2] rfl) hP hD hS
set_option maxHeartbeats 4000000 in
set_option maxRecDepth 100000 in
theorem mK_without (l : Launch) (D : va_G) (q : Nat → Nat) (k : kK) (cI cJ : ClassId) (sz : Nat) (fu : Nat) (σ : sK) (x1 : Int32) (x2 : Int32) (x3 : Int32) (x4 : Int32) (r : Int64) (hf : fK_without fu k σ x1 x2 x3 x4 = some r) : Met l yK_without (.code yK_without cK_without 8 (some .long) :: TK) ({ frames := 2, cells := 0, slots := 0, locals := 56 }) (kPre D cl0 [(cI, .int), (cJ, .long)] (wdK q k cI cJ) sz σ [.ref (q 0), .int x1, .int x2, .int x3, .int x4]) (kQl D cl0 [(cI, .int), (cJ, .long)] (wdK q k cI cJ) (va_A (wdK q k cI cJ σ) sz) r σ) 0 0 (va_A (wdK q k cI cJ σ) sz) := by
  refine kr_start (own := RK) (by decide) rfl (Nat.le_of_ble_eq_true rfl) ?_
  intro p e s m args below meth c ls C0 hsz hK hP hD hl
  subst hsz
  obtain ⟨hx, hb, hr, hml, hown, hts, hlocks⟩ := id C0
  have hA : ∀ z : Nat, s.heap.size ≤ z → va_A (wdK q k cI cJ σ) s.heap.size z := fun z h => Or.inr h
  generalize va_A (wdK q k cI cJ σ) s.heap.size = A at hD hA ⊢
  have hS : va_S A s.heap s.heap [] := va_S.rf
  have hl : lv_has ls 8 [(0, .ref (q 0)), (1, .int x1), (2, .int x2), (3, .int x3), (4, .int x4)] := hl
  unfold fK_without at hf
  refine lv_aload_n hx hb dK_without_0 rfl (lv_at hl 0 rfl) ?_
  refine lv_iload_n hx hb dK_without_1 rfl (lv_at hl 1 rfl) ?_
  refine kr_callVi (av := [.int x1]) ⟨hx, hb, hml, hown, hts⟩ (mK_isClass l D q k cI cJ _ σ x1 _ rfl) (cwV 1 hts (kgood_V TK_good (by decide +kernel)) rfl rfl rfl (by decide +kernel) ⟨Nat.le_of_ble_eq_true rfl, Nat.le_of_ble_eq_true rfl⟩) hK hP hD hS hA (ci := 0) (q0 := 0) rfl rfl rfl hl.1 rfl (Nat.le_of_ble_eq_true rfl) dK_without_2 ⟨Nat.le_of_ble_eq_true rfl, Nat.le_of_ble_eq_true rfl⟩ (fun H locs hP hD hS => ?_)
  refine lv_if_eq (tgt := 31) hx hb dK_without_5 (by decide) (fun c5 => ?_) (fun c5 => ?_)
  · have hf := (if_pos c5).symm.trans hf
    refine lv_ldc2 (v := -1) hx hb hown (hts (.constantLong RK 103 (-1)) (by decide +kernel)) dK_without_31 ?_
    exact kr_lret C0 hK hP hD hS (Option.some.inj hf) rfl dK_without_34
  · have hf := (if_neg c5).symm.trans hf
    refine lv_aload_n hx hb dK_without_8 rfl (lv_at hl 0 rfl) ?_
    refine lv_iload_n hx hb dK_without_9 rfl (lv_at hl 2 rfl) ?_
    refine kr_callVi (av := [.int x2]) ⟨hx, hb, hml, hown, hts⟩ (mK_isAge l D q k cI cJ _ σ x2 _ rfl) (cwV 1 hts (kgood_V TK_good (by decide +kernel)) rfl rfl rfl (by decide +kernel) ⟨Nat.le_of_ble_eq_true rfl, Nat.le_of_ble_eq_true rfl⟩) hK hP hD hS hA (ci := 0) (q0 := 0) rfl rfl rfl hl.1 rfl (Nat.le_of_ble_eq_true rfl) dK_without_10 ⟨Nat.le_of_ble_eq_true rfl, Nat.le_of_ble_eq_true rfl⟩ (fun H locs hP hD hS => ?_)
    refine lv_if_eq (tgt := 31) hx hb dK_without_13 (by decide) (fun c13 => ?_) (fun c13 => ?_)
    · have hf := (if_pos c13).symm.trans hf
      refine lv_ldc2 (v := -1) hx hb hown (hts (.constantLong RK 103 (-1)) (by decide +kernel)) dK_without_31 ?_
      exact kr_lret C0 hK hP hD hS (Option.some.inj hf) rfl dK_without_34
    · have hf := (if_neg c13).symm.trans hf
      refine lv_iload_n hx hb dK_without_16 rfl (lv_at hl 3 rfl) ?_
      refine kr_callSi (av := [.int x3]) ⟨hx, hb, hml, hown, hts⟩ (mK_isZeroOrOne l D _ (wdK q k cI cJ) [(cI, .int), (cJ, .long)] cl0 _ σ x3 _ rfl) (cwS 1 hts (kgood_S TK_good (by decide +kernel)) rfl rfl rfl (by decide +kernel) ⟨Nat.le_of_ble_eq_true rfl, Nat.le_of_ble_eq_true rfl⟩) hK hP hD hS hA rfl hl.1 rfl (Nat.le_of_ble_eq_true rfl) dK_without_17 ⟨Nat.le_of_ble_eq_true rfl, Nat.le_of_ble_eq_true rfl⟩ (fun H locs hP hD hS => ?_)
      refine lv_if_eq (tgt := 31) hx hb dK_without_20 (by decide) (fun c20 => ?_) (fun c20 => ?_)
      · have hf := (if_pos c20).symm.trans hf
        refine lv_ldc2 (v := -1) hx hb hown (hts (.constantLong RK 103 (-1)) (by decide +kernel)) dK_without_31 ?_
        exact kr_lret C0 hK hP hD hS (Option.some.inj hf) rfl dK_without_34
      · have hf := (if_neg c20).symm.trans hf
        refine lv_iload hx hb dK_without_23 (lv_at hl 4 rfl) ?_
        refine kr_callSi (av := [.int x4]) ⟨hx, hb, hml, hown, hts⟩ (mK_isZeroOrOne l D _ (wdK q k cI cJ) [(cI, .int), (cJ, .long)] cl0 _ σ x4 _ rfl) (cwS 1 hts (kgood_S TK_good (by decide +kernel)) rfl rfl rfl (by decide +kernel) ⟨Nat.le_of_ble_eq_true rfl, Nat.le_of_ble_eq_true rfl⟩) hK hP hD hS hA rfl hl.1 rfl (Nat.le_of_ble_eq_true rfl) dK_without_25 ⟨Nat.le_of_ble_eq_true rfl, Nat.le_of_ble_eq_true rfl⟩ (fun H locs hP hD hS => ?_)
        refine lv_if_ne (tgt := 35) hx hb dK_without_28 (by decide) (fun c28 => ?_) (fun c28 => ?_)
        · have hf := (if_neg c28).symm.trans hf
          refine lv_aload_n hx hb dK_without_35 rfl (lv_at hl 0 rfl) ?_
          refine lv_aload_n hx hb dK_without_36 rfl (lv_at hl 0 rfl) ?_
          refine gK_groupOf hx hb hown hts hK hP dK_without_37 ?_
          refine lv_iload_n hx hb dK_without_40 rfl (lv_at hl 1 rfl) ?_
          obtain ⟨v41, ev41, hf⟩ := kb1 hf
          refine kr_iaload hx hb hK hP 5 0 rfl rfl ev41 dK_without_41 ?_
          obtain ⟨v42, ev42, hf⟩ := kb1 hf
          refine kr_callVi (av := [.int v41]) ⟨hx, hb, hml, hown, hts⟩ (mK_own l D q k cI cJ _ σ v41 v42 ev42) (cwV 1 hts (kgood_V TK_good (by decide +kernel)) rfl rfl rfl (by decide +kernel) ⟨Nat.le_of_ble_eq_true rfl, Nat.le_of_ble_eq_true rfl⟩) hK hP hD hS hA (ci := 0) (q0 := 0) rfl rfl rfl hl.1 rfl (Nat.le_of_ble_eq_true rfl) dK_without_42 ⟨Nat.le_of_ble_eq_true rfl, Nat.le_of_ble_eq_true rfl⟩ (fun H locs hP hD hS => ?_)
          refine lv_istore (lv' := [(5, .int v42), (0, .ref (q 0)), (1, .int x1), (2, .int x2), (3, .int x3), (4, .int x4)]) hx hb dK_without_45 hl (by decide) rfl (fun ls hl => ?_)
          refine lv_iload hx hb dK_without_47 (lv_at hl 0 rfl) ?_
          refine lv_iconst (v := 2) hx hb dK_without_49 (by decide) ?_
          refine lv_icmp_ge (tgt := 57) hx hb dK_without_50 (by decide) (fun c50 => ?_) (fun c50 => ?_)
          · have hf := (if_pos c50).symm.trans hf
            refine lv_aload_n hx hb dK_without_57 rfl (lv_at hl 1 rfl) ?_
            refine lv_aload_n hx hb dK_without_58 rfl (lv_at hl 1 rfl) ?_
            refine gK_groupOf hx hb hown hts hK hP dK_without_59 ?_
            refine lv_iload_n hx hb dK_without_62 rfl (lv_at hl 2 rfl) ?_
            obtain ⟨v63, ev63, hf⟩ := kb1 hf
            refine kr_iaload hx hb hK hP 5 0 rfl rfl ev63 dK_without_63 ?_
            refine lv_iload_n hx hb dK_without_64 rfl (lv_at hl 3 rfl) ?_
            obtain ⟨v65, ev65, hf⟩ := kb1 hf
            refine kr_callVi (av := [.int v63, .int x2]) ⟨hx, hb, hml, hown, hts⟩ (mK_ownOfAge l D q k cI cJ _ σ v63 x2 v65 ev65) (cwV 2 hts (kgood_V TK_good (by decide +kernel)) rfl rfl rfl (by decide +kernel) ⟨Nat.le_of_ble_eq_true rfl, Nat.le_of_ble_eq_true rfl⟩) hK hP hD hS hA (ci := 0) (q0 := 0) rfl rfl rfl hl.1 rfl (Nat.le_of_ble_eq_true rfl) dK_without_65 ⟨Nat.le_of_ble_eq_true rfl, Nat.le_of_ble_eq_true rfl⟩ (fun H locs hP hD hS => ?_)
            refine lv_istore (lv' := [(6, .int v65), (5, .int v42), (0, .ref (q 0)), (1, .int x1), (2, .int x2), (3, .int x3), (4, .int x4)]) hx hb dK_without_68 hl (by decide) rfl (fun ls hl => ?_)
            refine lv_iload_n hx hb dK_without_70 rfl (lv_at hl 5 rfl) ?_
            refine lv_if_ne (tgt := 87) hx hb dK_without_71 (by decide) (fun c71 => ?_) (fun c71 => ?_)
            · have hf := (if_neg c71).symm.trans hf
              refine lv_iload hx hb dK_without_87 (lv_at hl 0 rfl) ?_
              refine lv_iload hx hb dK_without_89 (lv_at hl 1 rfl) ?_
              refine lv_icmp_ne (tgt := 98) hx hb dK_without_91 (by decide) (fun c91 => ?_) (fun c91 => ?_)
              · have hf := (if_neg c91).symm.trans hf
                refine lv_iconst (v := 0) hx hb dK_without_98 (by decide) ?_
                exact tK_without_99 C0 hK hA 0 x4 v42 v65 _ _ ls hf (lv_sub hl [6, 1, 0] rfl) hP hD hS
              · have hf := (if_pos c91).symm.trans hf
                refine lv_iconst (v := 1) hx hb dK_without_94 (by decide) ?_
                refine lv_goto (tgt := 99) hx hb dK_without_95 (by decide) ?_
                exact tK_without_99 C0 hK hA 1 x4 v42 v65 _ _ ls hf (lv_sub hl [6, 1, 0] rfl) hP hD hS
            · have hf := (if_pos c71).symm.trans hf
              refine lv_iload hx hb dK_without_74 (lv_at hl 0 rfl) ?_
              refine lv_if_le (tgt := 83) hx hb dK_without_76 (by decide) (fun c76 => ?_) (fun c76 => ?_)
              · have hf := (if_pos c76).symm.trans hf
                refine lv_iconst (v := 0) hx hb dK_without_83 (by decide) ?_
                refine lv_goto (tgt := 99) hx hb dK_without_84 (by decide) ?_
                exact tK_without_99 C0 hK hA 0 x4 v42 v65 _ _ ls hf (lv_sub hl [6, 1, 0] rfl) hP hD hS
              · have hf := (if_neg c76).symm.trans hf
                refine lv_iconst (v := 1) hx hb dK_without_79 (by decide) ?_
                refine lv_goto (tgt := 99) hx hb dK_without_80 (by decide) ?_
                exact tK_without_99 C0 hK hA 1 x4 v42 v65 _ _ ls hf (lv_sub hl [6, 1, 0] rfl) hP hD hS
          · have hf := (if_neg c50).symm.trans hf
            refine lv_ldc2 (v := -1) hx hb hown (hts (.constantLong RK 103 (-1)) (by decide +kernel)) dK_without_53 ?_
            exact kr_lret C0 hK hP hD hS (Option.some.inj hf) rfl dK_without_56
        · have hf := (if_pos c28).symm.trans hf
          refine lv_ldc2 (v := -1) hx hb hown (hts (.constantLong RK 103 (-1)) (by decide +kernel)) dK_without_31 ?_
          exact kr_lret C0 hK hP hD hS (Option.some.inj hf) rfl dK_without_34
end
section
theorem dK_isLeastOfGroup_0 : decode cK_isLeastOfGroup 0 = .ok (.aload_n 0, 1) := by decide +kernel
theorem dK_isLeastOfGroup_1 : decode cK_isLeastOfGroup 1 = .ok (.getfield 45, 3) := by decide +kernel
theorem dK_isLeastOfGroup_4 : decode cK_isLeastOfGroup 4 = .ok (.iload_n 1, 1) := by decide +kernel
theorem dK_isLeastOfGroup_5 : decode cK_isLeastOfGroup 5 = .ok (.iaload, 1) := by decide +kernel
theorem dK_isLeastOfGroup_6 : decode cK_isLeastOfGroup 6 = .ok (.iload_n 1, 1) := by decide +kernel
theorem dK_isLeastOfGroup_7 : decode cK_isLeastOfGroup 7 = .ok (.if_icmp .ne (7), 3) := by decide +kernel
theorem dK_isLeastOfGroup_10 : decode cK_isLeastOfGroup 10 = .ok (.iconst 1, 1) := by decide +kernel
theorem dK_isLeastOfGroup_11 : decode cK_isLeastOfGroup 11 = .ok (.goto (4), 3) := by decide +kernel
theorem dK_isLeastOfGroup_14 : decode cK_isLeastOfGroup 14 = .ok (.iconst 0, 1) := by decide +kernel
theorem dK_isLeastOfGroup_15 : decode cK_isLeastOfGroup 15 = .ok (.ireturn, 1) := by decide +kernel
set_option maxHeartbeats 4000000 in
set_option maxRecDepth 100000 in
theorem mK_isLeastOfGroup (l : Launch) (D : va_G) (q : Nat → Nat) (k : kK) (cI cJ : ClassId) (sz : Nat) (σ : sK) (x1 : Int32) (r : Int32) (hf : fK_isLeastOfGroup k σ x1 = some r) : Met l yK_isLeastOfGroup (.code yK_isLeastOfGroup cK_isLeastOfGroup 2 (some .boolean) :: TK) ({ frames := 0, cells := 0, slots := 0, locals := 0 }) (kPre D cl0 [(cI, .int), (cJ, .long)] (wdK q k cI cJ) sz σ [.ref (q 0), .int x1]) (kQi D cl0 [(cI, .int), (cJ, .long)] (wdK q k cI cJ) (va_A (wdK q k cI cJ σ) sz) r σ) 0 0 (va_A (wdK q k cI cJ σ) sz) := by
  refine kr_start (own := RK) (by decide) rfl (Nat.le_of_ble_eq_true rfl) ?_
  intro p e s m args below meth c ls C0 hsz hK hP hD hl
  subst hsz
  obtain ⟨hx, hb, hr, hml, hown, hts, hlocks⟩ := id C0
  have hA : ∀ z : Nat, s.heap.size ≤ z → va_A (wdK q k cI cJ σ) s.heap.size z := fun z h => Or.inr h
  generalize va_A (wdK q k cI cJ σ) s.heap.size = A at hD hA ⊢
  have hS : va_S A s.heap s.heap [] := va_S.rf
  have hl : lv_has ls 2 [(0, .ref (q 0)), (1, .int x1)] := hl
  unfold fK_isLeastOfGroup at hf
  refine lv_aload_n hx hb dK_isLeastOfGroup_0 rfl (lv_at hl 0 rfl) ?_
  refine gK_groupOf hx hb hown hts hK hP dK_isLeastOfGroup_1 ?_
  refine lv_iload_n hx hb dK_isLeastOfGroup_4 rfl (lv_at hl 1 rfl) ?_
  obtain ⟨v5, ev5, hf⟩ := kb1 hf
  refine kr_iaload hx hb hK hP 5 0 rfl rfl ev5 dK_isLeastOfGroup_5 ?_
  refine lv_iload_n hx hb dK_isLeastOfGroup_6 rfl (lv_at hl 1 rfl) ?_
  refine lv_icmp_ne (tgt := 14) hx hb dK_isLeastOfGroup_7 (by decide) (fun c7 => ?_) (fun c7 => ?_)
  · have hf := (if_neg c7).symm.trans hf
    refine lv_iconst (v := 0) hx hb dK_isLeastOfGroup_14 (by decide) ?_
    exact kr_zret C0 hK hP hD hS rfl (Option.some.inj hf) rfl dK_isLeastOfGroup_15
  · have hf := (if_pos c7).symm.trans hf
    refine lv_iconst (v := 1) hx hb dK_isLeastOfGroup_10 (by decide) ?_
    refine lv_goto (tgt := 15) hx hb dK_isLeastOfGroup_11 (by decide) ?_
    exact kr_zret C0 hK hP hD hS rfl (Option.some.inj hf) rfl dK_isLeastOfGroup_15
theorem dK_empty_0 : decode cK_empty 0 = .ok (.iconst 0, 1) := by decide +kernel
theorem dK_empty_1 : decode cK_empty 1 = .ok (.istore_n 2, 1) := by decide +kernel
theorem dK_empty_2 : decode cK_empty 2 = .ok (.iconst 0, 1) := by decide +kernel
theorem dK_empty_3 : decode cK_empty 3 = .ok (.istore_n 3, 1) := by decide +kernel
theorem dK_empty_4 : decode cK_empty 4 = .ok (.iload_n 3, 1) := by decide +kernel
theorem dK_empty_5 : decode cK_empty 5 = .ok (.aload_n 0, 1) := by decide +kernel
theorem dK_empty_6 : decode cK_empty 6 = .ok (.getfield 26, 3) := by decide +kernel
theorem dK_empty_9 : decode cK_empty 9 = .ok (.if_icmp .ge (45), 3) := by decide +kernel
theorem dK_empty_12 : decode cK_empty 12 = .ok (.aload_n 0, 1) := by decide +kernel
theorem dK_empty_13 : decode cK_empty 13 = .ok (.iload_n 3, 1) := by decide +kernel
theorem dK_empty_14 : decode cK_empty 14 = .ok (.invokevirtual 119, 3) := by decide +kernel
theorem dK_empty_17 : decode cK_empty 17 = .ok (.ifCond .eq (31), 3) := by decide +kernel
theorem dK_empty_20 : decode cK_empty 20 = .ok (.aload_n 0, 1) := by decide +kernel
theorem dK_empty_21 : decode cK_empty 21 = .ok (.iload_n 3, 1) := by decide +kernel
theorem dK_empty_22 : decode cK_empty 22 = .ok (.invokevirtual 112, 3) := by decide +kernel
theorem dK_empty_25 : decode cK_empty 25 = .ok (.ifCond .ne (23), 3) := by decide +kernel
theorem dK_empty_28 : decode cK_empty 28 = .ok (.aload_n 0, 1) := by decide +kernel
theorem dK_empty_29 : decode cK_empty 29 = .ok (.getfield 48, 3) := by decide +kernel
theorem dK_empty_32 : decode cK_empty 32 = .ok (.iload_n 3, 1) := by decide +kernel
theorem dK_empty_33 : decode cK_empty 33 = .ok (.iaload, 1) := by decide +kernel
theorem dK_empty_34 : decode cK_empty 34 = .ok (.iconst (-1), 1) := by decide +kernel
theorem dK_empty_35 : decode cK_empty 35 = .ok (.if_icmp .ne (13), 3) := by decide +kernel
theorem dK_empty_38 : decode cK_empty 38 = .ok (.iload_n 2, 1) := by decide +kernel
theorem dK_empty_39 : decode cK_empty 39 = .ok (.iload_n 1, 1) := by decide +kernel
theorem dK_empty_40 : decode cK_empty 40 = .ok (.if_icmp .ne (5), 3) := by decide +kernel
theorem dK_empty_43 : decode cK_empty 43 = .ok (.iload_n 3, 1) := by decide +kernel
theorem dK_empty_44 : decode cK_empty 44 = .ok (.ireturn, 1) := by decide +kernel
theorem dK_empty_45 : decode cK_empty 45 = .ok (.iinc 2 (1), 3) := by decide +kernel
theorem dK_empty_48 : decode cK_empty 48 = .ok (.iinc 3 (1), 3) := by decide +kernel
theorem dK_empty_51 : decode cK_empty 51 = .ok (.goto (-47), 3) := by decide +kernel
theorem dK_empty_54 : decode cK_empty 54 = .ok (.iconst (-1), 1) := by decide +kernel
theorem dK_empty_55 : decode cK_empty 55 = .ok (.ireturn, 1) := by decide +kernel
set_option maxHeartbeats 4000000 in
set_option maxRecDepth 100000 in
theorem tK_empty_4 {p : Program} {l : Launch} {e : Env} {s : State} {m : MethodId} {args : Array Value} {below : List Frame} {meth : Method} {c : Code} {D : va_G} {A : Nat → Prop} {q : Nat → Nat} {k : kK} {cI cJ : ClassId} {r : Int32} {σ : sK} {fu : Nat} (C0 : Cx p s m args meth c cK_empty 4 (some .int) RK TK) (hK : va_K D cl0 [(cI, .int), (cJ, .long)] s) (hA : ∀ z, s.heap.size ≤ z → A z) : ∀ n : Nat, ∀ (x1 : Int32) (x2 : Int32) (x3 : Int32)(H : Heap) (locs : List Loc) (ls : Array Slot), fK_empty_4 fu k σ n x1 x2 x3 = some r → lv_has ls 4 [(0, .ref (q 0)), (1, .int x1), (2, .int x2), (3, .int x3)] → va_P D cl0 (wdK q k cI cJ σ) H → va_D A (wdK q k cI cJ σ) → va_S A s.heap H locs → W p l e ({ frames := 2, cells := 0, slots := 0, locals := 43 }) s m args below meth c H locs 0 0 (MQ below (kQi D cl0 [(cI, .int), (cJ, .long)] (wdK q k cI cJ) A r σ) args s 0 0 A) (F0 m 4 ls []) := by
  obtain ⟨hx, hb, hr, hml, hown, hts, hlocks⟩ := id C0
  intro n
  induction n with
  | zero =>
    intro x1 x2 x3 H locs ls hf hl hP hD hS
    cases hf
  | succ n ih =>
    intro x1 x2 x3 H locs ls hf hl hP hD hS
    rw [fK_empty_4] at hf
    refine lv_iload_n hx hb dK_empty_4 rfl (lv_at hl 3 rfl) ?_
    refine lv_aload_n hx hb dK_empty_5 rfl (lv_at hl 0 rfl) ?_
    refine gK_classes hx hb hown hts hK hP dK_empty_6 ?_
    refine lv_icmp_ge (tgt := 54) hx hb dK_empty_9 (by decide) (fun c9 => ?_) (fun c9 => ?_)
    · have hf := (if_pos c9).symm.trans hf
      refine lv_iconst (v := (-1)) hx hb dK_empty_54 (by decide) ?_
      exact kr_iret C0 hK hP hD hS (Option.some.inj hf) rfl dK_empty_55
    · have hf := (if_neg c9).symm.trans hf
      refine lv_aload_n hx hb dK_empty_12 rfl (lv_at hl 0 rfl) ?_
      refine lv_iload_n hx hb dK_empty_13 rfl (lv_at hl 3 rfl) ?_
      obtain ⟨v14, ev14, hf⟩ := kb1 hf
      refine kr_callVi (av := [.int x3]) ⟨hx, hb, hml, hown, hts⟩ (mK_isLeastOfGroup l D q k cI cJ _ σ x3 v14 ev14) (cwV 1 hts (kgood_V TK_good (by decide +kernel)) rfl rfl rfl (by decide +kernel) ⟨Nat.le_of_ble_eq_true rfl, Nat.le_of_ble_eq_true rfl⟩) hK hP hD hS hA (ci := 0) (q0 := 0) rfl rfl rfl hl.1 rfl (Nat.le_of_ble_eq_true rfl) dK_empty_14 ⟨Nat.le_of_ble_eq_true rfl, Nat.le_of_ble_eq_true rfl⟩ (fun H locs hP hD hS => ?_)
      refine lv_if_eq (tgt := 48) hx hb dK_empty_17 (by decide) (fun c17 => ?_) (fun c17 => ?_)
      · have hf := (if_pos c17).symm.trans hf
        refine lv_iinc (v := (x3 + 1)) (lv' := [(3, .int (x3 + 1)), (0, .ref (q 0)), (1, .int x1), (2, .int x2)]) hx hb dK_empty_48 hl (k := 3) rfl rfl (by decide) rfl (fun ls hl => ?_)
        refine lv_goto (tgt := 4) hx hb dK_empty_51 (by decide) ?_
        exact ih x1 x2 (x3 + 1) _ _ ls hf (lv_sub hl [1, 2, 3, 0] rfl) hP hD hS
      · have hf := (if_neg c17).symm.trans hf
        refine lv_aload_n hx hb dK_empty_20 rfl (lv_at hl 0 rfl) ?_
        refine lv_iload_n hx hb dK_empty_21 rfl (lv_at hl 3 rfl) ?_
        obtain ⟨v22, ev22, hf⟩ := kb1 hf
        refine kr_callVi (av := [.int x3]) ⟨hx, hb, hml, hown, hts⟩ (mK_own l D q k cI cJ _ σ x3 v22 ev22) (cwV 1 hts (kgood_V TK_good (by decide +kernel)) rfl rfl rfl (by decide +kernel) ⟨Nat.le_of_ble_eq_true rfl, Nat.le_of_ble_eq_true rfl⟩) hK hP hD hS hA (ci := 0) (q0 := 0) rfl rfl rfl hl.1 rfl (Nat.le_of_ble_eq_true rfl) dK_empty_22 ⟨Nat.le_of_ble_eq_true rfl, Nat.le_of_ble_eq_true rfl⟩ (fun H locs hP hD hS => ?_)
        refine lv_if_ne (tgt := 48) hx hb dK_empty_25 (by decide) (fun c25 => ?_) (fun c25 => ?_)
        · have hf := (if_neg c25).symm.trans hf
          refine lv_iinc (v := (x3 + 1)) (lv' := [(3, .int (x3 + 1)), (0, .ref (q 0)), (1, .int x1), (2, .int x2)]) hx hb dK_empty_48 hl (k := 3) rfl rfl (by decide) rfl (fun ls hl => ?_)
          refine lv_goto (tgt := 4) hx hb dK_empty_51 (by decide) ?_
          exact ih x1 x2 (x3 + 1) _ _ ls hf (lv_sub hl [1, 2, 3, 0] rfl) hP hD hS
        · have hf := (if_pos c25).symm.trans hf
          refine lv_aload_n hx hb dK_empty_28 rfl (lv_at hl 0 rfl) ?_
          refine gK_filledBy hx hb hown hts hK hP dK_empty_29 ?_
          refine lv_iload_n hx hb dK_empty_32 rfl (lv_at hl 3 rfl) ?_
          obtain ⟨v33, ev33, hf⟩ := kb1 hf
          refine kr_iaload hx hb hK hP 6 0 rfl rfl ev33 dK_empty_33 ?_
          refine lv_iconst (v := (-1)) hx hb dK_empty_34 (by decide) ?_
          refine lv_icmp_ne (tgt := 48) hx hb dK_empty_35 (by decide) (fun c35 => ?_) (fun c35 => ?_)
          · have hf := (if_neg c35).symm.trans hf
            refine lv_iinc (v := (x3 + 1)) (lv' := [(3, .int (x3 + 1)), (0, .ref (q 0)), (1, .int x1), (2, .int x2)]) hx hb dK_empty_48 hl (k := 3) rfl rfl (by decide) rfl (fun ls hl => ?_)
            refine lv_goto (tgt := 4) hx hb dK_empty_51 (by decide) ?_
            exact ih x1 x2 (x3 + 1) _ _ ls hf (lv_sub hl [1, 2, 3, 0] rfl) hP hD hS
          · have hf := (if_pos c35).symm.trans hf
            refine lv_iload_n hx hb dK_empty_38 rfl (lv_at hl 2 rfl) ?_
            refine lv_iload_n hx hb dK_empty_39 rfl (lv_at hl 1 rfl) ?_
            refine lv_icmp_ne (tgt := 45) hx hb dK_empty_40 (by decide) (fun c40 => ?_) (fun c40 => ?_)
            · have hf := (if_neg c40).symm.trans hf
              refine lv_iinc (v := (x2 + 1)) (lv' := [(2, .int (x2 + 1)), (0, .ref (q 0)), (1, .int x1), (3, .int x3)]) hx hb dK_empty_45 hl (k := 2) rfl rfl (by decide) rfl (fun ls hl => ?_)
              refine lv_iinc (v := (x3 + 1)) (lv' := [(3, .int (x3 + 1)), (2, .int (x2 + 1)), (0, .ref (q 0)), (1, .int x1)]) hx hb dK_empty_48 hl (k := 3) rfl rfl (by decide) rfl (fun ls hl => ?_)
              refine lv_goto (tgt := 4) hx hb dK_empty_51 (by decide) ?_
              exact ih x1 (x2 + 1) (x3 + 1) _ _ ls hf (lv_sub hl [2, 3, 1, 0] rfl) hP hD hS
            · have hf := (if_pos c40).symm.trans hf
              refine lv_iload_n hx hb dK_empty_43 rfl (lv_at hl 3 rfl) ?_
              exact kr_iret C0 hK hP hD hS (Option.some.inj hf) rfl dK_empty_44
set_option maxHeartbeats 4000000 in
set_option maxRecDepth 100000 in
theorem mK_empty (l : Launch) (D : va_G) (q : Nat → Nat) (k : kK) (cI cJ : ClassId) (sz : Nat) (fu : Nat) (σ : sK) (x1 : Int32) (r : Int32) (hf : fK_empty fu k σ x1 = some r) : Met l yK_empty (.code yK_empty cK_empty 4 (some .int) :: TK) ({ frames := 2, cells := 0, slots := 0, locals := 43 }) (kPre D cl0 [(cI, .int), (cJ, .long)] (wdK q k cI cJ) sz σ [.ref (q 0), .int x1]) (kQi D cl0 [(cI, .int), (cJ, .long)] (wdK q k cI cJ) (va_A (wdK q k cI cJ σ) sz) r σ) 0 0 (va_A (wdK q k cI cJ σ) sz) := by
  refine kr_start (own := RK) (by decide) rfl (Nat.le_of_ble_eq_true rfl) ?_
  intro p e s m args below meth c ls C0 hsz hK hP hD hl
  subst hsz
  obtain ⟨hx, hb, hr, hml, hown, hts, hlocks⟩ := id C0
  have hA : ∀ z : Nat, s.heap.size ≤ z → va_A (wdK q k cI cJ σ) s.heap.size z := fun z h => Or.inr h
  generalize va_A (wdK q k cI cJ σ) s.heap.size = A at hD hA ⊢
  have hS : va_S A s.heap s.heap [] := va_S.rf
  have hl : lv_has ls 4 [(0, .ref (q 0)), (1, .int x1)] := hl
  unfold fK_empty at hf
  refine lv_iconst (v := 0) hx hb dK_empty_0 (by decide) ?_
  refine lv_istore_n (lv' := [(2, .int 0), (0, .ref (q 0)), (1, .int x1)]) hx hb dK_empty_1 rfl hl (by decide) rfl (fun ls hl => ?_)
  refine lv_iconst (v := 0) hx hb dK_empty_2 (by decide) ?_
  refine lv_istore_n (lv' := [(3, .int 0), (2, .int 0), (0, .ref (q 0)), (1, .int x1)]) hx hb dK_empty_3 rfl hl (by decide) rfl (fun ls hl => ?_)
  exact tK_empty_4 C0 hK hA fu x1 0 0 _ _ ls hf (lv_sub hl [2, 3, 1, 0] rfl) hP hD hS
theorem dK_distanceTo_0 : decode cK_distanceTo 0 = .ok (.aload_n 0, 1) := by decide +kernel
theorem dK_distanceTo_1 : decode cK_distanceTo 1 = .ok (.getfield 26, 3) := by decide +kernel
theorem dK_distanceTo_4 : decode cK_distanceTo 4 = .ok (.istore_n 3, 1) := by decide +kernel
theorem dK_distanceTo_5 : decode cK_distanceTo 5 = .ok (.iconst 0, 1) := by decide +kernel
theorem dK_distanceTo_6 : decode cK_distanceTo 6 = .ok (.istore 4, 2) := by decide +kernel
theorem dK_distanceTo_8 : decode cK_distanceTo 8 = .ok (.iload 4, 2) := by decide +kernel
theorem dK_distanceTo_10 : decode cK_distanceTo 10 = .ok (.aload_n 0, 1) := by decide +kernel
theorem dK_distanceTo_11 : decode cK_distanceTo 11 = .ok (.getfield 26, 3) := by decide +kernel
theorem dK_distanceTo_14 : decode cK_distanceTo 14 = .ok (.if_icmp .ge (32), 3) := by decide +kernel
theorem dK_distanceTo_17 : decode cK_distanceTo 17 = .ok (.aload_n 0, 1) := by decide +kernel
theorem dK_distanceTo_18 : decode cK_distanceTo 18 = .ok (.getfield 45, 3) := by decide +kernel
theorem dK_distanceTo_21 : decode cK_distanceTo 21 = .ok (.iload 4, 2) := by decide +kernel
theorem dK_distanceTo_23 : decode cK_distanceTo 23 = .ok (.iaload, 1) := by decide +kernel
theorem dK_distanceTo_24 : decode cK_distanceTo 24 = .ok (.iload_n 1, 1) := by decide +kernel
theorem dK_distanceTo_25 : decode cK_distanceTo 25 = .ok (.if_icmp .ne (15), 3) := by decide +kernel
theorem dK_distanceTo_28 : decode cK_distanceTo 28 = .ok (.iload_n 3, 1) := by decide +kernel
theorem dK_distanceTo_29 : decode cK_distanceTo 29 = .ok (.iload 4, 2) := by decide +kernel
theorem dK_distanceTo_31 : decode cK_distanceTo 31 = .ok (.iload_n 2, 1) := by decide +kernel
theorem dK_distanceTo_32 : decode cK_distanceTo 32 = .ok (.isub, 1) := by decide +kernel
theorem dK_distanceTo_33 : decode cK_distanceTo 33 = .ok (.invokestatic 135, 3) := by decide +kernel
theorem dK_distanceTo_36 : decode cK_distanceTo 36 = .ok (.invokestatic 17, 3) := by decide +kernel
theorem dK_distanceTo_39 : decode cK_distanceTo 39 = .ok (.istore_n 3, 1) := by decide +kernel
theorem dK_distanceTo_40 : decode cK_distanceTo 40 = .ok (.iinc 4 (1), 3) := by decide +kernel
theorem dK_distanceTo_43 : decode cK_distanceTo 43 = .ok (.goto (-35), 3) := by decide +kernel
theorem dK_distanceTo_46 : decode cK_distanceTo 46 = .ok (.iload_n 3, 1) := by decide +kernel
theorem dK_distanceTo_47 : decode cK_distanceTo 47 = .ok (.ireturn, 1) := by decide +kernel
set_option maxHeartbeats 4000000 in
set_option maxRecDepth 100000 in
theorem tK_distanceTo_8 {p : Program} {l : Launch} {e : Env} {s : State} {m : MethodId} {args : Array Value} {below : List Frame} {meth : Method} {c : Code} {D : va_G} {A : Nat → Prop} {q : Nat → Nat} {k : kK} {cI cJ : ClassId} {r : Int32} {σ : sK} {fu : Nat} (C0 : Cx p s m args meth c cK_distanceTo 5 (some .int) RK TK) (hK : va_K D cl0 [(cI, .int), (cJ, .long)] s) (hA : ∀ z, s.heap.size ≤ z → A z) : ∀ n : Nat, ∀ (x1 : Int32) (x2 : Int32) (x3 : Int32) (x4 : Int32)(H : Heap) (locs : List Loc) (ls : Array Slot), fK_distanceTo_8 fu k σ n x1 x2 x3 x4 = some r → lv_has ls 5 [(0, .ref (q 0)), (1, .int x1), (2, .int x2), (3, .int x3), (4, .int x4)] → va_P D cl0 (wdK q k cI cJ σ) H → va_D A (wdK q k cI cJ σ) → va_S A s.heap H locs → W p l e ({ frames := 1, cells := 0, slots := 0, locals := 21 }) s m args below meth c H locs 0 0 (MQ below (kQi D cl0 [(cI, .int), (cJ, .long)] (wdK q k cI cJ) A r σ) args s 0 0 A) (F0 m 8 ls []) := by
  obtain ⟨hx, hb, hr, hml, hown, hts, hlocks⟩ := id C0
  intro n
  induction n with
  | zero =>
    intro x1 x2 x3 x4 H locs ls hf hl hP hD hS
    cases hf
  | succ n ih =>
    intro x1 x2 x3 x4 H locs ls hf hl hP hD hS
    rw [fK_distanceTo_8] at hf
    refine lv_iload hx hb dK_distanceTo_8 (lv_at hl 4 rfl) ?_
    refine lv_aload_n hx hb dK_distanceTo_10 rfl (lv_at hl 0 rfl) ?_
    refine gK_classes hx hb hown hts hK hP dK_distanceTo_11 ?_
    refine lv_icmp_ge (tgt := 46) hx hb dK_distanceTo_14 (by decide) (fun c14 => ?_) (fun c14 => ?_)
    · have hf := (if_pos c14).symm.trans hf
      refine lv_iload_n hx hb dK_distanceTo_46 rfl (lv_at hl 3 rfl) ?_
      exact kr_iret C0 hK hP hD hS (Option.some.inj hf) rfl dK_distanceTo_47
    · have hf := (if_neg c14).symm.trans hf
      refine lv_aload_n hx hb dK_distanceTo_17 rfl (lv_at hl 0 rfl) ?_
      refine gK_groupOf hx hb hown hts hK hP dK_distanceTo_18 ?_
      refine lv_iload hx hb dK_distanceTo_21 (lv_at hl 4 rfl) ?_
      obtain ⟨v23, ev23, hf⟩ := kb1 hf
      refine kr_iaload hx hb hK hP 5 0 rfl rfl ev23 dK_distanceTo_23 ?_
      refine lv_iload_n hx hb dK_distanceTo_24 rfl (lv_at hl 1 rfl) ?_
      refine lv_icmp_ne (tgt := 40) hx hb dK_distanceTo_25 (by decide) (fun c25 => ?_) (fun c25 => ?_)
      · have hf := (if_neg c25).symm.trans hf
        refine lv_iinc (v := (x4 + 1)) (lv' := [(4, .int (x4 + 1)), (0, .ref (q 0)), (1, .int x1), (2, .int x2), (3, .int x3)]) hx hb dK_distanceTo_40 hl (k := 4) rfl rfl (by decide) rfl (fun ls hl => ?_)
        refine lv_goto (tgt := 8) hx hb dK_distanceTo_43 (by decide) ?_
        exact ih x1 x2 x3 (x4 + 1) _ _ ls hf (lv_sub hl [1, 2, 3, 4, 0] rfl) hP hD hS
      · have hf := (if_pos c25).symm.trans hf
        refine lv_iload_n hx hb dK_distanceTo_28 rfl (lv_at hl 3 rfl) ?_
        refine lv_iload hx hb dK_distanceTo_29 (lv_at hl 4 rfl) ?_
        refine lv_iload_n hx hb dK_distanceTo_31 rfl (lv_at hl 2 rfl) ?_
        refine lv_isub hx hb dK_distanceTo_32 ?_
        refine va_mabs hx hb (hml.trans hl.1.symm) hown (hts (.methodLink RK 135 Lib.Math.abs.name) (by decide +kernel)) (hts (.static Lib.Math.abs.name) (by decide +kernel)) (hts (.initialized "java/lang/Math") (by decide +kernel)) (hts (.code Lib.Math.abs.name Lib.Math.abs.code 1 (some .int)) (by decide +kernel)) (Nat.le_of_ble_eq_true rfl) (Nat.le_of_ble_eq_true rfl) (Nat.le_of_ble_eq_true rfl) (Nat.le_of_ble_eq_true rfl) dK_distanceTo_33 ?_
        refine va_mmin hx hb (hml.trans hl.1.symm) hown (hts (.methodLink RK 17 Lib.Math.min.name) (by decide +kernel)) (hts (.static Lib.Math.min.name) (by decide +kernel)) (hts (.initialized "java/lang/Math") (by decide +kernel)) (hts (.code Lib.Math.min.name Lib.Math.min.code 2 (some .int)) (by decide +kernel)) (Nat.le_of_ble_eq_true rfl) (Nat.le_of_ble_eq_true rfl) (Nat.le_of_ble_eq_true rfl) (Nat.le_of_ble_eq_true rfl) dK_distanceTo_36 ?_
        refine lv_istore_n (lv' := [(3, .int (if (if 0 ≤ (x4 - x2) then (x4 - x2) else 0 - (x4 - x2)) < x3 then (if 0 ≤ (x4 - x2) then (x4 - x2) else 0 - (x4 - x2)) else x3)), (0, .ref (q 0)), (1, .int x1), (2, .int x2), (4, .int x4)]) hx hb dK_distanceTo_39 rfl hl (by decide) rfl (fun ls hl => ?_)
        refine lv_iinc (v := (x4 + 1)) (lv' := [(4, .int (x4 + 1)), (3, .int (if (if 0 ≤ (x4 - x2) then (x4 - x2) else 0 - (x4 - x2)) < x3 then (if 0 ≤ (x4 - x2) then (x4 - x2) else 0 - (x4 - x2)) else x3)), (0, .ref (q 0)), (1, .int x1), (2, .int x2)]) hx hb dK_distanceTo_40 hl (k := 4) rfl rfl (by decide) rfl (fun ls hl => ?_)
        refine lv_goto (tgt := 8) hx hb dK_distanceTo_43 (by decide) ?_
        exact ih x1 x2 (if (if 0 ≤ (x4 - x2) then (x4 - x2) else 0 - (x4 - x2)) < x3 then (if 0 ≤ (x4 - x2) then (x4 - x2) else 0 - (x4 - x2)) else x3) (x4 + 1) _ _ ls hf (lv_sub hl [2, 3, 4, 1, 0] rfl) hP hD hS
set_option maxHeartbeats 4000000 in
set_option maxRecDepth 100000 in
theorem mK_distanceTo (l : Launch) (D : va_G) (q : Nat → Nat) (k : kK) (cI cJ : ClassId) (sz : Nat) (fu : Nat) (σ : sK) (x1 : Int32) (x2 : Int32) (r : Int32) (hf : fK_distanceTo fu k σ x1 x2 = some r) : Met l yK_distanceTo (.code yK_distanceTo cK_distanceTo 5 (some .int) :: TK) ({ frames := 1, cells := 0, slots := 0, locals := 21 }) (kPre D cl0 [(cI, .int), (cJ, .long)] (wdK q k cI cJ) sz σ [.ref (q 0), .int x1, .int x2]) (kQi D cl0 [(cI, .int), (cJ, .long)] (wdK q k cI cJ) (va_A (wdK q k cI cJ σ) sz) r σ) 0 0 (va_A (wdK q k cI cJ σ) sz) := by
  refine kr_start (own := RK) (by decide) rfl (Nat.le_of_ble_eq_true rfl) ?_
  intro p e s m args below meth c ls C0 hsz hK hP hD hl
  subst hsz
  obtain ⟨hx, hb, hr, hml, hown, hts, hlocks⟩ := id C0
  have hA : ∀ z : Nat, s.heap.size ≤ z → va_A (wdK q k cI cJ σ) s.heap.size z := fun z h => Or.inr h
  generalize va_A (wdK q k cI cJ σ) s.heap.size = A at hD hA ⊢
  have hS : va_S A s.heap s.heap [] := va_S.rf
  have hl : lv_has ls 5 [(0, .ref (q 0)), (1, .int x1), (2, .int x2)] := hl
  unfold fK_distanceTo at hf
  refine lv_aload_n hx hb dK_distanceTo_0 rfl (lv_at hl 0 rfl) ?_
  refine gK_classes hx hb hown hts hK hP dK_distanceTo_1 ?_
  refine lv_istore_n (lv' := [(3, .int (kK_classes k)), (0, .ref (q 0)), (1, .int x1), (2, .int x2)]) hx hb dK_distanceTo_4 rfl hl (by decide) rfl (fun ls hl => ?_)
  refine lv_iconst (v := 0) hx hb dK_distanceTo_5 (by decide) ?_
  refine lv_istore (lv' := [(4, .int 0), (3, .int (kK_classes k)), (0, .ref (q 0)), (1, .int x1), (2, .int x2)]) hx hb dK_distanceTo_6 hl (by decide) rfl (fun ls hl => ?_)
  exact tK_distanceTo_8 C0 hK hA fu x1 x2 (kK_classes k) 0 _ _ ls hf (lv_sub hl [2, 3, 4, 1, 0] rfl) hP hD hS
theorem dK_nearestWithReadings_0 : decode cK_nearestWithReadings 0 = .ok (.iconst (-1), 1) := by decide +kernel
theorem dK_nearestWithReadings_1 : decode cK_nearestWithReadings 1 = .ok (.istore_n 2, 1) := by decide +kernel
theorem dK_nearestWithReadings_2 : decode cK_nearestWithReadings 2 = .ok (.aload_n 0, 1) := by decide +kernel
theorem dK_nearestWithReadings_3 : decode cK_nearestWithReadings 3 = .ok (.getfield 26, 3) := by decide +kernel
theorem dK_nearestWithReadings_6 : decode cK_nearestWithReadings 6 = .ok (.istore_n 3, 1) := by decide +kernel
theorem dK_nearestWithReadings_7 : decode cK_nearestWithReadings 7 = .ok (.iconst 0, 1) := by decide +kernel
theorem dK_nearestWithReadings_8 : decode cK_nearestWithReadings 8 = .ok (.istore 4, 2) := by decide +kernel
theorem dK_nearestWithReadings_10 : decode cK_nearestWithReadings 10 = .ok (.iload 4, 2) := by decide +kernel
theorem dK_nearestWithReadings_12 : decode cK_nearestWithReadings 12 = .ok (.aload_n 0, 1) := by decide +kernel
theorem dK_nearestWithReadings_13 : decode cK_nearestWithReadings 13 = .ok (.getfield 26, 3) := by decide +kernel
theorem dK_nearestWithReadings_16 : decode cK_nearestWithReadings 16 = .ok (.if_icmp .ge (63), 3) := by decide +kernel
theorem dK_nearestWithReadings_19 : decode cK_nearestWithReadings 19 = .ok (.aload_n 0, 1) := by decide +kernel
theorem dK_nearestWithReadings_20 : decode cK_nearestWithReadings 20 = .ok (.getfield 45, 3) := by decide +kernel
theorem dK_nearestWithReadings_23 : decode cK_nearestWithReadings 23 = .ok (.iload 4, 2) := by decide +kernel
theorem dK_nearestWithReadings_25 : decode cK_nearestWithReadings 25 = .ok (.iaload, 1) := by decide +kernel
theorem dK_nearestWithReadings_26 : decode cK_nearestWithReadings 26 = .ok (.istore 5, 2) := by decide +kernel
theorem dK_nearestWithReadings_28 : decode cK_nearestWithReadings 28 = .ok (.aload_n 0, 1) := by decide +kernel
theorem dK_nearestWithReadings_29 : decode cK_nearestWithReadings 29 = .ok (.iload 5, 2) := by decide +kernel
theorem dK_nearestWithReadings_31 : decode cK_nearestWithReadings 31 = .ok (.invokevirtual 112, 3) := by decide +kernel
theorem dK_nearestWithReadings_34 : decode cK_nearestWithReadings 34 = .ok (.ifCond .ne (6), 3) := by decide +kernel
theorem dK_nearestWithReadings_37 : decode cK_nearestWithReadings 37 = .ok (.goto (36), 3) := by decide +kernel
theorem dK_nearestWithReadings_40 : decode cK_nearestWithReadings 40 = .ok (.aload_n 0, 1) := by decide +kernel
theorem dK_nearestWithReadings_41 : decode cK_nearestWithReadings 41 = .ok (.iload_n 1, 1) := by decide +kernel
theorem dK_nearestWithReadings_42 : decode cK_nearestWithReadings 42 = .ok (.iload 4, 2) := by decide +kernel
theorem dK_nearestWithReadings_44 : decode cK_nearestWithReadings 44 = .ok (.invokevirtual 132, 3) := by decide +kernel
theorem dK_nearestWithReadings_47 : decode cK_nearestWithReadings 47 = .ok (.istore 6, 2) := by decide +kernel
theorem dK_nearestWithReadings_49 : decode cK_nearestWithReadings 49 = .ok (.iload 6, 2) := by decide +kernel
theorem dK_nearestWithReadings_51 : decode cK_nearestWithReadings 51 = .ok (.iload_n 3, 1) := by decide +kernel
theorem dK_nearestWithReadings_52 : decode cK_nearestWithReadings 52 = .ok (.if_icmp .lt (15), 3) := by decide +kernel
theorem dK_nearestWithReadings_55 : decode cK_nearestWithReadings 55 = .ok (.iload 6, 2) := by decide +kernel
theorem dK_nearestWithReadings_57 : decode cK_nearestWithReadings 57 = .ok (.iload_n 3, 1) := by decide +kernel
theorem dK_nearestWithReadings_58 : decode cK_nearestWithReadings 58 = .ok (.if_icmp .ne (15), 3) := by decide +kernel
theorem dK_nearestWithReadings_61 : decode cK_nearestWithReadings 61 = .ok (.iload 5, 2) := by decide +kernel
theorem dK_nearestWithReadings_63 : decode cK_nearestWithReadings 63 = .ok (.iload_n 2, 1) := by decide +kernel
theorem dK_nearestWithReadings_64 : decode cK_nearestWithReadings 64 = .ok (.if_icmp .ge (9), 3) := by decide +kernel
theorem dK_nearestWithReadings_67 : decode cK_nearestWithReadings 67 = .ok (.iload 6, 2) := by decide +kernel
theorem dK_nearestWithReadings_69 : decode cK_nearestWithReadings 69 = .ok (.istore_n 3, 1) := by decide +kernel
theorem dK_nearestWithReadings_70 : decode cK_nearestWithReadings 70 = .ok (.iload 5, 2) := by decide +kernel
theorem dK_nearestWithReadings_72 : decode cK_nearestWithReadings 72 = .ok (.istore_n 2, 1) := by decide +kernel
theorem dK_nearestWithReadings_73 : decode cK_nearestWithReadings 73 = .ok (.iinc 4 (1), 3) := by decide +kernel
theorem dK_nearestWithReadings_76 : decode cK_nearestWithReadings 76 = .ok (.goto (-66), 3) := by decide +kernel
theorem dK_nearestWithReadings_79 : decode cK_nearestWithReadings 79 = .ok (.iload_n 2, 1) := by decide +kernel
theorem dK_nearestWithReadings_80 : decode cK_nearestWithReadings 80 = .ok (.ireturn, 1) := by decide +kernel
set_option maxHeartbeats 4000000 in
set_option maxRecDepth 100000 in
theorem tK_nearestWithReadings_67 {p : Program} {l : Launch} {e : Env} {s : State} {m : MethodId} {args : Array Value} {below : List Frame} {meth : Method} {c : Code} {D : va_G} {A : Nat → Prop} {q : Nat → Nat} {k : kK} {cI cJ : ClassId} {r : Int32} {σ : sK} {fu : Nat} {h10 : Int32 → Int32 → Int32 → Int32 → Option Int32} (C0 : Cx p s m args meth c cK_nearestWithReadings 7 (some .int) RK TK) (hK : va_K D cl0 [(cI, .int), (cJ, .long)] s) (hA : ∀ z, s.heap.size ≤ z → A z) (ih10 : ∀ (x1 : Int32) (x2 : Int32) (x3 : Int32) (x4 : Int32)(H : Heap) (locs : List Loc) (ls : Array Slot), h10 x1 x2 x3 x4 = some r → lv_has ls 7 [(0, .ref (q 0)), (1, .int x1), (2, .int x2), (3, .int x3), (4, .int x4)] → va_P D cl0 (wdK q k cI cJ σ) H → va_D A (wdK q k cI cJ σ) → va_S A s.heap H locs → W p l e ({ frames := 2, cells := 0, slots := 0, locals := 45 }) s m args below meth c H locs 0 0 (MQ below (kQi D cl0 [(cI, .int), (cJ, .long)] (wdK q k cI cJ) A r σ) args s 0 0 A) (F0 m 10 ls [])) : ∀ (x1 : Int32) (x4 : Int32) (x5 : Int32) (x6 : Int32)(H : Heap) (locs : List Loc) (ls : Array Slot), fK_nearestWithReadings_67 fu k σ h10 x1 x4 x5 x6 = some r → lv_has ls 7 [(0, .ref (q 0)), (1, .int x1), (4, .int x4), (5, .int x5), (6, .int x6)] → va_P D cl0 (wdK q k cI cJ σ) H → va_D A (wdK q k cI cJ σ) → va_S A s.heap H locs → W p l e ({ frames := 2, cells := 0, slots := 0, locals := 45 }) s m args below meth c H locs 0 0 (MQ below (kQi D cl0 [(cI, .int), (cJ, .long)] (wdK q k cI cJ) A r σ) args s 0 0 A) (F0 m 67 ls []) := by
  obtain ⟨hx, hb, hr, hml, hown, hts, hlocks⟩ := id C0
  intro x1 x4 x5 x6 H locs ls hf hl hP hD hS
  unfold fK_nearestWithReadings_67 at hf
  refine lv_iload hx hb dK_nearestWithReadings_67 (lv_at hl 4 rfl) ?_
  refine lv_istore_n (lv' := [(3, .int x6), (0, .ref (q 0)), (1, .int x1), (4, .int x4), (5, .int x5), (6, .int x6)]) hx hb dK_nearestWithReadings_69 rfl hl (by decide) rfl (fun ls hl => ?_)
  refine lv_iload hx hb dK_nearestWithReadings_70 (lv_at hl 4 rfl) ?_
  refine lv_istore_n (lv' := [(2, .int x5), (3, .int x6), (0, .ref (q 0)), (1, .int x1), (4, .int x4), (5, .int x5), (6, .int x6)]) hx hb dK_nearestWithReadings_72 rfl hl (by decide) rfl (fun ls hl => ?_)
  refine lv_iinc (v := (x4 + 1)) (lv' := [(4, .int (x4 + 1)), (2, .int x5), (3, .int x6), (0, .ref (q 0)), (1, .int x1), (5, .int x5), (6, .int x6)]) hx hb dK_nearestWithReadings_73 hl (k := 4) rfl rfl (by decide) rfl (fun ls hl => ?_)
  refine lv_goto (tgt := 10) hx hb dK_nearestWithReadings_76 (by decide) ?_
  exact ih10 x1 x5 x6 (x4 + 1) _ _ ls hf (lv_sub hl [3, 4, 1, 2, 0] rfl) hP hD hS
set_option maxHeartbeats 4000000 in
set_option maxRecDepth 100000 in
theorem tK_nearestWithReadings_10 {p : Program} {l : Launch} {e : Env} {s : State} {m : MethodId} {args : Array Value} {below : List Frame} {meth : Method} {c : Code} {D : va_G} {A : Nat → Prop} {q : Nat → Nat} {k : kK} {cI cJ : ClassId} {r : Int32} {σ : sK} {fu : Nat} (C0 : Cx p s m args meth c cK_nearestWithReadings 7 (some .int) RK TK) (hK : va_K D cl0 [(cI, .int), (cJ, .long)] s) (hA : ∀ z, s.heap.size ≤ z → A z) : ∀ n : Nat, ∀ (x1 : Int32) (x2 : Int32) (x3 : Int32) (x4 : Int32)(H : Heap) (locs : List Loc) (ls : Array Slot), fK_nearestWithReadings_10 fu k σ n x1 x2 x3 x4 = some r → lv_has ls 7 [(0, .ref (q 0)), (1, .int x1), (2, .int x2), (3, .int x3), (4, .int x4)] → va_P D cl0 (wdK q k cI cJ σ) H → va_D A (wdK q k cI cJ σ) → va_S A s.heap H locs → W p l e ({ frames := 2, cells := 0, slots := 0, locals := 45 }) s m args below meth c H locs 0 0 (MQ below (kQi D cl0 [(cI, .int), (cJ, .long)] (wdK q k cI cJ) A r σ) args s 0 0 A) (F0 m 10 ls []) := by
  obtain ⟨hx, hb, hr, hml, hown, hts, hlocks⟩ := id C0
  intro n
  induction n with
  | zero =>
    intro x1 x2 x3 x4 H locs ls hf hl hP hD hS
    cases hf
  | succ n ih =>
    intro x1 x2 x3 x4 H locs ls hf hl hP hD hS
    rw [fK_nearestWithReadings_10] at hf
    refine lv_iload hx hb dK_nearestWithReadings_10 (lv_at hl 4 rfl) ?_
    refine lv_aload_n hx hb dK_nearestWithReadings_12 rfl (lv_at hl 0 rfl) ?_
    refine gK_classes hx hb hown hts hK hP dK_nearestWithReadings_13 ?_
    refine lv_icmp_ge (tgt := 79) hx hb dK_nearestWithReadings_16 (by decide) (fun c16 => ?_) (fun c16 => ?_)
    · have hf := (if_pos c16).symm.trans hf
      refine lv_iload_n hx hb dK_nearestWithReadings_79 rfl (lv_at hl 2 rfl) ?_
      exact kr_iret C0 hK hP hD hS (Option.some.inj hf) rfl dK_nearestWithReadings_80
    · have hf := (if_neg c16).symm.trans hf
      refine lv_aload_n hx hb dK_nearestWithReadings_19 rfl (lv_at hl 0 rfl) ?_
      refine gK_groupOf hx hb hown hts hK hP dK_nearestWithReadings_20 ?_
      refine lv_iload hx hb dK_nearestWithReadings_23 (lv_at hl 4 rfl) ?_
      obtain ⟨v25, ev25, hf⟩ := kb1 hf
      refine kr_iaload hx hb hK hP 5 0 rfl rfl ev25 dK_nearestWithReadings_25 ?_
      refine lv_istore (lv' := [(5, .int v25), (0, .ref (q 0)), (1, .int x1), (2, .int x2), (3, .int x3), (4, .int x4)]) hx hb dK_nearestWithReadings_26 hl (by decide) rfl (fun ls hl => ?_)
      refine lv_aload_n hx hb dK_nearestWithReadings_28 rfl (lv_at hl 1 rfl) ?_
      refine lv_iload hx hb dK_nearestWithReadings_29 (lv_at hl 0 rfl) ?_
      obtain ⟨v31, ev31, hf⟩ := kb1 hf
      refine kr_callVi (av := [.int v25]) ⟨hx, hb, hml, hown, hts⟩ (mK_own l D q k cI cJ _ σ v25 v31 ev31) (cwV 1 hts (kgood_V TK_good (by decide +kernel)) rfl rfl rfl (by decide +kernel) ⟨Nat.le_of_ble_eq_true rfl, Nat.le_of_ble_eq_true rfl⟩) hK hP hD hS hA (ci := 0) (q0 := 0) rfl rfl rfl hl.1 rfl (Nat.le_of_ble_eq_true rfl) dK_nearestWithReadings_31 ⟨Nat.le_of_ble_eq_true rfl, Nat.le_of_ble_eq_true rfl⟩ (fun H locs hP hD hS => ?_)
      refine lv_if_ne (tgt := 40) hx hb dK_nearestWithReadings_34 (by decide) (fun c34 => ?_) (fun c34 => ?_)
      · have hf := (if_neg c34).symm.trans hf
        refine lv_aload_n hx hb dK_nearestWithReadings_40 rfl (lv_at hl 1 rfl) ?_
        refine lv_iload_n hx hb dK_nearestWithReadings_41 rfl (lv_at hl 2 rfl) ?_
        refine lv_iload hx hb dK_nearestWithReadings_42 (lv_at hl 5 rfl) ?_
        obtain ⟨v44, ev44, hf⟩ := kb1 hf
        refine kr_callVi (av := [.int x1, .int x4]) ⟨hx, hb, hml, hown, hts⟩ (mK_distanceTo l D q k cI cJ _ fu σ x1 x4 v44 ev44) (cwV 2 hts (kgood_V TK_good (by decide +kernel)) rfl rfl rfl (by decide +kernel) ⟨Nat.le_of_ble_eq_true rfl, Nat.le_of_ble_eq_true rfl⟩) hK hP hD hS hA (ci := 0) (q0 := 0) rfl rfl rfl hl.1 rfl (Nat.le_of_ble_eq_true rfl) dK_nearestWithReadings_44 ⟨Nat.le_of_ble_eq_true rfl, Nat.le_of_ble_eq_true rfl⟩ (fun H locs hP hD hS => ?_)
        refine lv_istore (lv' := [(6, .int v44), (5, .int v25), (0, .ref (q 0)), (1, .int x1), (2, .int x2), (3, .int x3), (4, .int x4)]) hx hb dK_nearestWithReadings_47 hl (by decide) rfl (fun ls hl => ?_)
        refine lv_iload hx hb dK_nearestWithReadings_49 (lv_at hl 0 rfl) ?_
        refine lv_iload_n hx hb dK_nearestWithReadings_51 rfl (lv_at hl 5 rfl) ?_
        refine lv_icmp_lt (tgt := 67) hx hb dK_nearestWithReadings_52 (by decide) (fun c52 => ?_) (fun c52 => ?_)
        · have hf := (if_pos c52).symm.trans hf
          exact tK_nearestWithReadings_67 C0 hK hA ih x1 x4 v25 v44 _ _ ls hf (lv_sub hl [2, 3, 6, 1, 0] rfl) hP hD hS
        · have hf := (if_neg c52).symm.trans hf
          refine lv_iload hx hb dK_nearestWithReadings_55 (lv_at hl 0 rfl) ?_
          refine lv_iload_n hx hb dK_nearestWithReadings_57 rfl (lv_at hl 5 rfl) ?_
          refine lv_icmp_ne (tgt := 73) hx hb dK_nearestWithReadings_58 (by decide) (fun c58 => ?_) (fun c58 => ?_)
          · have hf := (if_neg c58).symm.trans hf
            refine lv_iinc (v := (x4 + 1)) (lv' := [(4, .int (x4 + 1)), (6, .int v44), (5, .int v25), (0, .ref (q 0)), (1, .int x1), (2, .int x2), (3, .int x3)]) hx hb dK_nearestWithReadings_73 hl (k := 6) rfl rfl (by decide) rfl (fun ls hl => ?_)
            refine lv_goto (tgt := 10) hx hb dK_nearestWithReadings_76 (by decide) ?_
            exact ih x1 x2 x3 (x4 + 1) _ _ ls hf (lv_sub hl [3, 4, 5, 6, 0] rfl) hP hD hS
          · have hf := (if_pos c58).symm.trans hf
            refine lv_iload hx hb dK_nearestWithReadings_61 (lv_at hl 1 rfl) ?_
            refine lv_iload_n hx hb dK_nearestWithReadings_63 rfl (lv_at hl 4 rfl) ?_
            refine lv_icmp_ge (tgt := 73) hx hb dK_nearestWithReadings_64 (by decide) (fun c64 => ?_) (fun c64 => ?_)
            · have hf := (if_pos c64).symm.trans hf
              refine lv_iinc (v := (x4 + 1)) (lv' := [(4, .int (x4 + 1)), (6, .int v44), (5, .int v25), (0, .ref (q 0)), (1, .int x1), (2, .int x2), (3, .int x3)]) hx hb dK_nearestWithReadings_73 hl (k := 6) rfl rfl (by decide) rfl (fun ls hl => ?_)
              refine lv_goto (tgt := 10) hx hb dK_nearestWithReadings_76 (by decide) ?_
              exact ih x1 x2 x3 (x4 + 1) _ _ ls hf (lv_sub hl [3, 4, 5, 6, 0] rfl) hP hD hS
            · have hf := (if_neg c64).symm.trans hf
              exact tK_nearestWithReadings_67 C0 hK hA ih x1 x4 v25 v44 _ _ ls hf (lv_sub hl [2, 3, 6, 1, 0] rfl) hP hD hS
      · have hf := (if_pos c34).symm.trans hf
        refine lv_goto (tgt := 73) hx hb dK_nearestWithReadings_37 (by decide) ?_
        refine lv_iinc (v := (x4 + 1)) (lv' := [(4, .int (x4 + 1)), (5, .int v25), (0, .ref (q 0)), (1, .int x1), (2, .int x2), (3, .int x3)]) hx hb dK_nearestWithReadings_73 hl (k := 5) rfl rfl (by decide) rfl (fun ls hl => ?_)
        refine lv_goto (tgt := 10) hx hb dK_nearestWithReadings_76 (by decide) ?_
        exact ih x1 x2 x3 (x4 + 1) _ _ ls hf (lv_sub hl [2, 3, 4, 5, 0] rfl) hP hD hS
set_option maxHeartbeats 4000000 in
set_option maxRecDepth 100000 in
theorem mK_nearestWithReadings (l : Launch) (D : va_G) (q : Nat → Nat) (k : kK) (cI cJ : ClassId) (sz : Nat) (fu : Nat) (σ : sK) (x1 : Int32) (r : Int32) (hf : fK_nearestWithReadings fu k σ x1 = some r) : Met l yK_nearestWithReadings (.code yK_nearestWithReadings cK_nearestWithReadings 7 (some .int) :: TK) ({ frames := 2, cells := 0, slots := 0, locals := 45 }) (kPre D cl0 [(cI, .int), (cJ, .long)] (wdK q k cI cJ) sz σ [.ref (q 0), .int x1]) (kQi D cl0 [(cI, .int), (cJ, .long)] (wdK q k cI cJ) (va_A (wdK q k cI cJ σ) sz) r σ) 0 0 (va_A (wdK q k cI cJ σ) sz) := by
  refine kr_start (own := RK) (by decide) rfl (Nat.le_of_ble_eq_true rfl) ?_
  intro p e s m args below meth c ls C0 hsz hK hP hD hl
  subst hsz
  obtain ⟨hx, hb, hr, hml, hown, hts, hlocks⟩ := id C0
  have hA : ∀ z : Nat, s.heap.size ≤ z → va_A (wdK q k cI cJ σ) s.heap.size z := fun z h => Or.inr h
  generalize va_A (wdK q k cI cJ σ) s.heap.size = A at hD hA ⊢
  have hS : va_S A s.heap s.heap [] := va_S.rf
  have hl : lv_has ls 7 [(0, .ref (q 0)), (1, .int x1)] := hl
  unfold fK_nearestWithReadings at hf
  refine lv_iconst (v := (-1)) hx hb dK_nearestWithReadings_0 (by decide) ?_
  refine lv_istore_n (lv' := [(2, .int (-1)), (0, .ref (q 0)), (1, .int x1)]) hx hb dK_nearestWithReadings_1 rfl hl (by decide) rfl (fun ls hl => ?_)
  refine lv_aload_n hx hb dK_nearestWithReadings_2 rfl (lv_at hl 1 rfl) ?_
  refine gK_classes hx hb hown hts hK hP dK_nearestWithReadings_3 ?_
  refine lv_istore_n (lv' := [(3, .int (kK_classes k)), (2, .int (-1)), (0, .ref (q 0)), (1, .int x1)]) hx hb dK_nearestWithReadings_6 rfl hl (by decide) rfl (fun ls hl => ?_)
  refine lv_iconst (v := 0) hx hb dK_nearestWithReadings_7 (by decide) ?_
  refine lv_istore (lv' := [(4, .int 0), (3, .int (kK_classes k)), (2, .int (-1)), (0, .ref (q 0)), (1, .int x1)]) hx hb dK_nearestWithReadings_8 hl (by decide) rfl (fun ls hl => ?_)
  exact tK_nearestWithReadings_10 C0 hK hA fu x1 (-1) (kK_classes k) 0 _ _ ls hf (lv_sub hl [3, 4, 2, 1, 0] rfl) hP hD hS
theorem dK_fill_0 : decode cK_fill 0 = .ok (.aload_n 0, 1) := by decide +kernel
theorem dK_fill_1 : decode cK_fill 1 = .ok (.iload_n 1, 1) := by decide +kernel
theorem dK_fill_2 : decode cK_fill 2 = .ok (.invokevirtual 79, 3) := by decide +kernel
theorem dK_fill_5 : decode cK_fill 5 = .ok (.ifCond .eq (16), 3) := by decide +kernel
theorem dK_fill_8 : decode cK_fill 8 = .ok (.aload_n 0, 1) := by decide +kernel
theorem dK_fill_9 : decode cK_fill 9 = .ok (.aload_n 0, 1) := by decide +kernel
theorem dK_fill_10 : decode cK_fill 10 = .ok (.getfield 45, 3) := by decide +kernel
theorem dK_fill_13 : decode cK_fill 13 = .ok (.iload_n 1, 1) := by decide +kernel
theorem dK_fill_14 : decode cK_fill 14 = .ok (.iaload, 1) := by decide +kernel
theorem dK_fill_15 : decode cK_fill 15 = .ok (.invokevirtual 112, 3) := by decide +kernel
theorem dK_fill_18 : decode cK_fill 18 = .ok (.ifCond .le (5), 3) := by decide +kernel
theorem dK_fill_21 : decode cK_fill 21 = .ok (.iconst (-1), 1) := by decide +kernel
theorem dK_fill_22 : decode cK_fill 22 = .ok (.ireturn, 1) := by decide +kernel
theorem dK_fill_23 : decode cK_fill 23 = .ok (.aload_n 0, 1) := by decide +kernel
theorem dK_fill_24 : decode cK_fill 24 = .ok (.aload_n 0, 1) := by decide +kernel
theorem dK_fill_25 : decode cK_fill 25 = .ok (.getfield 45, 3) := by decide +kernel
theorem dK_fill_28 : decode cK_fill 28 = .ok (.iload_n 1, 1) := by decide +kernel
theorem dK_fill_29 : decode cK_fill 29 = .ok (.iaload, 1) := by decide +kernel
theorem dK_fill_30 : decode cK_fill 30 = .ok (.invokevirtual 122, 3) := by decide +kernel
theorem dK_fill_33 : decode cK_fill 33 = .ok (.istore_n 2, 1) := by decide +kernel
theorem dK_fill_34 : decode cK_fill 34 = .ok (.iload_n 2, 1) := by decide +kernel
theorem dK_fill_35 : decode cK_fill 35 = .ok (.iconst (-1), 1) := by decide +kernel
theorem dK_fill_36 : decode cK_fill 36 = .ok (.if_icmp .eq (15), 3) := by decide +kernel
theorem dK_fill_39 : decode cK_fill 39 = .ok (.aload_n 0, 1) := by decide +kernel
theorem dK_fill_40 : decode cK_fill 40 = .ok (.getfield 48, 3) := by decide +kernel
theorem dK_fill_43 : decode cK_fill 43 = .ok (.aload_n 0, 1) := by decide +kernel
theorem dK_fill_44 : decode cK_fill 44 = .ok (.getfield 45, 3) := by decide +kernel
theorem dK_fill_47 : decode cK_fill 47 = .ok (.iload_n 1, 1) := by decide +kernel
theorem dK_fill_48 : decode cK_fill 48 = .ok (.iaload, 1) := by decide +kernel
theorem dK_fill_49 : decode cK_fill 49 = .ok (.iload_n 2, 1) := by decide +kernel
theorem dK_fill_50 : decode cK_fill 50 = .ok (.iastore, 1) := by decide +kernel
theorem dK_fill_51 : decode cK_fill 51 = .ok (.iload_n 2, 1) := by decide +kernel
theorem dK_fill_52 : decode cK_fill 52 = .ok (.ireturn, 1) := by decide +kernel
set_option maxHeartbeats 4000000 in
set_option maxRecDepth 100000 in
theorem mK_fill (l : Launch) (D : va_G) (q : Nat → Nat) (k : kK) (cI cJ : ClassId) (sz : Nat) (fu : Nat) (σ : sK) (σ' : sK) (x1 : Int32) (r : Int32) (hf : fK_fill fu k σ x1 = some (r, σ')) : Met l yK_fill (.code yK_fill cK_fill 3 (some .int) :: TK) ({ frames := 3, cells := 0, slots := 0, locals := 71 }) (kPre D cl0 [(cI, .int), (cJ, .long)] (wdK q k cI cJ) sz σ [.ref (q 0), .int x1]) (kQi D cl0 [(cI, .int), (cJ, .long)] (wdK q k cI cJ) (va_A (wdK q k cI cJ σ) sz) r σ') 0 0 (va_A (wdK q k cI cJ σ) sz) := by
  refine kr_start (own := RK) (by decide) rfl (Nat.le_of_ble_eq_true rfl) ?_
  intro p e s m args below meth c ls C0 hsz hK hP hD hl
  subst hsz
  obtain ⟨hx, hb, hr, hml, hown, hts, hlocks⟩ := id C0
  have hA : ∀ z : Nat, s.heap.size ≤ z → va_A (wdK q k cI cJ σ) s.heap.size z := fun z h => Or.inr h
  generalize va_A (wdK q k cI cJ σ) s.heap.size = A at hD hA ⊢
  have hS : va_S A s.heap s.heap [] := va_S.rf
  have hl : lv_has ls 3 [(0, .ref (q 0)), (1, .int x1)] := hl
  unfold fK_fill at hf
  refine lv_aload_n hx hb dK_fill_0 rfl (lv_at hl 0 rfl) ?_
  refine lv_iload_n hx hb dK_fill_1 rfl (lv_at hl 1 rfl) ?_
  refine kr_callVi (av := [.int x1]) ⟨hx, hb, hml, hown, hts⟩ (mK_isClass l D q k cI cJ _ σ x1 _ rfl) (cwV 1 hts (kgood_V TK_good (by decide +kernel)) rfl rfl rfl (by decide +kernel) ⟨Nat.le_of_ble_eq_true rfl, Nat.le_of_ble_eq_true rfl⟩) hK hP hD hS hA (ci := 0) (q0 := 0) rfl rfl rfl hl.1 rfl (Nat.le_of_ble_eq_true rfl) dK_fill_2 ⟨Nat.le_of_ble_eq_true rfl, Nat.le_of_ble_eq_true rfl⟩ (fun H locs hP hD hS => ?_)
  refine lv_if_eq (tgt := 21) hx hb dK_fill_5 (by decide) (fun c5 => ?_) (fun c5 => ?_)
  · have hf := (if_pos c5).symm.trans hf
    refine lv_iconst (v := (-1)) hx hb dK_fill_21 (by decide) ?_
    exact kr_iret C0 hK hP hD hS (congrArg Prod.fst (Option.some.inj hf)) (congrArg Prod.snd (Option.some.inj hf)) dK_fill_22
  · have hf := (if_neg c5).symm.trans hf
    refine lv_aload_n hx hb dK_fill_8 rfl (lv_at hl 0 rfl) ?_
    refine lv_aload_n hx hb dK_fill_9 rfl (lv_at hl 0 rfl) ?_
    refine gK_groupOf hx hb hown hts hK hP dK_fill_10 ?_
    refine lv_iload_n hx hb dK_fill_13 rfl (lv_at hl 1 rfl) ?_
    obtain ⟨v14, ev14, hf⟩ := kb1 hf
    refine kr_iaload hx hb hK hP 5 0 rfl rfl ev14 dK_fill_14 ?_
    obtain ⟨v15, ev15, hf⟩ := kb1 hf
    refine kr_callVi (av := [.int v14]) ⟨hx, hb, hml, hown, hts⟩ (mK_own l D q k cI cJ _ σ v14 v15 ev15) (cwV 1 hts (kgood_V TK_good (by decide +kernel)) rfl rfl rfl (by decide +kernel) ⟨Nat.le_of_ble_eq_true rfl, Nat.le_of_ble_eq_true rfl⟩) hK hP hD hS hA (ci := 0) (q0 := 0) rfl rfl rfl hl.1 rfl (Nat.le_of_ble_eq_true rfl) dK_fill_15 ⟨Nat.le_of_ble_eq_true rfl, Nat.le_of_ble_eq_true rfl⟩ (fun H locs hP hD hS => ?_)
    refine lv_if_le (tgt := 23) hx hb dK_fill_18 (by decide) (fun c18 => ?_) (fun c18 => ?_)
    · have hf := (if_pos c18).symm.trans hf
      refine lv_aload_n hx hb dK_fill_23 rfl (lv_at hl 0 rfl) ?_
      refine lv_aload_n hx hb dK_fill_24 rfl (lv_at hl 0 rfl) ?_
      refine gK_groupOf hx hb hown hts hK hP dK_fill_25 ?_
      refine lv_iload_n hx hb dK_fill_28 rfl (lv_at hl 1 rfl) ?_
      obtain ⟨v29, ev29, hf⟩ := kb1 hf
      refine kr_iaload hx hb hK hP 5 0 rfl rfl ev29 dK_fill_29 ?_
      obtain ⟨v30, ev30, hf⟩ := kb1 hf
      refine kr_callVi (av := [.int v29]) ⟨hx, hb, hml, hown, hts⟩ (mK_nearestWithReadings l D q k cI cJ _ fu σ v29 v30 ev30) (cwV 1 hts (kgood_V TK_good (by decide +kernel)) rfl rfl rfl (by decide +kernel) ⟨Nat.le_of_ble_eq_true rfl, Nat.le_of_ble_eq_true rfl⟩) hK hP hD hS hA (ci := 0) (q0 := 0) rfl rfl rfl hl.1 rfl (Nat.le_of_ble_eq_true rfl) dK_fill_30 ⟨Nat.le_of_ble_eq_true rfl, Nat.le_of_ble_eq_true rfl⟩ (fun H locs hP hD hS => ?_)
      refine lv_istore_n (lv' := [(2, .int v30), (0, .ref (q 0)), (1, .int x1)]) hx hb dK_fill_33 rfl hl (by decide) rfl (fun ls hl => ?_)
      refine lv_iload_n hx hb dK_fill_34 rfl (lv_at hl 0 rfl) ?_
      refine lv_iconst (v := (-1)) hx hb dK_fill_35 (by decide) ?_
      refine lv_icmp_eq (tgt := 51) hx hb dK_fill_36 (by decide) (fun c36 => ?_) (fun c36 => ?_)
      · have hf := (if_pos c36).symm.trans hf
        refine lv_iload_n hx hb dK_fill_51 rfl (lv_at hl 0 rfl) ?_
        exact kr_iret C0 hK hP hD hS (congrArg Prod.fst (Option.some.inj hf)) (congrArg Prod.snd (Option.some.inj hf)) dK_fill_52
      · have hf := (if_neg c36).symm.trans hf
        refine lv_aload_n hx hb dK_fill_39 rfl (lv_at hl 1 rfl) ?_
        refine gK_filledBy hx hb hown hts hK hP dK_fill_40 ?_
        refine lv_aload_n hx hb dK_fill_43 rfl (lv_at hl 1 rfl) ?_
        refine gK_groupOf hx hb hown hts hK hP dK_fill_44 ?_
        refine lv_iload_n hx hb dK_fill_47 rfl (lv_at hl 2 rfl) ?_
        obtain ⟨v48, ev48, hf⟩ := kb1 hf
        refine kr_iaload hx hb hK hP 5 0 rfl rfl ev48 dK_fill_48 ?_
        refine lv_iload_n hx hb dK_fill_49 rfl (lv_at hl 0 rfl) ?_
        obtain ⟨a50, ea50, hf⟩ := kb1 hf
        refine kr_iastore (σ' := (uK_filledBy σ a50)) hx hb hK hP hD hS 6 0 rfl rfl ea50 rfl dK_fill_50 (fun H locs hP hD hS => ?_)
        generalize (uK_filledBy σ a50) = s50 at hf hP hD
        refine lv_iload_n hx hb dK_fill_51 rfl (lv_at hl 0 rfl) ?_
        exact kr_iret C0 hK hP hD hS (congrArg Prod.fst (Option.some.inj hf)) (congrArg Prod.snd (Option.some.inj hf)) dK_fill_52
    · have hf := (if_neg c18).symm.trans hf
      refine lv_iconst (v := (-1)) hx hb dK_fill_21 (by decide) ?_
      exact kr_iret C0 hK hP hD hS (congrArg Prod.fst (Option.some.inj hf)) (congrArg Prod.snd (Option.some.inj hf)) dK_fill_22
theorem dK_marked_0 : decode cK_marked 0 = .ok (.aload_n 0, 1) := by decide +kernel
theorem dK_marked_1 : decode cK_marked 1 = .ok (.iload_n 1, 1) := by decide +kernel
theorem dK_marked_2 : decode cK_marked 2 = .ok (.invokevirtual 79, 3) := by decide +kernel
theorem dK_marked_5 : decode cK_marked 5 = .ok (.ifCond .eq (35), 3) := by decide +kernel
theorem dK_marked_8 : decode cK_marked 8 = .ok (.aload_n 0, 1) := by decide +kernel
theorem dK_marked_9 : decode cK_marked 9 = .ok (.getfield 48, 3) := by decide +kernel
theorem dK_marked_12 : decode cK_marked 12 = .ok (.aload_n 0, 1) := by decide +kernel
theorem dK_marked_13 : decode cK_marked 13 = .ok (.getfield 45, 3) := by decide +kernel
theorem dK_marked_16 : decode cK_marked 16 = .ok (.iload_n 1, 1) := by decide +kernel
theorem dK_marked_17 : decode cK_marked 17 = .ok (.iaload, 1) := by decide +kernel
theorem dK_marked_18 : decode cK_marked 18 = .ok (.iaload, 1) := by decide +kernel
theorem dK_marked_19 : decode cK_marked 19 = .ok (.iconst (-1), 1) := by decide +kernel
theorem dK_marked_20 : decode cK_marked 20 = .ok (.if_icmp .eq (20), 3) := by decide +kernel
theorem dK_marked_23 : decode cK_marked 23 = .ok (.aload_n 0, 1) := by decide +kernel
theorem dK_marked_24 : decode cK_marked 24 = .ok (.aload_n 0, 1) := by decide +kernel
theorem dK_marked_25 : decode cK_marked 25 = .ok (.getfield 45, 3) := by decide +kernel
theorem dK_marked_28 : decode cK_marked 28 = .ok (.iload_n 1, 1) := by decide +kernel
theorem dK_marked_29 : decode cK_marked 29 = .ok (.iaload, 1) := by decide +kernel
theorem dK_marked_30 : decode cK_marked 30 = .ok (.invokevirtual 112, 3) := by decide +kernel
theorem dK_marked_33 : decode cK_marked 33 = .ok (.ifCond .ne (7), 3) := by decide +kernel
theorem dK_marked_36 : decode cK_marked 36 = .ok (.iconst 1, 1) := by decide +kernel
theorem dK_marked_37 : decode cK_marked 37 = .ok (.goto (4), 3) := by decide +kernel
theorem dK_marked_40 : decode cK_marked 40 = .ok (.iconst 0, 1) := by decide +kernel
theorem dK_marked_41 : decode cK_marked 41 = .ok (.ireturn, 1) := by decide +kernel
set_option maxHeartbeats 4000000 in
set_option maxRecDepth 100000 in
theorem mK_marked (l : Launch) (D : va_G) (q : Nat → Nat) (k : kK) (cI cJ : ClassId) (sz : Nat) (σ : sK) (x1 : Int32) (r : Int32) (hf : fK_marked k σ x1 = some r) : Met l yK_marked (.code yK_marked cK_marked 2 (some .boolean) :: TK) ({ frames := 2, cells := 0, slots := 0, locals := 43 }) (kPre D cl0 [(cI, .int), (cJ, .long)] (wdK q k cI cJ) sz σ [.ref (q 0), .int x1]) (kQi D cl0 [(cI, .int), (cJ, .long)] (wdK q k cI cJ) (va_A (wdK q k cI cJ σ) sz) r σ) 0 0 (va_A (wdK q k cI cJ σ) sz) := by
  refine kr_start (own := RK) (by decide) rfl (Nat.le_of_ble_eq_true rfl) ?_
  intro p e s m args below meth c ls C0 hsz hK hP hD hl
  subst hsz
  obtain ⟨hx, hb, hr, hml, hown, hts, hlocks⟩ := id C0
  have hA : ∀ z : Nat, s.heap.size ≤ z → va_A (wdK q k cI cJ σ) s.heap.size z := fun z h => Or.inr h
  generalize va_A (wdK q k cI cJ σ) s.heap.size = A at hD hA ⊢
  have hS : va_S A s.heap s.heap [] := va_S.rf
  have hl : lv_has ls 2 [(0, .ref (q 0)), (1, .int x1)] := hl
  unfold fK_marked at hf
  refine lv_aload_n hx hb dK_marked_0 rfl (lv_at hl 0 rfl) ?_
  refine lv_iload_n hx hb dK_marked_1 rfl (lv_at hl 1 rfl) ?_
  refine kr_callVi (av := [.int x1]) ⟨hx, hb, hml, hown, hts⟩ (mK_isClass l D q k cI cJ _ σ x1 _ rfl) (cwV 1 hts (kgood_V TK_good (by decide +kernel)) rfl rfl rfl (by decide +kernel) ⟨Nat.le_of_ble_eq_true rfl, Nat.le_of_ble_eq_true rfl⟩) hK hP hD hS hA (ci := 0) (q0 := 0) rfl rfl rfl hl.1 rfl (Nat.le_of_ble_eq_true rfl) dK_marked_2 ⟨Nat.le_of_ble_eq_true rfl, Nat.le_of_ble_eq_true rfl⟩ (fun H locs hP hD hS => ?_)
  refine lv_if_eq (tgt := 40) hx hb dK_marked_5 (by decide) (fun c5 => ?_) (fun c5 => ?_)
  · have hf := (if_pos c5).symm.trans hf
    refine lv_iconst (v := 0) hx hb dK_marked_40 (by decide) ?_
    exact kr_zret C0 hK hP hD hS rfl (Option.some.inj hf) rfl dK_marked_41
  · have hf := (if_neg c5).symm.trans hf
    refine lv_aload_n hx hb dK_marked_8 rfl (lv_at hl 0 rfl) ?_
    refine gK_filledBy hx hb hown hts hK hP dK_marked_9 ?_
    refine lv_aload_n hx hb dK_marked_12 rfl (lv_at hl 0 rfl) ?_
    refine gK_groupOf hx hb hown hts hK hP dK_marked_13 ?_
    refine lv_iload_n hx hb dK_marked_16 rfl (lv_at hl 1 rfl) ?_
    obtain ⟨v17, ev17, hf⟩ := kb1 hf
    refine kr_iaload hx hb hK hP 5 0 rfl rfl ev17 dK_marked_17 ?_
    obtain ⟨v18, ev18, hf⟩ := kb1 hf
    refine kr_iaload hx hb hK hP 6 0 rfl rfl ev18 dK_marked_18 ?_
    refine lv_iconst (v := (-1)) hx hb dK_marked_19 (by decide) ?_
    refine lv_icmp_eq (tgt := 40) hx hb dK_marked_20 (by decide) (fun c20 => ?_) (fun c20 => ?_)
    · have hf := (if_pos c20).symm.trans hf
      refine lv_iconst (v := 0) hx hb dK_marked_40 (by decide) ?_
      exact kr_zret C0 hK hP hD hS rfl (Option.some.inj hf) rfl dK_marked_41
    · have hf := (if_neg c20).symm.trans hf
      refine lv_aload_n hx hb dK_marked_23 rfl (lv_at hl 0 rfl) ?_
      refine lv_aload_n hx hb dK_marked_24 rfl (lv_at hl 0 rfl) ?_
      refine gK_groupOf hx hb hown hts hK hP dK_marked_25 ?_
      refine lv_iload_n hx hb dK_marked_28 rfl (lv_at hl 1 rfl) ?_
      obtain ⟨v29, ev29, hf⟩ := kb1 hf
      refine kr_iaload hx hb hK hP 5 0 rfl rfl ev29 dK_marked_29 ?_
      obtain ⟨v30, ev30, hf⟩ := kb1 hf
      refine kr_callVi (av := [.int v29]) ⟨hx, hb, hml, hown, hts⟩ (mK_own l D q k cI cJ _ σ v29 v30 ev30) (cwV 1 hts (kgood_V TK_good (by decide +kernel)) rfl rfl rfl (by decide +kernel) ⟨Nat.le_of_ble_eq_true rfl, Nat.le_of_ble_eq_true rfl⟩) hK hP hD hS hA (ci := 0) (q0 := 0) rfl rfl rfl hl.1 rfl (Nat.le_of_ble_eq_true rfl) dK_marked_30 ⟨Nat.le_of_ble_eq_true rfl, Nat.le_of_ble_eq_true rfl⟩ (fun H locs hP hD hS => ?_)
      refine lv_if_ne (tgt := 40) hx hb dK_marked_33 (by decide) (fun c33 => ?_) (fun c33 => ?_)
      · have hf := (if_neg c33).symm.trans hf
        refine lv_iconst (v := 0) hx hb dK_marked_40 (by decide) ?_
        exact kr_zret C0 hK hP hD hS rfl (Option.some.inj hf) rfl dK_marked_41
      · have hf := (if_pos c33).symm.trans hf
        refine lv_iconst (v := 1) hx hb dK_marked_36 (by decide) ?_
        refine lv_goto (tgt := 41) hx hb dK_marked_37 (by decide) ?_
        exact kr_zret C0 hK hP hD hS rfl (Option.some.inj hf) rfl dK_marked_41
theorem dK_dropFills_0 : decode cK_dropFills 0 = .ok (.aload_n 0, 1) := by decide +kernel
theorem dK_dropFills_1 : decode cK_dropFills 1 = .ok (.getfield 48, 3) := by decide +kernel
theorem dK_dropFills_4 : decode cK_dropFills 4 = .ok (.iload_n 1, 1) := by decide +kernel
theorem dK_dropFills_5 : decode cK_dropFills 5 = .ok (.iconst (-1), 1) := by decide +kernel
theorem dK_dropFills_6 : decode cK_dropFills 6 = .ok (.iastore, 1) := by decide +kernel
theorem dK_dropFills_7 : decode cK_dropFills 7 = .ok (.aload_n 0, 1) := by decide +kernel
theorem dK_dropFills_8 : decode cK_dropFills 8 = .ok (.getfield 48, 3) := by decide +kernel
theorem dK_dropFills_11 : decode cK_dropFills 11 = .ok (.iload_n 2, 1) := by decide +kernel
theorem dK_dropFills_12 : decode cK_dropFills 12 = .ok (.iconst (-1), 1) := by decide +kernel
theorem dK_dropFills_13 : decode cK_dropFills 13 = .ok (.iastore, 1) := by decide +kernel
theorem dK_dropFills_14 : decode cK_dropFills 14 = .ok (.iconst 0, 1) := by decide +kernel
theorem dK_dropFills_15 : decode cK_dropFills 15 = .ok (.istore_n 3, 1) := by decide +kernel
theorem dK_dropFills_16 : decode cK_dropFills 16 = .ok (.iload_n 3, 1) := by decide +kernel
theorem dK_dropFills_17 : decode cK_dropFills 17 = .ok (.aload_n 0, 1) := by decide +kernel
theorem dK_dropFills_18 : decode cK_dropFills 18 = .ok (.getfield 26, 3) := by decide +kernel
theorem dK_dropFills_21 : decode cK_dropFills 21 = .ok (.if_icmp .ge (36), 3) := by decide +kernel
theorem dK_dropFills_24 : decode cK_dropFills 24 = .ok (.aload_n 0, 1) := by decide +kernel
theorem dK_dropFills_25 : decode cK_dropFills 25 = .ok (.getfield 48, 3) := by decide +kernel
theorem dK_dropFills_28 : decode cK_dropFills 28 = .ok (.iload_n 3, 1) := by decide +kernel
theorem dK_dropFills_29 : decode cK_dropFills 29 = .ok (.iaload, 1) := by decide +kernel
theorem dK_dropFills_30 : decode cK_dropFills 30 = .ok (.iload_n 1, 1) := by decide +kernel
theorem dK_dropFills_31 : decode cK_dropFills 31 = .ok (.if_icmp .eq (13), 3) := by decide +kernel
theorem dK_dropFills_34 : decode cK_dropFills 34 = .ok (.aload_n 0, 1) := by decide +kernel
theorem dK_dropFills_35 : decode cK_dropFills 35 = .ok (.getfield 48, 3) := by decide +kernel
theorem dK_dropFills_38 : decode cK_dropFills 38 = .ok (.iload_n 3, 1) := by decide +kernel
theorem dK_dropFills_39 : decode cK_dropFills 39 = .ok (.iaload, 1) := by decide +kernel
theorem dK_dropFills_40 : decode cK_dropFills 40 = .ok (.iload_n 2, 1) := by decide +kernel
theorem dK_dropFills_41 : decode cK_dropFills 41 = .ok (.if_icmp .ne (10), 3) := by decide +kernel
theorem dK_dropFills_44 : decode cK_dropFills 44 = .ok (.aload_n 0, 1) := by decide +kernel
theorem dK_dropFills_45 : decode cK_dropFills 45 = .ok (.getfield 48, 3) := by decide +kernel
theorem dK_dropFills_48 : decode cK_dropFills 48 = .ok (.iload_n 3, 1) := by decide +kernel
theorem dK_dropFills_49 : decode cK_dropFills 49 = .ok (.iconst (-1), 1) := by decide +kernel
theorem dK_dropFills_50 : decode cK_dropFills 50 = .ok (.iastore, 1) := by decide +kernel
theorem dK_dropFills_51 : decode cK_dropFills 51 = .ok (.iinc 3 (1), 3) := by decide +kernel
theorem dK_dropFills_54 : decode cK_dropFills 54 = .ok (.goto (-38), 3) := by decide +kernel
theorem dK_dropFills_57 : decode cK_dropFills 57 = .ok (.return_, 1) := by decide +kernel
set_option maxHeartbeats 4000000 in
set_option maxRecDepth 100000 in
theorem tK_dropFills_44 {p : Program} {l : Launch} {e : Env} {s : State} {m : MethodId} {args : Array Value} {below : List Frame} {meth : Method} {c : Code} {D : va_G} {A : Nat → Prop} {q : Nat → Nat} {k : kK} {cI cJ : ClassId} {σ' : sK} {fu : Nat} {h16 : sK → Int32 → Int32 → Int32 → Option sK} (C0 : Cx p s m args meth c cK_dropFills 4 none RK TK) (hK : va_K D cl0 [(cI, .int), (cJ, .long)] s) (hA : ∀ z, s.heap.size ≤ z → A z) (ih16 : ∀ (σ : sK) (x1 : Int32) (x2 : Int32) (x3 : Int32)(H : Heap) (locs : List Loc) (ls : Array Slot), h16 σ x1 x2 x3 = some σ' → lv_has ls 4 [(0, .ref (q 0)), (1, .int x1), (2, .int x2), (3, .int x3)] → va_P D cl0 (wdK q k cI cJ σ) H → va_D A (wdK q k cI cJ σ) → va_S A s.heap H locs → W p l e ({ frames := 0, cells := 0, slots := 0, locals := 0 }) s m args below meth c H locs 0 0 (MQ below (kQv D cl0 [(cI, .int), (cJ, .long)] (wdK q k cI cJ) A σ') args s 0 0 A) (F0 m 16 ls [])) : ∀ (σ : sK) (x1 : Int32) (x2 : Int32) (x3 : Int32)(H : Heap) (locs : List Loc) (ls : Array Slot), fK_dropFills_44 fu k h16 σ x1 x2 x3 = some σ' → lv_has ls 4 [(0, .ref (q 0)), (1, .int x1), (2, .int x2), (3, .int x3)] → va_P D cl0 (wdK q k cI cJ σ) H → va_D A (wdK q k cI cJ σ) → va_S A s.heap H locs → W p l e ({ frames := 0, cells := 0, slots := 0, locals := 0 }) s m args below meth c H locs 0 0 (MQ below (kQv D cl0 [(cI, .int), (cJ, .long)] (wdK q k cI cJ) A σ') args s 0 0 A) (F0 m 44 ls []) := by
  obtain ⟨hx, hb, hr, hml, hown, hts, hlocks⟩ := id C0
  intro σ x1 x2 x3 H locs ls hf hl hP hD hS
  unfold fK_dropFills_44 at hf
  refine lv_aload_n hx hb dK_dropFills_44 rfl (lv_at hl 0 rfl) ?_
  refine gK_filledBy hx hb hown hts hK hP dK_dropFills_45 ?_
  refine lv_iload_n hx hb dK_dropFills_48 rfl (lv_at hl 3 rfl) ?_
  refine lv_iconst (v := (-1)) hx hb dK_dropFills_49 (by decide) ?_
  obtain ⟨a50, ea50, hf⟩ := kb1 hf
  refine kr_iastore (σ' := (uK_filledBy σ a50)) hx hb hK hP hD hS 6 0 rfl rfl ea50 rfl dK_dropFills_50 (fun H locs hP hD hS => ?_)
  generalize (uK_filledBy σ a50) = s50 at hf hP hD
  refine lv_iinc (v := (x3 + 1)) (lv' := [(3, .int (x3 + 1)), (0, .ref (q 0)), (1, .int x1), (2, .int x2)]) hx hb dK_dropFills_51 hl (k := 3) rfl rfl (by decide) rfl (fun ls hl => ?_)
  refine lv_goto (tgt := 16) hx hb dK_dropFills_54 (by decide) ?_
  exact ih16 s50 x1 x2 (x3 + 1) _ _ ls hf (lv_sub hl [1, 2, 3, 0] rfl) hP hD hS
set_option maxHeartbeats 4000000 in
set_option maxRecDepth 100000 in
theorem tK_dropFills_16 {p : Program} {l : Launch} {e : Env} {s : State} {m : MethodId} {args : Array Value} {below : List Frame} {meth : Method} {c : Code} {D : va_G} {A : Nat → Prop} {q : Nat → Nat} {k : kK} {cI cJ : ClassId} {σ' : sK} {fu : Nat} (C0 : Cx p s m args meth c cK_dropFills 4 none RK TK) (hK : va_K D cl0 [(cI, .int), (cJ, .long)] s) (hA : ∀ z, s.heap.size ≤ z → A z) : ∀ n : Nat, ∀ (σ : sK) (x1 : Int32) (x2 : Int32) (x3 : Int32)(H : Heap) (locs : List Loc) (ls : Array Slot), fK_dropFills_16 fu k n σ x1 x2 x3 = some σ' → lv_has ls 4 [(0, .ref (q 0)), (1, .int x1), (2, .int x2), (3, .int x3)] → va_P D cl0 (wdK q k cI cJ σ) H → va_D A (wdK q k cI cJ σ) → va_S A s.heap H locs → W p l e ({ frames := 0, cells := 0, slots := 0, locals := 0 }) s m args below meth c H locs 0 0 (MQ below (kQv D cl0 [(cI, .int), (cJ, .long)] (wdK q k cI cJ) A σ') args s 0 0 A) (F0 m 16 ls []) := by
  obtain ⟨hx, hb, hr, hml, hown, hts, hlocks⟩ := id C0
  intro n
  induction n with
  | zero =>
    intro σ x1 x2 x3 H locs ls hf hl hP hD hS
    cases hf
  | succ n ih =>
    intro σ x1 x2 x3 H locs ls hf hl hP hD hS
    rw [fK_dropFills_16] at hf
    refine lv_iload_n hx hb dK_dropFills_16 rfl (lv_at hl 3 rfl) ?_
    refine lv_aload_n hx hb dK_dropFills_17 rfl (lv_at hl 0 rfl) ?_
    refine gK_classes hx hb hown hts hK hP dK_dropFills_18 ?_
    refine lv_icmp_ge (tgt := 57) hx hb dK_dropFills_21 (by decide) (fun c21 => ?_) (fun c21 => ?_)
    · have hf := (if_pos c21).symm.trans hf
      exact kr_vret C0 hK hP hD hS (Option.some.inj hf) dK_dropFills_57
    · have hf := (if_neg c21).symm.trans hf
      refine lv_aload_n hx hb dK_dropFills_24 rfl (lv_at hl 0 rfl) ?_
      refine gK_filledBy hx hb hown hts hK hP dK_dropFills_25 ?_
      refine lv_iload_n hx hb dK_dropFills_28 rfl (lv_at hl 3 rfl) ?_
      obtain ⟨v29, ev29, hf⟩ := kb1 hf
      refine kr_iaload hx hb hK hP 6 0 rfl rfl ev29 dK_dropFills_29 ?_
      refine lv_iload_n hx hb dK_dropFills_30 rfl (lv_at hl 1 rfl) ?_
      refine lv_icmp_eq (tgt := 44) hx hb dK_dropFills_31 (by decide) (fun c31 => ?_) (fun c31 => ?_)
      · have hf := (if_pos c31).symm.trans hf
        exact tK_dropFills_44 C0 hK hA ih σ x1 x2 x3 _ _ ls hf (lv_sub hl [0, 1, 2, 3] rfl) hP hD hS
      · have hf := (if_neg c31).symm.trans hf
        refine lv_aload_n hx hb dK_dropFills_34 rfl (lv_at hl 0 rfl) ?_
        refine gK_filledBy hx hb hown hts hK hP dK_dropFills_35 ?_
        refine lv_iload_n hx hb dK_dropFills_38 rfl (lv_at hl 3 rfl) ?_
        obtain ⟨v39, ev39, hf⟩ := kb1 hf
        refine kr_iaload hx hb hK hP 6 0 rfl rfl ev39 dK_dropFills_39 ?_
        refine lv_iload_n hx hb dK_dropFills_40 rfl (lv_at hl 2 rfl) ?_
        refine lv_icmp_ne (tgt := 51) hx hb dK_dropFills_41 (by decide) (fun c41 => ?_) (fun c41 => ?_)
        · have hf := (if_neg c41).symm.trans hf
          refine lv_iinc (v := (x3 + 1)) (lv' := [(3, .int (x3 + 1)), (0, .ref (q 0)), (1, .int x1), (2, .int x2)]) hx hb dK_dropFills_51 hl (k := 3) rfl rfl (by decide) rfl (fun ls hl => ?_)
          refine lv_goto (tgt := 16) hx hb dK_dropFills_54 (by decide) ?_
          exact ih σ x1 x2 (x3 + 1) _ _ ls hf (lv_sub hl [1, 2, 3, 0] rfl) hP hD hS
        · have hf := (if_pos c41).symm.trans hf
          exact tK_dropFills_44 C0 hK hA ih σ x1 x2 x3 _ _ ls hf (lv_sub hl [0, 1, 2, 3] rfl) hP hD hS
set_option maxHeartbeats 4000000 in
set_option maxRecDepth 100000 in
theorem mK_dropFills (l : Launch) (D : va_G) (q : Nat → Nat) (k : kK) (cI cJ : ClassId) (sz : Nat) (fu : Nat) (σ : sK) (σ' : sK) (x1 : Int32) (x2 : Int32) (hf : fK_dropFills fu k σ x1 x2 = some σ') : Met l yK_dropFills (.code yK_dropFills cK_dropFills 4 none :: TK) ({ frames := 0, cells := 0, slots := 0, locals := 0 }) (kPre D cl0 [(cI, .int), (cJ, .long)] (wdK q k cI cJ) sz σ [.ref (q 0), .int x1, .int x2]) (kQv D cl0 [(cI, .int), (cJ, .long)] (wdK q k cI cJ) (va_A (wdK q k cI cJ σ) sz) σ') 0 0 (va_A (wdK q k cI cJ σ) sz) := by
  refine kr_start (own := RK) (by decide) rfl (Nat.le_of_ble_eq_true rfl) ?_
  intro p e s m args below meth c ls C0 hsz hK hP hD hl
  subst hsz
  obtain ⟨hx, hb, hr, hml, hown, hts, hlocks⟩ := id C0
  have hA : ∀ z : Nat, s.heap.size ≤ z → va_A (wdK q k cI cJ σ) s.heap.size z := fun z h => Or.inr h
  generalize va_A (wdK q k cI cJ σ) s.heap.size = A at hD hA ⊢
  have hS : va_S A s.heap s.heap [] := va_S.rf
  have hl : lv_has ls 4 [(0, .ref (q 0)), (1, .int x1), (2, .int x2)] := hl
  unfold fK_dropFills at hf
  refine lv_aload_n hx hb dK_dropFills_0 rfl (lv_at hl 0 rfl) ?_
  refine gK_filledBy hx hb hown hts hK hP dK_dropFills_1 ?_
  refine lv_iload_n hx hb dK_dropFills_4 rfl (lv_at hl 1 rfl) ?_
  refine lv_iconst (v := (-1)) hx hb dK_dropFills_5 (by decide) ?_
  obtain ⟨a6, ea6, hf⟩ := kb1 hf
  refine kr_iastore (σ' := (uK_filledBy σ a6)) hx hb hK hP hD hS 6 0 rfl rfl ea6 rfl dK_dropFills_6 (fun H locs hP hD hS => ?_)
  generalize (uK_filledBy σ a6) = s6 at hf hP hD
  refine lv_aload_n hx hb dK_dropFills_7 rfl (lv_at hl 0 rfl) ?_
  refine gK_filledBy hx hb hown hts hK hP dK_dropFills_8 ?_
  refine lv_iload_n hx hb dK_dropFills_11 rfl (lv_at hl 2 rfl) ?_
  refine lv_iconst (v := (-1)) hx hb dK_dropFills_12 (by decide) ?_
  obtain ⟨a13, ea13, hf⟩ := kb1 hf
  refine kr_iastore (σ' := (uK_filledBy s6 a13)) hx hb hK hP hD hS 6 0 rfl rfl ea13 rfl dK_dropFills_13 (fun H locs hP hD hS => ?_)
  generalize (uK_filledBy s6 a13) = s13 at hf hP hD
  refine lv_iconst (v := 0) hx hb dK_dropFills_14 (by decide) ?_
  refine lv_istore_n (lv' := [(3, .int 0), (0, .ref (q 0)), (1, .int x1), (2, .int x2)]) hx hb dK_dropFills_15 rfl hl (by decide) rfl (fun ls hl => ?_)
  exact tK_dropFills_16 C0 hK hA fu s13 x1 x2 0 _ _ ls hf (lv_sub hl [1, 2, 3, 0] rfl) hP hD hS
theorem dK_moveReadings_0 : decode cK_moveReadings 0 = .ok (.iconst 0, 1) := by decide +kernel
theorem dK_moveReadings_1 : decode cK_moveReadings 1 = .ok (.istore_n 3, 1) := by decide +kernel
theorem dK_moveReadings_2 : decode cK_moveReadings 2 = .ok (.iload_n 3, 1) := by decide +kernel
theorem dK_moveReadings_3 : decode cK_moveReadings 3 = .ok (.iconst 5, 1) := by decide +kernel
theorem dK_moveReadings_4 : decode cK_moveReadings 4 = .ok (.if_icmp .ge (85), 3) := by decide +kernel
theorem dK_moveReadings_7 : decode cK_moveReadings 7 = .ok (.aload_n 0, 1) := by decide +kernel
theorem dK_moveReadings_8 : decode cK_moveReadings 8 = .ok (.getfield 42, 3) := by decide +kernel
theorem dK_moveReadings_11 : decode cK_moveReadings 11 = .ok (.iload_n 3, 1) := by decide +kernel
theorem dK_moveReadings_12 : decode cK_moveReadings 12 = .ok (.aload_n 0, 1) := by decide +kernel
theorem dK_moveReadings_13 : decode cK_moveReadings 13 = .ok (.getfield 26, 3) := by decide +kernel
theorem dK_moveReadings_16 : decode cK_moveReadings 16 = .ok (.imul, 1) := by decide +kernel
theorem dK_moveReadings_17 : decode cK_moveReadings 17 = .ok (.iload_n 1, 1) := by decide +kernel
theorem dK_moveReadings_18 : decode cK_moveReadings 18 = .ok (.iadd, 1) := by decide +kernel
theorem dK_moveReadings_19 : decode cK_moveReadings 19 = .ok (.dup2, 1) := by decide +kernel
theorem dK_moveReadings_20 : decode cK_moveReadings 20 = .ok (.iaload, 1) := by decide +kernel
theorem dK_moveReadings_21 : decode cK_moveReadings 21 = .ok (.aload_n 0, 1) := by decide +kernel
theorem dK_moveReadings_22 : decode cK_moveReadings 22 = .ok (.getfield 42, 3) := by decide +kernel
theorem dK_moveReadings_25 : decode cK_moveReadings 25 = .ok (.iload_n 3, 1) := by decide +kernel
theorem dK_moveReadings_26 : decode cK_moveReadings 26 = .ok (.aload_n 0, 1) := by decide +kernel
theorem dK_moveReadings_27 : decode cK_moveReadings 27 = .ok (.getfield 26, 3) := by decide +kernel
theorem dK_moveReadings_30 : decode cK_moveReadings 30 = .ok (.imul, 1) := by decide +kernel
theorem dK_moveReadings_31 : decode cK_moveReadings 31 = .ok (.iload_n 2, 1) := by decide +kernel
theorem dK_moveReadings_32 : decode cK_moveReadings 32 = .ok (.iadd, 1) := by decide +kernel
theorem dK_moveReadings_33 : decode cK_moveReadings 33 = .ok (.iaload, 1) := by decide +kernel
theorem dK_moveReadings_34 : decode cK_moveReadings 34 = .ok (.iadd, 1) := by decide +kernel
theorem dK_moveReadings_35 : decode cK_moveReadings 35 = .ok (.iastore, 1) := by decide +kernel
theorem dK_moveReadings_36 : decode cK_moveReadings 36 = .ok (.iconst 0, 1) := by decide +kernel
theorem dK_moveReadings_37 : decode cK_moveReadings 37 = .ok (.istore 4, 2) := by decide +kernel
theorem dK_moveReadings_39 : decode cK_moveReadings 39 = .ok (.iload 4, 2) := by decide +kernel
theorem dK_moveReadings_41 : decode cK_moveReadings 41 = .ok (.aload_n 0, 1) := by decide +kernel
theorem dK_moveReadings_42 : decode cK_moveReadings 42 = .ok (.getfield 29, 3) := by decide +kernel
theorem dK_moveReadings_45 : decode cK_moveReadings 45 = .ok (.if_icmp .ge (38), 3) := by decide +kernel
theorem dK_moveReadings_48 : decode cK_moveReadings 48 = .ok (.aload_n 0, 1) := by decide +kernel
theorem dK_moveReadings_49 : decode cK_moveReadings 49 = .ok (.getfield 39, 3) := by decide +kernel
theorem dK_moveReadings_52 : decode cK_moveReadings 52 = .ok (.aload_n 0, 1) := by decide +kernel
theorem dK_moveReadings_53 : decode cK_moveReadings 53 = .ok (.iload_n 3, 1) := by decide +kernel
theorem dK_moveReadings_54 : decode cK_moveReadings 54 = .ok (.iload_n 1, 1) := by decide +kernel
theorem dK_moveReadings_55 : decode cK_moveReadings 55 = .ok (.iload 4, 2) := by decide +kernel
theorem dK_moveReadings_57 : decode cK_moveReadings 57 = .ok (.invokevirtual 96, 3) := by decide +kernel
theorem dK_moveReadings_60 : decode cK_moveReadings 60 = .ok (.dup2, 1) := by decide +kernel
theorem dK_moveReadings_61 : decode cK_moveReadings 61 = .ok (.iaload, 1) := by decide +kernel
theorem dK_moveReadings_62 : decode cK_moveReadings 62 = .ok (.aload_n 0, 1) := by decide +kernel
theorem dK_moveReadings_63 : decode cK_moveReadings 63 = .ok (.getfield 39, 3) := by decide +kernel
theorem dK_moveReadings_66 : decode cK_moveReadings 66 = .ok (.aload_n 0, 1) := by decide +kernel
theorem dK_moveReadings_67 : decode cK_moveReadings 67 = .ok (.iload_n 3, 1) := by decide +kernel
theorem dK_moveReadings_68 : decode cK_moveReadings 68 = .ok (.iload_n 2, 1) := by decide +kernel
theorem dK_moveReadings_69 : decode cK_moveReadings 69 = .ok (.iload 4, 2) := by decide +kernel
theorem dK_moveReadings_71 : decode cK_moveReadings 71 = .ok (.invokevirtual 96, 3) := by decide +kernel
theorem dK_moveReadings_74 : decode cK_moveReadings 74 = .ok (.iaload, 1) := by decide +kernel
theorem dK_moveReadings_75 : decode cK_moveReadings 75 = .ok (.iadd, 1) := by decide +kernel
theorem dK_moveReadings_76 : decode cK_moveReadings 76 = .ok (.iastore, 1) := by decide +kernel
theorem dK_moveReadings_77 : decode cK_moveReadings 77 = .ok (.iinc 4 (1), 3) := by decide +kernel
theorem dK_moveReadings_80 : decode cK_moveReadings 80 = .ok (.goto (-41), 3) := by decide +kernel
theorem dK_moveReadings_83 : decode cK_moveReadings 83 = .ok (.iinc 3 (1), 3) := by decide +kernel
theorem dK_moveReadings_86 : decode cK_moveReadings 86 = .ok (.goto (-84), 3) := by decide +kernel
theorem dK_moveReadings_89 : decode cK_moveReadings 89 = .ok (.return_, 1) := by decide +kernel
set_option maxHeartbeats 4000000 in
set_option maxRecDepth 100000 in
theorem tK_moveReadings_39 {p : Program} {l : Launch} {e : Env} {s : State} {m : MethodId} {args : Array Value} {below : List Frame} {meth : Method} {c : Code} {D : va_G} {A : Nat → Prop} {q : Nat → Nat} {k : kK} {cI cJ : ClassId} {σ' : sK} {fu : Nat} {h2 : sK → Int32 → Int32 → Int32 → Option sK} (C0 : Cx p s m args meth c cK_moveReadings 5 none RK TK) (hK : va_K D cl0 [(cI, .int), (cJ, .long)] s) (hA : ∀ z, s.heap.size ≤ z → A z) (ih2 : ∀ (σ : sK) (x1 : Int32) (x2 : Int32) (x3 : Int32)(H : Heap) (locs : List Loc) (ls : Array Slot), h2 σ x1 x2 x3 = some σ' → lv_has ls 5 [(0, .ref (q 0)), (1, .int x1), (2, .int x2), (3, .int x3)] → va_P D cl0 (wdK q k cI cJ σ) H → va_D A (wdK q k cI cJ σ) → va_S A s.heap H locs → W p l e ({ frames := 1, cells := 0, slots := 0, locals := 23 }) s m args below meth c H locs 0 0 (MQ below (kQv D cl0 [(cI, .int), (cJ, .long)] (wdK q k cI cJ) A σ') args s 0 0 A) (F0 m 2 ls [])) : ∀ n : Nat, ∀ (σ : sK) (x1 : Int32) (x2 : Int32) (x3 : Int32) (x4 : Int32)(H : Heap) (locs : List Loc) (ls : Array Slot), fK_moveReadings_39 fu k h2 n σ x1 x2 x3 x4 = some σ' → lv_has ls 5 [(0, .ref (q 0)), (1, .int x1), (2, .int x2), (3, .int x3), (4, .int x4)] → va_P D cl0 (wdK q k cI cJ σ) H → va_D A (wdK q k cI cJ σ) → va_S A s.heap H locs → W p l e ({ frames := 1, cells := 0, slots := 0, locals := 23 }) s m args below meth c H locs 0 0 (MQ below (kQv D cl0 [(cI, .int), (cJ, .long)] (wdK q k cI cJ) A σ') args s 0 0 A) (F0 m 39 ls []) := by
  obtain ⟨hx, hb, hr, hml, hown, hts, hlocks⟩ := id C0
  intro n
  induction n with
  | zero =>
    intro σ x1 x2 x3 x4 H locs ls hf hl hP hD hS
    cases hf
  | succ n ih =>
    intro σ x1 x2 x3 x4 H locs ls hf hl hP hD hS
    rw [fK_moveReadings_39] at hf
    refine lv_iload hx hb dK_moveReadings_39 (lv_at hl 4 rfl) ?_
    refine lv_aload_n hx hb dK_moveReadings_41 rfl (lv_at hl 0 rfl) ?_
    refine gK_ages hx hb hown hts hK hP dK_moveReadings_42 ?_
    refine lv_icmp_ge (tgt := 83) hx hb dK_moveReadings_45 (by decide) (fun c45 => ?_) (fun c45 => ?_)
    · have hf := (if_pos c45).symm.trans hf
      refine lv_iinc (v := (x3 + 1)) (lv' := [(3, .int (x3 + 1)), (0, .ref (q 0)), (1, .int x1), (2, .int x2), (4, .int x4)]) hx hb dK_moveReadings_83 hl (k := 3) rfl rfl (by decide) rfl (fun ls hl => ?_)
      refine lv_goto (tgt := 2) hx hb dK_moveReadings_86 (by decide) ?_
      exact ih2 σ x1 x2 (x3 + 1) _ _ ls hf (lv_sub hl [1, 2, 3, 0] rfl) hP hD hS
    · have hf := (if_neg c45).symm.trans hf
      refine lv_aload_n hx hb dK_moveReadings_48 rfl (lv_at hl 0 rfl) ?_
      refine gK_groupReadings hx hb hown hts hK hP dK_moveReadings_49 ?_
      refine lv_aload_n hx hb dK_moveReadings_52 rfl (lv_at hl 0 rfl) ?_
      refine lv_iload_n hx hb dK_moveReadings_53 rfl (lv_at hl 3 rfl) ?_
      refine lv_iload_n hx hb dK_moveReadings_54 rfl (lv_at hl 1 rfl) ?_
      refine lv_iload hx hb dK_moveReadings_55 (lv_at hl 4 rfl) ?_
      refine kr_callVi (av := [.int x3, .int x1, .int x4]) ⟨hx, hb, hml, hown, hts⟩ (mK_cell l D q k cI cJ _ σ x3 x1 x4 _ rfl) (cwV 3 hts (kgood_V TK_good (by decide +kernel)) rfl rfl rfl (by decide +kernel) ⟨Nat.le_of_ble_eq_true rfl, Nat.le_of_ble_eq_true rfl⟩) hK hP hD hS hA (ci := 0) (q0 := 0) rfl rfl rfl hl.1 rfl (Nat.le_of_ble_eq_true rfl) dK_moveReadings_57 ⟨Nat.le_of_ble_eq_true rfl, Nat.le_of_ble_eq_true rfl⟩ (fun H locs hP hD hS => ?_)
      refine lv_dup2_11 hx hb dK_moveReadings_60 rfl rfl ?_
      obtain ⟨v61, ev61, hf⟩ := kb1 hf
      refine kr_iaload hx hb hK hP 3 0 rfl rfl ev61 dK_moveReadings_61 ?_
      refine lv_aload_n hx hb dK_moveReadings_62 rfl (lv_at hl 0 rfl) ?_
      refine gK_groupReadings hx hb hown hts hK hP dK_moveReadings_63 ?_
      refine lv_aload_n hx hb dK_moveReadings_66 rfl (lv_at hl 0 rfl) ?_
      refine lv_iload_n hx hb dK_moveReadings_67 rfl (lv_at hl 3 rfl) ?_
      refine lv_iload_n hx hb dK_moveReadings_68 rfl (lv_at hl 2 rfl) ?_
      refine lv_iload hx hb dK_moveReadings_69 (lv_at hl 4 rfl) ?_
      refine kr_callVi (av := [.int x3, .int x2, .int x4]) ⟨hx, hb, hml, hown, hts⟩ (mK_cell l D q k cI cJ _ σ x3 x2 x4 _ rfl) (cwV 3 hts (kgood_V TK_good (by decide +kernel)) rfl rfl rfl (by decide +kernel) ⟨Nat.le_of_ble_eq_true rfl, Nat.le_of_ble_eq_true rfl⟩) hK hP hD hS hA (ci := 0) (q0 := 0) rfl rfl rfl hl.1 rfl (Nat.le_of_ble_eq_true rfl) dK_moveReadings_71 ⟨Nat.le_of_ble_eq_true rfl, Nat.le_of_ble_eq_true rfl⟩ (fun H locs hP hD hS => ?_)
      obtain ⟨v74, ev74, hf⟩ := kb1 hf
      refine kr_iaload hx hb hK hP 3 0 rfl rfl ev74 dK_moveReadings_74 ?_
      refine lv_iadd hx hb dK_moveReadings_75 ?_
      obtain ⟨a76, ea76, hf⟩ := kb1 hf
      refine kr_iastore (σ' := (uK_groupReadings σ a76)) hx hb hK hP hD hS 3 0 rfl rfl ea76 rfl dK_moveReadings_76 (fun H locs hP hD hS => ?_)
      generalize (uK_groupReadings σ a76) = s76 at hf hP hD
      refine lv_iinc (v := (x4 + 1)) (lv' := [(4, .int (x4 + 1)), (0, .ref (q 0)), (1, .int x1), (2, .int x2), (3, .int x3)]) hx hb dK_moveReadings_77 hl (k := 4) rfl rfl (by decide) rfl (fun ls hl => ?_)
      refine lv_goto (tgt := 39) hx hb dK_moveReadings_80 (by decide) ?_
      exact ih s76 x1 x2 x3 (x4 + 1) _ _ ls hf (lv_sub hl [1, 2, 3, 4, 0] rfl) hP hD hS
set_option maxHeartbeats 4000000 in
set_option maxRecDepth 100000 in
theorem tK_moveReadings_2 {p : Program} {l : Launch} {e : Env} {s : State} {m : MethodId} {args : Array Value} {below : List Frame} {meth : Method} {c : Code} {D : va_G} {A : Nat → Prop} {q : Nat → Nat} {k : kK} {cI cJ : ClassId} {σ' : sK} {fu : Nat} (C0 : Cx p s m args meth c cK_moveReadings 5 none RK TK) (hK : va_K D cl0 [(cI, .int), (cJ, .long)] s) (hA : ∀ z, s.heap.size ≤ z → A z) : ∀ n : Nat, ∀ (σ : sK) (x1 : Int32) (x2 : Int32) (x3 : Int32)(H : Heap) (locs : List Loc) (ls : Array Slot), fK_moveReadings_2 fu k n σ x1 x2 x3 = some σ' → lv_has ls 5 [(0, .ref (q 0)), (1, .int x1), (2, .int x2), (3, .int x3)] → va_P D cl0 (wdK q k cI cJ σ) H → va_D A (wdK q k cI cJ σ) → va_S A s.heap H locs → W p l e ({ frames := 1, cells := 0, slots := 0, locals := 23 }) s m args below meth c H locs 0 0 (MQ below (kQv D cl0 [(cI, .int), (cJ, .long)] (wdK q k cI cJ) A σ') args s 0 0 A) (F0 m 2 ls []) := by
  obtain ⟨hx, hb, hr, hml, hown, hts, hlocks⟩ := id C0
  intro n
  induction n with
  | zero =>
    intro σ x1 x2 x3 H locs ls hf hl hP hD hS
    cases hf
  | succ n ih =>
    intro σ x1 x2 x3 H locs ls hf hl hP hD hS
    rw [fK_moveReadings_2] at hf
    refine lv_iload_n hx hb dK_moveReadings_2 rfl (lv_at hl 3 rfl) ?_
    refine lv_iconst (v := 5) hx hb dK_moveReadings_3 (by decide) ?_
    refine lv_icmp_ge (tgt := 89) hx hb dK_moveReadings_4 (by decide) (fun c4 => ?_) (fun c4 => ?_)
    · have hf := (if_pos c4).symm.trans hf
      exact kr_vret C0 hK hP hD hS (Option.some.inj hf) dK_moveReadings_89
    · have hf := (if_neg c4).symm.trans hf
      refine lv_aload_n hx hb dK_moveReadings_7 rfl (lv_at hl 0 rfl) ?_
      refine gK_groupSize hx hb hown hts hK hP dK_moveReadings_8 ?_
      refine lv_iload_n hx hb dK_moveReadings_11 rfl (lv_at hl 3 rfl) ?_
      refine lv_aload_n hx hb dK_moveReadings_12 rfl (lv_at hl 0 rfl) ?_
      refine gK_classes hx hb hown hts hK hP dK_moveReadings_13 ?_
      refine lv_imul hx hb dK_moveReadings_16 ?_
      refine lv_iload_n hx hb dK_moveReadings_17 rfl (lv_at hl 1 rfl) ?_
      refine lv_iadd hx hb dK_moveReadings_18 ?_
      refine lv_dup2_11 hx hb dK_moveReadings_19 rfl rfl ?_
      obtain ⟨v20, ev20, hf⟩ := kb1 hf
      refine kr_iaload hx hb hK hP 4 0 rfl rfl ev20 dK_moveReadings_20 ?_
      refine lv_aload_n hx hb dK_moveReadings_21 rfl (lv_at hl 0 rfl) ?_
      refine gK_groupSize hx hb hown hts hK hP dK_moveReadings_22 ?_
      refine lv_iload_n hx hb dK_moveReadings_25 rfl (lv_at hl 3 rfl) ?_
      refine lv_aload_n hx hb dK_moveReadings_26 rfl (lv_at hl 0 rfl) ?_
      refine gK_classes hx hb hown hts hK hP dK_moveReadings_27 ?_
      refine lv_imul hx hb dK_moveReadings_30 ?_
      refine lv_iload_n hx hb dK_moveReadings_31 rfl (lv_at hl 2 rfl) ?_
      refine lv_iadd hx hb dK_moveReadings_32 ?_
      obtain ⟨v33, ev33, hf⟩ := kb1 hf
      refine kr_iaload hx hb hK hP 4 0 rfl rfl ev33 dK_moveReadings_33 ?_
      refine lv_iadd hx hb dK_moveReadings_34 ?_
      obtain ⟨a35, ea35, hf⟩ := kb1 hf
      refine kr_iastore (σ' := (uK_groupSize σ a35)) hx hb hK hP hD hS 4 0 rfl rfl ea35 rfl dK_moveReadings_35 (fun H locs hP hD hS => ?_)
      generalize (uK_groupSize σ a35) = s35 at hf hP hD
      refine lv_iconst (v := 0) hx hb dK_moveReadings_36 (by decide) ?_
      refine lv_istore (lv' := [(4, .int 0), (0, .ref (q 0)), (1, .int x1), (2, .int x2), (3, .int x3)]) hx hb dK_moveReadings_37 hl (by decide) rfl (fun ls hl => ?_)
      exact tK_moveReadings_39 C0 hK hA ih fu s35 x1 x2 x3 0 _ _ ls hf (lv_sub hl [1, 2, 3, 4, 0] rfl) hP hD hS
set_option maxHeartbeats 4000000 in
set_option maxRecDepth 100000 in
theorem mK_moveReadings (l : Launch) (D : va_G) (q : Nat → Nat) (k : kK) (cI cJ : ClassId) (sz : Nat) (fu : Nat) (σ : sK) (σ' : sK) (x1 : Int32) (x2 : Int32) (hf : fK_moveReadings fu k σ x1 x2 = some σ') : Met l yK_moveReadings (.code yK_moveReadings cK_moveReadings 5 none :: TK) ({ frames := 1, cells := 0, slots := 0, locals := 23 }) (kPre D cl0 [(cI, .int), (cJ, .long)] (wdK q k cI cJ) sz σ [.ref (q 0), .int x1, .int x2]) (kQv D cl0 [(cI, .int), (cJ, .long)] (wdK q k cI cJ) (va_A (wdK q k cI cJ σ) sz) σ') 0 0 (va_A (wdK q k cI cJ σ) sz) := by
  refine kr_start (own := RK) (by decide) rfl (Nat.le_of_ble_eq_true rfl) ?_
  intro p e s m args below meth c ls C0 hsz hK hP hD hl
  subst hsz
  obtain ⟨hx, hb, hr, hml, hown, hts, hlocks⟩ := id C0
  have hA : ∀ z : Nat, s.heap.size ≤ z → va_A (wdK q k cI cJ σ) s.heap.size z := fun z h => Or.inr h
  generalize va_A (wdK q k cI cJ σ) s.heap.size = A at hD hA ⊢
  have hS : va_S A s.heap s.heap [] := va_S.rf
  have hl : lv_has ls 5 [(0, .ref (q 0)), (1, .int x1), (2, .int x2)] := hl
  unfold fK_moveReadings at hf
  refine lv_iconst (v := 0) hx hb dK_moveReadings_0 (by decide) ?_
  refine lv_istore_n (lv' := [(3, .int 0), (0, .ref (q 0)), (1, .int x1), (2, .int x2)]) hx hb dK_moveReadings_1 rfl hl (by decide) rfl (fun ls hl => ?_)
  exact tK_moveReadings_2 C0 hK hA fu σ x1 x2 0 _ _ ls hf (lv_sub hl [1, 2, 3, 0] rfl) hP hD hS
theorem dK_joined_0 : decode cK_joined 0 = .ok (.aload_n 0, 1) := by decide +kernel
theorem dK_joined_1 : decode cK_joined 1 = .ok (.iload_n 1, 1) := by decide +kernel
theorem dK_joined_2 : decode cK_joined 2 = .ok (.invokevirtual 79, 3) := by decide +kernel
theorem dK_joined_5 : decode cK_joined 5 = .ok (.ifCond .eq (11), 3) := by decide +kernel
theorem dK_joined_8 : decode cK_joined 8 = .ok (.aload_n 0, 1) := by decide +kernel
theorem dK_joined_9 : decode cK_joined 9 = .ok (.iload_n 2, 1) := by decide +kernel
theorem dK_joined_10 : decode cK_joined 10 = .ok (.invokevirtual 79, 3) := by decide +kernel
theorem dK_joined_13 : decode cK_joined 13 = .ok (.ifCond .ne (5), 3) := by decide +kernel
theorem dK_joined_16 : decode cK_joined 16 = .ok (.iconst (-1), 1) := by decide +kernel
theorem dK_joined_17 : decode cK_joined 17 = .ok (.ireturn, 1) := by decide +kernel
theorem dK_joined_18 : decode cK_joined 18 = .ok (.aload_n 0, 1) := by decide +kernel
theorem dK_joined_19 : decode cK_joined 19 = .ok (.getfield 45, 3) := by decide +kernel
theorem dK_joined_22 : decode cK_joined 22 = .ok (.iload_n 1, 1) := by decide +kernel
theorem dK_joined_23 : decode cK_joined 23 = .ok (.iaload, 1) := by decide +kernel
theorem dK_joined_24 : decode cK_joined 24 = .ok (.aload_n 0, 1) := by decide +kernel
theorem dK_joined_25 : decode cK_joined 25 = .ok (.getfield 45, 3) := by decide +kernel
theorem dK_joined_28 : decode cK_joined 28 = .ok (.iload_n 2, 1) := by decide +kernel
theorem dK_joined_29 : decode cK_joined 29 = .ok (.iaload, 1) := by decide +kernel
theorem dK_joined_30 : decode cK_joined 30 = .ok (.invokestatic 17, 3) := by decide +kernel
theorem dK_joined_33 : decode cK_joined 33 = .ok (.istore_n 3, 1) := by decide +kernel
theorem dK_joined_34 : decode cK_joined 34 = .ok (.aload_n 0, 1) := by decide +kernel
theorem dK_joined_35 : decode cK_joined 35 = .ok (.getfield 45, 3) := by decide +kernel
theorem dK_joined_38 : decode cK_joined 38 = .ok (.iload_n 1, 1) := by decide +kernel
theorem dK_joined_39 : decode cK_joined 39 = .ok (.iaload, 1) := by decide +kernel
theorem dK_joined_40 : decode cK_joined 40 = .ok (.aload_n 0, 1) := by decide +kernel
theorem dK_joined_41 : decode cK_joined 41 = .ok (.getfield 45, 3) := by decide +kernel
theorem dK_joined_44 : decode cK_joined 44 = .ok (.iload_n 2, 1) := by decide +kernel
theorem dK_joined_45 : decode cK_joined 45 = .ok (.iaload, 1) := by decide +kernel
theorem dK_joined_46 : decode cK_joined 46 = .ok (.invokestatic 23, 3) := by decide +kernel
theorem dK_joined_49 : decode cK_joined 49 = .ok (.istore 4, 2) := by decide +kernel
theorem dK_joined_51 : decode cK_joined 51 = .ok (.iload_n 3, 1) := by decide +kernel
theorem dK_joined_52 : decode cK_joined 52 = .ok (.iload 4, 2) := by decide +kernel
theorem dK_joined_54 : decode cK_joined 54 = .ok (.if_icmp .eq (22), 3) := by decide +kernel
theorem dK_joined_57 : decode cK_joined 57 = .ok (.aload_n 0, 1) := by decide +kernel
theorem dK_joined_58 : decode cK_joined 58 = .ok (.iconst 4, 1) := by decide +kernel
theorem dK_joined_59 : decode cK_joined 59 = .ok (.iload_n 3, 1) := by decide +kernel
theorem dK_joined_60 : decode cK_joined 60 = .ok (.invokevirtual 89, 3) := by decide +kernel
theorem dK_joined_63 : decode cK_joined 63 = .ok (.aload_n 0, 1) := by decide +kernel
theorem dK_joined_64 : decode cK_joined 64 = .ok (.iconst 4, 1) := by decide +kernel
theorem dK_joined_65 : decode cK_joined 65 = .ok (.iload 4, 2) := by decide +kernel
theorem dK_joined_67 : decode cK_joined 67 = .ok (.invokevirtual 89, 3) := by decide +kernel
theorem dK_joined_70 : decode cK_joined 70 = .ok (.iadd, 1) := by decide +kernel
theorem dK_joined_71 : decode cK_joined 71 = .ok (.bipush (20), 2) := by decide +kernel
theorem dK_joined_73 : decode cK_joined 73 = .ok (.if_icmp .le (5), 3) := by decide +kernel
theorem dK_joined_76 : decode cK_joined 76 = .ok (.iconst (-1), 1) := by decide +kernel
theorem dK_joined_77 : decode cK_joined 77 = .ok (.ireturn, 1) := by decide +kernel
theorem dK_joined_78 : decode cK_joined 78 = .ok (.aload_n 0, 1) := by decide +kernel
theorem dK_joined_79 : decode cK_joined 79 = .ok (.iload_n 3, 1) := by decide +kernel
theorem dK_joined_80 : decode cK_joined 80 = .ok (.iload 4, 2) := by decide +kernel
theorem dK_joined_82 : decode cK_joined 82 = .ok (.invokevirtual 125, 3) := by decide +kernel
theorem dK_joined_85 : decode cK_joined 85 = .ok (.aload_n 0, 1) := by decide +kernel
theorem dK_joined_86 : decode cK_joined 86 = .ok (.iload_n 3, 1) := by decide +kernel
theorem dK_joined_87 : decode cK_joined 87 = .ok (.iload 4, 2) := by decide +kernel
theorem dK_joined_89 : decode cK_joined 89 = .ok (.invokevirtual 129, 3) := by decide +kernel
theorem dK_joined_92 : decode cK_joined 92 = .ok (.iconst 0, 1) := by decide +kernel
theorem dK_joined_93 : decode cK_joined 93 = .ok (.istore 5, 2) := by decide +kernel
theorem dK_joined_95 : decode cK_joined 95 = .ok (.iload 5, 2) := by decide +kernel
theorem dK_joined_97 : decode cK_joined 97 = .ok (.aload_n 0, 1) := by decide +kernel
theorem dK_joined_98 : decode cK_joined 98 = .ok (.getfield 26, 3) := by decide +kernel
theorem dK_joined_101 : decode cK_joined 101 = .ok (.if_icmp .ge (29), 3) := by decide +kernel
theorem dK_joined_104 : decode cK_joined 104 = .ok (.aload_n 0, 1) := by decide +kernel
theorem dK_joined_105 : decode cK_joined 105 = .ok (.getfield 45, 3) := by decide +kernel
theorem dK_joined_108 : decode cK_joined 108 = .ok (.iload 5, 2) := by decide +kernel
theorem dK_joined_110 : decode cK_joined 110 = .ok (.iaload, 1) := by decide +kernel
theorem dK_joined_111 : decode cK_joined 111 = .ok (.iload 4, 2) := by decide +kernel
theorem dK_joined_113 : decode cK_joined 113 = .ok (.if_icmp .ne (11), 3) := by decide +kernel
theorem dK_joined_116 : decode cK_joined 116 = .ok (.aload_n 0, 1) := by decide +kernel
theorem dK_joined_117 : decode cK_joined 117 = .ok (.getfield 45, 3) := by decide +kernel
theorem dK_joined_120 : decode cK_joined 120 = .ok (.iload 5, 2) := by decide +kernel
theorem dK_joined_122 : decode cK_joined 122 = .ok (.iload_n 3, 1) := by decide +kernel
theorem dK_joined_123 : decode cK_joined 123 = .ok (.iastore, 1) := by decide +kernel
theorem dK_joined_124 : decode cK_joined 124 = .ok (.iinc 5 (1), 3) := by decide +kernel
theorem dK_joined_127 : decode cK_joined 127 = .ok (.goto (-32), 3) := by decide +kernel
theorem dK_joined_130 : decode cK_joined 130 = .ok (.iload_n 3, 1) := by decide +kernel
theorem dK_joined_131 : decode cK_joined 131 = .ok (.ireturn, 1) := by decide +kernel
set_option maxHeartbeats 4000000 in
set_option maxRecDepth 100000 in
theorem tK_joined_95 {p : Program} {l : Launch} {e : Env} {s : State} {m : MethodId} {args : Array Value} {below : List Frame} {meth : Method} {c : Code} {D : va_G} {A : Nat → Prop} {q : Nat → Nat} {k : kK} {cI cJ : ClassId} {r : Int32} {σ' : sK} {fu : Nat} (C0 : Cx p s m args meth c cK_joined 6 (some .int) RK TK) (hK : va_K D cl0 [(cI, .int), (cJ, .long)] s) (hA : ∀ z, s.heap.size ≤ z → A z) : ∀ n : Nat, ∀ (σ : sK) (x3 : Int32) (x4 : Int32) (x5 : Int32)(H : Heap) (locs : List Loc) (ls : Array Slot), fK_joined_95 fu k n σ x3 x4 x5 = some (r, σ') → lv_has ls 6 [(0, .ref (q 0)), (3, .int x3), (4, .int x4), (5, .int x5)] → va_P D cl0 (wdK q k cI cJ σ) H → va_D A (wdK q k cI cJ σ) → va_S A s.heap H locs → W p l e ({ frames := 2, cells := 0, slots := 0, locals := 47 }) s m args below meth c H locs 0 0 (MQ below (kQi D cl0 [(cI, .int), (cJ, .long)] (wdK q k cI cJ) A r σ') args s 0 0 A) (F0 m 95 ls []) := by
  obtain ⟨hx, hb, hr, hml, hown, hts, hlocks⟩ := id C0
  intro n
  induction n with
  | zero =>
    intro σ x3 x4 x5 H locs ls hf hl hP hD hS
    cases hf
  | succ n ih =>
    intro σ x3 x4 x5 H locs ls hf hl hP hD hS
    rw [fK_joined_95] at hf
    refine lv_iload hx hb dK_joined_95 (lv_at hl 3 rfl) ?_
    refine lv_aload_n hx hb dK_joined_97 rfl (lv_at hl 0 rfl) ?_
    refine gK_classes hx hb hown hts hK hP dK_joined_98 ?_
    refine lv_icmp_ge (tgt := 130) hx hb dK_joined_101 (by decide) (fun c101 => ?_) (fun c101 => ?_)
    · have hf := (if_pos c101).symm.trans hf
      refine lv_iload_n hx hb dK_joined_130 rfl (lv_at hl 1 rfl) ?_
      exact kr_iret C0 hK hP hD hS (congrArg Prod.fst (Option.some.inj hf)) (congrArg Prod.snd (Option.some.inj hf)) dK_joined_131
    · have hf := (if_neg c101).symm.trans hf
      refine lv_aload_n hx hb dK_joined_104 rfl (lv_at hl 0 rfl) ?_
      refine gK_groupOf hx hb hown hts hK hP dK_joined_105 ?_
      refine lv_iload hx hb dK_joined_108 (lv_at hl 3 rfl) ?_
      obtain ⟨v110, ev110, hf⟩ := kb1 hf
      refine kr_iaload hx hb hK hP 5 0 rfl rfl ev110 dK_joined_110 ?_
      refine lv_iload hx hb dK_joined_111 (lv_at hl 2 rfl) ?_
      refine lv_icmp_ne (tgt := 124) hx hb dK_joined_113 (by decide) (fun c113 => ?_) (fun c113 => ?_)
      · have hf := (if_neg c113).symm.trans hf
        refine lv_iinc (v := (x5 + 1)) (lv' := [(5, .int (x5 + 1)), (0, .ref (q 0)), (3, .int x3), (4, .int x4)]) hx hb dK_joined_124 hl (k := 3) rfl rfl (by decide) rfl (fun ls hl => ?_)
        refine lv_goto (tgt := 95) hx hb dK_joined_127 (by decide) ?_
        exact ih σ x3 x4 (x5 + 1) _ _ ls hf (lv_sub hl [1, 2, 3, 0] rfl) hP hD hS
      · have hf := (if_pos c113).symm.trans hf
        refine lv_aload_n hx hb dK_joined_116 rfl (lv_at hl 0 rfl) ?_
        refine gK_groupOf hx hb hown hts hK hP dK_joined_117 ?_
        refine lv_iload hx hb dK_joined_120 (lv_at hl 3 rfl) ?_
        refine lv_iload_n hx hb dK_joined_122 rfl (lv_at hl 1 rfl) ?_
        obtain ⟨a123, ea123, hf⟩ := kb1 hf
        refine kr_iastore (σ' := (uK_groupOf σ a123)) hx hb hK hP hD hS 5 0 rfl rfl ea123 rfl dK_joined_123 (fun H locs hP hD hS => ?_)
        generalize (uK_groupOf σ a123) = s123 at hf hP hD
        refine lv_iinc (v := (x5 + 1)) (lv' := [(5, .int (x5 + 1)), (0, .ref (q 0)), (3, .int x3), (4, .int x4)]) hx hb dK_joined_124 hl (k := 3) rfl rfl (by decide) rfl (fun ls hl => ?_)
        refine lv_goto (tgt := 95) hx hb dK_joined_127 (by decide) ?_
        exact ih s123 x3 x4 (x5 + 1) _ _ ls hf (lv_sub hl [1, 2, 3, 0] rfl) hP hD hS
set_option maxHeartbeats 4000000 in
set_option maxRecDepth 100000 in
theorem mK_joined (l : Launch) (D : va_G) (q : Nat → Nat) (k : kK) (cI cJ : ClassId) (sz : Nat) (fu : Nat) (σ : sK) (σ' : sK) (x1 : Int32) (x2 : Int32) (r : Int32) (hf : fK_joined fu k σ x1 x2 = some (r, σ')) : Met l yK_joined (.code yK_joined cK_joined 6 (some .int) :: TK) ({ frames := 2, cells := 0, slots := 0, locals := 47 }) (kPre D cl0 [(cI, .int), (cJ, .long)] (wdK q k cI cJ) sz σ [.ref (q 0), .int x1, .int x2]) (kQi D cl0 [(cI, .int), (cJ, .long)] (wdK q k cI cJ) (va_A (wdK q k cI cJ σ) sz) r σ') 0 0 (va_A (wdK q k cI cJ σ) sz) := by
  refine kr_start (own := RK) (by decide) rfl (Nat.le_of_ble_eq_true rfl) ?_
  intro p e s m args below meth c ls C0 hsz hK hP hD hl
  subst hsz
  obtain ⟨hx, hb, hr, hml, hown, hts, hlocks⟩ := id C0
  have hA : ∀ z : Nat, s.heap.size ≤ z → va_A (wdK q k cI cJ σ) s.heap.size z := fun z h => Or.inr h
  generalize va_A (wdK q k cI cJ σ) s.heap.size = A at hD hA ⊢
  have hS : va_S A s.heap s.heap [] := va_S.rf
  have hl : lv_has ls 6 [(0, .ref (q 0)), (1, .int x1), (2, .int x2)] := hl
  unfold fK_joined at hf
  refine lv_aload_n hx hb dK_joined_0 rfl (lv_at hl 0 rfl) ?_
  refine lv_iload_n hx hb dK_joined_1 rfl (lv_at hl 1 rfl) ?_
  refine kr_callVi (av := [.int x1]) ⟨hx, hb, hml, hown, hts⟩ (mK_isClass l D q k cI cJ _ σ x1 _ rfl) (cwV 1 hts (kgood_V TK_good (by decide +kernel)) rfl rfl rfl (by decide +kernel) ⟨Nat.le_of_ble_eq_true rfl, Nat.le_of_ble_eq_true rfl⟩) hK hP hD hS hA (ci := 0) (q0 := 0) rfl rfl rfl hl.1 rfl (Nat.le_of_ble_eq_true rfl) dK_joined_2 ⟨Nat.le_of_ble_eq_true rfl, Nat.le_of_ble_eq_true rfl⟩ (fun H locs hP hD hS => ?_)
  refine lv_if_eq (tgt := 16) hx hb dK_joined_5 (by decide) (fun c5 => ?_) (fun c5 => ?_)
  · have hf := (if_pos c5).symm.trans hf
    refine lv_iconst (v := (-1)) hx hb dK_joined_16 (by decide) ?_
    exact kr_iret C0 hK hP hD hS (congrArg Prod.fst (Option.some.inj hf)) (congrArg Prod.snd (Option.some.inj hf)) dK_joined_17
  · have hf := (if_neg c5).symm.trans hf
    refine lv_aload_n hx hb dK_joined_8 rfl (lv_at hl 0 rfl) ?_
    refine lv_iload_n hx hb dK_joined_9 rfl (lv_at hl 2 rfl) ?_
    refine kr_callVi (av := [.int x2]) ⟨hx, hb, hml, hown, hts⟩ (mK_isClass l D q k cI cJ _ σ x2 _ rfl) (cwV 1 hts (kgood_V TK_good (by decide +kernel)) rfl rfl rfl (by decide +kernel) ⟨Nat.le_of_ble_eq_true rfl, Nat.le_of_ble_eq_true rfl⟩) hK hP hD hS hA (ci := 0) (q0 := 0) rfl rfl rfl hl.1 rfl (Nat.le_of_ble_eq_true rfl) dK_joined_10 ⟨Nat.le_of_ble_eq_true rfl, Nat.le_of_ble_eq_true rfl⟩ (fun H locs hP hD hS => ?_)
    refine lv_if_ne (tgt := 18) hx hb dK_joined_13 (by decide) (fun c13 => ?_) (fun c13 => ?_)
    · have hf := (if_neg c13).symm.trans hf
      refine lv_aload_n hx hb dK_joined_18 rfl (lv_at hl 0 rfl) ?_
      refine gK_groupOf hx hb hown hts hK hP dK_joined_19 ?_
      refine lv_iload_n hx hb dK_joined_22 rfl (lv_at hl 1 rfl) ?_
      obtain ⟨v23, ev23, hf⟩ := kb1 hf
      refine kr_iaload hx hb hK hP 5 0 rfl rfl ev23 dK_joined_23 ?_
      refine lv_aload_n hx hb dK_joined_24 rfl (lv_at hl 0 rfl) ?_
      refine gK_groupOf hx hb hown hts hK hP dK_joined_25 ?_
      refine lv_iload_n hx hb dK_joined_28 rfl (lv_at hl 2 rfl) ?_
      obtain ⟨v29, ev29, hf⟩ := kb1 hf
      refine kr_iaload hx hb hK hP 5 0 rfl rfl ev29 dK_joined_29 ?_
      refine va_mmin hx hb (hml.trans hl.1.symm) hown (hts (.methodLink RK 17 Lib.Math.min.name) (by decide +kernel)) (hts (.static Lib.Math.min.name) (by decide +kernel)) (hts (.initialized "java/lang/Math") (by decide +kernel)) (hts (.code Lib.Math.min.name Lib.Math.min.code 2 (some .int)) (by decide +kernel)) (Nat.le_of_ble_eq_true rfl) (Nat.le_of_ble_eq_true rfl) (Nat.le_of_ble_eq_true rfl) (Nat.le_of_ble_eq_true rfl) dK_joined_30 ?_
      refine lv_istore_n (lv' := [(3, .int (if v29 < v23 then v29 else v23)), (0, .ref (q 0)), (1, .int x1), (2, .int x2)]) hx hb dK_joined_33 rfl hl (by decide) rfl (fun ls hl => ?_)
      refine lv_aload_n hx hb dK_joined_34 rfl (lv_at hl 1 rfl) ?_
      refine gK_groupOf hx hb hown hts hK hP dK_joined_35 ?_
      refine lv_iload_n hx hb dK_joined_38 rfl (lv_at hl 2 rfl) ?_
      obtain ⟨v39, ev39, hf⟩ := kb1 hf
      refine kr_iaload hx hb hK hP 5 0 rfl rfl ev39 dK_joined_39 ?_
      refine lv_aload_n hx hb dK_joined_40 rfl (lv_at hl 1 rfl) ?_
      refine gK_groupOf hx hb hown hts hK hP dK_joined_41 ?_
      refine lv_iload_n hx hb dK_joined_44 rfl (lv_at hl 3 rfl) ?_
      obtain ⟨v45, ev45, hf⟩ := kb1 hf
      refine kr_iaload hx hb hK hP 5 0 rfl rfl ev45 dK_joined_45 ?_
      refine va_mmax hx hb (hml.trans hl.1.symm) hown (hts (.methodLink RK 23 Lib.Math.max.name) (by decide +kernel)) (hts (.static Lib.Math.max.name) (by decide +kernel)) (hts (.initialized "java/lang/Math") (by decide +kernel)) (hts (.code Lib.Math.max.name Lib.Math.max.code 2 (some .int)) (by decide +kernel)) (Nat.le_of_ble_eq_true rfl) (Nat.le_of_ble_eq_true rfl) (Nat.le_of_ble_eq_true rfl) (Nat.le_of_ble_eq_true rfl) dK_joined_46 ?_
      refine lv_istore (lv' := [(4, .int (if v39 < v45 then v45 else v39)), (3, .int (if v29 < v23 then v29 else v23)), (0, .ref (q 0)), (1, .int x1), (2, .int x2)]) hx hb dK_joined_49 hl (by decide) rfl (fun ls hl => ?_)
      refine lv_iload_n hx hb dK_joined_51 rfl (lv_at hl 1 rfl) ?_
      refine lv_iload hx hb dK_joined_52 (lv_at hl 0 rfl) ?_
      refine lv_icmp_eq (tgt := 76) hx hb dK_joined_54 (by decide) (fun c54 => ?_) (fun c54 => ?_)
      · have hf := (if_pos c54).symm.trans hf
        refine lv_iconst (v := (-1)) hx hb dK_joined_76 (by decide) ?_
        exact kr_iret C0 hK hP hD hS (congrArg Prod.fst (Option.some.inj hf)) (congrArg Prod.snd (Option.some.inj hf)) dK_joined_77
      · have hf := (if_neg c54).symm.trans hf
        refine lv_aload_n hx hb dK_joined_57 rfl (lv_at hl 2 rfl) ?_
        refine lv_iconst (v := 4) hx hb dK_joined_58 (by decide) ?_
        refine lv_iload_n hx hb dK_joined_59 rfl (lv_at hl 1 rfl) ?_
        obtain ⟨v60, ev60, hf⟩ := kb1 hf
        refine kr_callVi (av := [.int 4, .int (if v29 < v23 then v29 else v23)]) ⟨hx, hb, hml, hown, hts⟩ (mK_sizeIn l D q k cI cJ _ σ 4 (if v29 < v23 then v29 else v23) v60 ev60) (cwV 2 hts (kgood_V TK_good (by decide +kernel)) rfl rfl rfl (by decide +kernel) ⟨Nat.le_of_ble_eq_true rfl, Nat.le_of_ble_eq_true rfl⟩) hK hP hD hS hA (ci := 0) (q0 := 0) rfl rfl rfl hl.1 rfl (Nat.le_of_ble_eq_true rfl) dK_joined_60 ⟨Nat.le_of_ble_eq_true rfl, Nat.le_of_ble_eq_true rfl⟩ (fun H locs hP hD hS => ?_)
        refine lv_aload_n hx hb dK_joined_63 rfl (lv_at hl 2 rfl) ?_
        refine lv_iconst (v := 4) hx hb dK_joined_64 (by decide) ?_
        refine lv_iload hx hb dK_joined_65 (lv_at hl 0 rfl) ?_
        obtain ⟨v67, ev67, hf⟩ := kb1 hf
        refine kr_callVi (av := [.int 4, .int (if v39 < v45 then v45 else v39)]) ⟨hx, hb, hml, hown, hts⟩ (mK_sizeIn l D q k cI cJ _ σ 4 (if v39 < v45 then v45 else v39) v67 ev67) (cwV 2 hts (kgood_V TK_good (by decide +kernel)) rfl rfl rfl (by decide +kernel) ⟨Nat.le_of_ble_eq_true rfl, Nat.le_of_ble_eq_true rfl⟩) hK hP hD hS hA (ci := 0) (q0 := 0) rfl rfl rfl hl.1 rfl (Nat.le_of_ble_eq_true rfl) dK_joined_67 ⟨Nat.le_of_ble_eq_true rfl, Nat.le_of_ble_eq_true rfl⟩ (fun H locs hP hD hS => ?_)
        refine lv_iadd hx hb dK_joined_70 ?_
        refine lv_bipush (v := 20) hx hb dK_joined_71 (by decide) ?_
        refine lv_icmp_le (tgt := 78) hx hb dK_joined_73 (by decide) (fun c73 => ?_) (fun c73 => ?_)
        · have hf := (if_pos c73).symm.trans hf
          refine lv_aload_n hx hb dK_joined_78 rfl (lv_at hl 2 rfl) ?_
          refine lv_iload_n hx hb dK_joined_79 rfl (lv_at hl 1 rfl) ?_
          refine lv_iload hx hb dK_joined_80 (lv_at hl 0 rfl) ?_
          obtain ⟨s82, es82, hf⟩ := kb1 hf
          refine kr_callVv (av := [.int (if v29 < v23 then v29 else v23), .int (if v39 < v45 then v45 else v39)]) ⟨hx, hb, hml, hown, hts⟩ (mK_dropFills l D q k cI cJ _ fu σ s82 (if v29 < v23 then v29 else v23) (if v39 < v45 then v45 else v39) es82) (cwV 2 hts (kgood_V TK_good (by decide +kernel)) rfl rfl rfl (by decide +kernel) ⟨Nat.le_of_ble_eq_true rfl, Nat.le_of_ble_eq_true rfl⟩) hK hP hD hS hA (ci := 0) (q0 := 0) rfl rfl rfl hl.1 rfl (Nat.le_of_ble_eq_true rfl) dK_joined_82 ⟨Nat.le_of_ble_eq_true rfl, Nat.le_of_ble_eq_true rfl⟩ (fun H locs hP hD hS => ?_)
          refine lv_aload_n hx hb dK_joined_85 rfl (lv_at hl 2 rfl) ?_
          refine lv_iload_n hx hb dK_joined_86 rfl (lv_at hl 1 rfl) ?_
          refine lv_iload hx hb dK_joined_87 (lv_at hl 0 rfl) ?_
          obtain ⟨s89, es89, hf⟩ := kb1 hf
          refine kr_callVv (av := [.int (if v29 < v23 then v29 else v23), .int (if v39 < v45 then v45 else v39)]) ⟨hx, hb, hml, hown, hts⟩ (mK_moveReadings l D q k cI cJ _ fu s82 s89 (if v29 < v23 then v29 else v23) (if v39 < v45 then v45 else v39) es89) (cwV 2 hts (kgood_V TK_good (by decide +kernel)) rfl rfl rfl (by decide +kernel) ⟨Nat.le_of_ble_eq_true rfl, Nat.le_of_ble_eq_true rfl⟩) hK hP hD hS hA (ci := 0) (q0 := 0) rfl rfl rfl hl.1 rfl (Nat.le_of_ble_eq_true rfl) dK_joined_89 ⟨Nat.le_of_ble_eq_true rfl, Nat.le_of_ble_eq_true rfl⟩ (fun H locs hP hD hS => ?_)
          refine lv_iconst (v := 0) hx hb dK_joined_92 (by decide) ?_
          refine lv_istore (lv' := [(5, .int 0), (4, .int (if v39 < v45 then v45 else v39)), (3, .int (if v29 < v23 then v29 else v23)), (0, .ref (q 0)), (1, .int x1), (2, .int x2)]) hx hb dK_joined_93 hl (by decide) rfl (fun ls hl => ?_)
          exact tK_joined_95 C0 hK hA fu s89 (if v29 < v23 then v29 else v23) (if v39 < v45 then v45 else v39) 0 _ _ ls hf (lv_sub hl [3, 2, 1, 0] rfl) hP hD hS
        · have hf := (if_neg c73).symm.trans hf
          refine lv_iconst (v := (-1)) hx hb dK_joined_76 (by decide) ?_
          exact kr_iret C0 hK hP hD hS (congrArg Prod.fst (Option.some.inj hf)) (congrArg Prod.snd (Option.some.inj hf)) dK_joined_77
    · have hf := (if_pos c13).symm.trans hf
      refine lv_iconst (v := (-1)) hx hb dK_joined_16 (by decide) ?_
      exact kr_iret C0 hK hP hD hS (congrArg Prod.fst (Option.some.inj hf)) (congrArg Prod.snd (Option.some.inj hf)) dK_joined_17
end
section
theorem dK_groups_0 : decode cK_groups 0 = .ok (.iconst 0, 1) := by decide +kernel
theorem dK_groups_1 : decode cK_groups 1 = .ok (.istore_n 1, 1) := by decide +kernel
theorem dK_groups_2 : decode cK_groups 2 = .ok (.iconst 0, 1) := by decide +kernel
theorem dK_groups_3 : decode cK_groups 3 = .ok (.istore_n 2, 1) := by decide +kernel
theorem dK_groups_4 : decode cK_groups 4 = .ok (.iload_n 2, 1) := by decide +kernel
theorem dK_groups_5 : decode cK_groups 5 = .ok (.aload_n 0, 1) := by decide +kernel
theorem dK_groups_6 : decode cK_groups 6 = .ok (.getfield 26, 3) := by decide +kernel
theorem dK_groups_9 : decode cK_groups 9 = .ok (.if_icmp .ge (20), 3) := by decide +kernel
theorem dK_groups_12 : decode cK_groups 12 = .ok (.aload_n 0, 1) := by decide +kernel
theorem dK_groups_13 : decode cK_groups 13 = .ok (.iload_n 2, 1) := by decide +kernel
theorem dK_groups_14 : decode cK_groups 14 = .ok (.invokevirtual 119, 3) := by decide +kernel
theorem dK_groups_17 : decode cK_groups 17 = .ok (.ifCond .eq (6), 3) := by decide +kernel
theorem dK_groups_20 : decode cK_groups 20 = .ok (.iinc 1 (1), 3) := by decide +kernel
theorem dK_groups_23 : decode cK_groups 23 = .ok (.iinc 2 (1), 3) := by decide +kernel
theorem dK_groups_26 : decode cK_groups 26 = .ok (.goto (-22), 3) := by decide +kernel
theorem dK_groups_29 : decode cK_groups 29 = .ok (.iload_n 1, 1) := by decide +kernel
theorem dK_groups_30 : decode cK_groups 30 = .ok (.ireturn, 1) := by decide +kernel
set_option maxHeartbeats 4000000 in
set_option maxRecDepth 100000 in
theorem tK_groups_4 {p : Program} {l : Launch} {e : Env} {s : State} {m : MethodId} {args : Array Value} {below : List Frame} {meth : Method} {c : Code} {D : va_G} {A : Nat → Prop} {q : Nat → Nat} {k : kK} {cI cJ : ClassId} {r : Int32} {σ : sK} {fu : Nat} (C0 : Cx p s m args meth c cK_groups 3 (some .int) RK TK) (hK : va_K D cl0 [(cI, .int), (cJ, .long)] s) (hA : ∀ z, s.heap.size ≤ z → A z) : ∀ n : Nat, ∀ (x1 : Int32) (x2 : Int32)(H : Heap) (locs : List Loc) (ls : Array Slot), fK_groups_4 fu k σ n x1 x2 = some r → lv_has ls 3 [(0, .ref (q 0)), (1, .int x1), (2, .int x2)] → va_P D cl0 (wdK q k cI cJ σ) H → va_D A (wdK q k cI cJ σ) → va_S A s.heap H locs → W p l e ({ frames := 1, cells := 0, slots := 0, locals := 21 }) s m args below meth c H locs 0 0 (MQ below (kQi D cl0 [(cI, .int), (cJ, .long)] (wdK q k cI cJ) A r σ) args s 0 0 A) (F0 m 4 ls []) := by
  obtain ⟨hx, hb, hr, hml, hown, hts, hlocks⟩ := id C0
  intro n
  induction n with
  | zero =>
    intro x1 x2 H locs ls hf hl hP hD hS
    cases hf
  | succ n ih =>
    intro x1 x2 H locs ls hf hl hP hD hS
    rw [fK_groups_4] at hf
    refine lv_iload_n hx hb dK_groups_4 rfl (lv_at hl 2 rfl) ?_
    refine lv_aload_n hx hb dK_groups_5 rfl (lv_at hl 0 rfl) ?_
    refine gK_classes hx hb hown hts hK hP dK_groups_6 ?_
    refine lv_icmp_ge (tgt := 29) hx hb dK_groups_9 (by decide) (fun c9 => ?_) (fun c9 => ?_)
    · have hf := (if_pos c9).symm.trans hf
      refine lv_iload_n hx hb dK_groups_29 rfl (lv_at hl 1 rfl) ?_
      exact kr_iret C0 hK hP hD hS (Option.some.inj hf) rfl dK_groups_30
    · have hf := (if_neg c9).symm.trans hf
      refine lv_aload_n hx hb dK_groups_12 rfl (lv_at hl 0 rfl) ?_
      refine lv_iload_n hx hb dK_groups_13 rfl (lv_at hl 2 rfl) ?_
      obtain ⟨v14, ev14, hf⟩ := kb1 hf
      refine kr_callVi (av := [.int x2]) ⟨hx, hb, hml, hown, hts⟩ (mK_isLeastOfGroup l D q k cI cJ _ σ x2 v14 ev14) (cwV 1 hts (kgood_V TK_good (by decide +kernel)) rfl rfl rfl (by decide +kernel) ⟨Nat.le_of_ble_eq_true rfl, Nat.le_of_ble_eq_true rfl⟩) hK hP hD hS hA (ci := 0) (q0 := 0) rfl rfl rfl hl.1 rfl (Nat.le_of_ble_eq_true rfl) dK_groups_14 ⟨Nat.le_of_ble_eq_true rfl, Nat.le_of_ble_eq_true rfl⟩ (fun H locs hP hD hS => ?_)
      refine lv_if_eq (tgt := 23) hx hb dK_groups_17 (by decide) (fun c17 => ?_) (fun c17 => ?_)
      · have hf := (if_pos c17).symm.trans hf
        refine lv_iinc (v := (x2 + 1)) (lv' := [(2, .int (x2 + 1)), (0, .ref (q 0)), (1, .int x1)]) hx hb dK_groups_23 hl (k := 2) rfl rfl (by decide) rfl (fun ls hl => ?_)
        refine lv_goto (tgt := 4) hx hb dK_groups_26 (by decide) ?_
        exact ih x1 (x2 + 1) _ _ ls hf (lv_sub hl [1, 2, 0] rfl) hP hD hS
      · have hf := (if_neg c17).symm.trans hf
        refine lv_iinc (v := (x1 + 1)) (lv' := [(1, .int (x1 + 1)), (0, .ref (q 0)), (2, .int x2)]) hx hb dK_groups_20 hl (k := 1) rfl rfl (by decide) rfl (fun ls hl => ?_)
        refine lv_iinc (v := (x2 + 1)) (lv' := [(2, .int (x2 + 1)), (1, .int (x1 + 1)), (0, .ref (q 0))]) hx hb dK_groups_23 hl (k := 2) rfl rfl (by decide) rfl (fun ls hl => ?_)
        refine lv_goto (tgt := 4) hx hb dK_groups_26 (by decide) ?_
        exact ih (x1 + 1) (x2 + 1) _ _ ls hf (lv_sub hl [2, 1, 0] rfl) hP hD hS
set_option maxHeartbeats 4000000 in
set_option maxRecDepth 100000 in
theorem mK_groups (l : Launch) (D : va_G) (q : Nat → Nat) (k : kK) (cI cJ : ClassId) (sz : Nat) (fu : Nat) (σ : sK) (r : Int32) (hf : fK_groups fu k σ = some r) : Met l yK_groups (.code yK_groups cK_groups 3 (some .int) :: TK) ({ frames := 1, cells := 0, slots := 0, locals := 21 }) (kPre D cl0 [(cI, .int), (cJ, .long)] (wdK q k cI cJ) sz σ [.ref (q 0)]) (kQi D cl0 [(cI, .int), (cJ, .long)] (wdK q k cI cJ) (va_A (wdK q k cI cJ σ) sz) r σ) 0 0 (va_A (wdK q k cI cJ σ) sz) := by
  refine kr_start (own := RK) (by decide) rfl (Nat.le_of_ble_eq_true rfl) ?_
  intro p e s m args below meth c ls C0 hsz hK hP hD hl
  subst hsz
  obtain ⟨hx, hb, hr, hml, hown, hts, hlocks⟩ := id C0
  have hA : ∀ z : Nat, s.heap.size ≤ z → va_A (wdK q k cI cJ σ) s.heap.size z := fun z h => Or.inr h
  generalize va_A (wdK q k cI cJ σ) s.heap.size = A at hD hA ⊢
  have hS : va_S A s.heap s.heap [] := va_S.rf
  have hl : lv_has ls 3 [(0, .ref (q 0))] := hl
  unfold fK_groups at hf
  refine lv_iconst (v := 0) hx hb dK_groups_0 (by decide) ?_
  refine lv_istore_n (lv' := [(1, .int 0), (0, .ref (q 0))]) hx hb dK_groups_1 rfl hl (by decide) rfl (fun ls hl => ?_)
  refine lv_iconst (v := 0) hx hb dK_groups_2 (by decide) ?_
  refine lv_istore_n (lv' := [(2, .int 0), (1, .int 0), (0, .ref (q 0))]) hx hb dK_groups_3 rfl hl (by decide) rfl (fun ls hl => ?_)
  exact tK_groups_4 C0 hK hA fu 0 0 _ _ ls hf (lv_sub hl [2, 1, 0] rfl) hP hD hS
theorem dK_sample_0 : decode cK_sample 0 = .ok (.aload_n 0, 1) := by decide +kernel
theorem dK_sample_1 : decode cK_sample 1 = .ok (.iload_n 1, 1) := by decide +kernel
theorem dK_sample_2 : decode cK_sample 2 = .ok (.invokevirtual 79, 3) := by decide +kernel
theorem dK_sample_5 : decode cK_sample 5 = .ok (.ifCond .eq (22), 3) := by decide +kernel
theorem dK_sample_8 : decode cK_sample 8 = .ok (.lload_n 2, 1) := by decide +kernel
theorem dK_sample_9 : decode cK_sample 9 = .ok (.lconst 0, 1) := by decide +kernel
theorem dK_sample_10 : decode cK_sample 10 = .ok (.lcmp, 1) := by decide +kernel
theorem dK_sample_11 : decode cK_sample 11 = .ok (.ifCond .lt (16), 3) := by decide +kernel
theorem dK_sample_14 : decode cK_sample 14 = .ok (.lload_n 2, 1) := by decide +kernel
theorem dK_sample_15 : decode cK_sample 15 = .ok (.ldc2_w 138, 3) := by decide +kernel
theorem dK_sample_18 : decode cK_sample 18 = .ok (.aload_n 0, 1) := by decide +kernel
theorem dK_sample_19 : decode cK_sample 19 = .ok (.getfield 13, 3) := by decide +kernel
theorem dK_sample_22 : decode cK_sample 22 = .ok (.lsub, 1) := by decide +kernel
theorem dK_sample_23 : decode cK_sample 23 = .ok (.lcmp, 1) := by decide +kernel
theorem dK_sample_24 : decode cK_sample 24 = .ok (.ifCond .le (5), 3) := by decide +kernel
theorem dK_sample_27 : decode cK_sample 27 = .ok (.iconst 0, 1) := by decide +kernel
theorem dK_sample_28 : decode cK_sample 28 = .ok (.ireturn, 1) := by decide +kernel
theorem dK_sample_29 : decode cK_sample 29 = .ok (.aload_n 0, 1) := by decide +kernel
theorem dK_sample_30 : decode cK_sample 30 = .ok (.getfield 51, 3) := by decide +kernel
theorem dK_sample_33 : decode cK_sample 33 = .ok (.iload_n 1, 1) := by decide +kernel
theorem dK_sample_34 : decode cK_sample 34 = .ok (.dup2, 1) := by decide +kernel
theorem dK_sample_35 : decode cK_sample 35 = .ok (.laload, 1) := by decide +kernel
theorem dK_sample_36 : decode cK_sample 36 = .ok (.lload_n 2, 1) := by decide +kernel
theorem dK_sample_37 : decode cK_sample 37 = .ok (.ladd, 1) := by decide +kernel
theorem dK_sample_38 : decode cK_sample 38 = .ok (.lastore, 1) := by decide +kernel
theorem dK_sample_39 : decode cK_sample 39 = .ok (.aload_n 0, 1) := by decide +kernel
theorem dK_sample_40 : decode cK_sample 40 = .ok (.dup, 1) := by decide +kernel
theorem dK_sample_41 : decode cK_sample 41 = .ok (.getfield 13, 3) := by decide +kernel
theorem dK_sample_44 : decode cK_sample 44 = .ok (.lload_n 2, 1) := by decide +kernel
theorem dK_sample_45 : decode cK_sample 45 = .ok (.ladd, 1) := by decide +kernel
theorem dK_sample_46 : decode cK_sample 46 = .ok (.putfield 13, 3) := by decide +kernel
theorem dK_sample_49 : decode cK_sample 49 = .ok (.iconst 1, 1) := by decide +kernel
theorem dK_sample_50 : decode cK_sample 50 = .ok (.ireturn, 1) := by decide +kernel
set_option maxHeartbeats 4000000 in
set_option maxRecDepth 100000 in
theorem mK_sample (l : Launch) (D : va_G) (q : Nat → Nat) (k : kK) (cI cJ : ClassId) (sz : Nat) (σ : sK) (σ' : sK) (x1 : Int32) (x2 : Int64) (r : Int32) (hf : fK_sample k σ x1 x2 = some (r, σ')) : Met l yK_sample (.code yK_sample cK_sample 4 (some .boolean) :: TK) ({ frames := 1, cells := 0, slots := 0, locals := 21 }) (kPre D cl0 [(cI, .int), (cJ, .long)] (wdK q k cI cJ) sz σ [.ref (q 0), .int x1, .long x2]) (kQi D cl0 [(cI, .int), (cJ, .long)] (wdK q k cI cJ) (va_A (wdK q k cI cJ σ) sz) r σ') 0 0 (va_A (wdK q k cI cJ σ) sz) := by
  refine kr_start (own := RK) (by decide) rfl (Nat.le_of_ble_eq_true rfl) ?_
  intro p e s m args below meth c ls C0 hsz hK hP hD hl
  subst hsz
  obtain ⟨hx, hb, hr, hml, hown, hts, hlocks⟩ := id C0
  have hA : ∀ z : Nat, s.heap.size ≤ z → va_A (wdK q k cI cJ σ) s.heap.size z := fun z h => Or.inr h
  generalize va_A (wdK q k cI cJ σ) s.heap.size = A at hD hA ⊢
  have hS : va_S A s.heap s.heap [] := va_S.rf
  have hl : lv_has ls 4 [(0, .ref (q 0)), (1, .int x1), (2, .long x2)] := hl
  unfold fK_sample at hf
  refine lv_aload_n hx hb dK_sample_0 rfl (lv_at hl 0 rfl) ?_
  refine lv_iload_n hx hb dK_sample_1 rfl (lv_at hl 1 rfl) ?_
  refine kr_callVi (av := [.int x1]) ⟨hx, hb, hml, hown, hts⟩ (mK_isClass l D q k cI cJ _ σ x1 _ rfl) (cwV 1 hts (kgood_V TK_good (by decide +kernel)) rfl rfl rfl (by decide +kernel) ⟨Nat.le_of_ble_eq_true rfl, Nat.le_of_ble_eq_true rfl⟩) hK hP hD hS hA (ci := 0) (q0 := 0) rfl rfl rfl hl.1 rfl (Nat.le_of_ble_eq_true rfl) dK_sample_2 ⟨Nat.le_of_ble_eq_true rfl, Nat.le_of_ble_eq_true rfl⟩ (fun H locs hP hD hS => ?_)
  refine lv_if_eq (tgt := 27) hx hb dK_sample_5 (by decide) (fun c5 => ?_) (fun c5 => ?_)
  · have hf := (if_pos c5).symm.trans hf
    refine lv_iconst (v := 0) hx hb dK_sample_27 (by decide) ?_
    exact kr_zret C0 hK hP hD hS rfl (congrArg Prod.fst (Option.some.inj hf)) (congrArg Prod.snd (Option.some.inj hf)) dK_sample_28
  · have hf := (if_neg c5).symm.trans hf
    refine lv_lload_n hx hb dK_sample_8 rfl (lv_at hl 2 rfl) ?_
    refine lv_lconst (v := 0) hx hb dK_sample_9 (by decide) ?_
    refine W.lcmp hx hb dK_sample_10 ?_
    refine lv_if_lt (tgt := 27) hx hb dK_sample_11 (by decide) (fun c10 => ?_) (fun c10 => ?_)
    · rw [lg_cmp_lt] at c10
      have hf := (if_pos c10).symm.trans hf
      refine lv_iconst (v := 0) hx hb dK_sample_27 (by decide) ?_
      exact kr_zret C0 hK hP hD hS rfl (congrArg Prod.fst (Option.some.inj hf)) (congrArg Prod.snd (Option.some.inj hf)) dK_sample_28
    · rw [lg_cmp_lt] at c10
      have hf := (if_neg c10).symm.trans hf
      refine lv_lload_n hx hb dK_sample_14 rfl (lv_at hl 2 rfl) ?_
      refine lv_ldc2 (v := 10000) hx hb hown (hts (.constantLong RK 138 (10000)) (by decide +kernel)) dK_sample_15 ?_
      refine lv_aload_n hx hb dK_sample_18 rfl (lv_at hl 0 rfl) ?_
      refine gK_measuredInAll hx hb hown hts hK hP dK_sample_19 ?_
      refine lv_lsub hx hb dK_sample_22 ?_
      refine W.lcmp hx hb dK_sample_23 ?_
      refine lv_if_le (tgt := 29) hx hb dK_sample_24 (by decide) (fun c23 => ?_) (fun c23 => ?_)
      · rw [lg_cmp_le] at c23
        have hf := (if_pos c23).symm.trans hf
        refine lv_aload_n hx hb dK_sample_29 rfl (lv_at hl 0 rfl) ?_
        refine gK_measured hx hb hown hts hK hP dK_sample_30 ?_
        refine lv_iload_n hx hb dK_sample_33 rfl (lv_at hl 1 rfl) ?_
        refine lv_dup2_11 hx hb dK_sample_34 rfl rfl ?_
        obtain ⟨v35, ev35, hf⟩ := kb1 hf
        refine kr_laload hx hb hK hP 7 1 rfl rfl ev35 dK_sample_35 ?_
        refine lv_lload_n hx hb dK_sample_36 rfl (lv_at hl 2 rfl) ?_
        refine lv_ladd hx hb dK_sample_37 ?_
        obtain ⟨a38, ea38, hf⟩ := kb1 hf
        refine kr_lastore (σ' := (uK_measured σ a38)) hx hb hK hP hD hS 7 1 rfl rfl ea38 rfl dK_sample_38 (fun H locs hP hD hS => ?_)
        generalize (uK_measured σ a38) = s38 at hf hP hD
        refine lv_aload_n hx hb dK_sample_39 rfl (lv_at hl 0 rfl) ?_
        refine lv_dup hx hb dK_sample_40 rfl ?_
        refine gK_measuredInAll hx hb hown hts hK hP dK_sample_41 ?_
        refine lv_lload_n hx hb dK_sample_44 rfl (lv_at hl 2 rfl) ?_
        refine lv_ladd hx hb dK_sample_45 ?_
        refine pK_measuredInAll hx hb hown hts hK hP hD hS dK_sample_46 (fun H locs hP hD hS => ?_)
        generalize (uK_measuredInAll s38 ((sK_measuredInAll s38) + x2)) = s46 at hf hP hD
        refine lv_iconst (v := 1) hx hb dK_sample_49 (by decide) ?_
        exact kr_zret C0 hK hP hD hS rfl (congrArg Prod.fst (Option.some.inj hf)) (congrArg Prod.snd (Option.some.inj hf)) dK_sample_50
      · rw [lg_cmp_le] at c23
        have hf := (if_neg c23).symm.trans hf
        refine lv_iconst (v := 0) hx hb dK_sample_27 (by decide) ?_
        exact kr_zret C0 hK hP hD hS rfl (congrArg Prod.fst (Option.some.inj hf)) (congrArg Prod.snd (Option.some.inj hf)) dK_sample_28
theorem dK_canRaise_0 : decode cK_canRaise 0 = .ok (.lload_n 1, 1) := by decide +kernel
theorem dK_canRaise_1 : decode cK_canRaise 1 = .ok (.lconst 0, 1) := by decide +kernel
theorem dK_canRaise_2 : decode cK_canRaise 2 = .ok (.lcmp, 1) := by decide +kernel
theorem dK_canRaise_3 : decode cK_canRaise 3 = .ok (.ifCond .lt (20), 3) := by decide +kernel
theorem dK_canRaise_6 : decode cK_canRaise 6 = .ok (.lload_n 1, 1) := by decide +kernel
theorem dK_canRaise_7 : decode cK_canRaise 7 = .ok (.ldc2_w 138, 3) := by decide +kernel
theorem dK_canRaise_10 : decode cK_canRaise 10 = .ok (.lcmp, 1) := by decide +kernel
theorem dK_canRaise_11 : decode cK_canRaise 11 = .ok (.ifCond .gt (12), 3) := by decide +kernel
theorem dK_canRaise_14 : decode cK_canRaise 14 = .ok (.aload_n 0, 1) := by decide +kernel
theorem dK_canRaise_15 : decode cK_canRaise 15 = .ok (.getfield 13, 3) := by decide +kernel
theorem dK_canRaise_18 : decode cK_canRaise 18 = .ok (.lconst 0, 1) := by decide +kernel
theorem dK_canRaise_19 : decode cK_canRaise 19 = .ok (.lcmp, 1) := by decide +kernel
theorem dK_canRaise_20 : decode cK_canRaise 20 = .ok (.ifCond .ne (5), 3) := by decide +kernel
theorem dK_canRaise_23 : decode cK_canRaise 23 = .ok (.iconst 0, 1) := by decide +kernel
theorem dK_canRaise_24 : decode cK_canRaise 24 = .ok (.ireturn, 1) := by decide +kernel
theorem dK_canRaise_25 : decode cK_canRaise 25 = .ok (.iconst 0, 1) := by decide +kernel
theorem dK_canRaise_26 : decode cK_canRaise 26 = .ok (.istore_n 3, 1) := by decide +kernel
theorem dK_canRaise_27 : decode cK_canRaise 27 = .ok (.iload_n 3, 1) := by decide +kernel
theorem dK_canRaise_28 : decode cK_canRaise 28 = .ok (.aload_n 0, 1) := by decide +kernel
theorem dK_canRaise_29 : decode cK_canRaise 29 = .ok (.getfield 26, 3) := by decide +kernel
theorem dK_canRaise_32 : decode cK_canRaise 32 = .ok (.if_icmp .ge (36), 3) := by decide +kernel
theorem dK_canRaise_35 : decode cK_canRaise 35 = .ok (.aload_n 0, 1) := by decide +kernel
theorem dK_canRaise_36 : decode cK_canRaise 36 = .ok (.getfield 51, 3) := by decide +kernel
theorem dK_canRaise_39 : decode cK_canRaise 39 = .ok (.iload_n 3, 1) := by decide +kernel
theorem dK_canRaise_40 : decode cK_canRaise 40 = .ok (.laload, 1) := by decide +kernel
theorem dK_canRaise_41 : decode cK_canRaise 41 = .ok (.lconst 0, 1) := by decide +kernel
theorem dK_canRaise_42 : decode cK_canRaise 42 = .ok (.lcmp, 1) := by decide +kernel
theorem dK_canRaise_43 : decode cK_canRaise 43 = .ok (.ifCond .le (19), 3) := by decide +kernel
theorem dK_canRaise_46 : decode cK_canRaise 46 = .ok (.aload_n 0, 1) := by decide +kernel
theorem dK_canRaise_47 : decode cK_canRaise 47 = .ok (.aload_n 0, 1) := by decide +kernel
theorem dK_canRaise_48 : decode cK_canRaise 48 = .ok (.getfield 45, 3) := by decide +kernel
theorem dK_canRaise_51 : decode cK_canRaise 51 = .ok (.iload_n 3, 1) := by decide +kernel
theorem dK_canRaise_52 : decode cK_canRaise 52 = .ok (.iaload, 1) := by decide +kernel
theorem dK_canRaise_53 : decode cK_canRaise 53 = .ok (.invokevirtual 105, 3) := by decide +kernel
theorem dK_canRaise_56 : decode cK_canRaise 56 = .ok (.iconst (-1), 1) := by decide +kernel
theorem dK_canRaise_57 : decode cK_canRaise 57 = .ok (.if_icmp .ne (5), 3) := by decide +kernel
theorem dK_canRaise_60 : decode cK_canRaise 60 = .ok (.iconst 0, 1) := by decide +kernel
theorem dK_canRaise_61 : decode cK_canRaise 61 = .ok (.ireturn, 1) := by decide +kernel
theorem dK_canRaise_62 : decode cK_canRaise 62 = .ok (.iinc 3 (1), 3) := by decide +kernel
theorem dK_canRaise_65 : decode cK_canRaise 65 = .ok (.goto (-38), 3) := by decide +kernel
theorem dK_canRaise_68 : decode cK_canRaise 68 = .ok (.iconst 1, 1) := by decide +kernel
theorem dK_canRaise_69 : decode cK_canRaise 69 = .ok (.ireturn, 1) := by decide +kernel
set_option maxHeartbeats 4000000 in
set_option maxRecDepth 100000 in
theorem tK_canRaise_27 {p : Program} {l : Launch} {e : Env} {s : State} {m : MethodId} {args : Array Value} {below : List Frame} {meth : Method} {c : Code} {D : va_G} {A : Nat → Prop} {q : Nat → Nat} {k : kK} {cI cJ : ClassId} {r : Int32} {σ : sK} {fu : Nat} (C0 : Cx p s m args meth c cK_canRaise 4 (some .boolean) RK TK) (hK : va_K D cl0 [(cI, .int), (cJ, .long)] s) (hA : ∀ z, s.heap.size ≤ z → A z) : ∀ n : Nat, ∀ (x3 : Int32)(H : Heap) (locs : List Loc) (ls : Array Slot), fK_canRaise_27 fu k σ n x3 = some r → lv_has ls 4 [(0, .ref (q 0)), (3, .int x3)] → va_P D cl0 (wdK q k cI cJ σ) H → va_D A (wdK q k cI cJ σ) → va_S A s.heap H locs → W p l e ({ frames := 3, cells := 0, slots := 0, locals := 65 }) s m args below meth c H locs 0 0 (MQ below (kQi D cl0 [(cI, .int), (cJ, .long)] (wdK q k cI cJ) A r σ) args s 0 0 A) (F0 m 27 ls []) := by
  obtain ⟨hx, hb, hr, hml, hown, hts, hlocks⟩ := id C0
  intro n
  induction n with
  | zero =>
    intro x3 H locs ls hf hl hP hD hS
    cases hf
  | succ n ih =>
    intro x3 H locs ls hf hl hP hD hS
    rw [fK_canRaise_27] at hf
    refine lv_iload_n hx hb dK_canRaise_27 rfl (lv_at hl 1 rfl) ?_
    refine lv_aload_n hx hb dK_canRaise_28 rfl (lv_at hl 0 rfl) ?_
    refine gK_classes hx hb hown hts hK hP dK_canRaise_29 ?_
    refine lv_icmp_ge (tgt := 68) hx hb dK_canRaise_32 (by decide) (fun c32 => ?_) (fun c32 => ?_)
    · have hf := (if_pos c32).symm.trans hf
      refine lv_iconst (v := 1) hx hb dK_canRaise_68 (by decide) ?_
      exact kr_zret C0 hK hP hD hS rfl (Option.some.inj hf) rfl dK_canRaise_69
    · have hf := (if_neg c32).symm.trans hf
      refine lv_aload_n hx hb dK_canRaise_35 rfl (lv_at hl 0 rfl) ?_
      refine gK_measured hx hb hown hts hK hP dK_canRaise_36 ?_
      refine lv_iload_n hx hb dK_canRaise_39 rfl (lv_at hl 1 rfl) ?_
      obtain ⟨v40, ev40, hf⟩ := kb1 hf
      refine kr_laload hx hb hK hP 7 1 rfl rfl ev40 dK_canRaise_40 ?_
      refine lv_lconst (v := 0) hx hb dK_canRaise_41 (by decide) ?_
      refine W.lcmp hx hb dK_canRaise_42 ?_
      refine lv_if_le (tgt := 62) hx hb dK_canRaise_43 (by decide) (fun c42 => ?_) (fun c42 => ?_)
      · rw [lg_cmp_le] at c42
        have hf := (if_pos c42).symm.trans hf
        refine lv_iinc (v := (x3 + 1)) (lv' := [(3, .int (x3 + 1)), (0, .ref (q 0))]) hx hb dK_canRaise_62 hl (k := 1) rfl rfl (by decide) rfl (fun ls hl => ?_)
        refine lv_goto (tgt := 27) hx hb dK_canRaise_65 (by decide) ?_
        exact ih (x3 + 1) _ _ ls hf (lv_sub hl [1, 0] rfl) hP hD hS
      · rw [lg_cmp_le] at c42
        have hf := (if_neg c42).symm.trans hf
        refine lv_aload_n hx hb dK_canRaise_46 rfl (lv_at hl 0 rfl) ?_
        refine lv_aload_n hx hb dK_canRaise_47 rfl (lv_at hl 0 rfl) ?_
        refine gK_groupOf hx hb hown hts hK hP dK_canRaise_48 ?_
        refine lv_iload_n hx hb dK_canRaise_51 rfl (lv_at hl 1 rfl) ?_
        obtain ⟨v52, ev52, hf⟩ := kb1 hf
        refine kr_iaload hx hb hK hP 5 0 rfl rfl ev52 dK_canRaise_52 ?_
        obtain ⟨v53, ev53, hf⟩ := kb1 hf
        refine kr_callVi (av := [.int v52]) ⟨hx, hb, hml, hown, hts⟩ (mK_sourceOf l D q k cI cJ _ σ v52 v53 ev53) (cwV 1 hts (kgood_V TK_good (by decide +kernel)) rfl rfl rfl (by decide +kernel) ⟨Nat.le_of_ble_eq_true rfl, Nat.le_of_ble_eq_true rfl⟩) hK hP hD hS hA (ci := 0) (q0 := 0) rfl rfl rfl hl.1 rfl (Nat.le_of_ble_eq_true rfl) dK_canRaise_53 ⟨Nat.le_of_ble_eq_true rfl, Nat.le_of_ble_eq_true rfl⟩ (fun H locs hP hD hS => ?_)
        refine lv_iconst (v := (-1)) hx hb dK_canRaise_56 (by decide) ?_
        refine lv_icmp_ne (tgt := 62) hx hb dK_canRaise_57 (by decide) (fun c57 => ?_) (fun c57 => ?_)
        · have hf := (if_neg c57).symm.trans hf
          refine lv_iinc (v := (x3 + 1)) (lv' := [(3, .int (x3 + 1)), (0, .ref (q 0))]) hx hb dK_canRaise_62 hl (k := 1) rfl rfl (by decide) rfl (fun ls hl => ?_)
          refine lv_goto (tgt := 27) hx hb dK_canRaise_65 (by decide) ?_
          exact ih (x3 + 1) _ _ ls hf (lv_sub hl [1, 0] rfl) hP hD hS
        · have hf := (if_pos c57).symm.trans hf
          refine lv_iconst (v := 0) hx hb dK_canRaise_60 (by decide) ?_
          exact kr_zret C0 hK hP hD hS rfl (Option.some.inj hf) rfl dK_canRaise_61
set_option maxHeartbeats 4000000 in
set_option maxRecDepth 100000 in
theorem mK_canRaise (l : Launch) (D : va_G) (q : Nat → Nat) (k : kK) (cI cJ : ClassId) (sz : Nat) (fu : Nat) (σ : sK) (x1 : Int64) (r : Int32) (hf : fK_canRaise fu k σ x1 = some r) : Met l yK_canRaise (.code yK_canRaise cK_canRaise 4 (some .boolean) :: TK) ({ frames := 3, cells := 0, slots := 0, locals := 65 }) (kPre D cl0 [(cI, .int), (cJ, .long)] (wdK q k cI cJ) sz σ [.ref (q 0), .long x1]) (kQi D cl0 [(cI, .int), (cJ, .long)] (wdK q k cI cJ) (va_A (wdK q k cI cJ σ) sz) r σ) 0 0 (va_A (wdK q k cI cJ σ) sz) := by
  refine kr_start (own := RK) (by decide) rfl (Nat.le_of_ble_eq_true rfl) ?_
  intro p e s m args below meth c ls C0 hsz hK hP hD hl
  subst hsz
  obtain ⟨hx, hb, hr, hml, hown, hts, hlocks⟩ := id C0
  have hA : ∀ z : Nat, s.heap.size ≤ z → va_A (wdK q k cI cJ σ) s.heap.size z := fun z h => Or.inr h
  generalize va_A (wdK q k cI cJ σ) s.heap.size = A at hD hA ⊢
  have hS : va_S A s.heap s.heap [] := va_S.rf
  have hl : lv_has ls 4 [(0, .ref (q 0)), (1, .long x1)] := hl
  unfold fK_canRaise at hf
  refine lv_lload_n hx hb dK_canRaise_0 rfl (lv_at hl 1 rfl) ?_
  refine lv_lconst (v := 0) hx hb dK_canRaise_1 (by decide) ?_
  refine W.lcmp hx hb dK_canRaise_2 ?_
  refine lv_if_lt (tgt := 23) hx hb dK_canRaise_3 (by decide) (fun c2 => ?_) (fun c2 => ?_)
  · rw [lg_cmp_lt] at c2
    have hf := (if_pos c2).symm.trans hf
    refine lv_iconst (v := 0) hx hb dK_canRaise_23 (by decide) ?_
    exact kr_zret C0 hK hP hD hS rfl (Option.some.inj hf) rfl dK_canRaise_24
  · rw [lg_cmp_lt] at c2
    have hf := (if_neg c2).symm.trans hf
    refine lv_lload_n hx hb dK_canRaise_6 rfl (lv_at hl 1 rfl) ?_
    refine lv_ldc2 (v := 10000) hx hb hown (hts (.constantLong RK 138 (10000)) (by decide +kernel)) dK_canRaise_7 ?_
    refine W.lcmp hx hb dK_canRaise_10 ?_
    refine lv_if_gt (tgt := 23) hx hb dK_canRaise_11 (by decide) (fun c10 => ?_) (fun c10 => ?_)
    · rw [lg_cmp_gt] at c10
      have hf := (if_pos c10).symm.trans hf
      refine lv_iconst (v := 0) hx hb dK_canRaise_23 (by decide) ?_
      exact kr_zret C0 hK hP hD hS rfl (Option.some.inj hf) rfl dK_canRaise_24
    · rw [lg_cmp_gt] at c10
      have hf := (if_neg c10).symm.trans hf
      refine lv_aload_n hx hb dK_canRaise_14 rfl (lv_at hl 0 rfl) ?_
      refine gK_measuredInAll hx hb hown hts hK hP dK_canRaise_15 ?_
      refine lv_lconst (v := 0) hx hb dK_canRaise_18 (by decide) ?_
      refine W.lcmp hx hb dK_canRaise_19 ?_
      refine lv_if_ne (tgt := 25) hx hb dK_canRaise_20 (by decide) (fun c19 => ?_) (fun c19 => ?_)
      · rw [lg_cmp_eq] at c19
        have hf := (if_neg c19).symm.trans hf
        refine lv_iconst (v := 0) hx hb dK_canRaise_25 (by decide) ?_
        refine lv_istore_n (lv' := [(3, .int 0), (0, .ref (q 0)), (1, .long x1)]) hx hb dK_canRaise_26 rfl hl (by decide) rfl (fun ls hl => ?_)
        exact tK_canRaise_27 C0 hK hA fu 0 _ _ ls hf (lv_sub hl [1, 0] rfl) hP hD hS
      · rw [lg_cmp_eq] at c19
        have hf := (if_pos c19).symm.trans hf
        refine lv_iconst (v := 0) hx hb dK_canRaise_23 (by decide) ?_
        exact kr_zret C0 hK hP hD hS rfl (Option.some.inj hf) rfl dK_canRaise_24
theorem dK_commonShare_0 : decode cK_commonShare 0 = .ok (.aload_n 0, 1) := by decide +kernel
theorem dK_commonShare_1 : decode cK_commonShare 1 = .ok (.iload_n 1, 1) := by decide +kernel
theorem dK_commonShare_2 : decode cK_commonShare 2 = .ok (.invokevirtual 105, 3) := by decide +kernel
theorem dK_commonShare_5 : decode cK_commonShare 5 = .ok (.istore_n 3, 1) := by decide +kernel
theorem dK_commonShare_6 : decode cK_commonShare 6 = .ok (.iload_n 3, 1) := by decide +kernel
theorem dK_commonShare_7 : decode cK_commonShare 7 = .ok (.iconst (-1), 1) := by decide +kernel
theorem dK_commonShare_8 : decode cK_commonShare 8 = .ok (.if_icmp .ne (5), 3) := by decide +kernel
theorem dK_commonShare_11 : decode cK_commonShare 11 = .ok (.lconst 0, 1) := by decide +kernel
theorem dK_commonShare_12 : decode cK_commonShare 12 = .ok (.lreturn, 1) := by decide +kernel
theorem dK_commonShare_13 : decode cK_commonShare 13 = .ok (.aload_n 0, 1) := by decide +kernel
theorem dK_commonShare_14 : decode cK_commonShare 14 = .ok (.iload_n 3, 1) := by decide +kernel
theorem dK_commonShare_15 : decode cK_commonShare 15 = .ok (.invokevirtual 112, 3) := by decide +kernel
theorem dK_commonShare_18 : decode cK_commonShare 18 = .ok (.istore 4, 2) := by decide +kernel
theorem dK_commonShare_20 : decode cK_commonShare 20 = .ok (.iload 4, 2) := by decide +kernel
theorem dK_commonShare_22 : decode cK_commonShare 22 = .ok (.ifCond .le (21), 3) := by decide +kernel
theorem dK_commonShare_25 : decode cK_commonShare 25 = .ok (.aload_n 0, 1) := by decide +kernel
theorem dK_commonShare_26 : decode cK_commonShare 26 = .ok (.iload_n 3, 1) := by decide +kernel
theorem dK_commonShare_27 : decode cK_commonShare 27 = .ok (.iload_n 2, 1) := by decide +kernel
theorem dK_commonShare_28 : decode cK_commonShare 28 = .ok (.invokevirtual 109, 3) := by decide +kernel
theorem dK_commonShare_31 : decode cK_commonShare 31 = .ok (.i2l, 1) := by decide +kernel
theorem dK_commonShare_32 : decode cK_commonShare 32 = .ok (.ldc2_w 148, 3) := by decide +kernel
theorem dK_commonShare_35 : decode cK_commonShare 35 = .ok (.iload 4, 2) := by decide +kernel
theorem dK_commonShare_37 : decode cK_commonShare 37 = .ok (.i2l, 1) := by decide +kernel
theorem dK_commonShare_38 : decode cK_commonShare 38 = .ok (.ldiv, 1) := by decide +kernel
theorem dK_commonShare_39 : decode cK_commonShare 39 = .ok (.lmul, 1) := by decide +kernel
theorem dK_commonShare_40 : decode cK_commonShare 40 = .ok (.goto (4), 3) := by decide +kernel
theorem dK_commonShare_43 : decode cK_commonShare 43 = .ok (.lconst 0, 1) := by decide +kernel
theorem dK_commonShare_44 : decode cK_commonShare 44 = .ok (.lreturn, 1) := by decide +kernel
set_option maxHeartbeats 4000000 in
set_option maxRecDepth 100000 in
theorem mK_commonShare (l : Launch) (D : va_G) (q : Nat → Nat) (k : kK) (cI cJ : ClassId) (sz : Nat) (σ : sK) (x1 : Int32) (x2 : Int32) (r : Int64) (hf : fK_commonShare k σ x1 x2 = some r) : Met l yK_commonShare (.code yK_commonShare cK_commonShare 5 (some .long) :: TK) ({ frames := 3, cells := 0, slots := 0, locals := 65 }) (kPre D cl0 [(cI, .int), (cJ, .long)] (wdK q k cI cJ) sz σ [.ref (q 0), .int x1, .int x2]) (kQl D cl0 [(cI, .int), (cJ, .long)] (wdK q k cI cJ) (va_A (wdK q k cI cJ σ) sz) r σ) 0 0 (va_A (wdK q k cI cJ σ) sz) := by
  refine kr_start (own := RK) (by decide) rfl (Nat.le_of_ble_eq_true rfl) ?_
  intro p e s m args below meth c ls C0 hsz hK hP hD hl
  subst hsz
  obtain ⟨hx, hb, hr, hml, hown, hts, hlocks⟩ := id C0
  have hA : ∀ z : Nat, s.heap.size ≤ z → va_A (wdK q k cI cJ σ) s.heap.size z := fun z h => Or.inr h
  generalize va_A (wdK q k cI cJ σ) s.heap.size = A at hD hA ⊢
  have hS : va_S A s.heap s.heap [] := va_S.rf
  have hl : lv_has ls 5 [(0, .ref (q 0)), (1, .int x1), (2, .int x2)] := hl
  unfold fK_commonShare at hf
  refine lv_aload_n hx hb dK_commonShare_0 rfl (lv_at hl 0 rfl) ?_
  refine lv_iload_n hx hb dK_commonShare_1 rfl (lv_at hl 1 rfl) ?_
  obtain ⟨v2, ev2, hf⟩ := kb1 hf
  refine kr_callVi (av := [.int x1]) ⟨hx, hb, hml, hown, hts⟩ (mK_sourceOf l D q k cI cJ _ σ x1 v2 ev2) (cwV 1 hts (kgood_V TK_good (by decide +kernel)) rfl rfl rfl (by decide +kernel) ⟨Nat.le_of_ble_eq_true rfl, Nat.le_of_ble_eq_true rfl⟩) hK hP hD hS hA (ci := 0) (q0 := 0) rfl rfl rfl hl.1 rfl (Nat.le_of_ble_eq_true rfl) dK_commonShare_2 ⟨Nat.le_of_ble_eq_true rfl, Nat.le_of_ble_eq_true rfl⟩ (fun H locs hP hD hS => ?_)
  refine lv_istore_n (lv' := [(3, .int v2), (0, .ref (q 0)), (1, .int x1), (2, .int x2)]) hx hb dK_commonShare_5 rfl hl (by decide) rfl (fun ls hl => ?_)
  refine lv_iload_n hx hb dK_commonShare_6 rfl (lv_at hl 0 rfl) ?_
  refine lv_iconst (v := (-1)) hx hb dK_commonShare_7 (by decide) ?_
  refine lv_icmp_ne (tgt := 13) hx hb dK_commonShare_8 (by decide) (fun c8 => ?_) (fun c8 => ?_)
  · have hf := (if_neg c8).symm.trans hf
    refine lv_aload_n hx hb dK_commonShare_13 rfl (lv_at hl 1 rfl) ?_
    refine lv_iload_n hx hb dK_commonShare_14 rfl (lv_at hl 0 rfl) ?_
    obtain ⟨v15, ev15, hf⟩ := kb1 hf
    refine kr_callVi (av := [.int v2]) ⟨hx, hb, hml, hown, hts⟩ (mK_own l D q k cI cJ _ σ v2 v15 ev15) (cwV 1 hts (kgood_V TK_good (by decide +kernel)) rfl rfl rfl (by decide +kernel) ⟨Nat.le_of_ble_eq_true rfl, Nat.le_of_ble_eq_true rfl⟩) hK hP hD hS hA (ci := 0) (q0 := 0) rfl rfl rfl hl.1 rfl (Nat.le_of_ble_eq_true rfl) dK_commonShare_15 ⟨Nat.le_of_ble_eq_true rfl, Nat.le_of_ble_eq_true rfl⟩ (fun H locs hP hD hS => ?_)
    refine lv_istore (lv' := [(4, .int v15), (3, .int v2), (0, .ref (q 0)), (1, .int x1), (2, .int x2)]) hx hb dK_commonShare_18 hl (by decide) rfl (fun ls hl => ?_)
    refine lv_iload hx hb dK_commonShare_20 (lv_at hl 0 rfl) ?_
    refine lv_if_le (tgt := 43) hx hb dK_commonShare_22 (by decide) (fun c22 => ?_) (fun c22 => ?_)
    · have hf := (if_pos c22).symm.trans hf
      refine lv_lconst (v := 0) hx hb dK_commonShare_43 (by decide) ?_
      exact kr_lret C0 hK hP hD hS (Option.some.inj hf) rfl dK_commonShare_44
    · have hf := (if_neg c22).symm.trans hf
      refine lv_aload_n hx hb dK_commonShare_25 rfl (lv_at hl 2 rfl) ?_
      refine lv_iload_n hx hb dK_commonShare_26 rfl (lv_at hl 1 rfl) ?_
      refine lv_iload_n hx hb dK_commonShare_27 rfl (lv_at hl 4 rfl) ?_
      obtain ⟨v28, ev28, hf⟩ := kb1 hf
      refine kr_callVi (av := [.int v2, .int x2]) ⟨hx, hb, hml, hown, hts⟩ (mK_ownOfAge l D q k cI cJ _ σ v2 x2 v28 ev28) (cwV 2 hts (kgood_V TK_good (by decide +kernel)) rfl rfl rfl (by decide +kernel) ⟨Nat.le_of_ble_eq_true rfl, Nat.le_of_ble_eq_true rfl⟩) hK hP hD hS hA (ci := 0) (q0 := 0) rfl rfl rfl hl.1 rfl (Nat.le_of_ble_eq_true rfl) dK_commonShare_28 ⟨Nat.le_of_ble_eq_true rfl, Nat.le_of_ble_eq_true rfl⟩ (fun H locs hP hD hS => ?_)
      refine lv_i2l (v := v28.toInt64) hx hb dK_commonShare_31 rfl ?_
      refine lv_ldc2 (v := 232792560) hx hb hown (hts (.constantLong RK 148 (232792560)) (by decide +kernel)) dK_commonShare_32 ?_
      refine lv_iload hx hb dK_commonShare_35 (lv_at hl 0 rfl) ?_
      refine lv_i2l (v := v15.toInt64) hx hb dK_commonShare_37 rfl ?_
      obtain ⟨v38, ev38, hf⟩ := kb1 hf
      refine kr_ldiv hx hb ev38 dK_commonShare_38 ?_
      refine lv_lmul hx hb dK_commonShare_39 ?_
      refine lv_goto (tgt := 44) hx hb dK_commonShare_40 (by decide) ?_
      exact kr_lret C0 hK hP hD hS (Option.some.inj hf) rfl dK_commonShare_44
  · have hf := (if_pos c8).symm.trans hf
    refine lv_lconst (v := 0) hx hb dK_commonShare_11 (by decide) ?_
    exact kr_lret C0 hK hP hD hS (Option.some.inj hf) rfl dK_commonShare_12
theorem dK_measuredOfAge_0 : decode cK_measuredOfAge 0 = .ok (.lconst 0, 1) := by decide +kernel
theorem dK_measuredOfAge_1 : decode cK_measuredOfAge 1 = .ok (.lstore_n 2, 1) := by decide +kernel
theorem dK_measuredOfAge_2 : decode cK_measuredOfAge 2 = .ok (.iconst 0, 1) := by decide +kernel
theorem dK_measuredOfAge_3 : decode cK_measuredOfAge 3 = .ok (.istore 4, 2) := by decide +kernel
theorem dK_measuredOfAge_5 : decode cK_measuredOfAge 5 = .ok (.iload 4, 2) := by decide +kernel
theorem dK_measuredOfAge_7 : decode cK_measuredOfAge 7 = .ok (.aload_n 0, 1) := by decide +kernel
theorem dK_measuredOfAge_8 : decode cK_measuredOfAge 8 = .ok (.getfield 26, 3) := by decide +kernel
theorem dK_measuredOfAge_11 : decode cK_measuredOfAge 11 = .ok (.if_icmp .ge (44), 3) := by decide +kernel
theorem dK_measuredOfAge_14 : decode cK_measuredOfAge 14 = .ok (.aload_n 0, 1) := by decide +kernel
theorem dK_measuredOfAge_15 : decode cK_measuredOfAge 15 = .ok (.getfield 51, 3) := by decide +kernel
theorem dK_measuredOfAge_18 : decode cK_measuredOfAge 18 = .ok (.iload 4, 2) := by decide +kernel
theorem dK_measuredOfAge_20 : decode cK_measuredOfAge 20 = .ok (.laload, 1) := by decide +kernel
theorem dK_measuredOfAge_21 : decode cK_measuredOfAge 21 = .ok (.lconst 0, 1) := by decide +kernel
theorem dK_measuredOfAge_22 : decode cK_measuredOfAge 22 = .ok (.lcmp, 1) := by decide +kernel
theorem dK_measuredOfAge_23 : decode cK_measuredOfAge 23 = .ok (.ifCond .le (26), 3) := by decide +kernel
theorem dK_measuredOfAge_26 : decode cK_measuredOfAge 26 = .ok (.lload_n 2, 1) := by decide +kernel
theorem dK_measuredOfAge_27 : decode cK_measuredOfAge 27 = .ok (.aload_n 0, 1) := by decide +kernel
theorem dK_measuredOfAge_28 : decode cK_measuredOfAge 28 = .ok (.getfield 51, 3) := by decide +kernel
theorem dK_measuredOfAge_31 : decode cK_measuredOfAge 31 = .ok (.iload 4, 2) := by decide +kernel
theorem dK_measuredOfAge_33 : decode cK_measuredOfAge 33 = .ok (.laload, 1) := by decide +kernel
theorem dK_measuredOfAge_34 : decode cK_measuredOfAge 34 = .ok (.aload_n 0, 1) := by decide +kernel
theorem dK_measuredOfAge_35 : decode cK_measuredOfAge 35 = .ok (.aload_n 0, 1) := by decide +kernel
theorem dK_measuredOfAge_36 : decode cK_measuredOfAge 36 = .ok (.getfield 45, 3) := by decide +kernel
theorem dK_measuredOfAge_39 : decode cK_measuredOfAge 39 = .ok (.iload 4, 2) := by decide +kernel
theorem dK_measuredOfAge_41 : decode cK_measuredOfAge 41 = .ok (.iaload, 1) := by decide +kernel
theorem dK_measuredOfAge_42 : decode cK_measuredOfAge 42 = .ok (.iload_n 1, 1) := by decide +kernel
theorem dK_measuredOfAge_43 : decode cK_measuredOfAge 43 = .ok (.invokevirtual 150, 3) := by decide +kernel
theorem dK_measuredOfAge_46 : decode cK_measuredOfAge 46 = .ok (.lmul, 1) := by decide +kernel
theorem dK_measuredOfAge_47 : decode cK_measuredOfAge 47 = .ok (.ladd, 1) := by decide +kernel
theorem dK_measuredOfAge_48 : decode cK_measuredOfAge 48 = .ok (.lstore_n 2, 1) := by decide +kernel
theorem dK_measuredOfAge_49 : decode cK_measuredOfAge 49 = .ok (.iinc 4 (1), 3) := by decide +kernel
theorem dK_measuredOfAge_52 : decode cK_measuredOfAge 52 = .ok (.goto (-47), 3) := by decide +kernel
theorem dK_measuredOfAge_55 : decode cK_measuredOfAge 55 = .ok (.lload_n 2, 1) := by decide +kernel
theorem dK_measuredOfAge_56 : decode cK_measuredOfAge 56 = .ok (.lreturn, 1) := by decide +kernel
set_option maxHeartbeats 4000000 in
set_option maxRecDepth 100000 in
theorem tK_measuredOfAge_5 {p : Program} {l : Launch} {e : Env} {s : State} {m : MethodId} {args : Array Value} {below : List Frame} {meth : Method} {c : Code} {D : va_G} {A : Nat → Prop} {q : Nat → Nat} {k : kK} {cI cJ : ClassId} {r : Int64} {σ : sK} {fu : Nat} (C0 : Cx p s m args meth c cK_measuredOfAge 5 (some .long) RK TK) (hK : va_K D cl0 [(cI, .int), (cJ, .long)] s) (hA : ∀ z, s.heap.size ≤ z → A z) : ∀ n : Nat, ∀ (x1 : Int32) (x2 : Int64) (x4 : Int32)(H : Heap) (locs : List Loc) (ls : Array Slot), fK_measuredOfAge_5 fu k σ n x1 x2 x4 = some r → lv_has ls 5 [(0, .ref (q 0)), (1, .int x1), (2, .long x2), (4, .int x4)] → va_P D cl0 (wdK q k cI cJ σ) H → va_D A (wdK q k cI cJ σ) → va_S A s.heap H locs → W p l e ({ frames := 4, cells := 0, slots := 0, locals := 89 }) s m args below meth c H locs 0 0 (MQ below (kQl D cl0 [(cI, .int), (cJ, .long)] (wdK q k cI cJ) A r σ) args s 0 0 A) (F0 m 5 ls []) := by
  obtain ⟨hx, hb, hr, hml, hown, hts, hlocks⟩ := id C0
  intro n
  induction n with
  | zero =>
    intro x1 x2 x4 H locs ls hf hl hP hD hS
    cases hf
  | succ n ih =>
    intro x1 x2 x4 H locs ls hf hl hP hD hS
    rw [fK_measuredOfAge_5] at hf
    refine lv_iload hx hb dK_measuredOfAge_5 (lv_at hl 3 rfl) ?_
    refine lv_aload_n hx hb dK_measuredOfAge_7 rfl (lv_at hl 0 rfl) ?_
    refine gK_classes hx hb hown hts hK hP dK_measuredOfAge_8 ?_
    refine lv_icmp_ge (tgt := 55) hx hb dK_measuredOfAge_11 (by decide) (fun c11 => ?_) (fun c11 => ?_)
    · have hf := (if_pos c11).symm.trans hf
      refine lv_lload_n hx hb dK_measuredOfAge_55 rfl (lv_at hl 2 rfl) ?_
      exact kr_lret C0 hK hP hD hS (Option.some.inj hf) rfl dK_measuredOfAge_56
    · have hf := (if_neg c11).symm.trans hf
      refine lv_aload_n hx hb dK_measuredOfAge_14 rfl (lv_at hl 0 rfl) ?_
      refine gK_measured hx hb hown hts hK hP dK_measuredOfAge_15 ?_
      refine lv_iload hx hb dK_measuredOfAge_18 (lv_at hl 3 rfl) ?_
      obtain ⟨v20, ev20, hf⟩ := kb1 hf
      refine kr_laload hx hb hK hP 7 1 rfl rfl ev20 dK_measuredOfAge_20 ?_
      refine lv_lconst (v := 0) hx hb dK_measuredOfAge_21 (by decide) ?_
      refine W.lcmp hx hb dK_measuredOfAge_22 ?_
      refine lv_if_le (tgt := 49) hx hb dK_measuredOfAge_23 (by decide) (fun c22 => ?_) (fun c22 => ?_)
      · rw [lg_cmp_le] at c22
        have hf := (if_pos c22).symm.trans hf
        refine lv_iinc (v := (x4 + 1)) (lv' := [(4, .int (x4 + 1)), (0, .ref (q 0)), (1, .int x1), (2, .long x2)]) hx hb dK_measuredOfAge_49 hl (k := 3) rfl rfl (by decide) rfl (fun ls hl => ?_)
        refine lv_goto (tgt := 5) hx hb dK_measuredOfAge_52 (by decide) ?_
        exact ih x1 x2 (x4 + 1) _ _ ls hf (lv_sub hl [1, 2, 3, 0] rfl) hP hD hS
      · rw [lg_cmp_le] at c22
        have hf := (if_neg c22).symm.trans hf
        refine lv_lload_n hx hb dK_measuredOfAge_26 rfl (lv_at hl 2 rfl) ?_
        refine lv_aload_n hx hb dK_measuredOfAge_27 rfl (lv_at hl 0 rfl) ?_
        refine gK_measured hx hb hown hts hK hP dK_measuredOfAge_28 ?_
        refine lv_iload hx hb dK_measuredOfAge_31 (lv_at hl 3 rfl) ?_
        obtain ⟨v33, ev33, hf⟩ := kb1 hf
        refine kr_laload hx hb hK hP 7 1 rfl rfl ev33 dK_measuredOfAge_33 ?_
        refine lv_aload_n hx hb dK_measuredOfAge_34 rfl (lv_at hl 0 rfl) ?_
        refine lv_aload_n hx hb dK_measuredOfAge_35 rfl (lv_at hl 0 rfl) ?_
        refine gK_groupOf hx hb hown hts hK hP dK_measuredOfAge_36 ?_
        refine lv_iload hx hb dK_measuredOfAge_39 (lv_at hl 3 rfl) ?_
        obtain ⟨v41, ev41, hf⟩ := kb1 hf
        refine kr_iaload hx hb hK hP 5 0 rfl rfl ev41 dK_measuredOfAge_41 ?_
        refine lv_iload_n hx hb dK_measuredOfAge_42 rfl (lv_at hl 1 rfl) ?_
        obtain ⟨v43, ev43, hf⟩ := kb1 hf
        refine kr_callVl (av := [.int v41, .int x1]) ⟨hx, hb, hml, hown, hts⟩ (mK_commonShare l D q k cI cJ _ σ v41 x1 v43 ev43) (cwV 2 hts (kgood_V TK_good (by decide +kernel)) rfl rfl rfl (by decide +kernel) ⟨Nat.le_of_ble_eq_true rfl, Nat.le_of_ble_eq_true rfl⟩) hK hP hD hS hA (ci := 0) (q0 := 0) rfl rfl rfl hl.1 rfl (Nat.le_of_ble_eq_true rfl) dK_measuredOfAge_43 ⟨Nat.le_of_ble_eq_true rfl, Nat.le_of_ble_eq_true rfl⟩ (fun H locs hP hD hS => ?_)
        refine lv_lmul hx hb dK_measuredOfAge_46 ?_
        refine lv_ladd hx hb dK_measuredOfAge_47 ?_
        refine lv_lstore_n (lv' := [(2, .long (x2 + (v33 * v43))), (0, .ref (q 0)), (1, .int x1), (4, .int x4)]) hx hb dK_measuredOfAge_48 rfl hl (by decide) rfl (fun ls hl => ?_)
        refine lv_iinc (v := (x4 + 1)) (lv' := [(4, .int (x4 + 1)), (2, .long (x2 + (v33 * v43))), (0, .ref (q 0)), (1, .int x1)]) hx hb dK_measuredOfAge_49 hl (k := 3) rfl rfl (by decide) rfl (fun ls hl => ?_)
        refine lv_goto (tgt := 5) hx hb dK_measuredOfAge_52 (by decide) ?_
        exact ih x1 (x2 + (v33 * v43)) (x4 + 1) _ _ ls hf (lv_sub hl [2, 3, 1, 0] rfl) hP hD hS
set_option maxHeartbeats 4000000 in
set_option maxRecDepth 100000 in
theorem mK_measuredOfAge (l : Launch) (D : va_G) (q : Nat → Nat) (k : kK) (cI cJ : ClassId) (sz : Nat) (fu : Nat) (σ : sK) (x1 : Int32) (r : Int64) (hf : fK_measuredOfAge fu k σ x1 = some r) : Met l yK_measuredOfAge (.code yK_measuredOfAge cK_measuredOfAge 5 (some .long) :: TK) ({ frames := 4, cells := 0, slots := 0, locals := 89 }) (kPre D cl0 [(cI, .int), (cJ, .long)] (wdK q k cI cJ) sz σ [.ref (q 0), .int x1]) (kQl D cl0 [(cI, .int), (cJ, .long)] (wdK q k cI cJ) (va_A (wdK q k cI cJ σ) sz) r σ) 0 0 (va_A (wdK q k cI cJ σ) sz) := by
  refine kr_start (own := RK) (by decide) rfl (Nat.le_of_ble_eq_true rfl) ?_
  intro p e s m args below meth c ls C0 hsz hK hP hD hl
  subst hsz
  obtain ⟨hx, hb, hr, hml, hown, hts, hlocks⟩ := id C0
  have hA : ∀ z : Nat, s.heap.size ≤ z → va_A (wdK q k cI cJ σ) s.heap.size z := fun z h => Or.inr h
  generalize va_A (wdK q k cI cJ σ) s.heap.size = A at hD hA ⊢
  have hS : va_S A s.heap s.heap [] := va_S.rf
  have hl : lv_has ls 5 [(0, .ref (q 0)), (1, .int x1)] := hl
  unfold fK_measuredOfAge at hf
  refine lv_lconst (v := 0) hx hb dK_measuredOfAge_0 (by decide) ?_
  refine lv_lstore_n (lv' := [(2, .long (0 : Int64)), (0, .ref (q 0)), (1, .int x1)]) hx hb dK_measuredOfAge_1 rfl hl (by decide) rfl (fun ls hl => ?_)
  refine lv_iconst (v := 0) hx hb dK_measuredOfAge_2 (by decide) ?_
  refine lv_istore (lv' := [(4, .int 0), (2, .long (0 : Int64)), (0, .ref (q 0)), (1, .int x1)]) hx hb dK_measuredOfAge_3 hl (by decide) rfl (fun ls hl => ?_)
  exact tK_measuredOfAge_5 C0 hK hA fu x1 (0 : Int64) 0 _ _ ls hf (lv_sub hl [2, 3, 1, 0] rfl) hP hD hS
theorem dK_raised_0 : decode cK_raised 0 = .ok (.aload_n 0, 1) := by decide +kernel
theorem dK_raised_1 : decode cK_raised 1 = .ok (.iload_n 3, 1) := by decide +kernel
theorem dK_raised_2 : decode cK_raised 2 = .ok (.invokevirtual 83, 3) := by decide +kernel
theorem dK_raised_5 : decode cK_raised 5 = .ok (.ifCond .eq (19), 3) := by decide +kernel
theorem dK_raised_8 : decode cK_raised 8 = .ok (.iload 4, 2) := by decide +kernel
theorem dK_raised_10 : decode cK_raised 10 = .ok (.invokestatic 100, 3) := by decide +kernel
theorem dK_raised_13 : decode cK_raised 13 = .ok (.ifCond .eq (11), 3) := by decide +kernel
theorem dK_raised_16 : decode cK_raised 16 = .ok (.aload_n 0, 1) := by decide +kernel
theorem dK_raised_17 : decode cK_raised 17 = .ok (.lload_n 1, 1) := by decide +kernel
theorem dK_raised_18 : decode cK_raised 18 = .ok (.invokevirtual 140, 3) := by decide +kernel
theorem dK_raised_21 : decode cK_raised 21 = .ok (.ifCond .ne (7), 3) := by decide +kernel
theorem dK_raised_24 : decode cK_raised 24 = .ok (.ldc2_w 103, 3) := by decide +kernel
theorem dK_raised_27 : decode cK_raised 27 = .ok (.lreturn, 1) := by decide +kernel
theorem dK_raised_28 : decode cK_raised 28 = .ok (.lload_n 1, 1) := by decide +kernel
theorem dK_raised_29 : decode cK_raised 29 = .ok (.aload_n 0, 1) := by decide +kernel
theorem dK_raised_30 : decode cK_raised 30 = .ok (.iload_n 3, 1) := by decide +kernel
theorem dK_raised_31 : decode cK_raised 31 = .ok (.invokevirtual 144, 3) := by decide +kernel
theorem dK_raised_34 : decode cK_raised 34 = .ok (.lmul, 1) := by decide +kernel
theorem dK_raised_35 : decode cK_raised 35 = .ok (.aload_n 0, 1) := by decide +kernel
theorem dK_raised_36 : decode cK_raised 36 = .ok (.getfield 13, 3) := by decide +kernel
theorem dK_raised_39 : decode cK_raised 39 = .ok (.ldc2_w 148, 3) := by decide +kernel
theorem dK_raised_42 : decode cK_raised 42 = .ok (.lmul, 1) := by decide +kernel
theorem dK_raised_43 : decode cK_raised 43 = .ok (.iload 4, 2) := by decide +kernel
theorem dK_raised_45 : decode cK_raised 45 = .ok (.invokestatic 115, 3) := by decide +kernel
theorem dK_raised_48 : decode cK_raised 48 = .ok (.lreturn, 1) := by decide +kernel
set_option maxHeartbeats 4000000 in
set_option maxRecDepth 100000 in
theorem mK_raised (l : Launch) (D : va_G) (q : Nat → Nat) (k : kK) (cI cJ : ClassId) (sz : Nat) (fu : Nat) (σ : sK) (x1 : Int64) (x3 : Int32) (x4 : Int32) (r : Int64) (hf : fK_raised fu k σ x1 x3 x4 = some r) : Met l yK_raised (.code yK_raised cK_raised 5 (some .long) :: TK) ({ frames := 5, cells := 0, slots := 0, locals := 113 }) (kPre D cl0 [(cI, .int), (cJ, .long)] (wdK q k cI cJ) sz σ [.ref (q 0), .long x1, .int x3, .int x4]) (kQl D cl0 [(cI, .int), (cJ, .long)] (wdK q k cI cJ) (va_A (wdK q k cI cJ σ) sz) r σ) 0 0 (va_A (wdK q k cI cJ σ) sz) := by
  refine kr_start (own := RK) (by decide) rfl (Nat.le_of_ble_eq_true rfl) ?_
  intro p e s m args below meth c ls C0 hsz hK hP hD hl
  subst hsz
  obtain ⟨hx, hb, hr, hml, hown, hts, hlocks⟩ := id C0
  have hA : ∀ z : Nat, s.heap.size ≤ z → va_A (wdK q k cI cJ σ) s.heap.size z := fun z h => Or.inr h
  generalize va_A (wdK q k cI cJ σ) s.heap.size = A at hD hA ⊢
  have hS : va_S A s.heap s.heap [] := va_S.rf
  have hl : lv_has ls 5 [(0, .ref (q 0)), (1, .long x1), (3, .int x3), (4, .int x4)] := hl
  unfold fK_raised at hf
  refine lv_aload_n hx hb dK_raised_0 rfl (lv_at hl 0 rfl) ?_
  refine lv_iload_n hx hb dK_raised_1 rfl (lv_at hl 2 rfl) ?_
  refine kr_callVi (av := [.int x3]) ⟨hx, hb, hml, hown, hts⟩ (mK_isAge l D q k cI cJ _ σ x3 _ rfl) (cwV 1 hts (kgood_V TK_good (by decide +kernel)) rfl rfl rfl (by decide +kernel) ⟨Nat.le_of_ble_eq_true rfl, Nat.le_of_ble_eq_true rfl⟩) hK hP hD hS hA (ci := 0) (q0 := 0) rfl rfl rfl hl.1 rfl (Nat.le_of_ble_eq_true rfl) dK_raised_2 ⟨Nat.le_of_ble_eq_true rfl, Nat.le_of_ble_eq_true rfl⟩ (fun H locs hP hD hS => ?_)
  refine lv_if_eq (tgt := 24) hx hb dK_raised_5 (by decide) (fun c5 => ?_) (fun c5 => ?_)
  · have hf := (if_pos c5).symm.trans hf
    refine lv_ldc2 (v := -1) hx hb hown (hts (.constantLong RK 103 (-1)) (by decide +kernel)) dK_raised_24 ?_
    exact kr_lret C0 hK hP hD hS (Option.some.inj hf) rfl dK_raised_27
  · have hf := (if_neg c5).symm.trans hf
    refine lv_iload hx hb dK_raised_8 (lv_at hl 3 rfl) ?_
    refine kr_callSi (av := [.int x4]) ⟨hx, hb, hml, hown, hts⟩ (mK_isZeroOrOne l D _ (wdK q k cI cJ) [(cI, .int), (cJ, .long)] cl0 _ σ x4 _ rfl) (cwS 1 hts (kgood_S TK_good (by decide +kernel)) rfl rfl rfl (by decide +kernel) ⟨Nat.le_of_ble_eq_true rfl, Nat.le_of_ble_eq_true rfl⟩) hK hP hD hS hA rfl hl.1 rfl (Nat.le_of_ble_eq_true rfl) dK_raised_10 ⟨Nat.le_of_ble_eq_true rfl, Nat.le_of_ble_eq_true rfl⟩ (fun H locs hP hD hS => ?_)
    refine lv_if_eq (tgt := 24) hx hb dK_raised_13 (by decide) (fun c13 => ?_) (fun c13 => ?_)
    · have hf := (if_pos c13).symm.trans hf
      refine lv_ldc2 (v := -1) hx hb hown (hts (.constantLong RK 103 (-1)) (by decide +kernel)) dK_raised_24 ?_
      exact kr_lret C0 hK hP hD hS (Option.some.inj hf) rfl dK_raised_27
    · have hf := (if_neg c13).symm.trans hf
      refine lv_aload_n hx hb dK_raised_16 rfl (lv_at hl 0 rfl) ?_
      refine lv_lload_n hx hb dK_raised_17 rfl (lv_at hl 1 rfl) ?_
      obtain ⟨v18, ev18, hf⟩ := kb1 hf
      refine kr_callVi (av := [.long x1]) ⟨hx, hb, hml, hown, hts⟩ (mK_canRaise l D q k cI cJ _ fu σ x1 v18 ev18) (cwV 1 hts (kgood_V TK_good (by decide +kernel)) rfl rfl rfl (by decide +kernel) ⟨Nat.le_of_ble_eq_true rfl, Nat.le_of_ble_eq_true rfl⟩) hK hP hD hS hA (ci := 0) (q0 := 0) rfl rfl rfl hl.1 rfl (Nat.le_of_ble_eq_true rfl) dK_raised_18 ⟨Nat.le_of_ble_eq_true rfl, Nat.le_of_ble_eq_true rfl⟩ (fun H locs hP hD hS => ?_)
      refine lv_if_ne (tgt := 28) hx hb dK_raised_21 (by decide) (fun c21 => ?_) (fun c21 => ?_)
      · have hf := (if_neg c21).symm.trans hf
        refine lv_lload_n hx hb dK_raised_28 rfl (lv_at hl 1 rfl) ?_
        refine lv_aload_n hx hb dK_raised_29 rfl (lv_at hl 0 rfl) ?_
        refine lv_iload_n hx hb dK_raised_30 rfl (lv_at hl 2 rfl) ?_
        obtain ⟨v31, ev31, hf⟩ := kb1 hf
        refine kr_callVl (av := [.int x3]) ⟨hx, hb, hml, hown, hts⟩ (mK_measuredOfAge l D q k cI cJ _ fu σ x3 v31 ev31) (cwV 1 hts (kgood_V TK_good (by decide +kernel)) rfl rfl rfl (by decide +kernel) ⟨Nat.le_of_ble_eq_true rfl, Nat.le_of_ble_eq_true rfl⟩) hK hP hD hS hA (ci := 0) (q0 := 0) rfl rfl rfl hl.1 rfl (Nat.le_of_ble_eq_true rfl) dK_raised_31 ⟨Nat.le_of_ble_eq_true rfl, Nat.le_of_ble_eq_true rfl⟩ (fun H locs hP hD hS => ?_)
        refine lv_lmul hx hb dK_raised_34 ?_
        refine lv_aload_n hx hb dK_raised_35 rfl (lv_at hl 0 rfl) ?_
        refine gK_measuredInAll hx hb hown hts hK hP dK_raised_36 ?_
        refine lv_ldc2 (v := 232792560) hx hb hown (hts (.constantLong RK 148 (232792560)) (by decide +kernel)) dK_raised_39 ?_
        refine lv_lmul hx hb dK_raised_42 ?_
        refine lv_iload hx hb dK_raised_43 (lv_at hl 3 rfl) ?_
        obtain ⟨v45, ev45, hf⟩ := kb1 hf
        refine kr_callSl (av := [.long (x1 * v31), .long ((sK_measuredInAll σ) * (232792560 : Int64)), .int x4]) ⟨hx, hb, hml, hown, hts⟩ (mK_fractionPart l D _ (wdK q k cI cJ) [(cI, .int), (cJ, .long)] cl0 _ fu σ (x1 * v31) ((sK_measuredInAll σ) * (232792560 : Int64)) x4 v45 ev45) (cwS 3 hts (kgood_S TK_good (by decide +kernel)) rfl rfl rfl (by decide +kernel) ⟨Nat.le_of_ble_eq_true rfl, Nat.le_of_ble_eq_true rfl⟩) hK hP hD hS hA rfl hl.1 rfl (Nat.le_of_ble_eq_true rfl) dK_raised_45 ⟨Nat.le_of_ble_eq_true rfl, Nat.le_of_ble_eq_true rfl⟩ (fun H locs hP hD hS => ?_)
        exact kr_lret C0 hK hP hD hS (Option.some.inj hf) rfl dK_raised_48
      · have hf := (if_pos c21).symm.trans hf
        refine lv_ldc2 (v := -1) hx hb hown (hts (.constantLong RK 103 (-1)) (by decide +kernel)) dK_raised_24 ?_
        exact kr_lret C0 hK hP hD hS (Option.some.inj hf) rfl dK_raised_27
theorem dK_sums_0 : decode cK_sums 0 = .ok (.aload_n 0, 1) := by decide +kernel
theorem dK_sums_1 : decode cK_sums 1 = .ok (.lload_n 1, 1) := by decide +kernel
theorem dK_sums_2 : decode cK_sums 2 = .ok (.invokevirtual 140, 3) := by decide +kernel
theorem dK_sums_5 : decode cK_sums 5 = .ok (.ifCond .ne (5), 3) := by decide +kernel
theorem dK_sums_8 : decode cK_sums 8 = .ok (.iconst 0, 1) := by decide +kernel
theorem dK_sums_9 : decode cK_sums 9 = .ok (.ireturn, 1) := by decide +kernel
theorem dK_sums_10 : decode cK_sums 10 = .ok (.lconst 0, 1) := by decide +kernel
theorem dK_sums_11 : decode cK_sums 11 = .ok (.lstore_n 3, 1) := by decide +kernel
theorem dK_sums_12 : decode cK_sums 12 = .ok (.iconst 0, 1) := by decide +kernel
theorem dK_sums_13 : decode cK_sums 13 = .ok (.istore 5, 2) := by decide +kernel
theorem dK_sums_15 : decode cK_sums 15 = .ok (.iload 5, 2) := by decide +kernel
theorem dK_sums_17 : decode cK_sums 17 = .ok (.aload_n 0, 1) := by decide +kernel
theorem dK_sums_18 : decode cK_sums 18 = .ok (.getfield 29, 3) := by decide +kernel
theorem dK_sums_21 : decode cK_sums 21 = .ok (.if_icmp .ge (20), 3) := by decide +kernel
theorem dK_sums_24 : decode cK_sums 24 = .ok (.lload_n 3, 1) := by decide +kernel
theorem dK_sums_25 : decode cK_sums 25 = .ok (.lload_n 1, 1) := by decide +kernel
theorem dK_sums_26 : decode cK_sums 26 = .ok (.aload_n 0, 1) := by decide +kernel
theorem dK_sums_27 : decode cK_sums 27 = .ok (.iload 5, 2) := by decide +kernel
theorem dK_sums_29 : decode cK_sums 29 = .ok (.invokevirtual 144, 3) := by decide +kernel
theorem dK_sums_32 : decode cK_sums 32 = .ok (.lmul, 1) := by decide +kernel
theorem dK_sums_33 : decode cK_sums 33 = .ok (.ladd, 1) := by decide +kernel
theorem dK_sums_34 : decode cK_sums 34 = .ok (.lstore_n 3, 1) := by decide +kernel
theorem dK_sums_35 : decode cK_sums 35 = .ok (.iinc 5 (1), 3) := by decide +kernel
theorem dK_sums_38 : decode cK_sums 38 = .ok (.goto (-23), 3) := by decide +kernel
theorem dK_sums_41 : decode cK_sums 41 = .ok (.lload_n 3, 1) := by decide +kernel
theorem dK_sums_42 : decode cK_sums 42 = .ok (.lload_n 1, 1) := by decide +kernel
theorem dK_sums_43 : decode cK_sums 43 = .ok (.aload_n 0, 1) := by decide +kernel
theorem dK_sums_44 : decode cK_sums 44 = .ok (.getfield 13, 3) := by decide +kernel
theorem dK_sums_47 : decode cK_sums 47 = .ok (.lmul, 1) := by decide +kernel
theorem dK_sums_48 : decode cK_sums 48 = .ok (.ldc2_w 148, 3) := by decide +kernel
theorem dK_sums_51 : decode cK_sums 51 = .ok (.lmul, 1) := by decide +kernel
theorem dK_sums_52 : decode cK_sums 52 = .ok (.lcmp, 1) := by decide +kernel
theorem dK_sums_53 : decode cK_sums 53 = .ok (.ifCond .ne (7), 3) := by decide +kernel
theorem dK_sums_56 : decode cK_sums 56 = .ok (.iconst 1, 1) := by decide +kernel
theorem dK_sums_57 : decode cK_sums 57 = .ok (.goto (4), 3) := by decide +kernel
theorem dK_sums_60 : decode cK_sums 60 = .ok (.iconst 0, 1) := by decide +kernel
theorem dK_sums_61 : decode cK_sums 61 = .ok (.ireturn, 1) := by decide +kernel
set_option maxHeartbeats 4000000 in
set_option maxRecDepth 100000 in
theorem tK_sums_15 {p : Program} {l : Launch} {e : Env} {s : State} {m : MethodId} {args : Array Value} {below : List Frame} {meth : Method} {c : Code} {D : va_G} {A : Nat → Prop} {q : Nat → Nat} {k : kK} {cI cJ : ClassId} {r : Int32} {σ : sK} {fu : Nat} (C0 : Cx p s m args meth c cK_sums 6 (some .boolean) RK TK) (hK : va_K D cl0 [(cI, .int), (cJ, .long)] s) (hA : ∀ z, s.heap.size ≤ z → A z) : ∀ n : Nat, ∀ (x1 : Int64) (x3 : Int64) (x5 : Int32)(H : Heap) (locs : List Loc) (ls : Array Slot), fK_sums_15 fu k σ n x1 x3 x5 = some r → lv_has ls 6 [(0, .ref (q 0)), (1, .long x1), (3, .long x3), (5, .int x5)] → va_P D cl0 (wdK q k cI cJ σ) H → va_D A (wdK q k cI cJ σ) → va_S A s.heap H locs → W p l e ({ frames := 5, cells := 0, slots := 0, locals := 113 }) s m args below meth c H locs 0 0 (MQ below (kQi D cl0 [(cI, .int), (cJ, .long)] (wdK q k cI cJ) A r σ) args s 0 0 A) (F0 m 15 ls []) := by
  obtain ⟨hx, hb, hr, hml, hown, hts, hlocks⟩ := id C0
  intro n
  induction n with
  | zero =>
    intro x1 x3 x5 H locs ls hf hl hP hD hS
    cases hf
  | succ n ih =>
    intro x1 x3 x5 H locs ls hf hl hP hD hS
    rw [fK_sums_15] at hf
    refine lv_iload hx hb dK_sums_15 (lv_at hl 3 rfl) ?_
    refine lv_aload_n hx hb dK_sums_17 rfl (lv_at hl 0 rfl) ?_
    refine gK_ages hx hb hown hts hK hP dK_sums_18 ?_
    refine lv_icmp_ge (tgt := 41) hx hb dK_sums_21 (by decide) (fun c21 => ?_) (fun c21 => ?_)
    · have hf := (if_pos c21).symm.trans hf
      refine lv_lload_n hx hb dK_sums_41 rfl (lv_at hl 2 rfl) ?_
      refine lv_lload_n hx hb dK_sums_42 rfl (lv_at hl 1 rfl) ?_
      refine lv_aload_n hx hb dK_sums_43 rfl (lv_at hl 0 rfl) ?_
      refine gK_measuredInAll hx hb hown hts hK hP dK_sums_44 ?_
      refine lv_lmul hx hb dK_sums_47 ?_
      refine lv_ldc2 (v := 232792560) hx hb hown (hts (.constantLong RK 148 (232792560)) (by decide +kernel)) dK_sums_48 ?_
      refine lv_lmul hx hb dK_sums_51 ?_
      refine W.lcmp hx hb dK_sums_52 ?_
      refine lv_if_ne (tgt := 60) hx hb dK_sums_53 (by decide) (fun c52 => ?_) (fun c52 => ?_)
      · rw [lg_cmp_eq] at c52
        have hf := (if_neg c52).symm.trans hf
        refine lv_iconst (v := 0) hx hb dK_sums_60 (by decide) ?_
        exact kr_zret C0 hK hP hD hS rfl (Option.some.inj hf) rfl dK_sums_61
      · rw [lg_cmp_eq] at c52
        have hf := (if_pos c52).symm.trans hf
        refine lv_iconst (v := 1) hx hb dK_sums_56 (by decide) ?_
        refine lv_goto (tgt := 61) hx hb dK_sums_57 (by decide) ?_
        exact kr_zret C0 hK hP hD hS rfl (Option.some.inj hf) rfl dK_sums_61
    · have hf := (if_neg c21).symm.trans hf
      refine lv_lload_n hx hb dK_sums_24 rfl (lv_at hl 2 rfl) ?_
      refine lv_lload_n hx hb dK_sums_25 rfl (lv_at hl 1 rfl) ?_
      refine lv_aload_n hx hb dK_sums_26 rfl (lv_at hl 0 rfl) ?_
      refine lv_iload hx hb dK_sums_27 (lv_at hl 3 rfl) ?_
      obtain ⟨v29, ev29, hf⟩ := kb1 hf
      refine kr_callVl (av := [.int x5]) ⟨hx, hb, hml, hown, hts⟩ (mK_measuredOfAge l D q k cI cJ _ fu σ x5 v29 ev29) (cwV 1 hts (kgood_V TK_good (by decide +kernel)) rfl rfl rfl (by decide +kernel) ⟨Nat.le_of_ble_eq_true rfl, Nat.le_of_ble_eq_true rfl⟩) hK hP hD hS hA (ci := 0) (q0 := 0) rfl rfl rfl hl.1 rfl (Nat.le_of_ble_eq_true rfl) dK_sums_29 ⟨Nat.le_of_ble_eq_true rfl, Nat.le_of_ble_eq_true rfl⟩ (fun H locs hP hD hS => ?_)
      refine lv_lmul hx hb dK_sums_32 ?_
      refine lv_ladd hx hb dK_sums_33 ?_
      refine lv_lstore_n (lv' := [(3, .long (x3 + (x1 * v29))), (0, .ref (q 0)), (1, .long x1), (5, .int x5)]) hx hb dK_sums_34 rfl hl (by decide) rfl (fun ls hl => ?_)
      refine lv_iinc (v := (x5 + 1)) (lv' := [(5, .int (x5 + 1)), (3, .long (x3 + (x1 * v29))), (0, .ref (q 0)), (1, .long x1)]) hx hb dK_sums_35 hl (k := 3) rfl rfl (by decide) rfl (fun ls hl => ?_)
      refine lv_goto (tgt := 15) hx hb dK_sums_38 (by decide) ?_
      exact ih x1 (x3 + (x1 * v29)) (x5 + 1) _ _ ls hf (lv_sub hl [2, 3, 1, 0] rfl) hP hD hS
set_option maxHeartbeats 4000000 in
set_option maxRecDepth 100000 in
theorem mK_sums (l : Launch) (D : va_G) (q : Nat → Nat) (k : kK) (cI cJ : ClassId) (sz : Nat) (fu : Nat) (σ : sK) (x1 : Int64) (r : Int32) (hf : fK_sums fu k σ x1 = some r) : Met l yK_sums (.code yK_sums cK_sums 6 (some .boolean) :: TK) ({ frames := 5, cells := 0, slots := 0, locals := 113 }) (kPre D cl0 [(cI, .int), (cJ, .long)] (wdK q k cI cJ) sz σ [.ref (q 0), .long x1]) (kQi D cl0 [(cI, .int), (cJ, .long)] (wdK q k cI cJ) (va_A (wdK q k cI cJ σ) sz) r σ) 0 0 (va_A (wdK q k cI cJ σ) sz) := by
  refine kr_start (own := RK) (by decide) rfl (Nat.le_of_ble_eq_true rfl) ?_
  intro p e s m args below meth c ls C0 hsz hK hP hD hl
  subst hsz
  obtain ⟨hx, hb, hr, hml, hown, hts, hlocks⟩ := id C0
  have hA : ∀ z : Nat, s.heap.size ≤ z → va_A (wdK q k cI cJ σ) s.heap.size z := fun z h => Or.inr h
  generalize va_A (wdK q k cI cJ σ) s.heap.size = A at hD hA ⊢
  have hS : va_S A s.heap s.heap [] := va_S.rf
  have hl : lv_has ls 6 [(0, .ref (q 0)), (1, .long x1)] := hl
  unfold fK_sums at hf
  refine lv_aload_n hx hb dK_sums_0 rfl (lv_at hl 0 rfl) ?_
  refine lv_lload_n hx hb dK_sums_1 rfl (lv_at hl 1 rfl) ?_
  obtain ⟨v2, ev2, hf⟩ := kb1 hf
  refine kr_callVi (av := [.long x1]) ⟨hx, hb, hml, hown, hts⟩ (mK_canRaise l D q k cI cJ _ fu σ x1 v2 ev2) (cwV 1 hts (kgood_V TK_good (by decide +kernel)) rfl rfl rfl (by decide +kernel) ⟨Nat.le_of_ble_eq_true rfl, Nat.le_of_ble_eq_true rfl⟩) hK hP hD hS hA (ci := 0) (q0 := 0) rfl rfl rfl hl.1 rfl (Nat.le_of_ble_eq_true rfl) dK_sums_2 ⟨Nat.le_of_ble_eq_true rfl, Nat.le_of_ble_eq_true rfl⟩ (fun H locs hP hD hS => ?_)
  refine lv_if_ne (tgt := 10) hx hb dK_sums_5 (by decide) (fun c5 => ?_) (fun c5 => ?_)
  · have hf := (if_neg c5).symm.trans hf
    refine lv_lconst (v := 0) hx hb dK_sums_10 (by decide) ?_
    refine lv_lstore_n (lv' := [(3, .long (0 : Int64)), (0, .ref (q 0)), (1, .long x1)]) hx hb dK_sums_11 rfl hl (by decide) rfl (fun ls hl => ?_)
    refine lv_iconst (v := 0) hx hb dK_sums_12 (by decide) ?_
    refine lv_istore (lv' := [(5, .int 0), (3, .long (0 : Int64)), (0, .ref (q 0)), (1, .long x1)]) hx hb dK_sums_13 hl (by decide) rfl (fun ls hl => ?_)
    exact tK_sums_15 C0 hK hA fu x1 (0 : Int64) 0 _ _ ls hf (lv_sub hl [2, 3, 1, 0] rfl) hP hD hS
  · have hf := (if_pos c5).symm.trans hf
    refine lv_iconst (v := 0) hx hb dK_sums_8 (by decide) ?_
    exact kr_zret C0 hK hP hD hS rfl (Option.some.inj hf) rfl dK_sums_9
theorem dK_error_0 : decode cK_error 0 = .ok (.aload_n 0, 1) := by decide +kernel
theorem dK_error_1 : decode cK_error 1 = .ok (.iload_n 1, 1) := by decide +kernel
theorem dK_error_2 : decode cK_error 2 = .ok (.invokevirtual 83, 3) := by decide +kernel
theorem dK_error_5 : decode cK_error 5 = .ok (.ifCond .eq (21), 3) := by decide +kernel
theorem dK_error_8 : decode cK_error 8 = .ok (.aload_n 0, 1) := by decide +kernel
theorem dK_error_9 : decode cK_error 9 = .ok (.iload_n 2, 1) := by decide +kernel
theorem dK_error_10 : decode cK_error 10 = .ok (.invokevirtual 83, 3) := by decide +kernel
theorem dK_error_13 : decode cK_error 13 = .ok (.ifCond .eq (13), 3) := by decide +kernel
theorem dK_error_16 : decode cK_error 16 = .ok (.iload_n 3, 1) := by decide +kernel
theorem dK_error_17 : decode cK_error 17 = .ok (.ifCond .lt (9), 3) := by decide +kernel
theorem dK_error_20 : decode cK_error 20 = .ok (.iload_n 3, 1) := by decide +kernel
theorem dK_error_21 : decode cK_error 21 = .ok (.bipush (20), 2) := by decide +kernel
theorem dK_error_23 : decode cK_error 23 = .ok (.if_icmp .le (5), 3) := by decide +kernel
theorem dK_error_26 : decode cK_error 26 = .ok (.iconst 0, 1) := by decide +kernel
theorem dK_error_27 : decode cK_error 27 = .ok (.ireturn, 1) := by decide +kernel
theorem dK_error_28 : decode cK_error 28 = .ok (.aload_n 0, 1) := by decide +kernel
theorem dK_error_29 : decode cK_error 29 = .ok (.getfield 55, 3) := by decide +kernel
theorem dK_error_32 : decode cK_error 32 = .ok (.iload_n 1, 1) := by decide +kernel
theorem dK_error_33 : decode cK_error 33 = .ok (.aload_n 0, 1) := by decide +kernel
theorem dK_error_34 : decode cK_error 34 = .ok (.getfield 29, 3) := by decide +kernel
theorem dK_error_37 : decode cK_error 37 = .ok (.imul, 1) := by decide +kernel
theorem dK_error_38 : decode cK_error 38 = .ok (.iload_n 2, 1) := by decide +kernel
theorem dK_error_39 : decode cK_error 39 = .ok (.iadd, 1) := by decide +kernel
theorem dK_error_40 : decode cK_error 40 = .ok (.iload_n 3, 1) := by decide +kernel
theorem dK_error_41 : decode cK_error 41 = .ok (.iastore, 1) := by decide +kernel
theorem dK_error_42 : decode cK_error 42 = .ok (.iconst 1, 1) := by decide +kernel
theorem dK_error_43 : decode cK_error 43 = .ok (.ireturn, 1) := by decide +kernel
set_option maxHeartbeats 4000000 in
set_option maxRecDepth 100000 in
theorem mK_error (l : Launch) (D : va_G) (q : Nat → Nat) (k : kK) (cI cJ : ClassId) (sz : Nat) (σ : sK) (σ' : sK) (x1 : Int32) (x2 : Int32) (x3 : Int32) (r : Int32) (hf : fK_error k σ x1 x2 x3 = some (r, σ')) : Met l yK_error (.code yK_error cK_error 4 (some .boolean) :: TK) ({ frames := 1, cells := 0, slots := 0, locals := 21 }) (kPre D cl0 [(cI, .int), (cJ, .long)] (wdK q k cI cJ) sz σ [.ref (q 0), .int x1, .int x2, .int x3]) (kQi D cl0 [(cI, .int), (cJ, .long)] (wdK q k cI cJ) (va_A (wdK q k cI cJ σ) sz) r σ') 0 0 (va_A (wdK q k cI cJ σ) sz) := by
  refine kr_start (own := RK) (by decide) rfl (Nat.le_of_ble_eq_true rfl) ?_
  intro p e s m args below meth c ls C0 hsz hK hP hD hl
  subst hsz
  obtain ⟨hx, hb, hr, hml, hown, hts, hlocks⟩ := id C0
  have hA : ∀ z : Nat, s.heap.size ≤ z → va_A (wdK q k cI cJ σ) s.heap.size z := fun z h => Or.inr h
  generalize va_A (wdK q k cI cJ σ) s.heap.size = A at hD hA ⊢
  have hS : va_S A s.heap s.heap [] := va_S.rf
  have hl : lv_has ls 4 [(0, .ref (q 0)), (1, .int x1), (2, .int x2), (3, .int x3)] := hl
  unfold fK_error at hf
  refine lv_aload_n hx hb dK_error_0 rfl (lv_at hl 0 rfl) ?_
  refine lv_iload_n hx hb dK_error_1 rfl (lv_at hl 1 rfl) ?_
  refine kr_callVi (av := [.int x1]) ⟨hx, hb, hml, hown, hts⟩ (mK_isAge l D q k cI cJ _ σ x1 _ rfl) (cwV 1 hts (kgood_V TK_good (by decide +kernel)) rfl rfl rfl (by decide +kernel) ⟨Nat.le_of_ble_eq_true rfl, Nat.le_of_ble_eq_true rfl⟩) hK hP hD hS hA (ci := 0) (q0 := 0) rfl rfl rfl hl.1 rfl (Nat.le_of_ble_eq_true rfl) dK_error_2 ⟨Nat.le_of_ble_eq_true rfl, Nat.le_of_ble_eq_true rfl⟩ (fun H locs hP hD hS => ?_)
  refine lv_if_eq (tgt := 26) hx hb dK_error_5 (by decide) (fun c5 => ?_) (fun c5 => ?_)
  · have hf := (if_pos c5).symm.trans hf
    refine lv_iconst (v := 0) hx hb dK_error_26 (by decide) ?_
    exact kr_zret C0 hK hP hD hS rfl (congrArg Prod.fst (Option.some.inj hf)) (congrArg Prod.snd (Option.some.inj hf)) dK_error_27
  · have hf := (if_neg c5).symm.trans hf
    refine lv_aload_n hx hb dK_error_8 rfl (lv_at hl 0 rfl) ?_
    refine lv_iload_n hx hb dK_error_9 rfl (lv_at hl 2 rfl) ?_
    refine kr_callVi (av := [.int x2]) ⟨hx, hb, hml, hown, hts⟩ (mK_isAge l D q k cI cJ _ σ x2 _ rfl) (cwV 1 hts (kgood_V TK_good (by decide +kernel)) rfl rfl rfl (by decide +kernel) ⟨Nat.le_of_ble_eq_true rfl, Nat.le_of_ble_eq_true rfl⟩) hK hP hD hS hA (ci := 0) (q0 := 0) rfl rfl rfl hl.1 rfl (Nat.le_of_ble_eq_true rfl) dK_error_10 ⟨Nat.le_of_ble_eq_true rfl, Nat.le_of_ble_eq_true rfl⟩ (fun H locs hP hD hS => ?_)
    refine lv_if_eq (tgt := 26) hx hb dK_error_13 (by decide) (fun c13 => ?_) (fun c13 => ?_)
    · have hf := (if_pos c13).symm.trans hf
      refine lv_iconst (v := 0) hx hb dK_error_26 (by decide) ?_
      exact kr_zret C0 hK hP hD hS rfl (congrArg Prod.fst (Option.some.inj hf)) (congrArg Prod.snd (Option.some.inj hf)) dK_error_27
    · have hf := (if_neg c13).symm.trans hf
      refine lv_iload_n hx hb dK_error_16 rfl (lv_at hl 3 rfl) ?_
      refine lv_if_lt (tgt := 26) hx hb dK_error_17 (by decide) (fun c17 => ?_) (fun c17 => ?_)
      · have hf := (if_pos c17).symm.trans hf
        refine lv_iconst (v := 0) hx hb dK_error_26 (by decide) ?_
        exact kr_zret C0 hK hP hD hS rfl (congrArg Prod.fst (Option.some.inj hf)) (congrArg Prod.snd (Option.some.inj hf)) dK_error_27
      · have hf := (if_neg c17).symm.trans hf
        refine lv_iload_n hx hb dK_error_20 rfl (lv_at hl 3 rfl) ?_
        refine lv_bipush (v := 20) hx hb dK_error_21 (by decide) ?_
        refine lv_icmp_le (tgt := 28) hx hb dK_error_23 (by decide) (fun c23 => ?_) (fun c23 => ?_)
        · have hf := (if_pos c23).symm.trans hf
          refine lv_aload_n hx hb dK_error_28 rfl (lv_at hl 0 rfl) ?_
          refine gK_errors hx hb hown hts hK hP dK_error_29 ?_
          refine lv_iload_n hx hb dK_error_32 rfl (lv_at hl 1 rfl) ?_
          refine lv_aload_n hx hb dK_error_33 rfl (lv_at hl 0 rfl) ?_
          refine gK_ages hx hb hown hts hK hP dK_error_34 ?_
          refine lv_imul hx hb dK_error_37 ?_
          refine lv_iload_n hx hb dK_error_38 rfl (lv_at hl 2 rfl) ?_
          refine lv_iadd hx hb dK_error_39 ?_
          refine lv_iload_n hx hb dK_error_40 rfl (lv_at hl 3 rfl) ?_
          obtain ⟨a41, ea41, hf⟩ := kb1 hf
          refine kr_iastore (σ' := (uK_errors σ a41)) hx hb hK hP hD hS 8 0 rfl rfl ea41 rfl dK_error_41 (fun H locs hP hD hS => ?_)
          generalize (uK_errors σ a41) = s41 at hf hP hD
          refine lv_iconst (v := 1) hx hb dK_error_42 (by decide) ?_
          exact kr_zret C0 hK hP hD hS rfl (congrArg Prod.fst (Option.some.inj hf)) (congrArg Prod.snd (Option.some.inj hf)) dK_error_43
        · have hf := (if_neg c23).symm.trans hf
          refine lv_iconst (v := 0) hx hb dK_error_26 (by decide) ?_
          exact kr_zret C0 hK hP hD hS rfl (congrArg Prod.fst (Option.some.inj hf)) (congrArg Prod.snd (Option.some.inj hf)) dK_error_27
theorem dK_errorSum_0 : decode cK_errorSum 0 = .ok (.iconst 0, 1) := by decide +kernel
theorem dK_errorSum_1 : decode cK_errorSum 1 = .ok (.istore_n 2, 1) := by decide +kernel
theorem dK_errorSum_2 : decode cK_errorSum 2 = .ok (.iconst 0, 1) := by decide +kernel
theorem dK_errorSum_3 : decode cK_errorSum 3 = .ok (.istore_n 3, 1) := by decide +kernel
theorem dK_errorSum_4 : decode cK_errorSum 4 = .ok (.iload_n 3, 1) := by decide +kernel
theorem dK_errorSum_5 : decode cK_errorSum 5 = .ok (.aload_n 0, 1) := by decide +kernel
theorem dK_errorSum_6 : decode cK_errorSum 6 = .ok (.getfield 29, 3) := by decide +kernel
theorem dK_errorSum_9 : decode cK_errorSum 9 = .ok (.if_icmp .ge (25), 3) := by decide +kernel
theorem dK_errorSum_12 : decode cK_errorSum 12 = .ok (.iload_n 2, 1) := by decide +kernel
theorem dK_errorSum_13 : decode cK_errorSum 13 = .ok (.aload_n 0, 1) := by decide +kernel
theorem dK_errorSum_14 : decode cK_errorSum 14 = .ok (.getfield 55, 3) := by decide +kernel
theorem dK_errorSum_17 : decode cK_errorSum 17 = .ok (.iload_n 1, 1) := by decide +kernel
theorem dK_errorSum_18 : decode cK_errorSum 18 = .ok (.aload_n 0, 1) := by decide +kernel
theorem dK_errorSum_19 : decode cK_errorSum 19 = .ok (.getfield 29, 3) := by decide +kernel
theorem dK_errorSum_22 : decode cK_errorSum 22 = .ok (.imul, 1) := by decide +kernel
theorem dK_errorSum_23 : decode cK_errorSum 23 = .ok (.iload_n 3, 1) := by decide +kernel
theorem dK_errorSum_24 : decode cK_errorSum 24 = .ok (.iadd, 1) := by decide +kernel
theorem dK_errorSum_25 : decode cK_errorSum 25 = .ok (.iaload, 1) := by decide +kernel
theorem dK_errorSum_26 : decode cK_errorSum 26 = .ok (.iadd, 1) := by decide +kernel
theorem dK_errorSum_27 : decode cK_errorSum 27 = .ok (.istore_n 2, 1) := by decide +kernel
theorem dK_errorSum_28 : decode cK_errorSum 28 = .ok (.iinc 3 (1), 3) := by decide +kernel
theorem dK_errorSum_31 : decode cK_errorSum 31 = .ok (.goto (-27), 3) := by decide +kernel
theorem dK_errorSum_34 : decode cK_errorSum 34 = .ok (.iload_n 2, 1) := by decide +kernel
theorem dK_errorSum_35 : decode cK_errorSum 35 = .ok (.ireturn, 1) := by decide +kernel
set_option maxHeartbeats 4000000 in
set_option maxRecDepth 100000 in
theorem tK_errorSum_4 {p : Program} {l : Launch} {e : Env} {s : State} {m : MethodId} {args : Array Value} {below : List Frame} {meth : Method} {c : Code} {D : va_G} {A : Nat → Prop} {q : Nat → Nat} {k : kK} {cI cJ : ClassId} {r : Int32} {σ : sK} {fu : Nat} (C0 : Cx p s m args meth c cK_errorSum 4 (some .int) RK TK) (hK : va_K D cl0 [(cI, .int), (cJ, .long)] s) (hA : ∀ z, s.heap.size ≤ z → A z) : ∀ n : Nat, ∀ (x1 : Int32) (x2 : Int32) (x3 : Int32)(H : Heap) (locs : List Loc) (ls : Array Slot), fK_errorSum_4 fu k σ n x1 x2 x3 = some r → lv_has ls 4 [(0, .ref (q 0)), (1, .int x1), (2, .int x2), (3, .int x3)] → va_P D cl0 (wdK q k cI cJ σ) H → va_D A (wdK q k cI cJ σ) → va_S A s.heap H locs → W p l e ({ frames := 0, cells := 0, slots := 0, locals := 0 }) s m args below meth c H locs 0 0 (MQ below (kQi D cl0 [(cI, .int), (cJ, .long)] (wdK q k cI cJ) A r σ) args s 0 0 A) (F0 m 4 ls []) := by
  obtain ⟨hx, hb, hr, hml, hown, hts, hlocks⟩ := id C0
  intro n
  induction n with
  | zero =>
    intro x1 x2 x3 H locs ls hf hl hP hD hS
    cases hf
  | succ n ih =>
    intro x1 x2 x3 H locs ls hf hl hP hD hS
    rw [fK_errorSum_4] at hf
    refine lv_iload_n hx hb dK_errorSum_4 rfl (lv_at hl 3 rfl) ?_
    refine lv_aload_n hx hb dK_errorSum_5 rfl (lv_at hl 0 rfl) ?_
    refine gK_ages hx hb hown hts hK hP dK_errorSum_6 ?_
    refine lv_icmp_ge (tgt := 34) hx hb dK_errorSum_9 (by decide) (fun c9 => ?_) (fun c9 => ?_)
    · have hf := (if_pos c9).symm.trans hf
      refine lv_iload_n hx hb dK_errorSum_34 rfl (lv_at hl 2 rfl) ?_
      exact kr_iret C0 hK hP hD hS (Option.some.inj hf) rfl dK_errorSum_35
    · have hf := (if_neg c9).symm.trans hf
      refine lv_iload_n hx hb dK_errorSum_12 rfl (lv_at hl 2 rfl) ?_
      refine lv_aload_n hx hb dK_errorSum_13 rfl (lv_at hl 0 rfl) ?_
      refine gK_errors hx hb hown hts hK hP dK_errorSum_14 ?_
      refine lv_iload_n hx hb dK_errorSum_17 rfl (lv_at hl 1 rfl) ?_
      refine lv_aload_n hx hb dK_errorSum_18 rfl (lv_at hl 0 rfl) ?_
      refine gK_ages hx hb hown hts hK hP dK_errorSum_19 ?_
      refine lv_imul hx hb dK_errorSum_22 ?_
      refine lv_iload_n hx hb dK_errorSum_23 rfl (lv_at hl 3 rfl) ?_
      refine lv_iadd hx hb dK_errorSum_24 ?_
      obtain ⟨v25, ev25, hf⟩ := kb1 hf
      refine kr_iaload hx hb hK hP 8 0 rfl rfl ev25 dK_errorSum_25 ?_
      refine lv_iadd hx hb dK_errorSum_26 ?_
      refine lv_istore_n (lv' := [(2, .int (x2 + v25)), (0, .ref (q 0)), (1, .int x1), (3, .int x3)]) hx hb dK_errorSum_27 rfl hl (by decide) rfl (fun ls hl => ?_)
      refine lv_iinc (v := (x3 + 1)) (lv' := [(3, .int (x3 + 1)), (2, .int (x2 + v25)), (0, .ref (q 0)), (1, .int x1)]) hx hb dK_errorSum_28 hl (k := 3) rfl rfl (by decide) rfl (fun ls hl => ?_)
      refine lv_goto (tgt := 4) hx hb dK_errorSum_31 (by decide) ?_
      exact ih x1 (x2 + v25) (x3 + 1) _ _ ls hf (lv_sub hl [2, 3, 1, 0] rfl) hP hD hS
set_option maxHeartbeats 4000000 in
set_option maxRecDepth 100000 in
theorem mK_errorSum (l : Launch) (D : va_G) (q : Nat → Nat) (k : kK) (cI cJ : ClassId) (sz : Nat) (fu : Nat) (σ : sK) (x1 : Int32) (r : Int32) (hf : fK_errorSum fu k σ x1 = some r) : Met l yK_errorSum (.code yK_errorSum cK_errorSum 4 (some .int) :: TK) ({ frames := 0, cells := 0, slots := 0, locals := 0 }) (kPre D cl0 [(cI, .int), (cJ, .long)] (wdK q k cI cJ) sz σ [.ref (q 0), .int x1]) (kQi D cl0 [(cI, .int), (cJ, .long)] (wdK q k cI cJ) (va_A (wdK q k cI cJ σ) sz) r σ) 0 0 (va_A (wdK q k cI cJ σ) sz) := by
  refine kr_start (own := RK) (by decide) rfl (Nat.le_of_ble_eq_true rfl) ?_
  intro p e s m args below meth c ls C0 hsz hK hP hD hl
  subst hsz
  obtain ⟨hx, hb, hr, hml, hown, hts, hlocks⟩ := id C0
  have hA : ∀ z : Nat, s.heap.size ≤ z → va_A (wdK q k cI cJ σ) s.heap.size z := fun z h => Or.inr h
  generalize va_A (wdK q k cI cJ σ) s.heap.size = A at hD hA ⊢
  have hS : va_S A s.heap s.heap [] := va_S.rf
  have hl : lv_has ls 4 [(0, .ref (q 0)), (1, .int x1)] := hl
  unfold fK_errorSum at hf
  refine lv_iconst (v := 0) hx hb dK_errorSum_0 (by decide) ?_
  refine lv_istore_n (lv' := [(2, .int 0), (0, .ref (q 0)), (1, .int x1)]) hx hb dK_errorSum_1 rfl hl (by decide) rfl (fun ls hl => ?_)
  refine lv_iconst (v := 0) hx hb dK_errorSum_2 (by decide) ?_
  refine lv_istore_n (lv' := [(3, .int 0), (2, .int 0), (0, .ref (q 0)), (1, .int x1)]) hx hb dK_errorSum_3 rfl hl (by decide) rfl (fun ls hl => ?_)
  exact tK_errorSum_4 C0 hK hA fu x1 0 0 _ _ ls hf (lv_sub hl [2, 3, 1, 0] rfl) hP hD hS
theorem dK_loadErrors_0 : decode cK_loadErrors 0 = .ok (.iconst 0, 1) := by decide +kernel
theorem dK_loadErrors_1 : decode cK_loadErrors 1 = .ok (.istore_n 1, 1) := by decide +kernel
theorem dK_loadErrors_2 : decode cK_loadErrors 2 = .ok (.iload_n 1, 1) := by decide +kernel
theorem dK_loadErrors_3 : decode cK_loadErrors 3 = .ok (.aload_n 0, 1) := by decide +kernel
theorem dK_loadErrors_4 : decode cK_loadErrors 4 = .ok (.getfield 58, 3) := by decide +kernel
theorem dK_loadErrors_7 : decode cK_loadErrors 7 = .ok (.arraylength, 1) := by decide +kernel
theorem dK_loadErrors_8 : decode cK_loadErrors 8 = .ok (.if_icmp .ge (31), 3) := by decide +kernel
theorem dK_loadErrors_11 : decode cK_loadErrors 11 = .ok (.iload_n 1, 1) := by decide +kernel
theorem dK_loadErrors_12 : decode cK_loadErrors 12 = .ok (.aload_n 0, 1) := by decide +kernel
theorem dK_loadErrors_13 : decode cK_loadErrors 13 = .ok (.getfield 55, 3) := by decide +kernel
theorem dK_loadErrors_16 : decode cK_loadErrors 16 = .ok (.arraylength, 1) := by decide +kernel
theorem dK_loadErrors_17 : decode cK_loadErrors 17 = .ok (.if_icmp .ge (22), 3) := by decide +kernel
theorem dK_loadErrors_20 : decode cK_loadErrors 20 = .ok (.aload_n 0, 1) := by decide +kernel
theorem dK_loadErrors_21 : decode cK_loadErrors 21 = .ok (.getfield 58, 3) := by decide +kernel
theorem dK_loadErrors_24 : decode cK_loadErrors 24 = .ok (.iload_n 1, 1) := by decide +kernel
theorem dK_loadErrors_25 : decode cK_loadErrors 25 = .ok (.aload_n 0, 1) := by decide +kernel
theorem dK_loadErrors_26 : decode cK_loadErrors 26 = .ok (.getfield 55, 3) := by decide +kernel
theorem dK_loadErrors_29 : decode cK_loadErrors 29 = .ok (.iload_n 1, 1) := by decide +kernel
theorem dK_loadErrors_30 : decode cK_loadErrors 30 = .ok (.iaload, 1) := by decide +kernel
theorem dK_loadErrors_31 : decode cK_loadErrors 31 = .ok (.i2l, 1) := by decide +kernel
theorem dK_loadErrors_32 : decode cK_loadErrors 32 = .ok (.lastore, 1) := by decide +kernel
theorem dK_loadErrors_33 : decode cK_loadErrors 33 = .ok (.iinc 1 (1), 3) := by decide +kernel
theorem dK_loadErrors_36 : decode cK_loadErrors 36 = .ok (.goto (-34), 3) := by decide +kernel
theorem dK_loadErrors_39 : decode cK_loadErrors 39 = .ok (.return_, 1) := by decide +kernel
set_option maxHeartbeats 4000000 in
set_option maxRecDepth 100000 in
theorem tK_loadErrors_2 {p : Program} {l : Launch} {e : Env} {s : State} {m : MethodId} {args : Array Value} {below : List Frame} {meth : Method} {c : Code} {D : va_G} {A : Nat → Prop} {q : Nat → Nat} {k : kK} {cI cJ : ClassId} {σ' : sK} {fu : Nat} (C0 : Cx p s m args meth c cK_loadErrors 2 none RK TK) (hK : va_K D cl0 [(cI, .int), (cJ, .long)] s) (hA : ∀ z, s.heap.size ≤ z → A z) : ∀ n : Nat, ∀ (σ : sK) (x1 : Int32)(H : Heap) (locs : List Loc) (ls : Array Slot), fK_loadErrors_2 fu k n σ x1 = some σ' → lv_has ls 2 [(0, .ref (q 0)), (1, .int x1)] → va_P D cl0 (wdK q k cI cJ σ) H → va_D A (wdK q k cI cJ σ) → va_S A s.heap H locs → W p l e ({ frames := 0, cells := 0, slots := 0, locals := 0 }) s m args below meth c H locs 0 0 (MQ below (kQv D cl0 [(cI, .int), (cJ, .long)] (wdK q k cI cJ) A σ') args s 0 0 A) (F0 m 2 ls []) := by
  obtain ⟨hx, hb, hr, hml, hown, hts, hlocks⟩ := id C0
  intro n
  induction n with
  | zero =>
    intro σ x1 H locs ls hf hl hP hD hS
    cases hf
  | succ n ih =>
    intro σ x1 H locs ls hf hl hP hD hS
    rw [fK_loadErrors_2] at hf
    refine lv_iload_n hx hb dK_loadErrors_2 rfl (lv_at hl 1 rfl) ?_
    refine lv_aload_n hx hb dK_loadErrors_3 rfl (lv_at hl 0 rfl) ?_
    refine gK_square hx hb hown hts hK hP dK_loadErrors_4 ?_
    refine va_alen hx hb hK hP 9 1 rfl rfl rfl dK_loadErrors_7 ?_
    refine lv_icmp_ge (tgt := 39) hx hb dK_loadErrors_8 (by decide) (fun c8 => ?_) (fun c8 => ?_)
    · have hf := (if_pos c8).symm.trans hf
      exact kr_vret C0 hK hP hD hS (Option.some.inj hf) dK_loadErrors_39
    · have hf := (if_neg c8).symm.trans hf
      refine lv_iload_n hx hb dK_loadErrors_11 rfl (lv_at hl 1 rfl) ?_
      refine lv_aload_n hx hb dK_loadErrors_12 rfl (lv_at hl 0 rfl) ?_
      refine gK_errors hx hb hown hts hK hP dK_loadErrors_13 ?_
      refine va_alen hx hb hK hP 8 0 rfl rfl rfl dK_loadErrors_16 ?_
      refine lv_icmp_ge (tgt := 39) hx hb dK_loadErrors_17 (by decide) (fun c17 => ?_) (fun c17 => ?_)
      · have hf := (if_pos c17).symm.trans hf
        exact kr_vret C0 hK hP hD hS (Option.some.inj hf) dK_loadErrors_39
      · have hf := (if_neg c17).symm.trans hf
        refine lv_aload_n hx hb dK_loadErrors_20 rfl (lv_at hl 0 rfl) ?_
        refine gK_square hx hb hown hts hK hP dK_loadErrors_21 ?_
        refine lv_iload_n hx hb dK_loadErrors_24 rfl (lv_at hl 1 rfl) ?_
        refine lv_aload_n hx hb dK_loadErrors_25 rfl (lv_at hl 0 rfl) ?_
        refine gK_errors hx hb hown hts hK hP dK_loadErrors_26 ?_
        refine lv_iload_n hx hb dK_loadErrors_29 rfl (lv_at hl 1 rfl) ?_
        obtain ⟨v30, ev30, hf⟩ := kb1 hf
        refine kr_iaload hx hb hK hP 8 0 rfl rfl ev30 dK_loadErrors_30 ?_
        refine lv_i2l (v := v30.toInt64) hx hb dK_loadErrors_31 rfl ?_
        obtain ⟨a32, ea32, hf⟩ := kb1 hf
        refine kr_lastore (σ' := (uK_square σ a32)) hx hb hK hP hD hS 9 1 rfl rfl ea32 rfl dK_loadErrors_32 (fun H locs hP hD hS => ?_)
        generalize (uK_square σ a32) = s32 at hf hP hD
        refine lv_iinc (v := (x1 + 1)) (lv' := [(1, .int (x1 + 1)), (0, .ref (q 0))]) hx hb dK_loadErrors_33 hl (k := 1) rfl rfl (by decide) rfl (fun ls hl => ?_)
        refine lv_goto (tgt := 2) hx hb dK_loadErrors_36 (by decide) ?_
        exact ih s32 (x1 + 1) _ _ ls hf (lv_sub hl [1, 0] rfl) hP hD hS
set_option maxHeartbeats 4000000 in
set_option maxRecDepth 100000 in
theorem mK_loadErrors (l : Launch) (D : va_G) (q : Nat → Nat) (k : kK) (cI cJ : ClassId) (sz : Nat) (fu : Nat) (σ : sK) (σ' : sK) (hf : fK_loadErrors fu k σ = some σ') : Met l yK_loadErrors (.code yK_loadErrors cK_loadErrors 2 none :: TK) ({ frames := 0, cells := 0, slots := 0, locals := 0 }) (kPre D cl0 [(cI, .int), (cJ, .long)] (wdK q k cI cJ) sz σ [.ref (q 0)]) (kQv D cl0 [(cI, .int), (cJ, .long)] (wdK q k cI cJ) (va_A (wdK q k cI cJ σ) sz) σ') 0 0 (va_A (wdK q k cI cJ σ) sz) := by
  refine kr_start (own := RK) (by decide) rfl (Nat.le_of_ble_eq_true rfl) ?_
  intro p e s m args below meth c ls C0 hsz hK hP hD hl
  subst hsz
  obtain ⟨hx, hb, hr, hml, hown, hts, hlocks⟩ := id C0
  have hA : ∀ z : Nat, s.heap.size ≤ z → va_A (wdK q k cI cJ σ) s.heap.size z := fun z h => Or.inr h
  generalize va_A (wdK q k cI cJ σ) s.heap.size = A at hD hA ⊢
  have hS : va_S A s.heap s.heap [] := va_S.rf
  have hl : lv_has ls 2 [(0, .ref (q 0))] := hl
  unfold fK_loadErrors at hf
  refine lv_iconst (v := 0) hx hb dK_loadErrors_0 (by decide) ?_
  refine lv_istore_n (lv' := [(1, .int 0), (0, .ref (q 0))]) hx hb dK_loadErrors_1 rfl hl (by decide) rfl (fun ls hl => ?_)
  exact tK_loadErrors_2 C0 hK hA fu σ 0 _ _ ls hf (lv_sub hl [1, 0] rfl) hP hD hS
theorem dK_pivotRow_0 : decode cK_pivotRow 0 = .ok (.iload_n 1, 1) := by decide +kernel
theorem dK_pivotRow_1 : decode cK_pivotRow 1 = .ok (.istore_n 2, 1) := by decide +kernel
theorem dK_pivotRow_2 : decode cK_pivotRow 2 = .ok (.iload_n 2, 1) := by decide +kernel
theorem dK_pivotRow_3 : decode cK_pivotRow 3 = .ok (.aload_n 0, 1) := by decide +kernel
theorem dK_pivotRow_4 : decode cK_pivotRow 4 = .ok (.getfield 29, 3) := by decide +kernel
theorem dK_pivotRow_7 : decode cK_pivotRow 7 = .ok (.if_icmp .ge (29), 3) := by decide +kernel
theorem dK_pivotRow_10 : decode cK_pivotRow 10 = .ok (.aload_n 0, 1) := by decide +kernel
theorem dK_pivotRow_11 : decode cK_pivotRow 11 = .ok (.getfield 58, 3) := by decide +kernel
theorem dK_pivotRow_14 : decode cK_pivotRow 14 = .ok (.iload_n 2, 1) := by decide +kernel
theorem dK_pivotRow_15 : decode cK_pivotRow 15 = .ok (.aload_n 0, 1) := by decide +kernel
theorem dK_pivotRow_16 : decode cK_pivotRow 16 = .ok (.getfield 29, 3) := by decide +kernel
theorem dK_pivotRow_19 : decode cK_pivotRow 19 = .ok (.imul, 1) := by decide +kernel
theorem dK_pivotRow_20 : decode cK_pivotRow 20 = .ok (.iload_n 1, 1) := by decide +kernel
theorem dK_pivotRow_21 : decode cK_pivotRow 21 = .ok (.iadd, 1) := by decide +kernel
theorem dK_pivotRow_22 : decode cK_pivotRow 22 = .ok (.laload, 1) := by decide +kernel
theorem dK_pivotRow_23 : decode cK_pivotRow 23 = .ok (.lconst 0, 1) := by decide +kernel
theorem dK_pivotRow_24 : decode cK_pivotRow 24 = .ok (.lcmp, 1) := by decide +kernel
theorem dK_pivotRow_25 : decode cK_pivotRow 25 = .ok (.ifCond .eq (5), 3) := by decide +kernel
theorem dK_pivotRow_28 : decode cK_pivotRow 28 = .ok (.iload_n 2, 1) := by decide +kernel
theorem dK_pivotRow_29 : decode cK_pivotRow 29 = .ok (.ireturn, 1) := by decide +kernel
theorem dK_pivotRow_30 : decode cK_pivotRow 30 = .ok (.iinc 2 (1), 3) := by decide +kernel
theorem dK_pivotRow_33 : decode cK_pivotRow 33 = .ok (.goto (-31), 3) := by decide +kernel
theorem dK_pivotRow_36 : decode cK_pivotRow 36 = .ok (.iconst (-1), 1) := by decide +kernel
theorem dK_pivotRow_37 : decode cK_pivotRow 37 = .ok (.ireturn, 1) := by decide +kernel
set_option maxHeartbeats 4000000 in
set_option maxRecDepth 100000 in
theorem tK_pivotRow_2 {p : Program} {l : Launch} {e : Env} {s : State} {m : MethodId} {args : Array Value} {below : List Frame} {meth : Method} {c : Code} {D : va_G} {A : Nat → Prop} {q : Nat → Nat} {k : kK} {cI cJ : ClassId} {r : Int32} {σ : sK} {fu : Nat} (C0 : Cx p s m args meth c cK_pivotRow 3 (some .int) RK TK) (hK : va_K D cl0 [(cI, .int), (cJ, .long)] s) (hA : ∀ z, s.heap.size ≤ z → A z) : ∀ n : Nat, ∀ (x1 : Int32) (x2 : Int32)(H : Heap) (locs : List Loc) (ls : Array Slot), fK_pivotRow_2 fu k σ n x1 x2 = some r → lv_has ls 3 [(0, .ref (q 0)), (1, .int x1), (2, .int x2)] → va_P D cl0 (wdK q k cI cJ σ) H → va_D A (wdK q k cI cJ σ) → va_S A s.heap H locs → W p l e ({ frames := 0, cells := 0, slots := 0, locals := 0 }) s m args below meth c H locs 0 0 (MQ below (kQi D cl0 [(cI, .int), (cJ, .long)] (wdK q k cI cJ) A r σ) args s 0 0 A) (F0 m 2 ls []) := by
  obtain ⟨hx, hb, hr, hml, hown, hts, hlocks⟩ := id C0
  intro n
  induction n with
  | zero =>
    intro x1 x2 H locs ls hf hl hP hD hS
    cases hf
  | succ n ih =>
    intro x1 x2 H locs ls hf hl hP hD hS
    rw [fK_pivotRow_2] at hf
    refine lv_iload_n hx hb dK_pivotRow_2 rfl (lv_at hl 2 rfl) ?_
    refine lv_aload_n hx hb dK_pivotRow_3 rfl (lv_at hl 0 rfl) ?_
    refine gK_ages hx hb hown hts hK hP dK_pivotRow_4 ?_
    refine lv_icmp_ge (tgt := 36) hx hb dK_pivotRow_7 (by decide) (fun c7 => ?_) (fun c7 => ?_)
    · have hf := (if_pos c7).symm.trans hf
      refine lv_iconst (v := (-1)) hx hb dK_pivotRow_36 (by decide) ?_
      exact kr_iret C0 hK hP hD hS (Option.some.inj hf) rfl dK_pivotRow_37
    · have hf := (if_neg c7).symm.trans hf
      refine lv_aload_n hx hb dK_pivotRow_10 rfl (lv_at hl 0 rfl) ?_
      refine gK_square hx hb hown hts hK hP dK_pivotRow_11 ?_
      refine lv_iload_n hx hb dK_pivotRow_14 rfl (lv_at hl 2 rfl) ?_
      refine lv_aload_n hx hb dK_pivotRow_15 rfl (lv_at hl 0 rfl) ?_
      refine gK_ages hx hb hown hts hK hP dK_pivotRow_16 ?_
      refine lv_imul hx hb dK_pivotRow_19 ?_
      refine lv_iload_n hx hb dK_pivotRow_20 rfl (lv_at hl 1 rfl) ?_
      refine lv_iadd hx hb dK_pivotRow_21 ?_
      obtain ⟨v22, ev22, hf⟩ := kb1 hf
      refine kr_laload hx hb hK hP 9 1 rfl rfl ev22 dK_pivotRow_22 ?_
      refine lv_lconst (v := 0) hx hb dK_pivotRow_23 (by decide) ?_
      refine W.lcmp hx hb dK_pivotRow_24 ?_
      refine lv_if_eq (tgt := 30) hx hb dK_pivotRow_25 (by decide) (fun c24 => ?_) (fun c24 => ?_)
      · rw [lg_cmp_eq] at c24
        have hf := (if_pos c24).symm.trans hf
        refine lv_iinc (v := (x2 + 1)) (lv' := [(2, .int (x2 + 1)), (0, .ref (q 0)), (1, .int x1)]) hx hb dK_pivotRow_30 hl (k := 2) rfl rfl (by decide) rfl (fun ls hl => ?_)
        refine lv_goto (tgt := 2) hx hb dK_pivotRow_33 (by decide) ?_
        exact ih x1 (x2 + 1) _ _ ls hf (lv_sub hl [1, 2, 0] rfl) hP hD hS
      · rw [lg_cmp_eq] at c24
        have hf := (if_neg c24).symm.trans hf
        refine lv_iload_n hx hb dK_pivotRow_28 rfl (lv_at hl 2 rfl) ?_
        exact kr_iret C0 hK hP hD hS (Option.some.inj hf) rfl dK_pivotRow_29
set_option maxHeartbeats 4000000 in
set_option maxRecDepth 100000 in
theorem mK_pivotRow (l : Launch) (D : va_G) (q : Nat → Nat) (k : kK) (cI cJ : ClassId) (sz : Nat) (fu : Nat) (σ : sK) (x1 : Int32) (r : Int32) (hf : fK_pivotRow fu k σ x1 = some r) : Met l yK_pivotRow (.code yK_pivotRow cK_pivotRow 3 (some .int) :: TK) ({ frames := 0, cells := 0, slots := 0, locals := 0 }) (kPre D cl0 [(cI, .int), (cJ, .long)] (wdK q k cI cJ) sz σ [.ref (q 0), .int x1]) (kQi D cl0 [(cI, .int), (cJ, .long)] (wdK q k cI cJ) (va_A (wdK q k cI cJ σ) sz) r σ) 0 0 (va_A (wdK q k cI cJ σ) sz) := by
  refine kr_start (own := RK) (by decide) rfl (Nat.le_of_ble_eq_true rfl) ?_
  intro p e s m args below meth c ls C0 hsz hK hP hD hl
  subst hsz
  obtain ⟨hx, hb, hr, hml, hown, hts, hlocks⟩ := id C0
  have hA : ∀ z : Nat, s.heap.size ≤ z → va_A (wdK q k cI cJ σ) s.heap.size z := fun z h => Or.inr h
  generalize va_A (wdK q k cI cJ σ) s.heap.size = A at hD hA ⊢
  have hS : va_S A s.heap s.heap [] := va_S.rf
  have hl : lv_has ls 3 [(0, .ref (q 0)), (1, .int x1)] := hl
  unfold fK_pivotRow at hf
  refine lv_iload_n hx hb dK_pivotRow_0 rfl (lv_at hl 1 rfl) ?_
  refine lv_istore_n (lv' := [(2, .int x1), (0, .ref (q 0)), (1, .int x1)]) hx hb dK_pivotRow_1 rfl hl (by decide) rfl (fun ls hl => ?_)
  exact tK_pivotRow_2 C0 hK hA fu x1 x1 _ _ ls hf (lv_sub hl [1, 2, 0] rfl) hP hD hS
theorem dK_swapRows_0 : decode cK_swapRows 0 = .ok (.iconst 0, 1) := by decide +kernel
theorem dK_swapRows_1 : decode cK_swapRows 1 = .ok (.istore_n 3, 1) := by decide +kernel
theorem dK_swapRows_2 : decode cK_swapRows 2 = .ok (.iload_n 3, 1) := by decide +kernel
theorem dK_swapRows_3 : decode cK_swapRows 3 = .ok (.aload_n 0, 1) := by decide +kernel
theorem dK_swapRows_4 : decode cK_swapRows 4 = .ok (.getfield 29, 3) := by decide +kernel
theorem dK_swapRows_7 : decode cK_swapRows 7 = .ok (.if_icmp .ge (65), 3) := by decide +kernel
theorem dK_swapRows_10 : decode cK_swapRows 10 = .ok (.aload_n 0, 1) := by decide +kernel
theorem dK_swapRows_11 : decode cK_swapRows 11 = .ok (.getfield 58, 3) := by decide +kernel
theorem dK_swapRows_14 : decode cK_swapRows 14 = .ok (.iload_n 1, 1) := by decide +kernel
theorem dK_swapRows_15 : decode cK_swapRows 15 = .ok (.aload_n 0, 1) := by decide +kernel
theorem dK_swapRows_16 : decode cK_swapRows 16 = .ok (.getfield 29, 3) := by decide +kernel
theorem dK_swapRows_19 : decode cK_swapRows 19 = .ok (.imul, 1) := by decide +kernel
theorem dK_swapRows_20 : decode cK_swapRows 20 = .ok (.iload_n 3, 1) := by decide +kernel
theorem dK_swapRows_21 : decode cK_swapRows 21 = .ok (.iadd, 1) := by decide +kernel
theorem dK_swapRows_22 : decode cK_swapRows 22 = .ok (.laload, 1) := by decide +kernel
theorem dK_swapRows_23 : decode cK_swapRows 23 = .ok (.lstore 4, 2) := by decide +kernel
theorem dK_swapRows_25 : decode cK_swapRows 25 = .ok (.aload_n 0, 1) := by decide +kernel
theorem dK_swapRows_26 : decode cK_swapRows 26 = .ok (.getfield 58, 3) := by decide +kernel
theorem dK_swapRows_29 : decode cK_swapRows 29 = .ok (.iload_n 1, 1) := by decide +kernel
theorem dK_swapRows_30 : decode cK_swapRows 30 = .ok (.aload_n 0, 1) := by decide +kernel
theorem dK_swapRows_31 : decode cK_swapRows 31 = .ok (.getfield 29, 3) := by decide +kernel
theorem dK_swapRows_34 : decode cK_swapRows 34 = .ok (.imul, 1) := by decide +kernel
theorem dK_swapRows_35 : decode cK_swapRows 35 = .ok (.iload_n 3, 1) := by decide +kernel
theorem dK_swapRows_36 : decode cK_swapRows 36 = .ok (.iadd, 1) := by decide +kernel
theorem dK_swapRows_37 : decode cK_swapRows 37 = .ok (.aload_n 0, 1) := by decide +kernel
theorem dK_swapRows_38 : decode cK_swapRows 38 = .ok (.getfield 58, 3) := by decide +kernel
theorem dK_swapRows_41 : decode cK_swapRows 41 = .ok (.iload_n 2, 1) := by decide +kernel
theorem dK_swapRows_42 : decode cK_swapRows 42 = .ok (.aload_n 0, 1) := by decide +kernel
theorem dK_swapRows_43 : decode cK_swapRows 43 = .ok (.getfield 29, 3) := by decide +kernel
theorem dK_swapRows_46 : decode cK_swapRows 46 = .ok (.imul, 1) := by decide +kernel
theorem dK_swapRows_47 : decode cK_swapRows 47 = .ok (.iload_n 3, 1) := by decide +kernel
theorem dK_swapRows_48 : decode cK_swapRows 48 = .ok (.iadd, 1) := by decide +kernel
theorem dK_swapRows_49 : decode cK_swapRows 49 = .ok (.laload, 1) := by decide +kernel
theorem dK_swapRows_50 : decode cK_swapRows 50 = .ok (.lastore, 1) := by decide +kernel
theorem dK_swapRows_51 : decode cK_swapRows 51 = .ok (.aload_n 0, 1) := by decide +kernel
theorem dK_swapRows_52 : decode cK_swapRows 52 = .ok (.getfield 58, 3) := by decide +kernel
theorem dK_swapRows_55 : decode cK_swapRows 55 = .ok (.iload_n 2, 1) := by decide +kernel
theorem dK_swapRows_56 : decode cK_swapRows 56 = .ok (.aload_n 0, 1) := by decide +kernel
theorem dK_swapRows_57 : decode cK_swapRows 57 = .ok (.getfield 29, 3) := by decide +kernel
theorem dK_swapRows_60 : decode cK_swapRows 60 = .ok (.imul, 1) := by decide +kernel
theorem dK_swapRows_61 : decode cK_swapRows 61 = .ok (.iload_n 3, 1) := by decide +kernel
theorem dK_swapRows_62 : decode cK_swapRows 62 = .ok (.iadd, 1) := by decide +kernel
theorem dK_swapRows_63 : decode cK_swapRows 63 = .ok (.lload 4, 2) := by decide +kernel
theorem dK_swapRows_65 : decode cK_swapRows 65 = .ok (.lastore, 1) := by decide +kernel
theorem dK_swapRows_66 : decode cK_swapRows 66 = .ok (.iinc 3 (1), 3) := by decide +kernel
theorem dK_swapRows_69 : decode cK_swapRows 69 = .ok (.goto (-67), 3) := by decide +kernel
theorem dK_swapRows_72 : decode cK_swapRows 72 = .ok (.return_, 1) := by decide +kernel
set_option maxHeartbeats 4000000 in
set_option maxRecDepth 100000 in
theorem tK_swapRows_2 {p : Program} {l : Launch} {e : Env} {s : State} {m : MethodId} {args : Array Value} {below : List Frame} {meth : Method} {c : Code} {D : va_G} {A : Nat → Prop} {q : Nat → Nat} {k : kK} {cI cJ : ClassId} {σ' : sK} {fu : Nat} (C0 : Cx p s m args meth c cK_swapRows 6 none RK TK) (hK : va_K D cl0 [(cI, .int), (cJ, .long)] s) (hA : ∀ z, s.heap.size ≤ z → A z) : ∀ n : Nat, ∀ (σ : sK) (x1 : Int32) (x2 : Int32) (x3 : Int32)(H : Heap) (locs : List Loc) (ls : Array Slot), fK_swapRows_2 fu k n σ x1 x2 x3 = some σ' → lv_has ls 6 [(0, .ref (q 0)), (1, .int x1), (2, .int x2), (3, .int x3)] → va_P D cl0 (wdK q k cI cJ σ) H → va_D A (wdK q k cI cJ σ) → va_S A s.heap H locs → W p l e ({ frames := 0, cells := 0, slots := 0, locals := 0 }) s m args below meth c H locs 0 0 (MQ below (kQv D cl0 [(cI, .int), (cJ, .long)] (wdK q k cI cJ) A σ') args s 0 0 A) (F0 m 2 ls []) := by
  obtain ⟨hx, hb, hr, hml, hown, hts, hlocks⟩ := id C0
  intro n
  induction n with
  | zero =>
    intro σ x1 x2 x3 H locs ls hf hl hP hD hS
    cases hf
  | succ n ih =>
    intro σ x1 x2 x3 H locs ls hf hl hP hD hS
    rw [fK_swapRows_2] at hf
    refine lv_iload_n hx hb dK_swapRows_2 rfl (lv_at hl 3 rfl) ?_
    refine lv_aload_n hx hb dK_swapRows_3 rfl (lv_at hl 0 rfl) ?_
    refine gK_ages hx hb hown hts hK hP dK_swapRows_4 ?_
    refine lv_icmp_ge (tgt := 72) hx hb dK_swapRows_7 (by decide) (fun c7 => ?_) (fun c7 => ?_)
    · have hf := (if_pos c7).symm.trans hf
      exact kr_vret C0 hK hP hD hS (Option.some.inj hf) dK_swapRows_72
    · have hf := (if_neg c7).symm.trans hf
      refine lv_aload_n hx hb dK_swapRows_10 rfl (lv_at hl 0 rfl) ?_
      refine gK_square hx hb hown hts hK hP dK_swapRows_11 ?_
      refine lv_iload_n hx hb dK_swapRows_14 rfl (lv_at hl 1 rfl) ?_
      refine lv_aload_n hx hb dK_swapRows_15 rfl (lv_at hl 0 rfl) ?_
      refine gK_ages hx hb hown hts hK hP dK_swapRows_16 ?_
      refine lv_imul hx hb dK_swapRows_19 ?_
      refine lv_iload_n hx hb dK_swapRows_20 rfl (lv_at hl 3 rfl) ?_
      refine lv_iadd hx hb dK_swapRows_21 ?_
      obtain ⟨v22, ev22, hf⟩ := kb1 hf
      refine kr_laload hx hb hK hP 9 1 rfl rfl ev22 dK_swapRows_22 ?_
      refine lv_lstore (lv' := [(4, .long v22), (0, .ref (q 0)), (1, .int x1), (2, .int x2), (3, .int x3)]) hx hb dK_swapRows_23 hl (by decide) rfl (fun ls hl => ?_)
      refine lv_aload_n hx hb dK_swapRows_25 rfl (lv_at hl 1 rfl) ?_
      refine gK_square hx hb hown hts hK hP dK_swapRows_26 ?_
      refine lv_iload_n hx hb dK_swapRows_29 rfl (lv_at hl 2 rfl) ?_
      refine lv_aload_n hx hb dK_swapRows_30 rfl (lv_at hl 1 rfl) ?_
      refine gK_ages hx hb hown hts hK hP dK_swapRows_31 ?_
      refine lv_imul hx hb dK_swapRows_34 ?_
      refine lv_iload_n hx hb dK_swapRows_35 rfl (lv_at hl 4 rfl) ?_
      refine lv_iadd hx hb dK_swapRows_36 ?_
      refine lv_aload_n hx hb dK_swapRows_37 rfl (lv_at hl 1 rfl) ?_
      refine gK_square hx hb hown hts hK hP dK_swapRows_38 ?_
      refine lv_iload_n hx hb dK_swapRows_41 rfl (lv_at hl 3 rfl) ?_
      refine lv_aload_n hx hb dK_swapRows_42 rfl (lv_at hl 1 rfl) ?_
      refine gK_ages hx hb hown hts hK hP dK_swapRows_43 ?_
      refine lv_imul hx hb dK_swapRows_46 ?_
      refine lv_iload_n hx hb dK_swapRows_47 rfl (lv_at hl 4 rfl) ?_
      refine lv_iadd hx hb dK_swapRows_48 ?_
      obtain ⟨v49, ev49, hf⟩ := kb1 hf
      refine kr_laload hx hb hK hP 9 1 rfl rfl ev49 dK_swapRows_49 ?_
      obtain ⟨a50, ea50, hf⟩ := kb1 hf
      refine kr_lastore (σ' := (uK_square σ a50)) hx hb hK hP hD hS 9 1 rfl rfl ea50 rfl dK_swapRows_50 (fun H locs hP hD hS => ?_)
      generalize (uK_square σ a50) = s50 at hf hP hD
      refine lv_aload_n hx hb dK_swapRows_51 rfl (lv_at hl 1 rfl) ?_
      refine gK_square hx hb hown hts hK hP dK_swapRows_52 ?_
      refine lv_iload_n hx hb dK_swapRows_55 rfl (lv_at hl 3 rfl) ?_
      refine lv_aload_n hx hb dK_swapRows_56 rfl (lv_at hl 1 rfl) ?_
      refine gK_ages hx hb hown hts hK hP dK_swapRows_57 ?_
      refine lv_imul hx hb dK_swapRows_60 ?_
      refine lv_iload_n hx hb dK_swapRows_61 rfl (lv_at hl 4 rfl) ?_
      refine lv_iadd hx hb dK_swapRows_62 ?_
      refine lv_lload hx hb dK_swapRows_63 (lv_at hl 0 rfl) ?_
      obtain ⟨a65, ea65, hf⟩ := kb1 hf
      refine kr_lastore (σ' := (uK_square s50 a65)) hx hb hK hP hD hS 9 1 rfl rfl ea65 rfl dK_swapRows_65 (fun H locs hP hD hS => ?_)
      generalize (uK_square s50 a65) = s65 at hf hP hD
      refine lv_iinc (v := (x3 + 1)) (lv' := [(3, .int (x3 + 1)), (4, .long v22), (0, .ref (q 0)), (1, .int x1), (2, .int x2)]) hx hb dK_swapRows_66 hl (k := 4) rfl rfl (by decide) rfl (fun ls hl => ?_)
      refine lv_goto (tgt := 2) hx hb dK_swapRows_69 (by decide) ?_
      exact ih s65 x1 x2 (x3 + 1) _ _ ls hf (lv_sub hl [2, 3, 4, 0] rfl) hP hD hS
set_option maxHeartbeats 4000000 in
set_option maxRecDepth 100000 in
theorem mK_swapRows (l : Launch) (D : va_G) (q : Nat → Nat) (k : kK) (cI cJ : ClassId) (sz : Nat) (fu : Nat) (σ : sK) (σ' : sK) (x1 : Int32) (x2 : Int32) (hf : fK_swapRows fu k σ x1 x2 = some σ') : Met l yK_swapRows (.code yK_swapRows cK_swapRows 6 none :: TK) ({ frames := 0, cells := 0, slots := 0, locals := 0 }) (kPre D cl0 [(cI, .int), (cJ, .long)] (wdK q k cI cJ) sz σ [.ref (q 0), .int x1, .int x2]) (kQv D cl0 [(cI, .int), (cJ, .long)] (wdK q k cI cJ) (va_A (wdK q k cI cJ σ) sz) σ') 0 0 (va_A (wdK q k cI cJ σ) sz) := by
  refine kr_start (own := RK) (by decide) rfl (Nat.le_of_ble_eq_true rfl) ?_
  intro p e s m args below meth c ls C0 hsz hK hP hD hl
  subst hsz
  obtain ⟨hx, hb, hr, hml, hown, hts, hlocks⟩ := id C0
  have hA : ∀ z : Nat, s.heap.size ≤ z → va_A (wdK q k cI cJ σ) s.heap.size z := fun z h => Or.inr h
  generalize va_A (wdK q k cI cJ σ) s.heap.size = A at hD hA ⊢
  have hS : va_S A s.heap s.heap [] := va_S.rf
  have hl : lv_has ls 6 [(0, .ref (q 0)), (1, .int x1), (2, .int x2)] := hl
  unfold fK_swapRows at hf
  refine lv_iconst (v := 0) hx hb dK_swapRows_0 (by decide) ?_
  refine lv_istore_n (lv' := [(3, .int 0), (0, .ref (q 0)), (1, .int x1), (2, .int x2)]) hx hb dK_swapRows_1 rfl hl (by decide) rfl (fun ls hl => ?_)
  exact tK_swapRows_2 C0 hK hA fu σ x1 x2 0 _ _ ls hf (lv_sub hl [1, 2, 3, 0] rfl) hP hD hS
end
section
theorem dK_clearBelow_0 : decode cK_clearBelow 0 = .ok (.lload_n 2, 1) := by decide +kernel
theorem dK_clearBelow_1 : decode cK_clearBelow 1 = .ok (.lconst 0, 1) := by decide +kernel
theorem dK_clearBelow_2 : decode cK_clearBelow 2 = .ok (.lcmp, 1) := by decide +kernel
theorem dK_clearBelow_3 : decode cK_clearBelow 3 = .ok (.ifCond .ne (4), 3) := by decide +kernel
theorem dK_clearBelow_6 : decode cK_clearBelow 6 = .ok (.return_, 1) := by decide +kernel
theorem dK_clearBelow_7 : decode cK_clearBelow 7 = .ok (.aload_n 0, 1) := by decide +kernel
theorem dK_clearBelow_8 : decode cK_clearBelow 8 = .ok (.getfield 58, 3) := by decide +kernel
theorem dK_clearBelow_11 : decode cK_clearBelow 11 = .ok (.iload_n 1, 1) := by decide +kernel
theorem dK_clearBelow_12 : decode cK_clearBelow 12 = .ok (.aload_n 0, 1) := by decide +kernel
theorem dK_clearBelow_13 : decode cK_clearBelow 13 = .ok (.getfield 29, 3) := by decide +kernel
theorem dK_clearBelow_16 : decode cK_clearBelow 16 = .ok (.imul, 1) := by decide +kernel
theorem dK_clearBelow_17 : decode cK_clearBelow 17 = .ok (.iload_n 1, 1) := by decide +kernel
theorem dK_clearBelow_18 : decode cK_clearBelow 18 = .ok (.iadd, 1) := by decide +kernel
theorem dK_clearBelow_19 : decode cK_clearBelow 19 = .ok (.laload, 1) := by decide +kernel
theorem dK_clearBelow_20 : decode cK_clearBelow 20 = .ok (.lstore 4, 2) := by decide +kernel
theorem dK_clearBelow_22 : decode cK_clearBelow 22 = .ok (.iload_n 1, 1) := by decide +kernel
theorem dK_clearBelow_23 : decode cK_clearBelow 23 = .ok (.iconst 1, 1) := by decide +kernel
theorem dK_clearBelow_24 : decode cK_clearBelow 24 = .ok (.iadd, 1) := by decide +kernel
theorem dK_clearBelow_25 : decode cK_clearBelow 25 = .ok (.istore 6, 2) := by decide +kernel
theorem dK_clearBelow_27 : decode cK_clearBelow 27 = .ok (.iload 6, 2) := by decide +kernel
theorem dK_clearBelow_29 : decode cK_clearBelow 29 = .ok (.aload_n 0, 1) := by decide +kernel
theorem dK_clearBelow_30 : decode cK_clearBelow 30 = .ok (.getfield 29, 3) := by decide +kernel
theorem dK_clearBelow_33 : decode cK_clearBelow 33 = .ok (.if_icmp .ge (100), 3) := by decide +kernel
theorem dK_clearBelow_36 : decode cK_clearBelow 36 = .ok (.aload_n 0, 1) := by decide +kernel
theorem dK_clearBelow_37 : decode cK_clearBelow 37 = .ok (.getfield 58, 3) := by decide +kernel
theorem dK_clearBelow_40 : decode cK_clearBelow 40 = .ok (.iload 6, 2) := by decide +kernel
theorem dK_clearBelow_42 : decode cK_clearBelow 42 = .ok (.aload_n 0, 1) := by decide +kernel
theorem dK_clearBelow_43 : decode cK_clearBelow 43 = .ok (.getfield 29, 3) := by decide +kernel
theorem dK_clearBelow_46 : decode cK_clearBelow 46 = .ok (.imul, 1) := by decide +kernel
theorem dK_clearBelow_47 : decode cK_clearBelow 47 = .ok (.iload_n 1, 1) := by decide +kernel
theorem dK_clearBelow_48 : decode cK_clearBelow 48 = .ok (.iadd, 1) := by decide +kernel
theorem dK_clearBelow_49 : decode cK_clearBelow 49 = .ok (.laload, 1) := by decide +kernel
theorem dK_clearBelow_50 : decode cK_clearBelow 50 = .ok (.lstore 7, 2) := by decide +kernel
theorem dK_clearBelow_52 : decode cK_clearBelow 52 = .ok (.iload_n 1, 1) := by decide +kernel
theorem dK_clearBelow_53 : decode cK_clearBelow 53 = .ok (.istore 9, 2) := by decide +kernel
theorem dK_clearBelow_55 : decode cK_clearBelow 55 = .ok (.iload 9, 2) := by decide +kernel
theorem dK_clearBelow_57 : decode cK_clearBelow 57 = .ok (.aload_n 0, 1) := by decide +kernel
theorem dK_clearBelow_58 : decode cK_clearBelow 58 = .ok (.getfield 29, 3) := by decide +kernel
theorem dK_clearBelow_61 : decode cK_clearBelow 61 = .ok (.if_icmp .ge (66), 3) := by decide +kernel
theorem dK_clearBelow_64 : decode cK_clearBelow 64 = .ok (.lload 4, 2) := by decide +kernel
theorem dK_clearBelow_66 : decode cK_clearBelow 66 = .ok (.aload_n 0, 1) := by decide +kernel
theorem dK_clearBelow_67 : decode cK_clearBelow 67 = .ok (.getfield 58, 3) := by decide +kernel
theorem dK_clearBelow_70 : decode cK_clearBelow 70 = .ok (.iload 6, 2) := by decide +kernel
theorem dK_clearBelow_72 : decode cK_clearBelow 72 = .ok (.aload_n 0, 1) := by decide +kernel
theorem dK_clearBelow_73 : decode cK_clearBelow 73 = .ok (.getfield 29, 3) := by decide +kernel
theorem dK_clearBelow_76 : decode cK_clearBelow 76 = .ok (.imul, 1) := by decide +kernel
theorem dK_clearBelow_77 : decode cK_clearBelow 77 = .ok (.iload 9, 2) := by decide +kernel
theorem dK_clearBelow_79 : decode cK_clearBelow 79 = .ok (.iadd, 1) := by decide +kernel
theorem dK_clearBelow_80 : decode cK_clearBelow 80 = .ok (.laload, 1) := by decide +kernel
theorem dK_clearBelow_81 : decode cK_clearBelow 81 = .ok (.lmul, 1) := by decide +kernel
theorem dK_clearBelow_82 : decode cK_clearBelow 82 = .ok (.lload 7, 2) := by decide +kernel
theorem dK_clearBelow_84 : decode cK_clearBelow 84 = .ok (.aload_n 0, 1) := by decide +kernel
theorem dK_clearBelow_85 : decode cK_clearBelow 85 = .ok (.getfield 58, 3) := by decide +kernel
theorem dK_clearBelow_88 : decode cK_clearBelow 88 = .ok (.iload_n 1, 1) := by decide +kernel
theorem dK_clearBelow_89 : decode cK_clearBelow 89 = .ok (.aload_n 0, 1) := by decide +kernel
theorem dK_clearBelow_90 : decode cK_clearBelow 90 = .ok (.getfield 29, 3) := by decide +kernel
theorem dK_clearBelow_93 : decode cK_clearBelow 93 = .ok (.imul, 1) := by decide +kernel
theorem dK_clearBelow_94 : decode cK_clearBelow 94 = .ok (.iload 9, 2) := by decide +kernel
theorem dK_clearBelow_96 : decode cK_clearBelow 96 = .ok (.iadd, 1) := by decide +kernel
theorem dK_clearBelow_97 : decode cK_clearBelow 97 = .ok (.laload, 1) := by decide +kernel
theorem dK_clearBelow_98 : decode cK_clearBelow 98 = .ok (.lmul, 1) := by decide +kernel
theorem dK_clearBelow_99 : decode cK_clearBelow 99 = .ok (.lsub, 1) := by decide +kernel
theorem dK_clearBelow_100 : decode cK_clearBelow 100 = .ok (.lstore 10, 2) := by decide +kernel
theorem dK_clearBelow_102 : decode cK_clearBelow 102 = .ok (.aload_n 0, 1) := by decide +kernel
theorem dK_clearBelow_103 : decode cK_clearBelow 103 = .ok (.getfield 58, 3) := by decide +kernel
theorem dK_clearBelow_106 : decode cK_clearBelow 106 = .ok (.iload 6, 2) := by decide +kernel
theorem dK_clearBelow_108 : decode cK_clearBelow 108 = .ok (.aload_n 0, 1) := by decide +kernel
theorem dK_clearBelow_109 : decode cK_clearBelow 109 = .ok (.getfield 29, 3) := by decide +kernel
theorem dK_clearBelow_112 : decode cK_clearBelow 112 = .ok (.imul, 1) := by decide +kernel
theorem dK_clearBelow_113 : decode cK_clearBelow 113 = .ok (.iload 9, 2) := by decide +kernel
theorem dK_clearBelow_115 : decode cK_clearBelow 115 = .ok (.iadd, 1) := by decide +kernel
theorem dK_clearBelow_116 : decode cK_clearBelow 116 = .ok (.lload 10, 2) := by decide +kernel
theorem dK_clearBelow_118 : decode cK_clearBelow 118 = .ok (.lload_n 2, 1) := by decide +kernel
theorem dK_clearBelow_119 : decode cK_clearBelow 119 = .ok (.ldiv, 1) := by decide +kernel
theorem dK_clearBelow_120 : decode cK_clearBelow 120 = .ok (.lastore, 1) := by decide +kernel
theorem dK_clearBelow_121 : decode cK_clearBelow 121 = .ok (.iinc 9 (1), 3) := by decide +kernel
theorem dK_clearBelow_124 : decode cK_clearBelow 124 = .ok (.goto (-69), 3) := by decide +kernel
theorem dK_clearBelow_127 : decode cK_clearBelow 127 = .ok (.iinc 6 (1), 3) := by decide +kernel
theorem dK_clearBelow_130 : decode cK_clearBelow 130 = .ok (.goto (-103), 3) := by decide +kernel
theorem dK_clearBelow_133 : decode cK_clearBelow 133 = .ok (.return_, 1) := by decide +kernel
set_option maxHeartbeats 4000000 in
set_option maxRecDepth 100000 in
theorem tK_clearBelow_55 {p : Program} {l : Launch} {e : Env} {s : State} {m : MethodId} {args : Array Value} {below : List Frame} {meth : Method} {c : Code} {D : va_G} {A : Nat → Prop} {q : Nat → Nat} {k : kK} {cI cJ : ClassId} {σ' : sK} {fu : Nat} {h27 : sK → Int32 → Int64 → Int64 → Int32 → Option sK} (C0 : Cx p s m args meth c cK_clearBelow 12 none RK TK) (hK : va_K D cl0 [(cI, .int), (cJ, .long)] s) (hA : ∀ z, s.heap.size ≤ z → A z) (ih27 : ∀ (σ : sK) (x1 : Int32) (x2 : Int64) (x4 : Int64) (x6 : Int32)(H : Heap) (locs : List Loc) (ls : Array Slot), h27 σ x1 x2 x4 x6 = some σ' → lv_has ls 12 [(0, .ref (q 0)), (1, .int x1), (2, .long x2), (4, .long x4), (6, .int x6)] → va_P D cl0 (wdK q k cI cJ σ) H → va_D A (wdK q k cI cJ σ) → va_S A s.heap H locs → W p l e ({ frames := 0, cells := 0, slots := 0, locals := 0 }) s m args below meth c H locs 0 0 (MQ below (kQv D cl0 [(cI, .int), (cJ, .long)] (wdK q k cI cJ) A σ') args s 0 0 A) (F0 m 27 ls [])) : ∀ n : Nat, ∀ (σ : sK) (x1 : Int32) (x2 : Int64) (x4 : Int64) (x6 : Int32) (x7 : Int64) (x9 : Int32)(H : Heap) (locs : List Loc) (ls : Array Slot), fK_clearBelow_55 fu k h27 n σ x1 x2 x4 x6 x7 x9 = some σ' → lv_has ls 12 [(0, .ref (q 0)), (1, .int x1), (2, .long x2), (4, .long x4), (6, .int x6), (7, .long x7), (9, .int x9)] → va_P D cl0 (wdK q k cI cJ σ) H → va_D A (wdK q k cI cJ σ) → va_S A s.heap H locs → W p l e ({ frames := 0, cells := 0, slots := 0, locals := 0 }) s m args below meth c H locs 0 0 (MQ below (kQv D cl0 [(cI, .int), (cJ, .long)] (wdK q k cI cJ) A σ') args s 0 0 A) (F0 m 55 ls []) := by
  obtain ⟨hx, hb, hr, hml, hown, hts, hlocks⟩ := id C0
  intro n
  induction n with
  | zero =>
    intro σ x1 x2 x4 x6 x7 x9 H locs ls hf hl hP hD hS
    cases hf
  | succ n ih =>
    intro σ x1 x2 x4 x6 x7 x9 H locs ls hf hl hP hD hS
    rw [fK_clearBelow_55] at hf
    refine lv_iload hx hb dK_clearBelow_55 (lv_at hl 6 rfl) ?_
    refine lv_aload_n hx hb dK_clearBelow_57 rfl (lv_at hl 0 rfl) ?_
    refine gK_ages hx hb hown hts hK hP dK_clearBelow_58 ?_
    refine lv_icmp_ge (tgt := 127) hx hb dK_clearBelow_61 (by decide) (fun c61 => ?_) (fun c61 => ?_)
    · have hf := (if_pos c61).symm.trans hf
      refine lv_iinc (v := (x6 + 1)) (lv' := [(6, .int (x6 + 1)), (0, .ref (q 0)), (1, .int x1), (2, .long x2), (4, .long x4), (7, .long x7), (9, .int x9)]) hx hb dK_clearBelow_127 hl (k := 4) rfl rfl (by decide) rfl (fun ls hl => ?_)
      refine lv_goto (tgt := 27) hx hb dK_clearBelow_130 (by decide) ?_
      exact ih27 σ x1 x2 x4 (x6 + 1) _ _ ls hf (lv_sub hl [1, 2, 3, 4, 0] rfl) hP hD hS
    · have hf := (if_neg c61).symm.trans hf
      refine lv_lload hx hb dK_clearBelow_64 (lv_at hl 3 rfl) ?_
      refine lv_aload_n hx hb dK_clearBelow_66 rfl (lv_at hl 0 rfl) ?_
      refine gK_square hx hb hown hts hK hP dK_clearBelow_67 ?_
      refine lv_iload hx hb dK_clearBelow_70 (lv_at hl 4 rfl) ?_
      refine lv_aload_n hx hb dK_clearBelow_72 rfl (lv_at hl 0 rfl) ?_
      refine gK_ages hx hb hown hts hK hP dK_clearBelow_73 ?_
      refine lv_imul hx hb dK_clearBelow_76 ?_
      refine lv_iload hx hb dK_clearBelow_77 (lv_at hl 6 rfl) ?_
      refine lv_iadd hx hb dK_clearBelow_79 ?_
      obtain ⟨v80, ev80, hf⟩ := kb1 hf
      refine kr_laload hx hb hK hP 9 1 rfl rfl ev80 dK_clearBelow_80 ?_
      refine lv_lmul hx hb dK_clearBelow_81 ?_
      refine lv_lload hx hb dK_clearBelow_82 (lv_at hl 5 rfl) ?_
      refine lv_aload_n hx hb dK_clearBelow_84 rfl (lv_at hl 0 rfl) ?_
      refine gK_square hx hb hown hts hK hP dK_clearBelow_85 ?_
      refine lv_iload_n hx hb dK_clearBelow_88 rfl (lv_at hl 1 rfl) ?_
      refine lv_aload_n hx hb dK_clearBelow_89 rfl (lv_at hl 0 rfl) ?_
      refine gK_ages hx hb hown hts hK hP dK_clearBelow_90 ?_
      refine lv_imul hx hb dK_clearBelow_93 ?_
      refine lv_iload hx hb dK_clearBelow_94 (lv_at hl 6 rfl) ?_
      refine lv_iadd hx hb dK_clearBelow_96 ?_
      obtain ⟨v97, ev97, hf⟩ := kb1 hf
      refine kr_laload hx hb hK hP 9 1 rfl rfl ev97 dK_clearBelow_97 ?_
      refine lv_lmul hx hb dK_clearBelow_98 ?_
      refine lv_lsub hx hb dK_clearBelow_99 ?_
      refine lv_lstore (lv' := [(10, .long ((x4 * v80) - (x7 * v97))), (0, .ref (q 0)), (1, .int x1), (2, .long x2), (4, .long x4), (6, .int x6), (7, .long x7), (9, .int x9)]) hx hb dK_clearBelow_100 hl (by decide) rfl (fun ls hl => ?_)
      refine lv_aload_n hx hb dK_clearBelow_102 rfl (lv_at hl 1 rfl) ?_
      refine gK_square hx hb hown hts hK hP dK_clearBelow_103 ?_
      refine lv_iload hx hb dK_clearBelow_106 (lv_at hl 5 rfl) ?_
      refine lv_aload_n hx hb dK_clearBelow_108 rfl (lv_at hl 1 rfl) ?_
      refine gK_ages hx hb hown hts hK hP dK_clearBelow_109 ?_
      refine lv_imul hx hb dK_clearBelow_112 ?_
      refine lv_iload hx hb dK_clearBelow_113 (lv_at hl 7 rfl) ?_
      refine lv_iadd hx hb dK_clearBelow_115 ?_
      refine lv_lload hx hb dK_clearBelow_116 (lv_at hl 0 rfl) ?_
      refine lv_lload_n hx hb dK_clearBelow_118 rfl (lv_at hl 3 rfl) ?_
      obtain ⟨v119, ev119, hf⟩ := kb1 hf
      refine kr_ldiv hx hb ev119 dK_clearBelow_119 ?_
      obtain ⟨a120, ea120, hf⟩ := kb1 hf
      refine kr_lastore (σ' := (uK_square σ a120)) hx hb hK hP hD hS 9 1 rfl rfl ea120 rfl dK_clearBelow_120 (fun H locs hP hD hS => ?_)
      generalize (uK_square σ a120) = s120 at hf hP hD
      refine lv_iinc (v := (x9 + 1)) (lv' := [(9, .int (x9 + 1)), (10, .long ((x4 * v80) - (x7 * v97))), (0, .ref (q 0)), (1, .int x1), (2, .long x2), (4, .long x4), (6, .int x6), (7, .long x7)]) hx hb dK_clearBelow_121 hl (k := 7) rfl rfl (by decide) rfl (fun ls hl => ?_)
      refine lv_goto (tgt := 55) hx hb dK_clearBelow_124 (by decide) ?_
      exact ih s120 x1 x2 x4 x6 x7 (x9 + 1) _ _ ls hf (lv_sub hl [2, 3, 4, 5, 6, 7, 0] rfl) hP hD hS
set_option maxHeartbeats 4000000 in
set_option maxRecDepth 100000 in
theorem tK_clearBelow_27 {p : Program} {l : Launch} {e : Env} {s : State} {m : MethodId} {args : Array Value} {below : List Frame} {meth : Method} {c : Code} {D : va_G} {A : Nat → Prop} {q : Nat → Nat} {k : kK} {cI cJ : ClassId} {σ' : sK} {fu : Nat} (C0 : Cx p s m args meth c cK_clearBelow 12 none RK TK) (hK : va_K D cl0 [(cI, .int), (cJ, .long)] s) (hA : ∀ z, s.heap.size ≤ z → A z) : ∀ n : Nat, ∀ (σ : sK) (x1 : Int32) (x2 : Int64) (x4 : Int64) (x6 : Int32)(H : Heap) (locs : List Loc) (ls : Array Slot), fK_clearBelow_27 fu k n σ x1 x2 x4 x6 = some σ' → lv_has ls 12 [(0, .ref (q 0)), (1, .int x1), (2, .long x2), (4, .long x4), (6, .int x6)] → va_P D cl0 (wdK q k cI cJ σ) H → va_D A (wdK q k cI cJ σ) → va_S A s.heap H locs → W p l e ({ frames := 0, cells := 0, slots := 0, locals := 0 }) s m args below meth c H locs 0 0 (MQ below (kQv D cl0 [(cI, .int), (cJ, .long)] (wdK q k cI cJ) A σ') args s 0 0 A) (F0 m 27 ls []) := by
  obtain ⟨hx, hb, hr, hml, hown, hts, hlocks⟩ := id C0
  intro n
  induction n with
  | zero =>
    intro σ x1 x2 x4 x6 H locs ls hf hl hP hD hS
    cases hf
  | succ n ih =>
    intro σ x1 x2 x4 x6 H locs ls hf hl hP hD hS
    rw [fK_clearBelow_27] at hf
    refine lv_iload hx hb dK_clearBelow_27 (lv_at hl 4 rfl) ?_
    refine lv_aload_n hx hb dK_clearBelow_29 rfl (lv_at hl 0 rfl) ?_
    refine gK_ages hx hb hown hts hK hP dK_clearBelow_30 ?_
    refine lv_icmp_ge (tgt := 133) hx hb dK_clearBelow_33 (by decide) (fun c33 => ?_) (fun c33 => ?_)
    · have hf := (if_pos c33).symm.trans hf
      exact kr_vret C0 hK hP hD hS (Option.some.inj hf) dK_clearBelow_133
    · have hf := (if_neg c33).symm.trans hf
      refine lv_aload_n hx hb dK_clearBelow_36 rfl (lv_at hl 0 rfl) ?_
      refine gK_square hx hb hown hts hK hP dK_clearBelow_37 ?_
      refine lv_iload hx hb dK_clearBelow_40 (lv_at hl 4 rfl) ?_
      refine lv_aload_n hx hb dK_clearBelow_42 rfl (lv_at hl 0 rfl) ?_
      refine gK_ages hx hb hown hts hK hP dK_clearBelow_43 ?_
      refine lv_imul hx hb dK_clearBelow_46 ?_
      refine lv_iload_n hx hb dK_clearBelow_47 rfl (lv_at hl 1 rfl) ?_
      refine lv_iadd hx hb dK_clearBelow_48 ?_
      obtain ⟨v49, ev49, hf⟩ := kb1 hf
      refine kr_laload hx hb hK hP 9 1 rfl rfl ev49 dK_clearBelow_49 ?_
      refine lv_lstore (lv' := [(7, .long v49), (0, .ref (q 0)), (1, .int x1), (2, .long x2), (4, .long x4), (6, .int x6)]) hx hb dK_clearBelow_50 hl (by decide) rfl (fun ls hl => ?_)
      refine lv_iload_n hx hb dK_clearBelow_52 rfl (lv_at hl 2 rfl) ?_
      refine lv_istore (lv' := [(9, .int x1), (7, .long v49), (0, .ref (q 0)), (1, .int x1), (2, .long x2), (4, .long x4), (6, .int x6)]) hx hb dK_clearBelow_53 hl (by decide) rfl (fun ls hl => ?_)
      exact tK_clearBelow_55 C0 hK hA ih fu σ x1 x2 x4 x6 v49 x1 _ _ ls hf (lv_sub hl [2, 3, 4, 5, 6, 1, 0] rfl) hP hD hS
set_option maxHeartbeats 4000000 in
set_option maxRecDepth 100000 in
theorem mK_clearBelow (l : Launch) (D : va_G) (q : Nat → Nat) (k : kK) (cI cJ : ClassId) (sz : Nat) (fu : Nat) (σ : sK) (σ' : sK) (x1 : Int32) (x2 : Int64) (hf : fK_clearBelow fu k σ x1 x2 = some σ') : Met l yK_clearBelow (.code yK_clearBelow cK_clearBelow 12 none :: TK) ({ frames := 0, cells := 0, slots := 0, locals := 0 }) (kPre D cl0 [(cI, .int), (cJ, .long)] (wdK q k cI cJ) sz σ [.ref (q 0), .int x1, .long x2]) (kQv D cl0 [(cI, .int), (cJ, .long)] (wdK q k cI cJ) (va_A (wdK q k cI cJ σ) sz) σ') 0 0 (va_A (wdK q k cI cJ σ) sz) := by
  refine kr_start (own := RK) (by decide) rfl (Nat.le_of_ble_eq_true rfl) ?_
  intro p e s m args below meth c ls C0 hsz hK hP hD hl
  subst hsz
  obtain ⟨hx, hb, hr, hml, hown, hts, hlocks⟩ := id C0
  have hA : ∀ z : Nat, s.heap.size ≤ z → va_A (wdK q k cI cJ σ) s.heap.size z := fun z h => Or.inr h
  generalize va_A (wdK q k cI cJ σ) s.heap.size = A at hD hA ⊢
  have hS : va_S A s.heap s.heap [] := va_S.rf
  have hl : lv_has ls 12 [(0, .ref (q 0)), (1, .int x1), (2, .long x2)] := hl
  unfold fK_clearBelow at hf
  refine lv_lload_n hx hb dK_clearBelow_0 rfl (lv_at hl 2 rfl) ?_
  refine lv_lconst (v := 0) hx hb dK_clearBelow_1 (by decide) ?_
  refine W.lcmp hx hb dK_clearBelow_2 ?_
  refine lv_if_ne (tgt := 7) hx hb dK_clearBelow_3 (by decide) (fun c2 => ?_) (fun c2 => ?_)
  · rw [lg_cmp_eq] at c2
    have hf := (if_neg c2).symm.trans hf
    refine lv_aload_n hx hb dK_clearBelow_7 rfl (lv_at hl 0 rfl) ?_
    refine gK_square hx hb hown hts hK hP dK_clearBelow_8 ?_
    refine lv_iload_n hx hb dK_clearBelow_11 rfl (lv_at hl 1 rfl) ?_
    refine lv_aload_n hx hb dK_clearBelow_12 rfl (lv_at hl 0 rfl) ?_
    refine gK_ages hx hb hown hts hK hP dK_clearBelow_13 ?_
    refine lv_imul hx hb dK_clearBelow_16 ?_
    refine lv_iload_n hx hb dK_clearBelow_17 rfl (lv_at hl 1 rfl) ?_
    refine lv_iadd hx hb dK_clearBelow_18 ?_
    obtain ⟨v19, ev19, hf⟩ := kb1 hf
    refine kr_laload hx hb hK hP 9 1 rfl rfl ev19 dK_clearBelow_19 ?_
    refine lv_lstore (lv' := [(4, .long v19), (0, .ref (q 0)), (1, .int x1), (2, .long x2)]) hx hb dK_clearBelow_20 hl (by decide) rfl (fun ls hl => ?_)
    refine lv_iload_n hx hb dK_clearBelow_22 rfl (lv_at hl 2 rfl) ?_
    refine lv_iconst (v := 1) hx hb dK_clearBelow_23 (by decide) ?_
    refine lv_iadd hx hb dK_clearBelow_24 ?_
    refine lv_istore (lv' := [(6, .int (x1 + 1)), (4, .long v19), (0, .ref (q 0)), (1, .int x1), (2, .long x2)]) hx hb dK_clearBelow_25 hl (by decide) rfl (fun ls hl => ?_)
    exact tK_clearBelow_27 C0 hK hA fu σ x1 x2 v19 (x1 + 1) _ _ ls hf (lv_sub hl [2, 3, 4, 1, 0] rfl) hP hD hS
  · rw [lg_cmp_eq] at c2
    have hf := (if_pos c2).symm.trans hf
    exact kr_vret C0 hK hP hD hS (Option.some.inj hf) dK_clearBelow_6
theorem dK_determinant_0 : decode cK_determinant 0 = .ok (.lconst 1, 1) := by decide +kernel
theorem dK_determinant_1 : decode cK_determinant 1 = .ok (.lstore_n 1, 1) := by decide +kernel
theorem dK_determinant_2 : decode cK_determinant 2 = .ok (.lconst 1, 1) := by decide +kernel
theorem dK_determinant_3 : decode cK_determinant 3 = .ok (.lstore_n 3, 1) := by decide +kernel
theorem dK_determinant_4 : decode cK_determinant 4 = .ok (.iconst 0, 1) := by decide +kernel
theorem dK_determinant_5 : decode cK_determinant 5 = .ok (.istore 5, 2) := by decide +kernel
theorem dK_determinant_7 : decode cK_determinant 7 = .ok (.iload 5, 2) := by decide +kernel
theorem dK_determinant_9 : decode cK_determinant 9 = .ok (.aload_n 0, 1) := by decide +kernel
theorem dK_determinant_10 : decode cK_determinant 10 = .ok (.getfield 29, 3) := by decide +kernel
theorem dK_determinant_13 : decode cK_determinant 13 = .ok (.if_icmp .ge (66), 3) := by decide +kernel
theorem dK_determinant_16 : decode cK_determinant 16 = .ok (.aload_n 0, 1) := by decide +kernel
theorem dK_determinant_17 : decode cK_determinant 17 = .ok (.iload 5, 2) := by decide +kernel
theorem dK_determinant_19 : decode cK_determinant 19 = .ok (.invokevirtual 170, 3) := by decide +kernel
theorem dK_determinant_22 : decode cK_determinant 22 = .ok (.istore 6, 2) := by decide +kernel
theorem dK_determinant_24 : decode cK_determinant 24 = .ok (.iload 6, 2) := by decide +kernel
theorem dK_determinant_26 : decode cK_determinant 26 = .ok (.iconst (-1), 1) := by decide +kernel
theorem dK_determinant_27 : decode cK_determinant 27 = .ok (.if_icmp .ne (5), 3) := by decide +kernel
theorem dK_determinant_30 : decode cK_determinant 30 = .ok (.lconst 0, 1) := by decide +kernel
theorem dK_determinant_31 : decode cK_determinant 31 = .ok (.lreturn, 1) := by decide +kernel
theorem dK_determinant_32 : decode cK_determinant 32 = .ok (.iload 6, 2) := by decide +kernel
theorem dK_determinant_34 : decode cK_determinant 34 = .ok (.iload 5, 2) := by decide +kernel
theorem dK_determinant_36 : decode cK_determinant 36 = .ok (.if_icmp .eq (14), 3) := by decide +kernel
theorem dK_determinant_39 : decode cK_determinant 39 = .ok (.aload_n 0, 1) := by decide +kernel
theorem dK_determinant_40 : decode cK_determinant 40 = .ok (.iload 6, 2) := by decide +kernel
theorem dK_determinant_42 : decode cK_determinant 42 = .ok (.iload 5, 2) := by decide +kernel
theorem dK_determinant_44 : decode cK_determinant 44 = .ok (.invokevirtual 173, 3) := by decide +kernel
theorem dK_determinant_47 : decode cK_determinant 47 = .ok (.lload_n 1, 1) := by decide +kernel
theorem dK_determinant_48 : decode cK_determinant 48 = .ok (.lneg, 1) := by decide +kernel
theorem dK_determinant_49 : decode cK_determinant 49 = .ok (.lstore_n 1, 1) := by decide +kernel
theorem dK_determinant_50 : decode cK_determinant 50 = .ok (.aload_n 0, 1) := by decide +kernel
theorem dK_determinant_51 : decode cK_determinant 51 = .ok (.iload 5, 2) := by decide +kernel
theorem dK_determinant_53 : decode cK_determinant 53 = .ok (.lload_n 3, 1) := by decide +kernel
theorem dK_determinant_54 : decode cK_determinant 54 = .ok (.invokevirtual 176, 3) := by decide +kernel
theorem dK_determinant_57 : decode cK_determinant 57 = .ok (.aload_n 0, 1) := by decide +kernel
theorem dK_determinant_58 : decode cK_determinant 58 = .ok (.getfield 58, 3) := by decide +kernel
theorem dK_determinant_61 : decode cK_determinant 61 = .ok (.iload 5, 2) := by decide +kernel
theorem dK_determinant_63 : decode cK_determinant 63 = .ok (.aload_n 0, 1) := by decide +kernel
theorem dK_determinant_64 : decode cK_determinant 64 = .ok (.getfield 29, 3) := by decide +kernel
theorem dK_determinant_67 : decode cK_determinant 67 = .ok (.imul, 1) := by decide +kernel
theorem dK_determinant_68 : decode cK_determinant 68 = .ok (.iload 5, 2) := by decide +kernel
theorem dK_determinant_70 : decode cK_determinant 70 = .ok (.iadd, 1) := by decide +kernel
theorem dK_determinant_71 : decode cK_determinant 71 = .ok (.laload, 1) := by decide +kernel
theorem dK_determinant_72 : decode cK_determinant 72 = .ok (.lstore_n 3, 1) := by decide +kernel
theorem dK_determinant_73 : decode cK_determinant 73 = .ok (.iinc 5 (1), 3) := by decide +kernel
theorem dK_determinant_76 : decode cK_determinant 76 = .ok (.goto (-69), 3) := by decide +kernel
theorem dK_determinant_79 : decode cK_determinant 79 = .ok (.lload_n 1, 1) := by decide +kernel
theorem dK_determinant_80 : decode cK_determinant 80 = .ok (.lload_n 3, 1) := by decide +kernel
theorem dK_determinant_81 : decode cK_determinant 81 = .ok (.lmul, 1) := by decide +kernel
theorem dK_determinant_82 : decode cK_determinant 82 = .ok (.lreturn, 1) := by decide +kernel
set_option maxHeartbeats 4000000 in
set_option maxRecDepth 100000 in
theorem tK_determinant_50 {p : Program} {l : Launch} {e : Env} {s : State} {m : MethodId} {args : Array Value} {below : List Frame} {meth : Method} {c : Code} {D : va_G} {A : Nat → Prop} {q : Nat → Nat} {k : kK} {cI cJ : ClassId} {r : Int64} {σ' : sK} {fu : Nat} {h7 : sK → Int64 → Int64 → Int32 → Option (Int64 × sK)} (C0 : Cx p s m args meth c cK_determinant 7 (some .long) RK TK) (hK : va_K D cl0 [(cI, .int), (cJ, .long)] s) (hA : ∀ z, s.heap.size ≤ z → A z) (ih7 : ∀ (σ : sK) (x1 : Int64) (x3 : Int64) (x5 : Int32)(H : Heap) (locs : List Loc) (ls : Array Slot), h7 σ x1 x3 x5 = some (r, σ') → lv_has ls 7 [(0, .ref (q 0)), (1, .long x1), (3, .long x3), (5, .int x5)] → va_P D cl0 (wdK q k cI cJ σ) H → va_D A (wdK q k cI cJ σ) → va_S A s.heap H locs → W p l e ({ frames := 1, cells := 0, slots := 0, locals := 31 }) s m args below meth c H locs 0 0 (MQ below (kQl D cl0 [(cI, .int), (cJ, .long)] (wdK q k cI cJ) A r σ') args s 0 0 A) (F0 m 7 ls [])) : ∀ (σ : sK) (x1 : Int64) (x3 : Int64) (x5 : Int32)(H : Heap) (locs : List Loc) (ls : Array Slot), fK_determinant_50 fu k h7 σ x1 x3 x5 = some (r, σ') → lv_has ls 7 [(0, .ref (q 0)), (1, .long x1), (3, .long x3), (5, .int x5)] → va_P D cl0 (wdK q k cI cJ σ) H → va_D A (wdK q k cI cJ σ) → va_S A s.heap H locs → W p l e ({ frames := 1, cells := 0, slots := 0, locals := 31 }) s m args below meth c H locs 0 0 (MQ below (kQl D cl0 [(cI, .int), (cJ, .long)] (wdK q k cI cJ) A r σ') args s 0 0 A) (F0 m 50 ls []) := by
  obtain ⟨hx, hb, hr, hml, hown, hts, hlocks⟩ := id C0
  intro σ x1 x3 x5 H locs ls hf hl hP hD hS
  unfold fK_determinant_50 at hf
  refine lv_aload_n hx hb dK_determinant_50 rfl (lv_at hl 0 rfl) ?_
  refine lv_iload hx hb dK_determinant_51 (lv_at hl 3 rfl) ?_
  refine lv_lload_n hx hb dK_determinant_53 rfl (lv_at hl 2 rfl) ?_
  obtain ⟨s54, es54, hf⟩ := kb1 hf
  refine kr_callVv (av := [.int x5, .long x3]) ⟨hx, hb, hml, hown, hts⟩ (mK_clearBelow l D q k cI cJ _ fu σ s54 x5 x3 es54) (cwV 2 hts (kgood_V TK_good (by decide +kernel)) rfl rfl rfl (by decide +kernel) ⟨Nat.le_of_ble_eq_true rfl, Nat.le_of_ble_eq_true rfl⟩) hK hP hD hS hA (ci := 0) (q0 := 0) rfl rfl rfl hl.1 rfl (Nat.le_of_ble_eq_true rfl) dK_determinant_54 ⟨Nat.le_of_ble_eq_true rfl, Nat.le_of_ble_eq_true rfl⟩ (fun H locs hP hD hS => ?_)
  refine lv_aload_n hx hb dK_determinant_57 rfl (lv_at hl 0 rfl) ?_
  refine gK_square hx hb hown hts hK hP dK_determinant_58 ?_
  refine lv_iload hx hb dK_determinant_61 (lv_at hl 3 rfl) ?_
  refine lv_aload_n hx hb dK_determinant_63 rfl (lv_at hl 0 rfl) ?_
  refine gK_ages hx hb hown hts hK hP dK_determinant_64 ?_
  refine lv_imul hx hb dK_determinant_67 ?_
  refine lv_iload hx hb dK_determinant_68 (lv_at hl 3 rfl) ?_
  refine lv_iadd hx hb dK_determinant_70 ?_
  obtain ⟨v71, ev71, hf⟩ := kb1 hf
  refine kr_laload hx hb hK hP 9 1 rfl rfl ev71 dK_determinant_71 ?_
  refine lv_lstore_n (lv' := [(3, .long v71), (0, .ref (q 0)), (1, .long x1), (5, .int x5)]) hx hb dK_determinant_72 rfl hl (by decide) rfl (fun ls hl => ?_)
  refine lv_iinc (v := (x5 + 1)) (lv' := [(5, .int (x5 + 1)), (3, .long v71), (0, .ref (q 0)), (1, .long x1)]) hx hb dK_determinant_73 hl (k := 3) rfl rfl (by decide) rfl (fun ls hl => ?_)
  refine lv_goto (tgt := 7) hx hb dK_determinant_76 (by decide) ?_
  exact ih7 s54 x1 v71 (x5 + 1) _ _ ls hf (lv_sub hl [2, 3, 1, 0] rfl) hP hD hS
set_option maxHeartbeats 4000000 in
set_option maxRecDepth 100000 in
theorem tK_determinant_7 {p : Program} {l : Launch} {e : Env} {s : State} {m : MethodId} {args : Array Value} {below : List Frame} {meth : Method} {c : Code} {D : va_G} {A : Nat → Prop} {q : Nat → Nat} {k : kK} {cI cJ : ClassId} {r : Int64} {σ' : sK} {fu : Nat} (C0 : Cx p s m args meth c cK_determinant 7 (some .long) RK TK) (hK : va_K D cl0 [(cI, .int), (cJ, .long)] s) (hA : ∀ z, s.heap.size ≤ z → A z) : ∀ n : Nat, ∀ (σ : sK) (x1 : Int64) (x3 : Int64) (x5 : Int32)(H : Heap) (locs : List Loc) (ls : Array Slot), fK_determinant_7 fu k n σ x1 x3 x5 = some (r, σ') → lv_has ls 7 [(0, .ref (q 0)), (1, .long x1), (3, .long x3), (5, .int x5)] → va_P D cl0 (wdK q k cI cJ σ) H → va_D A (wdK q k cI cJ σ) → va_S A s.heap H locs → W p l e ({ frames := 1, cells := 0, slots := 0, locals := 31 }) s m args below meth c H locs 0 0 (MQ below (kQl D cl0 [(cI, .int), (cJ, .long)] (wdK q k cI cJ) A r σ') args s 0 0 A) (F0 m 7 ls []) := by
  obtain ⟨hx, hb, hr, hml, hown, hts, hlocks⟩ := id C0
  intro n
  induction n with
  | zero =>
    intro σ x1 x3 x5 H locs ls hf hl hP hD hS
    cases hf
  | succ n ih =>
    intro σ x1 x3 x5 H locs ls hf hl hP hD hS
    rw [fK_determinant_7] at hf
    refine lv_iload hx hb dK_determinant_7 (lv_at hl 3 rfl) ?_
    refine lv_aload_n hx hb dK_determinant_9 rfl (lv_at hl 0 rfl) ?_
    refine gK_ages hx hb hown hts hK hP dK_determinant_10 ?_
    refine lv_icmp_ge (tgt := 79) hx hb dK_determinant_13 (by decide) (fun c13 => ?_) (fun c13 => ?_)
    · have hf := (if_pos c13).symm.trans hf
      refine lv_lload_n hx hb dK_determinant_79 rfl (lv_at hl 1 rfl) ?_
      refine lv_lload_n hx hb dK_determinant_80 rfl (lv_at hl 2 rfl) ?_
      refine lv_lmul hx hb dK_determinant_81 ?_
      exact kr_lret C0 hK hP hD hS (congrArg Prod.fst (Option.some.inj hf)) (congrArg Prod.snd (Option.some.inj hf)) dK_determinant_82
    · have hf := (if_neg c13).symm.trans hf
      refine lv_aload_n hx hb dK_determinant_16 rfl (lv_at hl 0 rfl) ?_
      refine lv_iload hx hb dK_determinant_17 (lv_at hl 3 rfl) ?_
      obtain ⟨v19, ev19, hf⟩ := kb1 hf
      refine kr_callVi (av := [.int x5]) ⟨hx, hb, hml, hown, hts⟩ (mK_pivotRow l D q k cI cJ _ fu σ x5 v19 ev19) (cwV 1 hts (kgood_V TK_good (by decide +kernel)) rfl rfl rfl (by decide +kernel) ⟨Nat.le_of_ble_eq_true rfl, Nat.le_of_ble_eq_true rfl⟩) hK hP hD hS hA (ci := 0) (q0 := 0) rfl rfl rfl hl.1 rfl (Nat.le_of_ble_eq_true rfl) dK_determinant_19 ⟨Nat.le_of_ble_eq_true rfl, Nat.le_of_ble_eq_true rfl⟩ (fun H locs hP hD hS => ?_)
      refine lv_istore (lv' := [(6, .int v19), (0, .ref (q 0)), (1, .long x1), (3, .long x3), (5, .int x5)]) hx hb dK_determinant_22 hl (by decide) rfl (fun ls hl => ?_)
      refine lv_iload hx hb dK_determinant_24 (lv_at hl 0 rfl) ?_
      refine lv_iconst (v := (-1)) hx hb dK_determinant_26 (by decide) ?_
      refine lv_icmp_ne (tgt := 32) hx hb dK_determinant_27 (by decide) (fun c27 => ?_) (fun c27 => ?_)
      · have hf := (if_neg c27).symm.trans hf
        refine lv_iload hx hb dK_determinant_32 (lv_at hl 0 rfl) ?_
        refine lv_iload hx hb dK_determinant_34 (lv_at hl 4 rfl) ?_
        refine lv_icmp_eq (tgt := 50) hx hb dK_determinant_36 (by decide) (fun c36 => ?_) (fun c36 => ?_)
        · have hf := (if_pos c36).symm.trans hf
          exact tK_determinant_50 C0 hK hA ih σ x1 x3 x5 _ _ ls hf (lv_sub hl [1, 2, 3, 4] rfl) hP hD hS
        · have hf := (if_neg c36).symm.trans hf
          refine lv_aload_n hx hb dK_determinant_39 rfl (lv_at hl 1 rfl) ?_
          refine lv_iload hx hb dK_determinant_40 (lv_at hl 0 rfl) ?_
          refine lv_iload hx hb dK_determinant_42 (lv_at hl 4 rfl) ?_
          obtain ⟨s44, es44, hf⟩ := kb1 hf
          refine kr_callVv (av := [.int v19, .int x5]) ⟨hx, hb, hml, hown, hts⟩ (mK_swapRows l D q k cI cJ _ fu σ s44 v19 x5 es44) (cwV 2 hts (kgood_V TK_good (by decide +kernel)) rfl rfl rfl (by decide +kernel) ⟨Nat.le_of_ble_eq_true rfl, Nat.le_of_ble_eq_true rfl⟩) hK hP hD hS hA (ci := 0) (q0 := 0) rfl rfl rfl hl.1 rfl (Nat.le_of_ble_eq_true rfl) dK_determinant_44 ⟨Nat.le_of_ble_eq_true rfl, Nat.le_of_ble_eq_true rfl⟩ (fun H locs hP hD hS => ?_)
          refine lv_lload_n hx hb dK_determinant_47 rfl (lv_at hl 2 rfl) ?_
          refine lv_lneg hx hb dK_determinant_48 ?_
          refine lv_lstore_n (lv' := [(1, .long (-x1)), (6, .int v19), (0, .ref (q 0)), (3, .long x3), (5, .int x5)]) hx hb dK_determinant_49 rfl hl (by decide) rfl (fun ls hl => ?_)
          exact tK_determinant_50 C0 hK hA ih s44 (-x1) x3 x5 _ _ ls hf (lv_sub hl [2, 0, 3, 4] rfl) hP hD hS
      · have hf := (if_pos c27).symm.trans hf
        refine lv_lconst (v := 0) hx hb dK_determinant_30 (by decide) ?_
        exact kr_lret C0 hK hP hD hS (congrArg Prod.fst (Option.some.inj hf)) (congrArg Prod.snd (Option.some.inj hf)) dK_determinant_31
set_option maxHeartbeats 4000000 in
set_option maxRecDepth 100000 in
theorem mK_determinant (l : Launch) (D : va_G) (q : Nat → Nat) (k : kK) (cI cJ : ClassId) (sz : Nat) (fu : Nat) (σ : sK) (σ' : sK) (r : Int64) (hf : fK_determinant fu k σ = some (r, σ')) : Met l yK_determinant (.code yK_determinant cK_determinant 7 (some .long) :: TK) ({ frames := 1, cells := 0, slots := 0, locals := 31 }) (kPre D cl0 [(cI, .int), (cJ, .long)] (wdK q k cI cJ) sz σ [.ref (q 0)]) (kQl D cl0 [(cI, .int), (cJ, .long)] (wdK q k cI cJ) (va_A (wdK q k cI cJ σ) sz) r σ') 0 0 (va_A (wdK q k cI cJ σ) sz) := by
  refine kr_start (own := RK) (by decide) rfl (Nat.le_of_ble_eq_true rfl) ?_
  intro p e s m args below meth c ls C0 hsz hK hP hD hl
  subst hsz
  obtain ⟨hx, hb, hr, hml, hown, hts, hlocks⟩ := id C0
  have hA : ∀ z : Nat, s.heap.size ≤ z → va_A (wdK q k cI cJ σ) s.heap.size z := fun z h => Or.inr h
  generalize va_A (wdK q k cI cJ σ) s.heap.size = A at hD hA ⊢
  have hS : va_S A s.heap s.heap [] := va_S.rf
  have hl : lv_has ls 7 [(0, .ref (q 0))] := hl
  unfold fK_determinant at hf
  refine lv_lconst (v := 1) hx hb dK_determinant_0 (by decide) ?_
  refine lv_lstore_n (lv' := [(1, .long (1 : Int64)), (0, .ref (q 0))]) hx hb dK_determinant_1 rfl hl (by decide) rfl (fun ls hl => ?_)
  refine lv_lconst (v := 1) hx hb dK_determinant_2 (by decide) ?_
  refine lv_lstore_n (lv' := [(3, .long (1 : Int64)), (1, .long (1 : Int64)), (0, .ref (q 0))]) hx hb dK_determinant_3 rfl hl (by decide) rfl (fun ls hl => ?_)
  refine lv_iconst (v := 0) hx hb dK_determinant_4 (by decide) ?_
  refine lv_istore (lv' := [(5, .int 0), (3, .long (1 : Int64)), (1, .long (1 : Int64)), (0, .ref (q 0))]) hx hb dK_determinant_5 hl (by decide) rfl (fun ls hl => ?_)
  exact tK_determinant_7 C0 hK hA fu σ (1 : Int64) (1 : Int64) 0 _ _ ls hf (lv_sub hl [3, 2, 1, 0] rfl) hP hD hS
theorem dK_undo_0 : decode cK_undo 0 = .ok (.iconst 0, 1) := by decide +kernel
theorem dK_undo_1 : decode cK_undo 1 = .ok (.istore_n 1, 1) := by decide +kernel
theorem dK_undo_2 : decode cK_undo 2 = .ok (.iload_n 1, 1) := by decide +kernel
theorem dK_undo_3 : decode cK_undo 3 = .ok (.aload_n 0, 1) := by decide +kernel
theorem dK_undo_4 : decode cK_undo 4 = .ok (.getfield 29, 3) := by decide +kernel
theorem dK_undo_7 : decode cK_undo 7 = .ok (.if_icmp .ge (21), 3) := by decide +kernel
theorem dK_undo_10 : decode cK_undo 10 = .ok (.aload_n 0, 1) := by decide +kernel
theorem dK_undo_11 : decode cK_undo 11 = .ok (.iload_n 1, 1) := by decide +kernel
theorem dK_undo_12 : decode cK_undo 12 = .ok (.invokevirtual 154, 3) := by decide +kernel
theorem dK_undo_15 : decode cK_undo 15 = .ok (.bipush (20), 2) := by decide +kernel
theorem dK_undo_17 : decode cK_undo 17 = .ok (.if_icmp .eq (5), 3) := by decide +kernel
theorem dK_undo_20 : decode cK_undo 20 = .ok (.iconst 2, 1) := by decide +kernel
theorem dK_undo_21 : decode cK_undo 21 = .ok (.ireturn, 1) := by decide +kernel
theorem dK_undo_22 : decode cK_undo 22 = .ok (.iinc 1 (1), 3) := by decide +kernel
theorem dK_undo_25 : decode cK_undo 25 = .ok (.goto (-23), 3) := by decide +kernel
theorem dK_undo_28 : decode cK_undo 28 = .ok (.aload_n 0, 1) := by decide +kernel
theorem dK_undo_29 : decode cK_undo 29 = .ok (.invokevirtual 157, 3) := by decide +kernel
theorem dK_undo_32 : decode cK_undo 32 = .ok (.aload_n 0, 1) := by decide +kernel
theorem dK_undo_33 : decode cK_undo 33 = .ok (.invokevirtual 160, 3) := by decide +kernel
theorem dK_undo_36 : decode cK_undo 36 = .ok (.lconst 0, 1) := by decide +kernel
theorem dK_undo_37 : decode cK_undo 37 = .ok (.lcmp, 1) := by decide +kernel
theorem dK_undo_38 : decode cK_undo 38 = .ok (.ifCond .ne (7), 3) := by decide +kernel
theorem dK_undo_41 : decode cK_undo 41 = .ok (.iconst 1, 1) := by decide +kernel
theorem dK_undo_42 : decode cK_undo 42 = .ok (.goto (4), 3) := by decide +kernel
theorem dK_undo_45 : decode cK_undo 45 = .ok (.iconst 0, 1) := by decide +kernel
theorem dK_undo_46 : decode cK_undo 46 = .ok (.ireturn, 1) := by decide +kernel
set_option maxHeartbeats 4000000 in
set_option maxRecDepth 100000 in
theorem tK_undo_2 {p : Program} {l : Launch} {e : Env} {s : State} {m : MethodId} {args : Array Value} {below : List Frame} {meth : Method} {c : Code} {D : va_G} {A : Nat → Prop} {q : Nat → Nat} {k : kK} {cI cJ : ClassId} {r : Int32} {σ' : sK} {fu : Nat} (C0 : Cx p s m args meth c cK_undo 2 (some .int) RK TK) (hK : va_K D cl0 [(cI, .int), (cJ, .long)] s) (hA : ∀ z, s.heap.size ≤ z → A z) : ∀ n : Nat, ∀ (σ : sK) (x1 : Int32)(H : Heap) (locs : List Loc) (ls : Array Slot), fK_undo_2 fu k n σ x1 = some (r, σ') → lv_has ls 2 [(0, .ref (q 0)), (1, .int x1)] → va_P D cl0 (wdK q k cI cJ σ) H → va_D A (wdK q k cI cJ σ) → va_S A s.heap H locs → W p l e ({ frames := 2, cells := 0, slots := 0, locals := 57 }) s m args below meth c H locs 0 0 (MQ below (kQi D cl0 [(cI, .int), (cJ, .long)] (wdK q k cI cJ) A r σ') args s 0 0 A) (F0 m 2 ls []) := by
  obtain ⟨hx, hb, hr, hml, hown, hts, hlocks⟩ := id C0
  intro n
  induction n with
  | zero =>
    intro σ x1 H locs ls hf hl hP hD hS
    cases hf
  | succ n ih =>
    intro σ x1 H locs ls hf hl hP hD hS
    rw [fK_undo_2] at hf
    refine lv_iload_n hx hb dK_undo_2 rfl (lv_at hl 1 rfl) ?_
    refine lv_aload_n hx hb dK_undo_3 rfl (lv_at hl 0 rfl) ?_
    refine gK_ages hx hb hown hts hK hP dK_undo_4 ?_
    refine lv_icmp_ge (tgt := 28) hx hb dK_undo_7 (by decide) (fun c7 => ?_) (fun c7 => ?_)
    · have hf := (if_pos c7).symm.trans hf
      refine lv_aload_n hx hb dK_undo_28 rfl (lv_at hl 0 rfl) ?_
      obtain ⟨s29, es29, hf⟩ := kb1 hf
      refine kr_callVv (av := []) ⟨hx, hb, hml, hown, hts⟩ (mK_loadErrors l D q k cI cJ _ fu σ s29 es29) (cwV 0 hts (kgood_V TK_good (by decide +kernel)) rfl rfl rfl (by decide +kernel) ⟨Nat.le_of_ble_eq_true rfl, Nat.le_of_ble_eq_true rfl⟩) hK hP hD hS hA (ci := 0) (q0 := 0) rfl rfl rfl hl.1 rfl (Nat.le_of_ble_eq_true rfl) dK_undo_29 ⟨Nat.le_of_ble_eq_true rfl, Nat.le_of_ble_eq_true rfl⟩ (fun H locs hP hD hS => ?_)
      refine lv_aload_n hx hb dK_undo_32 rfl (lv_at hl 0 rfl) ?_
      obtain ⟨v33, s33, es33, hf⟩ := kb2 hf
      refine kr_callVl (av := []) ⟨hx, hb, hml, hown, hts⟩ (mK_determinant l D q k cI cJ _ fu s29 s33 v33 es33) (cwV 0 hts (kgood_V TK_good (by decide +kernel)) rfl rfl rfl (by decide +kernel) ⟨Nat.le_of_ble_eq_true rfl, Nat.le_of_ble_eq_true rfl⟩) hK hP hD hS hA (ci := 0) (q0 := 0) rfl rfl rfl hl.1 rfl (Nat.le_of_ble_eq_true rfl) dK_undo_33 ⟨Nat.le_of_ble_eq_true rfl, Nat.le_of_ble_eq_true rfl⟩ (fun H locs hP hD hS => ?_)
      refine lv_lconst (v := 0) hx hb dK_undo_36 (by decide) ?_
      refine W.lcmp hx hb dK_undo_37 ?_
      refine lv_if_ne (tgt := 45) hx hb dK_undo_38 (by decide) (fun c37 => ?_) (fun c37 => ?_)
      · rw [lg_cmp_eq] at c37
        have hf := (if_neg c37).symm.trans hf
        refine lv_iconst (v := 0) hx hb dK_undo_45 (by decide) ?_
        exact kr_iret C0 hK hP hD hS (congrArg Prod.fst (Option.some.inj hf)) (congrArg Prod.snd (Option.some.inj hf)) dK_undo_46
      · rw [lg_cmp_eq] at c37
        have hf := (if_pos c37).symm.trans hf
        refine lv_iconst (v := 1) hx hb dK_undo_41 (by decide) ?_
        refine lv_goto (tgt := 46) hx hb dK_undo_42 (by decide) ?_
        exact kr_iret C0 hK hP hD hS (congrArg Prod.fst (Option.some.inj hf)) (congrArg Prod.snd (Option.some.inj hf)) dK_undo_46
    · have hf := (if_neg c7).symm.trans hf
      refine lv_aload_n hx hb dK_undo_10 rfl (lv_at hl 0 rfl) ?_
      refine lv_iload_n hx hb dK_undo_11 rfl (lv_at hl 1 rfl) ?_
      obtain ⟨v12, ev12, hf⟩ := kb1 hf
      refine kr_callVi (av := [.int x1]) ⟨hx, hb, hml, hown, hts⟩ (mK_errorSum l D q k cI cJ _ fu σ x1 v12 ev12) (cwV 1 hts (kgood_V TK_good (by decide +kernel)) rfl rfl rfl (by decide +kernel) ⟨Nat.le_of_ble_eq_true rfl, Nat.le_of_ble_eq_true rfl⟩) hK hP hD hS hA (ci := 0) (q0 := 0) rfl rfl rfl hl.1 rfl (Nat.le_of_ble_eq_true rfl) dK_undo_12 ⟨Nat.le_of_ble_eq_true rfl, Nat.le_of_ble_eq_true rfl⟩ (fun H locs hP hD hS => ?_)
      refine lv_bipush (v := 20) hx hb dK_undo_15 (by decide) ?_
      refine lv_icmp_eq (tgt := 22) hx hb dK_undo_17 (by decide) (fun c17 => ?_) (fun c17 => ?_)
      · have hf := (if_pos c17).symm.trans hf
        refine lv_iinc (v := (x1 + 1)) (lv' := [(1, .int (x1 + 1)), (0, .ref (q 0))]) hx hb dK_undo_22 hl (k := 1) rfl rfl (by decide) rfl (fun ls hl => ?_)
        refine lv_goto (tgt := 2) hx hb dK_undo_25 (by decide) ?_
        exact ih σ (x1 + 1) _ _ ls hf (lv_sub hl [1, 0] rfl) hP hD hS
      · have hf := (if_neg c17).symm.trans hf
        refine lv_iconst (v := 2) hx hb dK_undo_20 (by decide) ?_
        exact kr_iret C0 hK hP hD hS (congrArg Prod.fst (Option.some.inj hf)) (congrArg Prod.snd (Option.some.inj hf)) dK_undo_21
set_option maxHeartbeats 4000000 in
set_option maxRecDepth 100000 in
theorem mK_undo (l : Launch) (D : va_G) (q : Nat → Nat) (k : kK) (cI cJ : ClassId) (sz : Nat) (fu : Nat) (σ : sK) (σ' : sK) (r : Int32) (hf : fK_undo fu k σ = some (r, σ')) : Met l yK_undo (.code yK_undo cK_undo 2 (some .int) :: TK) ({ frames := 2, cells := 0, slots := 0, locals := 57 }) (kPre D cl0 [(cI, .int), (cJ, .long)] (wdK q k cI cJ) sz σ [.ref (q 0)]) (kQi D cl0 [(cI, .int), (cJ, .long)] (wdK q k cI cJ) (va_A (wdK q k cI cJ σ) sz) r σ') 0 0 (va_A (wdK q k cI cJ σ) sz) := by
  refine kr_start (own := RK) (by decide) rfl (Nat.le_of_ble_eq_true rfl) ?_
  intro p e s m args below meth c ls C0 hsz hK hP hD hl
  subst hsz
  obtain ⟨hx, hb, hr, hml, hown, hts, hlocks⟩ := id C0
  have hA : ∀ z : Nat, s.heap.size ≤ z → va_A (wdK q k cI cJ σ) s.heap.size z := fun z h => Or.inr h
  generalize va_A (wdK q k cI cJ σ) s.heap.size = A at hD hA ⊢
  have hS : va_S A s.heap s.heap [] := va_S.rf
  have hl : lv_has ls 2 [(0, .ref (q 0))] := hl
  unfold fK_undo at hf
  refine lv_iconst (v := 0) hx hb dK_undo_0 (by decide) ?_
  refine lv_istore_n (lv' := [(1, .int 0), (0, .ref (q 0))]) hx hb dK_undo_1 rfl hl (by decide) rfl (fun ls hl => ?_)
  exact tK_undo_2 C0 hK hA fu σ 0 _ _ ls hf (lv_sub hl [1, 0] rfl) hP hD hS
theorem dK_undone_0 : decode cK_undone 0 = .ok (.aload_n 0, 1) := by decide +kernel
theorem dK_undone_1 : decode cK_undone 1 = .ok (.iload_n 1, 1) := by decide +kernel
theorem dK_undone_2 : decode cK_undone 2 = .ok (.invokevirtual 79, 3) := by decide +kernel
theorem dK_undone_5 : decode cK_undone 5 = .ok (.ifCond .eq (25), 3) := by decide +kernel
theorem dK_undone_8 : decode cK_undone 8 = .ok (.aload_n 0, 1) := by decide +kernel
theorem dK_undone_9 : decode cK_undone 9 = .ok (.iload_n 2, 1) := by decide +kernel
theorem dK_undone_10 : decode cK_undone 10 = .ok (.invokevirtual 83, 3) := by decide +kernel
theorem dK_undone_13 : decode cK_undone 13 = .ok (.ifCond .eq (17), 3) := by decide +kernel
theorem dK_undone_16 : decode cK_undone 16 = .ok (.iload_n 3, 1) := by decide +kernel
theorem dK_undone_17 : decode cK_undone 17 = .ok (.invokestatic 100, 3) := by decide +kernel
theorem dK_undone_20 : decode cK_undone 20 = .ok (.ifCond .eq (10), 3) := by decide +kernel
theorem dK_undone_23 : decode cK_undone 23 = .ok (.aload_n 0, 1) := by decide +kernel
theorem dK_undone_24 : decode cK_undone 24 = .ok (.invokevirtual 164, 3) := by decide +kernel
theorem dK_undone_27 : decode cK_undone 27 = .ok (.ifCond .eq (7), 3) := by decide +kernel
theorem dK_undone_30 : decode cK_undone 30 = .ok (.ldc2_w 103, 3) := by decide +kernel
theorem dK_undone_33 : decode cK_undone 33 = .ok (.lreturn, 1) := by decide +kernel
theorem dK_undone_34 : decode cK_undone 34 = .ok (.aload_n 0, 1) := by decide +kernel
theorem dK_undone_35 : decode cK_undone 35 = .ok (.invokevirtual 157, 3) := by decide +kernel
theorem dK_undone_38 : decode cK_undone 38 = .ok (.aload_n 0, 1) := by decide +kernel
theorem dK_undone_39 : decode cK_undone 39 = .ok (.invokevirtual 160, 3) := by decide +kernel
theorem dK_undone_42 : decode cK_undone 42 = .ok (.lstore 4, 2) := by decide +kernel
theorem dK_undone_44 : decode cK_undone 44 = .ok (.aload_n 0, 1) := by decide +kernel
theorem dK_undone_45 : decode cK_undone 45 = .ok (.invokevirtual 157, 3) := by decide +kernel
theorem dK_undone_48 : decode cK_undone 48 = .ok (.iconst 0, 1) := by decide +kernel
theorem dK_undone_49 : decode cK_undone 49 = .ok (.istore 6, 2) := by decide +kernel
theorem dK_undone_51 : decode cK_undone 51 = .ok (.iload 6, 2) := by decide +kernel
theorem dK_undone_53 : decode cK_undone 53 = .ok (.aload_n 0, 1) := by decide +kernel
theorem dK_undone_54 : decode cK_undone 54 = .ok (.getfield 29, 3) := by decide +kernel
theorem dK_undone_57 : decode cK_undone 57 = .ok (.if_icmp .ge (40), 3) := by decide +kernel
theorem dK_undone_60 : decode cK_undone 60 = .ok (.aload_n 0, 1) := by decide +kernel
theorem dK_undone_61 : decode cK_undone 61 = .ok (.getfield 58, 3) := by decide +kernel
theorem dK_undone_64 : decode cK_undone 64 = .ok (.iload_n 2, 1) := by decide +kernel
theorem dK_undone_65 : decode cK_undone 65 = .ok (.aload_n 0, 1) := by decide +kernel
theorem dK_undone_66 : decode cK_undone 66 = .ok (.getfield 29, 3) := by decide +kernel
theorem dK_undone_69 : decode cK_undone 69 = .ok (.imul, 1) := by decide +kernel
theorem dK_undone_70 : decode cK_undone 70 = .ok (.iload 6, 2) := by decide +kernel
theorem dK_undone_72 : decode cK_undone 72 = .ok (.iadd, 1) := by decide +kernel
theorem dK_undone_73 : decode cK_undone 73 = .ok (.ldc2_w 168, 3) := by decide +kernel
theorem dK_undone_76 : decode cK_undone 76 = .ok (.aload_n 0, 1) := by decide +kernel
theorem dK_undone_77 : decode cK_undone 77 = .ok (.aload_n 0, 1) := by decide +kernel
theorem dK_undone_78 : decode cK_undone 78 = .ok (.getfield 45, 3) := by decide +kernel
theorem dK_undone_81 : decode cK_undone 81 = .ok (.iload_n 1, 1) := by decide +kernel
theorem dK_undone_82 : decode cK_undone 82 = .ok (.iaload, 1) := by decide +kernel
theorem dK_undone_83 : decode cK_undone 83 = .ok (.iload 6, 2) := by decide +kernel
theorem dK_undone_85 : decode cK_undone 85 = .ok (.invokevirtual 109, 3) := by decide +kernel
theorem dK_undone_88 : decode cK_undone 88 = .ok (.i2l, 1) := by decide +kernel
theorem dK_undone_89 : decode cK_undone 89 = .ok (.lmul, 1) := by decide +kernel
theorem dK_undone_90 : decode cK_undone 90 = .ok (.lastore, 1) := by decide +kernel
theorem dK_undone_91 : decode cK_undone 91 = .ok (.iinc 6 (1), 3) := by decide +kernel
theorem dK_undone_94 : decode cK_undone 94 = .ok (.goto (-43), 3) := by decide +kernel
theorem dK_undone_97 : decode cK_undone 97 = .ok (.aload_n 0, 1) := by decide +kernel
theorem dK_undone_98 : decode cK_undone 98 = .ok (.invokevirtual 160, 3) := by decide +kernel
theorem dK_undone_101 : decode cK_undone 101 = .ok (.lstore 6, 2) := by decide +kernel
theorem dK_undone_103 : decode cK_undone 103 = .ok (.lload 4, 2) := by decide +kernel
theorem dK_undone_105 : decode cK_undone 105 = .ok (.lconst 0, 1) := by decide +kernel
theorem dK_undone_106 : decode cK_undone 106 = .ok (.lcmp, 1) := by decide +kernel
theorem dK_undone_107 : decode cK_undone 107 = .ok (.ifCond .ge (16), 3) := by decide +kernel
theorem dK_undone_110 : decode cK_undone 110 = .ok (.lload 6, 2) := by decide +kernel
theorem dK_undone_112 : decode cK_undone 112 = .ok (.lneg, 1) := by decide +kernel
theorem dK_undone_113 : decode cK_undone 113 = .ok (.lload 4, 2) := by decide +kernel
theorem dK_undone_115 : decode cK_undone 115 = .ok (.lneg, 1) := by decide +kernel
theorem dK_undone_116 : decode cK_undone 116 = .ok (.iload_n 3, 1) := by decide +kernel
theorem dK_undone_117 : decode cK_undone 117 = .ok (.invokestatic 115, 3) := by decide +kernel
theorem dK_undone_120 : decode cK_undone 120 = .ok (.goto (11), 3) := by decide +kernel
theorem dK_undone_123 : decode cK_undone 123 = .ok (.lload 6, 2) := by decide +kernel
theorem dK_undone_125 : decode cK_undone 125 = .ok (.lload 4, 2) := by decide +kernel
theorem dK_undone_127 : decode cK_undone 127 = .ok (.iload_n 3, 1) := by decide +kernel
theorem dK_undone_128 : decode cK_undone 128 = .ok (.invokestatic 115, 3) := by decide +kernel
theorem dK_undone_131 : decode cK_undone 131 = .ok (.lreturn, 1) := by decide +kernel
set_option maxHeartbeats 4000000 in
set_option maxRecDepth 100000 in
theorem tK_undone_51 {p : Program} {l : Launch} {e : Env} {s : State} {m : MethodId} {args : Array Value} {below : List Frame} {meth : Method} {c : Code} {D : va_G} {A : Nat → Prop} {q : Nat → Nat} {k : kK} {cI cJ : ClassId} {r : Int64} {σ' : sK} {fu : Nat} (C0 : Cx p s m args meth c cK_undone 8 (some .long) RK TK) (hK : va_K D cl0 [(cI, .int), (cJ, .long)] s) (hA : ∀ z, s.heap.size ≤ z → A z) : ∀ n : Nat, ∀ (σ : sK) (x1 : Int32) (x2 : Int32) (x3 : Int32) (x4 : Int64) (x6 : Int32)(H : Heap) (locs : List Loc) (ls : Array Slot), fK_undone_51 fu k n σ x1 x2 x3 x4 x6 = some (r, σ') → lv_has ls 8 [(0, .ref (q 0)), (1, .int x1), (2, .int x2), (3, .int x3), (4, .long x4), (6, .int x6)] → va_P D cl0 (wdK q k cI cJ σ) H → va_D A (wdK q k cI cJ σ) → va_S A s.heap H locs → W p l e ({ frames := 3, cells := 0, slots := 0, locals := 78 }) s m args below meth c H locs 0 0 (MQ below (kQl D cl0 [(cI, .int), (cJ, .long)] (wdK q k cI cJ) A r σ') args s 0 0 A) (F0 m 51 ls []) := by
  obtain ⟨hx, hb, hr, hml, hown, hts, hlocks⟩ := id C0
  intro n
  induction n with
  | zero =>
    intro σ x1 x2 x3 x4 x6 H locs ls hf hl hP hD hS
    cases hf
  | succ n ih =>
    intro σ x1 x2 x3 x4 x6 H locs ls hf hl hP hD hS
    rw [fK_undone_51] at hf
    refine lv_iload hx hb dK_undone_51 (lv_at hl 5 rfl) ?_
    refine lv_aload_n hx hb dK_undone_53 rfl (lv_at hl 0 rfl) ?_
    refine gK_ages hx hb hown hts hK hP dK_undone_54 ?_
    refine lv_icmp_ge (tgt := 97) hx hb dK_undone_57 (by decide) (fun c57 => ?_) (fun c57 => ?_)
    · have hf := (if_pos c57).symm.trans hf
      refine lv_aload_n hx hb dK_undone_97 rfl (lv_at hl 0 rfl) ?_
      obtain ⟨v98, s98, es98, hf⟩ := kb2 hf
      refine kr_callVl (av := []) ⟨hx, hb, hml, hown, hts⟩ (mK_determinant l D q k cI cJ _ fu σ s98 v98 es98) (cwV 0 hts (kgood_V TK_good (by decide +kernel)) rfl rfl rfl (by decide +kernel) ⟨Nat.le_of_ble_eq_true rfl, Nat.le_of_ble_eq_true rfl⟩) hK hP hD hS hA (ci := 0) (q0 := 0) rfl rfl rfl hl.1 rfl (Nat.le_of_ble_eq_true rfl) dK_undone_98 ⟨Nat.le_of_ble_eq_true rfl, Nat.le_of_ble_eq_true rfl⟩ (fun H locs hP hD hS => ?_)
      refine lv_lstore (lv' := [(6, .long v98), (0, .ref (q 0)), (1, .int x1), (2, .int x2), (3, .int x3), (4, .long x4)]) hx hb dK_undone_101 hl (by decide) rfl (fun ls hl => ?_)
      refine lv_lload hx hb dK_undone_103 (lv_at hl 5 rfl) ?_
      refine lv_lconst (v := 0) hx hb dK_undone_105 (by decide) ?_
      refine W.lcmp hx hb dK_undone_106 ?_
      refine lv_if_ge (tgt := 123) hx hb dK_undone_107 (by decide) (fun c106 => ?_) (fun c106 => ?_)
      · rw [lg_cmp_ge] at c106
        have hf := (if_pos c106).symm.trans hf
        refine lv_lload hx hb dK_undone_123 (lv_at hl 0 rfl) ?_
        refine lv_lload hx hb dK_undone_125 (lv_at hl 5 rfl) ?_
        refine lv_iload_n hx hb dK_undone_127 rfl (lv_at hl 4 rfl) ?_
        obtain ⟨v128, ev128, hf⟩ := kb1 hf
        refine kr_callSl (av := [.long v98, .long x4, .int x3]) ⟨hx, hb, hml, hown, hts⟩ (mK_fractionPart l D _ (wdK q k cI cJ) [(cI, .int), (cJ, .long)] cl0 _ fu s98 v98 x4 x3 v128 ev128) (cwS 3 hts (kgood_S TK_good (by decide +kernel)) rfl rfl rfl (by decide +kernel) ⟨Nat.le_of_ble_eq_true rfl, Nat.le_of_ble_eq_true rfl⟩) hK hP hD hS hA rfl hl.1 rfl (Nat.le_of_ble_eq_true rfl) dK_undone_128 ⟨Nat.le_of_ble_eq_true rfl, Nat.le_of_ble_eq_true rfl⟩ (fun H locs hP hD hS => ?_)
        exact kr_lret C0 hK hP hD hS (congrArg Prod.fst (Option.some.inj hf)) (congrArg Prod.snd (Option.some.inj hf)) dK_undone_131
      · rw [lg_cmp_ge] at c106
        have hf := (if_neg c106).symm.trans hf
        refine lv_lload hx hb dK_undone_110 (lv_at hl 0 rfl) ?_
        refine lv_lneg hx hb dK_undone_112 ?_
        refine lv_lload hx hb dK_undone_113 (lv_at hl 5 rfl) ?_
        refine lv_lneg hx hb dK_undone_115 ?_
        refine lv_iload_n hx hb dK_undone_116 rfl (lv_at hl 4 rfl) ?_
        obtain ⟨v117, ev117, hf⟩ := kb1 hf
        refine kr_callSl (av := [.long (-v98), .long (-x4), .int x3]) ⟨hx, hb, hml, hown, hts⟩ (mK_fractionPart l D _ (wdK q k cI cJ) [(cI, .int), (cJ, .long)] cl0 _ fu s98 (-v98) (-x4) x3 v117 ev117) (cwS 3 hts (kgood_S TK_good (by decide +kernel)) rfl rfl rfl (by decide +kernel) ⟨Nat.le_of_ble_eq_true rfl, Nat.le_of_ble_eq_true rfl⟩) hK hP hD hS hA rfl hl.1 rfl (Nat.le_of_ble_eq_true rfl) dK_undone_117 ⟨Nat.le_of_ble_eq_true rfl, Nat.le_of_ble_eq_true rfl⟩ (fun H locs hP hD hS => ?_)
        refine lv_goto (tgt := 131) hx hb dK_undone_120 (by decide) ?_
        exact kr_lret C0 hK hP hD hS (congrArg Prod.fst (Option.some.inj hf)) (congrArg Prod.snd (Option.some.inj hf)) dK_undone_131
    · have hf := (if_neg c57).symm.trans hf
      refine lv_aload_n hx hb dK_undone_60 rfl (lv_at hl 0 rfl) ?_
      refine gK_square hx hb hown hts hK hP dK_undone_61 ?_
      refine lv_iload_n hx hb dK_undone_64 rfl (lv_at hl 2 rfl) ?_
      refine lv_aload_n hx hb dK_undone_65 rfl (lv_at hl 0 rfl) ?_
      refine gK_ages hx hb hown hts hK hP dK_undone_66 ?_
      refine lv_imul hx hb dK_undone_69 ?_
      refine lv_iload hx hb dK_undone_70 (lv_at hl 5 rfl) ?_
      refine lv_iadd hx hb dK_undone_72 ?_
      refine lv_ldc2 (v := 20) hx hb hown (hts (.constantLong RK 168 (20)) (by decide +kernel)) dK_undone_73 ?_
      refine lv_aload_n hx hb dK_undone_76 rfl (lv_at hl 0 rfl) ?_
      refine lv_aload_n hx hb dK_undone_77 rfl (lv_at hl 0 rfl) ?_
      refine gK_groupOf hx hb hown hts hK hP dK_undone_78 ?_
      refine lv_iload_n hx hb dK_undone_81 rfl (lv_at hl 1 rfl) ?_
      obtain ⟨v82, ev82, hf⟩ := kb1 hf
      refine kr_iaload hx hb hK hP 5 0 rfl rfl ev82 dK_undone_82 ?_
      refine lv_iload hx hb dK_undone_83 (lv_at hl 5 rfl) ?_
      obtain ⟨v85, ev85, hf⟩ := kb1 hf
      refine kr_callVi (av := [.int v82, .int x6]) ⟨hx, hb, hml, hown, hts⟩ (mK_ownOfAge l D q k cI cJ _ σ v82 x6 v85 ev85) (cwV 2 hts (kgood_V TK_good (by decide +kernel)) rfl rfl rfl (by decide +kernel) ⟨Nat.le_of_ble_eq_true rfl, Nat.le_of_ble_eq_true rfl⟩) hK hP hD hS hA (ci := 0) (q0 := 0) rfl rfl rfl hl.1 rfl (Nat.le_of_ble_eq_true rfl) dK_undone_85 ⟨Nat.le_of_ble_eq_true rfl, Nat.le_of_ble_eq_true rfl⟩ (fun H locs hP hD hS => ?_)
      refine lv_i2l (v := v85.toInt64) hx hb dK_undone_88 rfl ?_
      refine lv_lmul hx hb dK_undone_89 ?_
      obtain ⟨a90, ea90, hf⟩ := kb1 hf
      refine kr_lastore (σ' := (uK_square σ a90)) hx hb hK hP hD hS 9 1 rfl rfl ea90 rfl dK_undone_90 (fun H locs hP hD hS => ?_)
      generalize (uK_square σ a90) = s90 at hf hP hD
      refine lv_iinc (v := (x6 + 1)) (lv' := [(6, .int (x6 + 1)), (0, .ref (q 0)), (1, .int x1), (2, .int x2), (3, .int x3), (4, .long x4)]) hx hb dK_undone_91 hl (k := 5) rfl rfl (by decide) rfl (fun ls hl => ?_)
      refine lv_goto (tgt := 51) hx hb dK_undone_94 (by decide) ?_
      exact ih s90 x1 x2 x3 x4 (x6 + 1) _ _ ls hf (lv_sub hl [1, 2, 3, 4, 5, 0] rfl) hP hD hS
set_option maxHeartbeats 4000000 in
set_option maxRecDepth 100000 in
theorem mK_undone (l : Launch) (D : va_G) (q : Nat → Nat) (k : kK) (cI cJ : ClassId) (sz : Nat) (fu : Nat) (σ : sK) (σ' : sK) (x1 : Int32) (x2 : Int32) (x3 : Int32) (r : Int64) (hf : fK_undone fu k σ x1 x2 x3 = some (r, σ')) : Met l yK_undone (.code yK_undone cK_undone 8 (some .long) :: TK) ({ frames := 3, cells := 0, slots := 0, locals := 78 }) (kPre D cl0 [(cI, .int), (cJ, .long)] (wdK q k cI cJ) sz σ [.ref (q 0), .int x1, .int x2, .int x3]) (kQl D cl0 [(cI, .int), (cJ, .long)] (wdK q k cI cJ) (va_A (wdK q k cI cJ σ) sz) r σ') 0 0 (va_A (wdK q k cI cJ σ) sz) := by
  refine kr_start (own := RK) (by decide) rfl (Nat.le_of_ble_eq_true rfl) ?_
  intro p e s m args below meth c ls C0 hsz hK hP hD hl
  subst hsz
  obtain ⟨hx, hb, hr, hml, hown, hts, hlocks⟩ := id C0
  have hA : ∀ z : Nat, s.heap.size ≤ z → va_A (wdK q k cI cJ σ) s.heap.size z := fun z h => Or.inr h
  generalize va_A (wdK q k cI cJ σ) s.heap.size = A at hD hA ⊢
  have hS : va_S A s.heap s.heap [] := va_S.rf
  have hl : lv_has ls 8 [(0, .ref (q 0)), (1, .int x1), (2, .int x2), (3, .int x3)] := hl
  unfold fK_undone at hf
  refine lv_aload_n hx hb dK_undone_0 rfl (lv_at hl 0 rfl) ?_
  refine lv_iload_n hx hb dK_undone_1 rfl (lv_at hl 1 rfl) ?_
  refine kr_callVi (av := [.int x1]) ⟨hx, hb, hml, hown, hts⟩ (mK_isClass l D q k cI cJ _ σ x1 _ rfl) (cwV 1 hts (kgood_V TK_good (by decide +kernel)) rfl rfl rfl (by decide +kernel) ⟨Nat.le_of_ble_eq_true rfl, Nat.le_of_ble_eq_true rfl⟩) hK hP hD hS hA (ci := 0) (q0 := 0) rfl rfl rfl hl.1 rfl (Nat.le_of_ble_eq_true rfl) dK_undone_2 ⟨Nat.le_of_ble_eq_true rfl, Nat.le_of_ble_eq_true rfl⟩ (fun H locs hP hD hS => ?_)
  refine lv_if_eq (tgt := 30) hx hb dK_undone_5 (by decide) (fun c5 => ?_) (fun c5 => ?_)
  · have hf := (if_pos c5).symm.trans hf
    refine lv_ldc2 (v := -1) hx hb hown (hts (.constantLong RK 103 (-1)) (by decide +kernel)) dK_undone_30 ?_
    exact kr_lret C0 hK hP hD hS (congrArg Prod.fst (Option.some.inj hf)) (congrArg Prod.snd (Option.some.inj hf)) dK_undone_33
  · have hf := (if_neg c5).symm.trans hf
    refine lv_aload_n hx hb dK_undone_8 rfl (lv_at hl 0 rfl) ?_
    refine lv_iload_n hx hb dK_undone_9 rfl (lv_at hl 2 rfl) ?_
    refine kr_callVi (av := [.int x2]) ⟨hx, hb, hml, hown, hts⟩ (mK_isAge l D q k cI cJ _ σ x2 _ rfl) (cwV 1 hts (kgood_V TK_good (by decide +kernel)) rfl rfl rfl (by decide +kernel) ⟨Nat.le_of_ble_eq_true rfl, Nat.le_of_ble_eq_true rfl⟩) hK hP hD hS hA (ci := 0) (q0 := 0) rfl rfl rfl hl.1 rfl (Nat.le_of_ble_eq_true rfl) dK_undone_10 ⟨Nat.le_of_ble_eq_true rfl, Nat.le_of_ble_eq_true rfl⟩ (fun H locs hP hD hS => ?_)
    refine lv_if_eq (tgt := 30) hx hb dK_undone_13 (by decide) (fun c13 => ?_) (fun c13 => ?_)
    · have hf := (if_pos c13).symm.trans hf
      refine lv_ldc2 (v := -1) hx hb hown (hts (.constantLong RK 103 (-1)) (by decide +kernel)) dK_undone_30 ?_
      exact kr_lret C0 hK hP hD hS (congrArg Prod.fst (Option.some.inj hf)) (congrArg Prod.snd (Option.some.inj hf)) dK_undone_33
    · have hf := (if_neg c13).symm.trans hf
      refine lv_iload_n hx hb dK_undone_16 rfl (lv_at hl 3 rfl) ?_
      refine kr_callSi (av := [.int x3]) ⟨hx, hb, hml, hown, hts⟩ (mK_isZeroOrOne l D _ (wdK q k cI cJ) [(cI, .int), (cJ, .long)] cl0 _ σ x3 _ rfl) (cwS 1 hts (kgood_S TK_good (by decide +kernel)) rfl rfl rfl (by decide +kernel) ⟨Nat.le_of_ble_eq_true rfl, Nat.le_of_ble_eq_true rfl⟩) hK hP hD hS hA rfl hl.1 rfl (Nat.le_of_ble_eq_true rfl) dK_undone_17 ⟨Nat.le_of_ble_eq_true rfl, Nat.le_of_ble_eq_true rfl⟩ (fun H locs hP hD hS => ?_)
      refine lv_if_eq (tgt := 30) hx hb dK_undone_20 (by decide) (fun c20 => ?_) (fun c20 => ?_)
      · have hf := (if_pos c20).symm.trans hf
        refine lv_ldc2 (v := -1) hx hb hown (hts (.constantLong RK 103 (-1)) (by decide +kernel)) dK_undone_30 ?_
        exact kr_lret C0 hK hP hD hS (congrArg Prod.fst (Option.some.inj hf)) (congrArg Prod.snd (Option.some.inj hf)) dK_undone_33
      · have hf := (if_neg c20).symm.trans hf
        refine lv_aload_n hx hb dK_undone_23 rfl (lv_at hl 0 rfl) ?_
        obtain ⟨v24, s24, es24, hf⟩ := kb2 hf
        refine kr_callVi (av := []) ⟨hx, hb, hml, hown, hts⟩ (mK_undo l D q k cI cJ _ fu σ s24 v24 es24) (cwV 0 hts (kgood_V TK_good (by decide +kernel)) rfl rfl rfl (by decide +kernel) ⟨Nat.le_of_ble_eq_true rfl, Nat.le_of_ble_eq_true rfl⟩) hK hP hD hS hA (ci := 0) (q0 := 0) rfl rfl rfl hl.1 rfl (Nat.le_of_ble_eq_true rfl) dK_undone_24 ⟨Nat.le_of_ble_eq_true rfl, Nat.le_of_ble_eq_true rfl⟩ (fun H locs hP hD hS => ?_)
        refine lv_if_eq (tgt := 34) hx hb dK_undone_27 (by decide) (fun c27 => ?_) (fun c27 => ?_)
        · have hf := (if_pos c27).symm.trans hf
          refine lv_aload_n hx hb dK_undone_34 rfl (lv_at hl 0 rfl) ?_
          obtain ⟨s35, es35, hf⟩ := kb1 hf
          refine kr_callVv (av := []) ⟨hx, hb, hml, hown, hts⟩ (mK_loadErrors l D q k cI cJ _ fu s24 s35 es35) (cwV 0 hts (kgood_V TK_good (by decide +kernel)) rfl rfl rfl (by decide +kernel) ⟨Nat.le_of_ble_eq_true rfl, Nat.le_of_ble_eq_true rfl⟩) hK hP hD hS hA (ci := 0) (q0 := 0) rfl rfl rfl hl.1 rfl (Nat.le_of_ble_eq_true rfl) dK_undone_35 ⟨Nat.le_of_ble_eq_true rfl, Nat.le_of_ble_eq_true rfl⟩ (fun H locs hP hD hS => ?_)
          refine lv_aload_n hx hb dK_undone_38 rfl (lv_at hl 0 rfl) ?_
          obtain ⟨v39, s39, es39, hf⟩ := kb2 hf
          refine kr_callVl (av := []) ⟨hx, hb, hml, hown, hts⟩ (mK_determinant l D q k cI cJ _ fu s35 s39 v39 es39) (cwV 0 hts (kgood_V TK_good (by decide +kernel)) rfl rfl rfl (by decide +kernel) ⟨Nat.le_of_ble_eq_true rfl, Nat.le_of_ble_eq_true rfl⟩) hK hP hD hS hA (ci := 0) (q0 := 0) rfl rfl rfl hl.1 rfl (Nat.le_of_ble_eq_true rfl) dK_undone_39 ⟨Nat.le_of_ble_eq_true rfl, Nat.le_of_ble_eq_true rfl⟩ (fun H locs hP hD hS => ?_)
          refine lv_lstore (lv' := [(4, .long v39), (0, .ref (q 0)), (1, .int x1), (2, .int x2), (3, .int x3)]) hx hb dK_undone_42 hl (by decide) rfl (fun ls hl => ?_)
          refine lv_aload_n hx hb dK_undone_44 rfl (lv_at hl 1 rfl) ?_
          obtain ⟨s45, es45, hf⟩ := kb1 hf
          refine kr_callVv (av := []) ⟨hx, hb, hml, hown, hts⟩ (mK_loadErrors l D q k cI cJ _ fu s39 s45 es45) (cwV 0 hts (kgood_V TK_good (by decide +kernel)) rfl rfl rfl (by decide +kernel) ⟨Nat.le_of_ble_eq_true rfl, Nat.le_of_ble_eq_true rfl⟩) hK hP hD hS hA (ci := 0) (q0 := 0) rfl rfl rfl hl.1 rfl (Nat.le_of_ble_eq_true rfl) dK_undone_45 ⟨Nat.le_of_ble_eq_true rfl, Nat.le_of_ble_eq_true rfl⟩ (fun H locs hP hD hS => ?_)
          refine lv_iconst (v := 0) hx hb dK_undone_48 (by decide) ?_
          refine lv_istore (lv' := [(6, .int 0), (4, .long v39), (0, .ref (q 0)), (1, .int x1), (2, .int x2), (3, .int x3)]) hx hb dK_undone_49 hl (by decide) rfl (fun ls hl => ?_)
          exact tK_undone_51 C0 hK hA fu s45 x1 x2 x3 v39 0 _ _ ls hf (lv_sub hl [2, 3, 4, 5, 1, 0] rfl) hP hD hS
        · have hf := (if_neg c27).symm.trans hf
          refine lv_ldc2 (v := -1) hx hb hown (hts (.constantLong RK 103 (-1)) (by decide +kernel)) dK_undone_30 ?_
          exact kr_lret C0 hK hP hD hS (congrArg Prod.fst (Option.some.inj hf)) (congrArg Prod.snd (Option.some.inj hf)) dK_undone_33
theorem dK_apart_0 : decode cK_apart 0 = .ok (.iload_n 1, 1) := by decide +kernel
theorem dK_apart_1 : decode cK_apart 1 = .ok (.invokestatic 86, 3) := by decide +kernel
theorem dK_apart_4 : decode cK_apart 4 = .ok (.ifCond .eq (17), 3) := by decide +kernel
theorem dK_apart_7 : decode cK_apart 7 = .ok (.iload_n 2, 1) := by decide +kernel
theorem dK_apart_8 : decode cK_apart 8 = .ok (.invokestatic 86, 3) := by decide +kernel
theorem dK_apart_11 : decode cK_apart 11 = .ok (.ifCond .eq (10), 3) := by decide +kernel
theorem dK_apart_14 : decode cK_apart 14 = .ok (.iload_n 3, 1) := by decide +kernel
theorem dK_apart_15 : decode cK_apart 15 = .ok (.invokestatic 100, 3) := by decide +kernel
theorem dK_apart_18 : decode cK_apart 18 = .ok (.ifCond .ne (7), 3) := by decide +kernel
theorem dK_apart_21 : decode cK_apart 21 = .ok (.ldc2_w 103, 3) := by decide +kernel
theorem dK_apart_24 : decode cK_apart 24 = .ok (.lreturn, 1) := by decide +kernel
theorem dK_apart_25 : decode cK_apart 25 = .ok (.aload_n 0, 1) := by decide +kernel
theorem dK_apart_26 : decode cK_apart 26 = .ok (.getfield 36, 3) := by decide +kernel
theorem dK_apart_29 : decode cK_apart 29 = .ok (.iload_n 1, 1) := by decide +kernel
theorem dK_apart_30 : decode cK_apart 30 = .ok (.iaload, 1) := by decide +kernel
theorem dK_apart_31 : decode cK_apart 31 = .ok (.istore 4, 2) := by decide +kernel
theorem dK_apart_33 : decode cK_apart 33 = .ok (.aload_n 0, 1) := by decide +kernel
theorem dK_apart_34 : decode cK_apart 34 = .ok (.getfield 36, 3) := by decide +kernel
theorem dK_apart_37 : decode cK_apart 37 = .ok (.iload_n 2, 1) := by decide +kernel
theorem dK_apart_38 : decode cK_apart 38 = .ok (.iaload, 1) := by decide +kernel
theorem dK_apart_39 : decode cK_apart 39 = .ok (.istore 5, 2) := by decide +kernel
theorem dK_apart_41 : decode cK_apart 41 = .ok (.iload 4, 2) := by decide +kernel
theorem dK_apart_43 : decode cK_apart 43 = .ok (.ifCond .eq (8), 3) := by decide +kernel
theorem dK_apart_46 : decode cK_apart 46 = .ok (.iload 5, 2) := by decide +kernel
theorem dK_apart_48 : decode cK_apart 48 = .ok (.ifCond .ne (7), 3) := by decide +kernel
theorem dK_apart_51 : decode cK_apart 51 = .ok (.ldc2_w 103, 3) := by decide +kernel
theorem dK_apart_54 : decode cK_apart 54 = .ok (.lreturn, 1) := by decide +kernel
theorem dK_apart_55 : decode cK_apart 55 = .ok (.iconst 0, 1) := by decide +kernel
theorem dK_apart_56 : decode cK_apart 56 = .ok (.istore 6, 2) := by decide +kernel
theorem dK_apart_58 : decode cK_apart 58 = .ok (.iconst 0, 1) := by decide +kernel
theorem dK_apart_59 : decode cK_apart 59 = .ok (.istore 7, 2) := by decide +kernel
theorem dK_apart_61 : decode cK_apart 61 = .ok (.iload 7, 2) := by decide +kernel
theorem dK_apart_63 : decode cK_apart 63 = .ok (.aload_n 0, 1) := by decide +kernel
theorem dK_apart_64 : decode cK_apart 64 = .ok (.getfield 26, 3) := by decide +kernel
theorem dK_apart_67 : decode cK_apart 67 = .ok (.if_icmp .ge (70), 3) := by decide +kernel
theorem dK_apart_70 : decode cK_apart 70 = .ok (.iconst 0, 1) := by decide +kernel
theorem dK_apart_71 : decode cK_apart 71 = .ok (.istore 8, 2) := by decide +kernel
theorem dK_apart_73 : decode cK_apart 73 = .ok (.iload 8, 2) := by decide +kernel
theorem dK_apart_75 : decode cK_apart 75 = .ok (.aload_n 0, 1) := by decide +kernel
theorem dK_apart_76 : decode cK_apart 76 = .ok (.getfield 29, 3) := by decide +kernel
theorem dK_apart_79 : decode cK_apart 79 = .ok (.if_icmp .ge (52), 3) := by decide +kernel
theorem dK_apart_82 : decode cK_apart 82 = .ok (.iload 6, 2) := by decide +kernel
theorem dK_apart_84 : decode cK_apart 84 = .ok (.aload_n 0, 1) := by decide +kernel
theorem dK_apart_85 : decode cK_apart 85 = .ok (.getfield 32, 3) := by decide +kernel
theorem dK_apart_88 : decode cK_apart 88 = .ok (.aload_n 0, 1) := by decide +kernel
theorem dK_apart_89 : decode cK_apart 89 = .ok (.iload_n 1, 1) := by decide +kernel
theorem dK_apart_90 : decode cK_apart 90 = .ok (.iload 7, 2) := by decide +kernel
theorem dK_apart_92 : decode cK_apart 92 = .ok (.iload 8, 2) := by decide +kernel
theorem dK_apart_94 : decode cK_apart 94 = .ok (.invokevirtual 96, 3) := by decide +kernel
theorem dK_apart_97 : decode cK_apart 97 = .ok (.iaload, 1) := by decide +kernel
theorem dK_apart_98 : decode cK_apart 98 = .ok (.iload 5, 2) := by decide +kernel
theorem dK_apart_100 : decode cK_apart 100 = .ok (.imul, 1) := by decide +kernel
theorem dK_apart_101 : decode cK_apart 101 = .ok (.aload_n 0, 1) := by decide +kernel
theorem dK_apart_102 : decode cK_apart 102 = .ok (.getfield 32, 3) := by decide +kernel
theorem dK_apart_105 : decode cK_apart 105 = .ok (.aload_n 0, 1) := by decide +kernel
theorem dK_apart_106 : decode cK_apart 106 = .ok (.iload_n 2, 1) := by decide +kernel
theorem dK_apart_107 : decode cK_apart 107 = .ok (.iload 7, 2) := by decide +kernel
theorem dK_apart_109 : decode cK_apart 109 = .ok (.iload 8, 2) := by decide +kernel
theorem dK_apart_111 : decode cK_apart 111 = .ok (.invokevirtual 96, 3) := by decide +kernel
theorem dK_apart_114 : decode cK_apart 114 = .ok (.iaload, 1) := by decide +kernel
theorem dK_apart_115 : decode cK_apart 115 = .ok (.iload 4, 2) := by decide +kernel
theorem dK_apart_117 : decode cK_apart 117 = .ok (.imul, 1) := by decide +kernel
theorem dK_apart_118 : decode cK_apart 118 = .ok (.isub, 1) := by decide +kernel
theorem dK_apart_119 : decode cK_apart 119 = .ok (.invokestatic 135, 3) := by decide +kernel
theorem dK_apart_122 : decode cK_apart 122 = .ok (.iadd, 1) := by decide +kernel
theorem dK_apart_123 : decode cK_apart 123 = .ok (.istore 6, 2) := by decide +kernel
theorem dK_apart_125 : decode cK_apart 125 = .ok (.iinc 8 (1), 3) := by decide +kernel
theorem dK_apart_128 : decode cK_apart 128 = .ok (.goto (-55), 3) := by decide +kernel
theorem dK_apart_131 : decode cK_apart 131 = .ok (.iinc 7 (1), 3) := by decide +kernel
theorem dK_apart_134 : decode cK_apart 134 = .ok (.goto (-73), 3) := by decide +kernel
theorem dK_apart_137 : decode cK_apart 137 = .ok (.iload 6, 2) := by decide +kernel
theorem dK_apart_139 : decode cK_apart 139 = .ok (.i2l, 1) := by decide +kernel
theorem dK_apart_140 : decode cK_apart 140 = .ok (.iload 4, 2) := by decide +kernel
theorem dK_apart_142 : decode cK_apart 142 = .ok (.iload 5, 2) := by decide +kernel
theorem dK_apart_144 : decode cK_apart 144 = .ok (.imul, 1) := by decide +kernel
theorem dK_apart_145 : decode cK_apart 145 = .ok (.i2l, 1) := by decide +kernel
theorem dK_apart_146 : decode cK_apart 146 = .ok (.iload_n 3, 1) := by decide +kernel
theorem dK_apart_147 : decode cK_apart 147 = .ok (.invokestatic 115, 3) := by decide +kernel
theorem dK_apart_150 : decode cK_apart 150 = .ok (.lreturn, 1) := by decide +kernel
set_option maxHeartbeats 4000000 in
set_option maxRecDepth 100000 in
theorem tK_apart_73 {p : Program} {l : Launch} {e : Env} {s : State} {m : MethodId} {args : Array Value} {below : List Frame} {meth : Method} {c : Code} {D : va_G} {A : Nat → Prop} {q : Nat → Nat} {k : kK} {cI cJ : ClassId} {r : Int64} {σ : sK} {fu : Nat} {h61 : Int32 → Int32 → Int32 → Int32 → Int32 → Int32 → Int32 → Option Int64} (C0 : Cx p s m args meth c cK_apart 9 (some .long) RK TK) (hK : va_K D cl0 [(cI, .int), (cJ, .long)] s) (hA : ∀ z, s.heap.size ≤ z → A z) (ih61 : ∀ (x1 : Int32) (x2 : Int32) (x3 : Int32) (x4 : Int32) (x5 : Int32) (x6 : Int32) (x7 : Int32)(H : Heap) (locs : List Loc) (ls : Array Slot), h61 x1 x2 x3 x4 x5 x6 x7 = some r → lv_has ls 9 [(0, .ref (q 0)), (1, .int x1), (2, .int x2), (3, .int x3), (4, .int x4), (5, .int x5), (6, .int x6), (7, .int x7)] → va_P D cl0 (wdK q k cI cJ σ) H → va_D A (wdK q k cI cJ σ) → va_S A s.heap H locs → W p l e ({ frames := 2, cells := 0, slots := 0, locals := 56 }) s m args below meth c H locs 0 0 (MQ below (kQl D cl0 [(cI, .int), (cJ, .long)] (wdK q k cI cJ) A r σ) args s 0 0 A) (F0 m 61 ls [])) : ∀ n : Nat, ∀ (x1 : Int32) (x2 : Int32) (x3 : Int32) (x4 : Int32) (x5 : Int32) (x6 : Int32) (x7 : Int32) (x8 : Int32)(H : Heap) (locs : List Loc) (ls : Array Slot), fK_apart_73 fu k σ h61 n x1 x2 x3 x4 x5 x6 x7 x8 = some r → lv_has ls 9 [(0, .ref (q 0)), (1, .int x1), (2, .int x2), (3, .int x3), (4, .int x4), (5, .int x5), (6, .int x6), (7, .int x7), (8, .int x8)] → va_P D cl0 (wdK q k cI cJ σ) H → va_D A (wdK q k cI cJ σ) → va_S A s.heap H locs → W p l e ({ frames := 2, cells := 0, slots := 0, locals := 56 }) s m args below meth c H locs 0 0 (MQ below (kQl D cl0 [(cI, .int), (cJ, .long)] (wdK q k cI cJ) A r σ) args s 0 0 A) (F0 m 73 ls []) := by
  obtain ⟨hx, hb, hr, hml, hown, hts, hlocks⟩ := id C0
  intro n
  induction n with
  | zero =>
    intro x1 x2 x3 x4 x5 x6 x7 x8 H locs ls hf hl hP hD hS
    cases hf
  | succ n ih =>
    intro x1 x2 x3 x4 x5 x6 x7 x8 H locs ls hf hl hP hD hS
    rw [fK_apart_73] at hf
    refine lv_iload hx hb dK_apart_73 (lv_at hl 8 rfl) ?_
    refine lv_aload_n hx hb dK_apart_75 rfl (lv_at hl 0 rfl) ?_
    refine gK_ages hx hb hown hts hK hP dK_apart_76 ?_
    refine lv_icmp_ge (tgt := 131) hx hb dK_apart_79 (by decide) (fun c79 => ?_) (fun c79 => ?_)
    · have hf := (if_pos c79).symm.trans hf
      refine lv_iinc (v := (x7 + 1)) (lv' := [(7, .int (x7 + 1)), (0, .ref (q 0)), (1, .int x1), (2, .int x2), (3, .int x3), (4, .int x4), (5, .int x5), (6, .int x6), (8, .int x8)]) hx hb dK_apart_131 hl (k := 7) rfl rfl (by decide) rfl (fun ls hl => ?_)
      refine lv_goto (tgt := 61) hx hb dK_apart_134 (by decide) ?_
      exact ih61 x1 x2 x3 x4 x5 x6 (x7 + 1) _ _ ls hf (lv_sub hl [1, 2, 3, 4, 5, 6, 7, 0] rfl) hP hD hS
    · have hf := (if_neg c79).symm.trans hf
      refine lv_iload hx hb dK_apart_82 (lv_at hl 6 rfl) ?_
      refine lv_aload_n hx hb dK_apart_84 rfl (lv_at hl 0 rfl) ?_
      refine gK_readings hx hb hown hts hK hP dK_apart_85 ?_
      refine lv_aload_n hx hb dK_apart_88 rfl (lv_at hl 0 rfl) ?_
      refine lv_iload_n hx hb dK_apart_89 rfl (lv_at hl 1 rfl) ?_
      refine lv_iload hx hb dK_apart_90 (lv_at hl 7 rfl) ?_
      refine lv_iload hx hb dK_apart_92 (lv_at hl 8 rfl) ?_
      refine kr_callVi (av := [.int x1, .int x7, .int x8]) ⟨hx, hb, hml, hown, hts⟩ (mK_cell l D q k cI cJ _ σ x1 x7 x8 _ rfl) (cwV 3 hts (kgood_V TK_good (by decide +kernel)) rfl rfl rfl (by decide +kernel) ⟨Nat.le_of_ble_eq_true rfl, Nat.le_of_ble_eq_true rfl⟩) hK hP hD hS hA (ci := 0) (q0 := 0) rfl rfl rfl hl.1 rfl (Nat.le_of_ble_eq_true rfl) dK_apart_94 ⟨Nat.le_of_ble_eq_true rfl, Nat.le_of_ble_eq_true rfl⟩ (fun H locs hP hD hS => ?_)
      obtain ⟨v97, ev97, hf⟩ := kb1 hf
      refine kr_iaload hx hb hK hP 1 0 rfl rfl ev97 dK_apart_97 ?_
      refine lv_iload hx hb dK_apart_98 (lv_at hl 5 rfl) ?_
      refine lv_imul hx hb dK_apart_100 ?_
      refine lv_aload_n hx hb dK_apart_101 rfl (lv_at hl 0 rfl) ?_
      refine gK_readings hx hb hown hts hK hP dK_apart_102 ?_
      refine lv_aload_n hx hb dK_apart_105 rfl (lv_at hl 0 rfl) ?_
      refine lv_iload_n hx hb dK_apart_106 rfl (lv_at hl 2 rfl) ?_
      refine lv_iload hx hb dK_apart_107 (lv_at hl 7 rfl) ?_
      refine lv_iload hx hb dK_apart_109 (lv_at hl 8 rfl) ?_
      refine kr_callVi (av := [.int x2, .int x7, .int x8]) ⟨hx, hb, hml, hown, hts⟩ (mK_cell l D q k cI cJ _ σ x2 x7 x8 _ rfl) (cwV 3 hts (kgood_V TK_good (by decide +kernel)) rfl rfl rfl (by decide +kernel) ⟨Nat.le_of_ble_eq_true rfl, Nat.le_of_ble_eq_true rfl⟩) hK hP hD hS hA (ci := 0) (q0 := 0) rfl rfl rfl hl.1 rfl (Nat.le_of_ble_eq_true rfl) dK_apart_111 ⟨Nat.le_of_ble_eq_true rfl, Nat.le_of_ble_eq_true rfl⟩ (fun H locs hP hD hS => ?_)
      obtain ⟨v114, ev114, hf⟩ := kb1 hf
      refine kr_iaload hx hb hK hP 1 0 rfl rfl ev114 dK_apart_114 ?_
      refine lv_iload hx hb dK_apart_115 (lv_at hl 4 rfl) ?_
      refine lv_imul hx hb dK_apart_117 ?_
      refine lv_isub hx hb dK_apart_118 ?_
      refine va_mabs hx hb (hml.trans hl.1.symm) hown (hts (.methodLink RK 135 Lib.Math.abs.name) (by decide +kernel)) (hts (.static Lib.Math.abs.name) (by decide +kernel)) (hts (.initialized "java/lang/Math") (by decide +kernel)) (hts (.code Lib.Math.abs.name Lib.Math.abs.code 1 (some .int)) (by decide +kernel)) (Nat.le_of_ble_eq_true rfl) (Nat.le_of_ble_eq_true rfl) (Nat.le_of_ble_eq_true rfl) (Nat.le_of_ble_eq_true rfl) dK_apart_119 ?_
      refine lv_iadd hx hb dK_apart_122 ?_
      refine lv_istore (lv' := [(6, .int (x6 + (if 0 ≤ ((v97 * x5) - (v114 * x4)) then ((v97 * x5) - (v114 * x4)) else 0 - ((v97 * x5) - (v114 * x4))))), (0, .ref (q 0)), (1, .int x1), (2, .int x2), (3, .int x3), (4, .int x4), (5, .int x5), (7, .int x7), (8, .int x8)]) hx hb dK_apart_123 hl (by decide) rfl (fun ls hl => ?_)
      refine lv_iinc (v := (x8 + 1)) (lv' := [(8, .int (x8 + 1)), (6, .int (x6 + (if 0 ≤ ((v97 * x5) - (v114 * x4)) then ((v97 * x5) - (v114 * x4)) else 0 - ((v97 * x5) - (v114 * x4))))), (0, .ref (q 0)), (1, .int x1), (2, .int x2), (3, .int x3), (4, .int x4), (5, .int x5), (7, .int x7)]) hx hb dK_apart_125 hl (k := 8) rfl rfl (by decide) rfl (fun ls hl => ?_)
      refine lv_goto (tgt := 73) hx hb dK_apart_128 (by decide) ?_
      exact ih x1 x2 x3 x4 x5 (x6 + (if 0 ≤ ((v97 * x5) - (v114 * x4)) then ((v97 * x5) - (v114 * x4)) else 0 - ((v97 * x5) - (v114 * x4)))) x7 (x8 + 1) _ _ ls hf (lv_sub hl [2, 3, 4, 5, 6, 7, 1, 8, 0] rfl) hP hD hS
set_option maxHeartbeats 4000000 in
set_option maxRecDepth 100000 in
theorem tK_apart_61 {p : Program} {l : Launch} {e : Env} {s : State} {m : MethodId} {args : Array Value} {below : List Frame} {meth : Method} {c : Code} {D : va_G} {A : Nat → Prop} {q : Nat → Nat} {k : kK} {cI cJ : ClassId} {r : Int64} {σ : sK} {fu : Nat} (C0 : Cx p s m args meth c cK_apart 9 (some .long) RK TK) (hK : va_K D cl0 [(cI, .int), (cJ, .long)] s) (hA : ∀ z, s.heap.size ≤ z → A z) : ∀ n : Nat, ∀ (x1 : Int32) (x2 : Int32) (x3 : Int32) (x4 : Int32) (x5 : Int32) (x6 : Int32) (x7 : Int32)(H : Heap) (locs : List Loc) (ls : Array Slot), fK_apart_61 fu k σ n x1 x2 x3 x4 x5 x6 x7 = some r → lv_has ls 9 [(0, .ref (q 0)), (1, .int x1), (2, .int x2), (3, .int x3), (4, .int x4), (5, .int x5), (6, .int x6), (7, .int x7)] → va_P D cl0 (wdK q k cI cJ σ) H → va_D A (wdK q k cI cJ σ) → va_S A s.heap H locs → W p l e ({ frames := 2, cells := 0, slots := 0, locals := 56 }) s m args below meth c H locs 0 0 (MQ below (kQl D cl0 [(cI, .int), (cJ, .long)] (wdK q k cI cJ) A r σ) args s 0 0 A) (F0 m 61 ls []) := by
  obtain ⟨hx, hb, hr, hml, hown, hts, hlocks⟩ := id C0
  intro n
  induction n with
  | zero =>
    intro x1 x2 x3 x4 x5 x6 x7 H locs ls hf hl hP hD hS
    cases hf
  | succ n ih =>
    intro x1 x2 x3 x4 x5 x6 x7 H locs ls hf hl hP hD hS
    rw [fK_apart_61] at hf
    refine lv_iload hx hb dK_apart_61 (lv_at hl 7 rfl) ?_
    refine lv_aload_n hx hb dK_apart_63 rfl (lv_at hl 0 rfl) ?_
    refine gK_classes hx hb hown hts hK hP dK_apart_64 ?_
    refine lv_icmp_ge (tgt := 137) hx hb dK_apart_67 (by decide) (fun c67 => ?_) (fun c67 => ?_)
    · have hf := (if_pos c67).symm.trans hf
      refine lv_iload hx hb dK_apart_137 (lv_at hl 6 rfl) ?_
      refine lv_i2l (v := x6.toInt64) hx hb dK_apart_139 rfl ?_
      refine lv_iload hx hb dK_apart_140 (lv_at hl 4 rfl) ?_
      refine lv_iload hx hb dK_apart_142 (lv_at hl 5 rfl) ?_
      refine lv_imul hx hb dK_apart_144 ?_
      refine lv_i2l (v := (x4 * x5).toInt64) hx hb dK_apart_145 rfl ?_
      refine lv_iload_n hx hb dK_apart_146 rfl (lv_at hl 3 rfl) ?_
      obtain ⟨v147, ev147, hf⟩ := kb1 hf
      refine kr_callSl (av := [.long x6.toInt64, .long (x4 * x5).toInt64, .int x3]) ⟨hx, hb, hml, hown, hts⟩ (mK_fractionPart l D _ (wdK q k cI cJ) [(cI, .int), (cJ, .long)] cl0 _ fu σ x6.toInt64 ((x4 * x5).toInt64) x3 v147 ev147) (cwS 3 hts (kgood_S TK_good (by decide +kernel)) rfl rfl rfl (by decide +kernel) ⟨Nat.le_of_ble_eq_true rfl, Nat.le_of_ble_eq_true rfl⟩) hK hP hD hS hA rfl hl.1 rfl (Nat.le_of_ble_eq_true rfl) dK_apart_147 ⟨Nat.le_of_ble_eq_true rfl, Nat.le_of_ble_eq_true rfl⟩ (fun H locs hP hD hS => ?_)
      exact kr_lret C0 hK hP hD hS (Option.some.inj hf) rfl dK_apart_150
    · have hf := (if_neg c67).symm.trans hf
      refine lv_iconst (v := 0) hx hb dK_apart_70 (by decide) ?_
      refine lv_istore (lv' := [(8, .int 0), (0, .ref (q 0)), (1, .int x1), (2, .int x2), (3, .int x3), (4, .int x4), (5, .int x5), (6, .int x6), (7, .int x7)]) hx hb dK_apart_71 hl (by decide) rfl (fun ls hl => ?_)
      exact tK_apart_73 C0 hK hA ih fu x1 x2 x3 x4 x5 x6 x7 0 _ _ ls hf (lv_sub hl [1, 2, 3, 4, 5, 6, 7, 8, 0] rfl) hP hD hS
set_option maxHeartbeats 4000000 in
set_option maxRecDepth 100000 in
theorem mK_apart (l : Launch) (D : va_G) (q : Nat → Nat) (k : kK) (cI cJ : ClassId) (sz : Nat) (fu : Nat) (σ : sK) (x1 : Int32) (x2 : Int32) (x3 : Int32) (r : Int64) (hf : fK_apart fu k σ x1 x2 x3 = some r) : Met l yK_apart (.code yK_apart cK_apart 9 (some .long) :: TK) ({ frames := 2, cells := 0, slots := 0, locals := 56 }) (kPre D cl0 [(cI, .int), (cJ, .long)] (wdK q k cI cJ) sz σ [.ref (q 0), .int x1, .int x2, .int x3]) (kQl D cl0 [(cI, .int), (cJ, .long)] (wdK q k cI cJ) (va_A (wdK q k cI cJ σ) sz) r σ) 0 0 (va_A (wdK q k cI cJ σ) sz) := by
  refine kr_start (own := RK) (by decide) rfl (Nat.le_of_ble_eq_true rfl) ?_
  intro p e s m args below meth c ls C0 hsz hK hP hD hl
  subst hsz
  obtain ⟨hx, hb, hr, hml, hown, hts, hlocks⟩ := id C0
  have hA : ∀ z : Nat, s.heap.size ≤ z → va_A (wdK q k cI cJ σ) s.heap.size z := fun z h => Or.inr h
  generalize va_A (wdK q k cI cJ σ) s.heap.size = A at hD hA ⊢
  have hS : va_S A s.heap s.heap [] := va_S.rf
  have hl : lv_has ls 9 [(0, .ref (q 0)), (1, .int x1), (2, .int x2), (3, .int x3)] := hl
  unfold fK_apart at hf
  refine lv_iload_n hx hb dK_apart_0 rfl (lv_at hl 1 rfl) ?_
  refine kr_callSi (av := [.int x1]) ⟨hx, hb, hml, hown, hts⟩ (mK_isPlace l D _ (wdK q k cI cJ) [(cI, .int), (cJ, .long)] cl0 _ σ x1 _ rfl) (cwS 1 hts (kgood_S TK_good (by decide +kernel)) rfl rfl rfl (by decide +kernel) ⟨Nat.le_of_ble_eq_true rfl, Nat.le_of_ble_eq_true rfl⟩) hK hP hD hS hA rfl hl.1 rfl (Nat.le_of_ble_eq_true rfl) dK_apart_1 ⟨Nat.le_of_ble_eq_true rfl, Nat.le_of_ble_eq_true rfl⟩ (fun H locs hP hD hS => ?_)
  refine lv_if_eq (tgt := 21) hx hb dK_apart_4 (by decide) (fun c4 => ?_) (fun c4 => ?_)
  · have hf := (if_pos c4).symm.trans hf
    refine lv_ldc2 (v := -1) hx hb hown (hts (.constantLong RK 103 (-1)) (by decide +kernel)) dK_apart_21 ?_
    exact kr_lret C0 hK hP hD hS (Option.some.inj hf) rfl dK_apart_24
  · have hf := (if_neg c4).symm.trans hf
    refine lv_iload_n hx hb dK_apart_7 rfl (lv_at hl 2 rfl) ?_
    refine kr_callSi (av := [.int x2]) ⟨hx, hb, hml, hown, hts⟩ (mK_isPlace l D _ (wdK q k cI cJ) [(cI, .int), (cJ, .long)] cl0 _ σ x2 _ rfl) (cwS 1 hts (kgood_S TK_good (by decide +kernel)) rfl rfl rfl (by decide +kernel) ⟨Nat.le_of_ble_eq_true rfl, Nat.le_of_ble_eq_true rfl⟩) hK hP hD hS hA rfl hl.1 rfl (Nat.le_of_ble_eq_true rfl) dK_apart_8 ⟨Nat.le_of_ble_eq_true rfl, Nat.le_of_ble_eq_true rfl⟩ (fun H locs hP hD hS => ?_)
    refine lv_if_eq (tgt := 21) hx hb dK_apart_11 (by decide) (fun c11 => ?_) (fun c11 => ?_)
    · have hf := (if_pos c11).symm.trans hf
      refine lv_ldc2 (v := -1) hx hb hown (hts (.constantLong RK 103 (-1)) (by decide +kernel)) dK_apart_21 ?_
      exact kr_lret C0 hK hP hD hS (Option.some.inj hf) rfl dK_apart_24
    · have hf := (if_neg c11).symm.trans hf
      refine lv_iload_n hx hb dK_apart_14 rfl (lv_at hl 3 rfl) ?_
      refine kr_callSi (av := [.int x3]) ⟨hx, hb, hml, hown, hts⟩ (mK_isZeroOrOne l D _ (wdK q k cI cJ) [(cI, .int), (cJ, .long)] cl0 _ σ x3 _ rfl) (cwS 1 hts (kgood_S TK_good (by decide +kernel)) rfl rfl rfl (by decide +kernel) ⟨Nat.le_of_ble_eq_true rfl, Nat.le_of_ble_eq_true rfl⟩) hK hP hD hS hA rfl hl.1 rfl (Nat.le_of_ble_eq_true rfl) dK_apart_15 ⟨Nat.le_of_ble_eq_true rfl, Nat.le_of_ble_eq_true rfl⟩ (fun H locs hP hD hS => ?_)
      refine lv_if_ne (tgt := 25) hx hb dK_apart_18 (by decide) (fun c18 => ?_) (fun c18 => ?_)
      · have hf := (if_neg c18).symm.trans hf
        refine lv_aload_n hx hb dK_apart_25 rfl (lv_at hl 0 rfl) ?_
        refine gK_rowSize hx hb hown hts hK hP dK_apart_26 ?_
        refine lv_iload_n hx hb dK_apart_29 rfl (lv_at hl 1 rfl) ?_
        obtain ⟨v30, ev30, hf⟩ := kb1 hf
        refine kr_iaload hx hb hK hP 2 0 rfl rfl ev30 dK_apart_30 ?_
        refine lv_istore (lv' := [(4, .int v30), (0, .ref (q 0)), (1, .int x1), (2, .int x2), (3, .int x3)]) hx hb dK_apart_31 hl (by decide) rfl (fun ls hl => ?_)
        refine lv_aload_n hx hb dK_apart_33 rfl (lv_at hl 1 rfl) ?_
        refine gK_rowSize hx hb hown hts hK hP dK_apart_34 ?_
        refine lv_iload_n hx hb dK_apart_37 rfl (lv_at hl 3 rfl) ?_
        obtain ⟨v38, ev38, hf⟩ := kb1 hf
        refine kr_iaload hx hb hK hP 2 0 rfl rfl ev38 dK_apart_38 ?_
        refine lv_istore (lv' := [(5, .int v38), (4, .int v30), (0, .ref (q 0)), (1, .int x1), (2, .int x2), (3, .int x3)]) hx hb dK_apart_39 hl (by decide) rfl (fun ls hl => ?_)
        refine lv_iload hx hb dK_apart_41 (lv_at hl 1 rfl) ?_
        refine lv_if_eq (tgt := 51) hx hb dK_apart_43 (by decide) (fun c43 => ?_) (fun c43 => ?_)
        · have hf := (if_pos c43).symm.trans hf
          refine lv_ldc2 (v := -1) hx hb hown (hts (.constantLong RK 103 (-1)) (by decide +kernel)) dK_apart_51 ?_
          exact kr_lret C0 hK hP hD hS (Option.some.inj hf) rfl dK_apart_54
        · have hf := (if_neg c43).symm.trans hf
          refine lv_iload hx hb dK_apart_46 (lv_at hl 0 rfl) ?_
          refine lv_if_ne (tgt := 55) hx hb dK_apart_48 (by decide) (fun c48 => ?_) (fun c48 => ?_)
          · have hf := (if_neg c48).symm.trans hf
            refine lv_iconst (v := 0) hx hb dK_apart_55 (by decide) ?_
            refine lv_istore (lv' := [(6, .int 0), (5, .int v38), (4, .int v30), (0, .ref (q 0)), (1, .int x1), (2, .int x2), (3, .int x3)]) hx hb dK_apart_56 hl (by decide) rfl (fun ls hl => ?_)
            refine lv_iconst (v := 0) hx hb dK_apart_58 (by decide) ?_
            refine lv_istore (lv' := [(7, .int 0), (6, .int 0), (5, .int v38), (4, .int v30), (0, .ref (q 0)), (1, .int x1), (2, .int x2), (3, .int x3)]) hx hb dK_apart_59 hl (by decide) rfl (fun ls hl => ?_)
            exact tK_apart_61 C0 hK hA fu x1 x2 x3 v30 v38 0 0 _ _ ls hf (lv_sub hl [4, 5, 6, 7, 3, 2, 1, 0] rfl) hP hD hS
          · have hf := (if_pos c48).symm.trans hf
            refine lv_ldc2 (v := -1) hx hb hown (hts (.constantLong RK 103 (-1)) (by decide +kernel)) dK_apart_51 ?_
            exact kr_lret C0 hK hP hD hS (Option.some.inj hf) rfl dK_apart_54
      · have hf := (if_pos c18).symm.trans hf
        refine lv_ldc2 (v := -1) hx hb hown (hts (.constantLong RK 103 (-1)) (by decide +kernel)) dK_apart_21 ?_
        exact kr_lret C0 hK hP hD hS (Option.some.inj hf) rfl dK_apart_24
theorem dK_readingsOfAge_0 : decode cK_readingsOfAge 0 = .ok (.iconst 0, 1) := by decide +kernel
theorem dK_readingsOfAge_1 : decode cK_readingsOfAge 1 = .ok (.istore_n 2, 1) := by decide +kernel
theorem dK_readingsOfAge_2 : decode cK_readingsOfAge 2 = .ok (.iconst 0, 1) := by decide +kernel
theorem dK_readingsOfAge_3 : decode cK_readingsOfAge 3 = .ok (.istore_n 3, 1) := by decide +kernel
theorem dK_readingsOfAge_4 : decode cK_readingsOfAge 4 = .ok (.iload_n 3, 1) := by decide +kernel
theorem dK_readingsOfAge_5 : decode cK_readingsOfAge 5 = .ok (.aload_n 0, 1) := by decide +kernel
theorem dK_readingsOfAge_6 : decode cK_readingsOfAge 6 = .ok (.getfield 26, 3) := by decide +kernel
theorem dK_readingsOfAge_9 : decode cK_readingsOfAge 9 = .ok (.if_icmp .ge (27), 3) := by decide +kernel
theorem dK_readingsOfAge_12 : decode cK_readingsOfAge 12 = .ok (.iload_n 2, 1) := by decide +kernel
theorem dK_readingsOfAge_13 : decode cK_readingsOfAge 13 = .ok (.aload_n 0, 1) := by decide +kernel
theorem dK_readingsOfAge_14 : decode cK_readingsOfAge 14 = .ok (.getfield 32, 3) := by decide +kernel
theorem dK_readingsOfAge_17 : decode cK_readingsOfAge 17 = .ok (.aload_n 0, 1) := by decide +kernel
theorem dK_readingsOfAge_18 : decode cK_readingsOfAge 18 = .ok (.aload_n 0, 1) := by decide +kernel
theorem dK_readingsOfAge_19 : decode cK_readingsOfAge 19 = .ok (.getfield 9, 3) := by decide +kernel
theorem dK_readingsOfAge_22 : decode cK_readingsOfAge 22 = .ok (.iload_n 3, 1) := by decide +kernel
theorem dK_readingsOfAge_23 : decode cK_readingsOfAge 23 = .ok (.iload_n 1, 1) := by decide +kernel
theorem dK_readingsOfAge_24 : decode cK_readingsOfAge 24 = .ok (.invokevirtual 96, 3) := by decide +kernel
theorem dK_readingsOfAge_27 : decode cK_readingsOfAge 27 = .ok (.iaload, 1) := by decide +kernel
theorem dK_readingsOfAge_28 : decode cK_readingsOfAge 28 = .ok (.iadd, 1) := by decide +kernel
theorem dK_readingsOfAge_29 : decode cK_readingsOfAge 29 = .ok (.istore_n 2, 1) := by decide +kernel
theorem dK_readingsOfAge_30 : decode cK_readingsOfAge 30 = .ok (.iinc 3 (1), 3) := by decide +kernel
theorem dK_readingsOfAge_33 : decode cK_readingsOfAge 33 = .ok (.goto (-29), 3) := by decide +kernel
theorem dK_readingsOfAge_36 : decode cK_readingsOfAge 36 = .ok (.iload_n 2, 1) := by decide +kernel
theorem dK_readingsOfAge_37 : decode cK_readingsOfAge 37 = .ok (.ireturn, 1) := by decide +kernel
set_option maxHeartbeats 4000000 in
set_option maxRecDepth 100000 in
theorem tK_readingsOfAge_4 {p : Program} {l : Launch} {e : Env} {s : State} {m : MethodId} {args : Array Value} {below : List Frame} {meth : Method} {c : Code} {D : va_G} {A : Nat → Prop} {q : Nat → Nat} {k : kK} {cI cJ : ClassId} {r : Int32} {σ : sK} {fu : Nat} (C0 : Cx p s m args meth c cK_readingsOfAge 4 (some .int) RK TK) (hK : va_K D cl0 [(cI, .int), (cJ, .long)] s) (hA : ∀ z, s.heap.size ≤ z → A z) : ∀ n : Nat, ∀ (x1 : Int32) (x2 : Int32) (x3 : Int32)(H : Heap) (locs : List Loc) (ls : Array Slot), fK_readingsOfAge_4 fu k σ n x1 x2 x3 = some r → lv_has ls 4 [(0, .ref (q 0)), (1, .int x1), (2, .int x2), (3, .int x3)] → va_P D cl0 (wdK q k cI cJ σ) H → va_D A (wdK q k cI cJ σ) → va_S A s.heap H locs → W p l e ({ frames := 1, cells := 0, slots := 0, locals := 23 }) s m args below meth c H locs 0 0 (MQ below (kQi D cl0 [(cI, .int), (cJ, .long)] (wdK q k cI cJ) A r σ) args s 0 0 A) (F0 m 4 ls []) := by
  obtain ⟨hx, hb, hr, hml, hown, hts, hlocks⟩ := id C0
  intro n
  induction n with
  | zero =>
    intro x1 x2 x3 H locs ls hf hl hP hD hS
    cases hf
  | succ n ih =>
    intro x1 x2 x3 H locs ls hf hl hP hD hS
    rw [fK_readingsOfAge_4] at hf
    refine lv_iload_n hx hb dK_readingsOfAge_4 rfl (lv_at hl 3 rfl) ?_
    refine lv_aload_n hx hb dK_readingsOfAge_5 rfl (lv_at hl 0 rfl) ?_
    refine gK_classes hx hb hown hts hK hP dK_readingsOfAge_6 ?_
    refine lv_icmp_ge (tgt := 36) hx hb dK_readingsOfAge_9 (by decide) (fun c9 => ?_) (fun c9 => ?_)
    · have hf := (if_pos c9).symm.trans hf
      refine lv_iload_n hx hb dK_readingsOfAge_36 rfl (lv_at hl 2 rfl) ?_
      exact kr_iret C0 hK hP hD hS (Option.some.inj hf) rfl dK_readingsOfAge_37
    · have hf := (if_neg c9).symm.trans hf
      refine lv_iload_n hx hb dK_readingsOfAge_12 rfl (lv_at hl 2 rfl) ?_
      refine lv_aload_n hx hb dK_readingsOfAge_13 rfl (lv_at hl 0 rfl) ?_
      refine gK_readings hx hb hown hts hK hP dK_readingsOfAge_14 ?_
      refine lv_aload_n hx hb dK_readingsOfAge_17 rfl (lv_at hl 0 rfl) ?_
      refine lv_aload_n hx hb dK_readingsOfAge_18 rfl (lv_at hl 0 rfl) ?_
      refine gK_chosenRow hx hb hown hts hK hP dK_readingsOfAge_19 ?_
      refine lv_iload_n hx hb dK_readingsOfAge_22 rfl (lv_at hl 3 rfl) ?_
      refine lv_iload_n hx hb dK_readingsOfAge_23 rfl (lv_at hl 1 rfl) ?_
      refine kr_callVi (av := [.int (sK_chosenRow σ), .int x3, .int x1]) ⟨hx, hb, hml, hown, hts⟩ (mK_cell l D q k cI cJ _ σ (sK_chosenRow σ) x3 x1 _ rfl) (cwV 3 hts (kgood_V TK_good (by decide +kernel)) rfl rfl rfl (by decide +kernel) ⟨Nat.le_of_ble_eq_true rfl, Nat.le_of_ble_eq_true rfl⟩) hK hP hD hS hA (ci := 0) (q0 := 0) rfl rfl rfl hl.1 rfl (Nat.le_of_ble_eq_true rfl) dK_readingsOfAge_24 ⟨Nat.le_of_ble_eq_true rfl, Nat.le_of_ble_eq_true rfl⟩ (fun H locs hP hD hS => ?_)
      obtain ⟨v27, ev27, hf⟩ := kb1 hf
      refine kr_iaload hx hb hK hP 1 0 rfl rfl ev27 dK_readingsOfAge_27 ?_
      refine lv_iadd hx hb dK_readingsOfAge_28 ?_
      refine lv_istore_n (lv' := [(2, .int (x2 + v27)), (0, .ref (q 0)), (1, .int x1), (3, .int x3)]) hx hb dK_readingsOfAge_29 rfl hl (by decide) rfl (fun ls hl => ?_)
      refine lv_iinc (v := (x3 + 1)) (lv' := [(3, .int (x3 + 1)), (2, .int (x2 + v27)), (0, .ref (q 0)), (1, .int x1)]) hx hb dK_readingsOfAge_30 hl (k := 3) rfl rfl (by decide) rfl (fun ls hl => ?_)
      refine lv_goto (tgt := 4) hx hb dK_readingsOfAge_33 (by decide) ?_
      exact ih x1 (x2 + v27) (x3 + 1) _ _ ls hf (lv_sub hl [2, 3, 1, 0] rfl) hP hD hS
set_option maxHeartbeats 4000000 in
set_option maxRecDepth 100000 in
theorem mK_readingsOfAge (l : Launch) (D : va_G) (q : Nat → Nat) (k : kK) (cI cJ : ClassId) (sz : Nat) (fu : Nat) (σ : sK) (x1 : Int32) (r : Int32) (hf : fK_readingsOfAge fu k σ x1 = some r) : Met l yK_readingsOfAge (.code yK_readingsOfAge cK_readingsOfAge 4 (some .int) :: TK) ({ frames := 1, cells := 0, slots := 0, locals := 23 }) (kPre D cl0 [(cI, .int), (cJ, .long)] (wdK q k cI cJ) sz σ [.ref (q 0), .int x1]) (kQi D cl0 [(cI, .int), (cJ, .long)] (wdK q k cI cJ) (va_A (wdK q k cI cJ σ) sz) r σ) 0 0 (va_A (wdK q k cI cJ σ) sz) := by
  refine kr_start (own := RK) (by decide) rfl (Nat.le_of_ble_eq_true rfl) ?_
  intro p e s m args below meth c ls C0 hsz hK hP hD hl
  subst hsz
  obtain ⟨hx, hb, hr, hml, hown, hts, hlocks⟩ := id C0
  have hA : ∀ z : Nat, s.heap.size ≤ z → va_A (wdK q k cI cJ σ) s.heap.size z := fun z h => Or.inr h
  generalize va_A (wdK q k cI cJ σ) s.heap.size = A at hD hA ⊢
  have hS : va_S A s.heap s.heap [] := va_S.rf
  have hl : lv_has ls 4 [(0, .ref (q 0)), (1, .int x1)] := hl
  unfold fK_readingsOfAge at hf
  refine lv_iconst (v := 0) hx hb dK_readingsOfAge_0 (by decide) ?_
  refine lv_istore_n (lv' := [(2, .int 0), (0, .ref (q 0)), (1, .int x1)]) hx hb dK_readingsOfAge_1 rfl hl (by decide) rfl (fun ls hl => ?_)
  refine lv_iconst (v := 0) hx hb dK_readingsOfAge_2 (by decide) ?_
  refine lv_istore_n (lv' := [(3, .int 0), (2, .int 0), (0, .ref (q 0)), (1, .int x1)]) hx hb dK_readingsOfAge_3 rfl hl (by decide) rfl (fun ls hl => ?_)
  exact tK_readingsOfAge_4 C0 hK hA fu x1 0 0 _ _ ls hf (lv_sub hl [2, 3, 1, 0] rfl) hP hD hS
theorem dK_openPool_0 : decode cK_openPool 0 = .ok (.iconst 0, 1) := by decide +kernel
theorem dK_openPool_1 : decode cK_openPool 1 = .ok (.istore_n 3, 1) := by decide +kernel
theorem dK_openPool_2 : decode cK_openPool 2 = .ok (.iconst 0, 1) := by decide +kernel
theorem dK_openPool_3 : decode cK_openPool 3 = .ok (.istore 4, 2) := by decide +kernel
theorem dK_openPool_5 : decode cK_openPool 5 = .ok (.iload 4, 2) := by decide +kernel
theorem dK_openPool_7 : decode cK_openPool 7 = .ok (.aload_n 0, 1) := by decide +kernel
theorem dK_openPool_8 : decode cK_openPool 8 = .ok (.getfield 26, 3) := by decide +kernel
theorem dK_openPool_11 : decode cK_openPool 11 = .ok (.if_icmp .ge (31), 3) := by decide +kernel
theorem dK_openPool_14 : decode cK_openPool 14 = .ok (.iload_n 3, 1) := by decide +kernel
theorem dK_openPool_15 : decode cK_openPool 15 = .ok (.iload 4, 2) := by decide +kernel
theorem dK_openPool_17 : decode cK_openPool 17 = .ok (.aload_n 0, 1) := by decide +kernel
theorem dK_openPool_18 : decode cK_openPool 18 = .ok (.getfield 32, 3) := by decide +kernel
theorem dK_openPool_21 : decode cK_openPool 21 = .ok (.aload_n 0, 1) := by decide +kernel
theorem dK_openPool_22 : decode cK_openPool 22 = .ok (.aload_n 0, 1) := by decide +kernel
theorem dK_openPool_23 : decode cK_openPool 23 = .ok (.getfield 9, 3) := by decide +kernel
theorem dK_openPool_26 : decode cK_openPool 26 = .ok (.iload 4, 2) := by decide +kernel
theorem dK_openPool_28 : decode cK_openPool 28 = .ok (.iload_n 2, 1) := by decide +kernel
theorem dK_openPool_29 : decode cK_openPool 29 = .ok (.invokevirtual 96, 3) := by decide +kernel
theorem dK_openPool_32 : decode cK_openPool 32 = .ok (.iaload, 1) := by decide +kernel
theorem dK_openPool_33 : decode cK_openPool 33 = .ok (.imul, 1) := by decide +kernel
theorem dK_openPool_34 : decode cK_openPool 34 = .ok (.iadd, 1) := by decide +kernel
theorem dK_openPool_35 : decode cK_openPool 35 = .ok (.istore_n 3, 1) := by decide +kernel
theorem dK_openPool_36 : decode cK_openPool 36 = .ok (.iinc 4 (1), 3) := by decide +kernel
theorem dK_openPool_39 : decode cK_openPool 39 = .ok (.goto (-34), 3) := by decide +kernel
theorem dK_openPool_42 : decode cK_openPool 42 = .ok (.aload_n 0, 1) := by decide +kernel
theorem dK_openPool_43 : decode cK_openPool 43 = .ok (.getfield 61, 3) := by decide +kernel
theorem dK_openPool_46 : decode cK_openPool 46 = .ok (.iload_n 1, 1) := by decide +kernel
theorem dK_openPool_47 : decode cK_openPool 47 = .ok (.iload_n 3, 1) := by decide +kernel
theorem dK_openPool_48 : decode cK_openPool 48 = .ok (.iastore, 1) := by decide +kernel
theorem dK_openPool_49 : decode cK_openPool 49 = .ok (.aload_n 0, 1) := by decide +kernel
theorem dK_openPool_50 : decode cK_openPool 50 = .ok (.getfield 64, 3) := by decide +kernel
theorem dK_openPool_53 : decode cK_openPool 53 = .ok (.iload_n 1, 1) := by decide +kernel
theorem dK_openPool_54 : decode cK_openPool 54 = .ok (.aload_n 0, 1) := by decide +kernel
theorem dK_openPool_55 : decode cK_openPool 55 = .ok (.iload_n 2, 1) := by decide +kernel
theorem dK_openPool_56 : decode cK_openPool 56 = .ok (.invokevirtual 183, 3) := by decide +kernel
theorem dK_openPool_59 : decode cK_openPool 59 = .ok (.iastore, 1) := by decide +kernel
theorem dK_openPool_60 : decode cK_openPool 60 = .ok (.aload_n 0, 1) := by decide +kernel
theorem dK_openPool_61 : decode cK_openPool 61 = .ok (.getfield 67, 3) := by decide +kernel
theorem dK_openPool_64 : decode cK_openPool 64 = .ok (.iload_n 1, 1) := by decide +kernel
theorem dK_openPool_65 : decode cK_openPool 65 = .ok (.iconst 1, 1) := by decide +kernel
theorem dK_openPool_66 : decode cK_openPool 66 = .ok (.iastore, 1) := by decide +kernel
theorem dK_openPool_67 : decode cK_openPool 67 = .ok (.aload_n 0, 1) := by decide +kernel
theorem dK_openPool_68 : decode cK_openPool 68 = .ok (.getfield 70, 3) := by decide +kernel
theorem dK_openPool_71 : decode cK_openPool 71 = .ok (.iload_n 1, 1) := by decide +kernel
theorem dK_openPool_72 : decode cK_openPool 72 = .ok (.iload_n 2, 1) := by decide +kernel
theorem dK_openPool_73 : decode cK_openPool 73 = .ok (.iastore, 1) := by decide +kernel
theorem dK_openPool_74 : decode cK_openPool 74 = .ok (.return_, 1) := by decide +kernel
set_option maxHeartbeats 4000000 in
set_option maxRecDepth 100000 in
theorem tK_openPool_5 {p : Program} {l : Launch} {e : Env} {s : State} {m : MethodId} {args : Array Value} {below : List Frame} {meth : Method} {c : Code} {D : va_G} {A : Nat → Prop} {q : Nat → Nat} {k : kK} {cI cJ : ClassId} {σ' : sK} {fu : Nat} (C0 : Cx p s m args meth c cK_openPool 5 none RK TK) (hK : va_K D cl0 [(cI, .int), (cJ, .long)] s) (hA : ∀ z, s.heap.size ≤ z → A z) : ∀ n : Nat, ∀ (σ : sK) (x1 : Int32) (x2 : Int32) (x3 : Int32) (x4 : Int32)(H : Heap) (locs : List Loc) (ls : Array Slot), fK_openPool_5 fu k n σ x1 x2 x3 x4 = some σ' → lv_has ls 5 [(0, .ref (q 0)), (1, .int x1), (2, .int x2), (3, .int x3), (4, .int x4)] → va_P D cl0 (wdK q k cI cJ σ) H → va_D A (wdK q k cI cJ σ) → va_S A s.heap H locs → W p l e ({ frames := 2, cells := 0, slots := 0, locals := 46 }) s m args below meth c H locs 0 0 (MQ below (kQv D cl0 [(cI, .int), (cJ, .long)] (wdK q k cI cJ) A σ') args s 0 0 A) (F0 m 5 ls []) := by
  obtain ⟨hx, hb, hr, hml, hown, hts, hlocks⟩ := id C0
  intro n
  induction n with
  | zero =>
    intro σ x1 x2 x3 x4 H locs ls hf hl hP hD hS
    cases hf
  | succ n ih =>
    intro σ x1 x2 x3 x4 H locs ls hf hl hP hD hS
    rw [fK_openPool_5] at hf
    refine lv_iload hx hb dK_openPool_5 (lv_at hl 4 rfl) ?_
    refine lv_aload_n hx hb dK_openPool_7 rfl (lv_at hl 0 rfl) ?_
    refine gK_classes hx hb hown hts hK hP dK_openPool_8 ?_
    refine lv_icmp_ge (tgt := 42) hx hb dK_openPool_11 (by decide) (fun c11 => ?_) (fun c11 => ?_)
    · have hf := (if_pos c11).symm.trans hf
      refine lv_aload_n hx hb dK_openPool_42 rfl (lv_at hl 0 rfl) ?_
      refine gK_poolSum hx hb hown hts hK hP dK_openPool_43 ?_
      refine lv_iload_n hx hb dK_openPool_46 rfl (lv_at hl 1 rfl) ?_
      refine lv_iload_n hx hb dK_openPool_47 rfl (lv_at hl 3 rfl) ?_
      obtain ⟨a48, ea48, hf⟩ := kb1 hf
      refine kr_iastore (σ' := (uK_poolSum σ a48)) hx hb hK hP hD hS 10 0 rfl rfl ea48 rfl dK_openPool_48 (fun H locs hP hD hS => ?_)
      generalize (uK_poolSum σ a48) = s48 at hf hP hD
      refine lv_aload_n hx hb dK_openPool_49 rfl (lv_at hl 0 rfl) ?_
      refine gK_poolSize hx hb hown hts hK hP dK_openPool_50 ?_
      refine lv_iload_n hx hb dK_openPool_53 rfl (lv_at hl 1 rfl) ?_
      refine lv_aload_n hx hb dK_openPool_54 rfl (lv_at hl 0 rfl) ?_
      refine lv_iload_n hx hb dK_openPool_55 rfl (lv_at hl 2 rfl) ?_
      obtain ⟨v56, ev56, hf⟩ := kb1 hf
      refine kr_callVi (av := [.int x2]) ⟨hx, hb, hml, hown, hts⟩ (mK_readingsOfAge l D q k cI cJ _ fu s48 x2 v56 ev56) (cwV 1 hts (kgood_V TK_good (by decide +kernel)) rfl rfl rfl (by decide +kernel) ⟨Nat.le_of_ble_eq_true rfl, Nat.le_of_ble_eq_true rfl⟩) hK hP hD hS hA (ci := 0) (q0 := 0) rfl rfl rfl hl.1 rfl (Nat.le_of_ble_eq_true rfl) dK_openPool_56 ⟨Nat.le_of_ble_eq_true rfl, Nat.le_of_ble_eq_true rfl⟩ (fun H locs hP hD hS => ?_)
      obtain ⟨a59, ea59, hf⟩ := kb1 hf
      refine kr_iastore (σ' := (uK_poolSize s48 a59)) hx hb hK hP hD hS 11 0 rfl rfl ea59 rfl dK_openPool_59 (fun H locs hP hD hS => ?_)
      generalize (uK_poolSize s48 a59) = s59 at hf hP hD
      refine lv_aload_n hx hb dK_openPool_60 rfl (lv_at hl 0 rfl) ?_
      refine gK_poolAges hx hb hown hts hK hP dK_openPool_61 ?_
      refine lv_iload_n hx hb dK_openPool_64 rfl (lv_at hl 1 rfl) ?_
      refine lv_iconst (v := 1) hx hb dK_openPool_65 (by decide) ?_
      obtain ⟨a66, ea66, hf⟩ := kb1 hf
      refine kr_iastore (σ' := (uK_poolAges s59 a66)) hx hb hK hP hD hS 12 0 rfl rfl ea66 rfl dK_openPool_66 (fun H locs hP hD hS => ?_)
      generalize (uK_poolAges s59 a66) = s66 at hf hP hD
      refine lv_aload_n hx hb dK_openPool_67 rfl (lv_at hl 0 rfl) ?_
      refine gK_poolLastAge hx hb hown hts hK hP dK_openPool_68 ?_
      refine lv_iload_n hx hb dK_openPool_71 rfl (lv_at hl 1 rfl) ?_
      refine lv_iload_n hx hb dK_openPool_72 rfl (lv_at hl 2 rfl) ?_
      obtain ⟨a73, ea73, hf⟩ := kb1 hf
      refine kr_iastore (σ' := (uK_poolLastAge s66 a73)) hx hb hK hP hD hS 13 0 rfl rfl ea73 rfl dK_openPool_73 (fun H locs hP hD hS => ?_)
      generalize (uK_poolLastAge s66 a73) = s73 at hf hP hD
      exact kr_vret C0 hK hP hD hS (Option.some.inj hf) dK_openPool_74
    · have hf := (if_neg c11).symm.trans hf
      refine lv_iload_n hx hb dK_openPool_14 rfl (lv_at hl 3 rfl) ?_
      refine lv_iload hx hb dK_openPool_15 (lv_at hl 4 rfl) ?_
      refine lv_aload_n hx hb dK_openPool_17 rfl (lv_at hl 0 rfl) ?_
      refine gK_readings hx hb hown hts hK hP dK_openPool_18 ?_
      refine lv_aload_n hx hb dK_openPool_21 rfl (lv_at hl 0 rfl) ?_
      refine lv_aload_n hx hb dK_openPool_22 rfl (lv_at hl 0 rfl) ?_
      refine gK_chosenRow hx hb hown hts hK hP dK_openPool_23 ?_
      refine lv_iload hx hb dK_openPool_26 (lv_at hl 4 rfl) ?_
      refine lv_iload_n hx hb dK_openPool_28 rfl (lv_at hl 2 rfl) ?_
      refine kr_callVi (av := [.int (sK_chosenRow σ), .int x4, .int x2]) ⟨hx, hb, hml, hown, hts⟩ (mK_cell l D q k cI cJ _ σ (sK_chosenRow σ) x4 x2 _ rfl) (cwV 3 hts (kgood_V TK_good (by decide +kernel)) rfl rfl rfl (by decide +kernel) ⟨Nat.le_of_ble_eq_true rfl, Nat.le_of_ble_eq_true rfl⟩) hK hP hD hS hA (ci := 0) (q0 := 0) rfl rfl rfl hl.1 rfl (Nat.le_of_ble_eq_true rfl) dK_openPool_29 ⟨Nat.le_of_ble_eq_true rfl, Nat.le_of_ble_eq_true rfl⟩ (fun H locs hP hD hS => ?_)
      obtain ⟨v32, ev32, hf⟩ := kb1 hf
      refine kr_iaload hx hb hK hP 1 0 rfl rfl ev32 dK_openPool_32 ?_
      refine lv_imul hx hb dK_openPool_33 ?_
      refine lv_iadd hx hb dK_openPool_34 ?_
      refine lv_istore_n (lv' := [(3, .int (x3 + (x4 * v32))), (0, .ref (q 0)), (1, .int x1), (2, .int x2), (4, .int x4)]) hx hb dK_openPool_35 rfl hl (by decide) rfl (fun ls hl => ?_)
      refine lv_iinc (v := (x4 + 1)) (lv' := [(4, .int (x4 + 1)), (3, .int (x3 + (x4 * v32))), (0, .ref (q 0)), (1, .int x1), (2, .int x2)]) hx hb dK_openPool_36 hl (k := 4) rfl rfl (by decide) rfl (fun ls hl => ?_)
      refine lv_goto (tgt := 5) hx hb dK_openPool_39 (by decide) ?_
      exact ih σ x1 x2 (x3 + (x4 * v32)) (x4 + 1) _ _ ls hf (lv_sub hl [2, 3, 4, 1, 0] rfl) hP hD hS
set_option maxHeartbeats 4000000 in
set_option maxRecDepth 100000 in
theorem mK_openPool (l : Launch) (D : va_G) (q : Nat → Nat) (k : kK) (cI cJ : ClassId) (sz : Nat) (fu : Nat) (σ : sK) (σ' : sK) (x1 : Int32) (x2 : Int32) (hf : fK_openPool fu k σ x1 x2 = some σ') : Met l yK_openPool (.code yK_openPool cK_openPool 5 none :: TK) ({ frames := 2, cells := 0, slots := 0, locals := 46 }) (kPre D cl0 [(cI, .int), (cJ, .long)] (wdK q k cI cJ) sz σ [.ref (q 0), .int x1, .int x2]) (kQv D cl0 [(cI, .int), (cJ, .long)] (wdK q k cI cJ) (va_A (wdK q k cI cJ σ) sz) σ') 0 0 (va_A (wdK q k cI cJ σ) sz) := by
  refine kr_start (own := RK) (by decide) rfl (Nat.le_of_ble_eq_true rfl) ?_
  intro p e s m args below meth c ls C0 hsz hK hP hD hl
  subst hsz
  obtain ⟨hx, hb, hr, hml, hown, hts, hlocks⟩ := id C0
  have hA : ∀ z : Nat, s.heap.size ≤ z → va_A (wdK q k cI cJ σ) s.heap.size z := fun z h => Or.inr h
  generalize va_A (wdK q k cI cJ σ) s.heap.size = A at hD hA ⊢
  have hS : va_S A s.heap s.heap [] := va_S.rf
  have hl : lv_has ls 5 [(0, .ref (q 0)), (1, .int x1), (2, .int x2)] := hl
  unfold fK_openPool at hf
  refine lv_iconst (v := 0) hx hb dK_openPool_0 (by decide) ?_
  refine lv_istore_n (lv' := [(3, .int 0), (0, .ref (q 0)), (1, .int x1), (2, .int x2)]) hx hb dK_openPool_1 rfl hl (by decide) rfl (fun ls hl => ?_)
  refine lv_iconst (v := 0) hx hb dK_openPool_2 (by decide) ?_
  refine lv_istore (lv' := [(4, .int 0), (3, .int 0), (0, .ref (q 0)), (1, .int x1), (2, .int x2)]) hx hb dK_openPool_3 hl (by decide) rfl (fun ls hl => ?_)
  exact tK_openPool_5 C0 hK hA fu σ x1 x2 0 0 _ _ ls hf (lv_sub hl [2, 3, 4, 1, 0] rfl) hP hD hS
end
section
theorem dK_doesNotRise_0 : decode cK_doesNotRise 0 = .ok (.aload_n 0, 1) := by decide +kernel
theorem dK_doesNotRise_1 : decode cK_doesNotRise 1 = .ok (.getfield 61, 3) := by decide +kernel
theorem dK_doesNotRise_4 : decode cK_doesNotRise 4 = .ok (.iload_n 1, 1) := by decide +kernel
theorem dK_doesNotRise_5 : decode cK_doesNotRise 5 = .ok (.iaload, 1) := by decide +kernel
theorem dK_doesNotRise_6 : decode cK_doesNotRise 6 = .ok (.aload_n 0, 1) := by decide +kernel
theorem dK_doesNotRise_7 : decode cK_doesNotRise 7 = .ok (.getfield 64, 3) := by decide +kernel
theorem dK_doesNotRise_10 : decode cK_doesNotRise 10 = .ok (.iload_n 1, 1) := by decide +kernel
theorem dK_doesNotRise_11 : decode cK_doesNotRise 11 = .ok (.iconst 1, 1) := by decide +kernel
theorem dK_doesNotRise_12 : decode cK_doesNotRise 12 = .ok (.isub, 1) := by decide +kernel
theorem dK_doesNotRise_13 : decode cK_doesNotRise 13 = .ok (.iaload, 1) := by decide +kernel
theorem dK_doesNotRise_14 : decode cK_doesNotRise 14 = .ok (.imul, 1) := by decide +kernel
theorem dK_doesNotRise_15 : decode cK_doesNotRise 15 = .ok (.aload_n 0, 1) := by decide +kernel
theorem dK_doesNotRise_16 : decode cK_doesNotRise 16 = .ok (.getfield 61, 3) := by decide +kernel
theorem dK_doesNotRise_19 : decode cK_doesNotRise 19 = .ok (.iload_n 1, 1) := by decide +kernel
theorem dK_doesNotRise_20 : decode cK_doesNotRise 20 = .ok (.iconst 1, 1) := by decide +kernel
theorem dK_doesNotRise_21 : decode cK_doesNotRise 21 = .ok (.isub, 1) := by decide +kernel
theorem dK_doesNotRise_22 : decode cK_doesNotRise 22 = .ok (.iaload, 1) := by decide +kernel
theorem dK_doesNotRise_23 : decode cK_doesNotRise 23 = .ok (.aload_n 0, 1) := by decide +kernel
theorem dK_doesNotRise_24 : decode cK_doesNotRise 24 = .ok (.getfield 64, 3) := by decide +kernel
theorem dK_doesNotRise_27 : decode cK_doesNotRise 27 = .ok (.iload_n 1, 1) := by decide +kernel
theorem dK_doesNotRise_28 : decode cK_doesNotRise 28 = .ok (.iaload, 1) := by decide +kernel
theorem dK_doesNotRise_29 : decode cK_doesNotRise 29 = .ok (.imul, 1) := by decide +kernel
theorem dK_doesNotRise_30 : decode cK_doesNotRise 30 = .ok (.if_icmp .gt (7), 3) := by decide +kernel
theorem dK_doesNotRise_33 : decode cK_doesNotRise 33 = .ok (.iconst 1, 1) := by decide +kernel
theorem dK_doesNotRise_34 : decode cK_doesNotRise 34 = .ok (.goto (4), 3) := by decide +kernel
theorem dK_doesNotRise_37 : decode cK_doesNotRise 37 = .ok (.iconst 0, 1) := by decide +kernel
theorem dK_doesNotRise_38 : decode cK_doesNotRise 38 = .ok (.ireturn, 1) := by decide +kernel
set_option maxHeartbeats 4000000 in
set_option maxRecDepth 100000 in
theorem mK_doesNotRise (l : Launch) (D : va_G) (q : Nat → Nat) (k : kK) (cI cJ : ClassId) (sz : Nat) (σ : sK) (x1 : Int32) (r : Int32) (hf : fK_doesNotRise k σ x1 = some r) : Met l yK_doesNotRise (.code yK_doesNotRise cK_doesNotRise 2 (some .boolean) :: TK) ({ frames := 0, cells := 0, slots := 0, locals := 0 }) (kPre D cl0 [(cI, .int), (cJ, .long)] (wdK q k cI cJ) sz σ [.ref (q 0), .int x1]) (kQi D cl0 [(cI, .int), (cJ, .long)] (wdK q k cI cJ) (va_A (wdK q k cI cJ σ) sz) r σ) 0 0 (va_A (wdK q k cI cJ σ) sz) := by
  refine kr_start (own := RK) (by decide) rfl (Nat.le_of_ble_eq_true rfl) ?_
  intro p e s m args below meth c ls C0 hsz hK hP hD hl
  subst hsz
  obtain ⟨hx, hb, hr, hml, hown, hts, hlocks⟩ := id C0
  have hA : ∀ z : Nat, s.heap.size ≤ z → va_A (wdK q k cI cJ σ) s.heap.size z := fun z h => Or.inr h
  generalize va_A (wdK q k cI cJ σ) s.heap.size = A at hD hA ⊢
  have hS : va_S A s.heap s.heap [] := va_S.rf
  have hl : lv_has ls 2 [(0, .ref (q 0)), (1, .int x1)] := hl
  unfold fK_doesNotRise at hf
  refine lv_aload_n hx hb dK_doesNotRise_0 rfl (lv_at hl 0 rfl) ?_
  refine gK_poolSum hx hb hown hts hK hP dK_doesNotRise_1 ?_
  refine lv_iload_n hx hb dK_doesNotRise_4 rfl (lv_at hl 1 rfl) ?_
  obtain ⟨v5, ev5, hf⟩ := kb1 hf
  refine kr_iaload hx hb hK hP 10 0 rfl rfl ev5 dK_doesNotRise_5 ?_
  refine lv_aload_n hx hb dK_doesNotRise_6 rfl (lv_at hl 0 rfl) ?_
  refine gK_poolSize hx hb hown hts hK hP dK_doesNotRise_7 ?_
  refine lv_iload_n hx hb dK_doesNotRise_10 rfl (lv_at hl 1 rfl) ?_
  refine lv_iconst (v := 1) hx hb dK_doesNotRise_11 (by decide) ?_
  refine lv_isub hx hb dK_doesNotRise_12 ?_
  obtain ⟨v13, ev13, hf⟩ := kb1 hf
  refine kr_iaload hx hb hK hP 11 0 rfl rfl ev13 dK_doesNotRise_13 ?_
  refine lv_imul hx hb dK_doesNotRise_14 ?_
  refine lv_aload_n hx hb dK_doesNotRise_15 rfl (lv_at hl 0 rfl) ?_
  refine gK_poolSum hx hb hown hts hK hP dK_doesNotRise_16 ?_
  refine lv_iload_n hx hb dK_doesNotRise_19 rfl (lv_at hl 1 rfl) ?_
  refine lv_iconst (v := 1) hx hb dK_doesNotRise_20 (by decide) ?_
  refine lv_isub hx hb dK_doesNotRise_21 ?_
  obtain ⟨v22, ev22, hf⟩ := kb1 hf
  refine kr_iaload hx hb hK hP 10 0 rfl rfl ev22 dK_doesNotRise_22 ?_
  refine lv_aload_n hx hb dK_doesNotRise_23 rfl (lv_at hl 0 rfl) ?_
  refine gK_poolSize hx hb hown hts hK hP dK_doesNotRise_24 ?_
  refine lv_iload_n hx hb dK_doesNotRise_27 rfl (lv_at hl 1 rfl) ?_
  obtain ⟨v28, ev28, hf⟩ := kb1 hf
  refine kr_iaload hx hb hK hP 11 0 rfl rfl ev28 dK_doesNotRise_28 ?_
  refine lv_imul hx hb dK_doesNotRise_29 ?_
  refine lv_icmp_gt (tgt := 37) hx hb dK_doesNotRise_30 (by decide) (fun c30 => ?_) (fun c30 => ?_)
  · have hf := (if_pos c30).symm.trans hf
    refine lv_iconst (v := 0) hx hb dK_doesNotRise_37 (by decide) ?_
    exact kr_zret C0 hK hP hD hS rfl (Option.some.inj hf) rfl dK_doesNotRise_38
  · have hf := (if_neg c30).symm.trans hf
    refine lv_iconst (v := 1) hx hb dK_doesNotRise_33 (by decide) ?_
    refine lv_goto (tgt := 38) hx hb dK_doesNotRise_34 (by decide) ?_
    exact kr_zret C0 hK hP hD hS rfl (Option.some.inj hf) rfl dK_doesNotRise_38
theorem dK_joinWithPoolBefore_0 : decode cK_joinWithPoolBefore 0 = .ok (.aload_n 0, 1) := by decide +kernel
theorem dK_joinWithPoolBefore_1 : decode cK_joinWithPoolBefore 1 = .ok (.getfield 61, 3) := by decide +kernel
theorem dK_joinWithPoolBefore_4 : decode cK_joinWithPoolBefore 4 = .ok (.iload_n 1, 1) := by decide +kernel
theorem dK_joinWithPoolBefore_5 : decode cK_joinWithPoolBefore 5 = .ok (.iconst 1, 1) := by decide +kernel
theorem dK_joinWithPoolBefore_6 : decode cK_joinWithPoolBefore 6 = .ok (.isub, 1) := by decide +kernel
theorem dK_joinWithPoolBefore_7 : decode cK_joinWithPoolBefore 7 = .ok (.dup2, 1) := by decide +kernel
theorem dK_joinWithPoolBefore_8 : decode cK_joinWithPoolBefore 8 = .ok (.iaload, 1) := by decide +kernel
theorem dK_joinWithPoolBefore_9 : decode cK_joinWithPoolBefore 9 = .ok (.aload_n 0, 1) := by decide +kernel
theorem dK_joinWithPoolBefore_10 : decode cK_joinWithPoolBefore 10 = .ok (.getfield 61, 3) := by decide +kernel
theorem dK_joinWithPoolBefore_13 : decode cK_joinWithPoolBefore 13 = .ok (.iload_n 1, 1) := by decide +kernel
theorem dK_joinWithPoolBefore_14 : decode cK_joinWithPoolBefore 14 = .ok (.iaload, 1) := by decide +kernel
theorem dK_joinWithPoolBefore_15 : decode cK_joinWithPoolBefore 15 = .ok (.iadd, 1) := by decide +kernel
theorem dK_joinWithPoolBefore_16 : decode cK_joinWithPoolBefore 16 = .ok (.iastore, 1) := by decide +kernel
theorem dK_joinWithPoolBefore_17 : decode cK_joinWithPoolBefore 17 = .ok (.aload_n 0, 1) := by decide +kernel
theorem dK_joinWithPoolBefore_18 : decode cK_joinWithPoolBefore 18 = .ok (.getfield 64, 3) := by decide +kernel
theorem dK_joinWithPoolBefore_21 : decode cK_joinWithPoolBefore 21 = .ok (.iload_n 1, 1) := by decide +kernel
theorem dK_joinWithPoolBefore_22 : decode cK_joinWithPoolBefore 22 = .ok (.iconst 1, 1) := by decide +kernel
theorem dK_joinWithPoolBefore_23 : decode cK_joinWithPoolBefore 23 = .ok (.isub, 1) := by decide +kernel
theorem dK_joinWithPoolBefore_24 : decode cK_joinWithPoolBefore 24 = .ok (.dup2, 1) := by decide +kernel
theorem dK_joinWithPoolBefore_25 : decode cK_joinWithPoolBefore 25 = .ok (.iaload, 1) := by decide +kernel
theorem dK_joinWithPoolBefore_26 : decode cK_joinWithPoolBefore 26 = .ok (.aload_n 0, 1) := by decide +kernel
theorem dK_joinWithPoolBefore_27 : decode cK_joinWithPoolBefore 27 = .ok (.getfield 64, 3) := by decide +kernel
theorem dK_joinWithPoolBefore_30 : decode cK_joinWithPoolBefore 30 = .ok (.iload_n 1, 1) := by decide +kernel
theorem dK_joinWithPoolBefore_31 : decode cK_joinWithPoolBefore 31 = .ok (.iaload, 1) := by decide +kernel
theorem dK_joinWithPoolBefore_32 : decode cK_joinWithPoolBefore 32 = .ok (.iadd, 1) := by decide +kernel
theorem dK_joinWithPoolBefore_33 : decode cK_joinWithPoolBefore 33 = .ok (.iastore, 1) := by decide +kernel
theorem dK_joinWithPoolBefore_34 : decode cK_joinWithPoolBefore 34 = .ok (.aload_n 0, 1) := by decide +kernel
theorem dK_joinWithPoolBefore_35 : decode cK_joinWithPoolBefore 35 = .ok (.getfield 67, 3) := by decide +kernel
theorem dK_joinWithPoolBefore_38 : decode cK_joinWithPoolBefore 38 = .ok (.iload_n 1, 1) := by decide +kernel
theorem dK_joinWithPoolBefore_39 : decode cK_joinWithPoolBefore 39 = .ok (.iconst 1, 1) := by decide +kernel
theorem dK_joinWithPoolBefore_40 : decode cK_joinWithPoolBefore 40 = .ok (.isub, 1) := by decide +kernel
theorem dK_joinWithPoolBefore_41 : decode cK_joinWithPoolBefore 41 = .ok (.dup2, 1) := by decide +kernel
theorem dK_joinWithPoolBefore_42 : decode cK_joinWithPoolBefore 42 = .ok (.iaload, 1) := by decide +kernel
theorem dK_joinWithPoolBefore_43 : decode cK_joinWithPoolBefore 43 = .ok (.aload_n 0, 1) := by decide +kernel
theorem dK_joinWithPoolBefore_44 : decode cK_joinWithPoolBefore 44 = .ok (.getfield 67, 3) := by decide +kernel
theorem dK_joinWithPoolBefore_47 : decode cK_joinWithPoolBefore 47 = .ok (.iload_n 1, 1) := by decide +kernel
theorem dK_joinWithPoolBefore_48 : decode cK_joinWithPoolBefore 48 = .ok (.iaload, 1) := by decide +kernel
theorem dK_joinWithPoolBefore_49 : decode cK_joinWithPoolBefore 49 = .ok (.iadd, 1) := by decide +kernel
theorem dK_joinWithPoolBefore_50 : decode cK_joinWithPoolBefore 50 = .ok (.iastore, 1) := by decide +kernel
theorem dK_joinWithPoolBefore_51 : decode cK_joinWithPoolBefore 51 = .ok (.aload_n 0, 1) := by decide +kernel
theorem dK_joinWithPoolBefore_52 : decode cK_joinWithPoolBefore 52 = .ok (.getfield 70, 3) := by decide +kernel
theorem dK_joinWithPoolBefore_55 : decode cK_joinWithPoolBefore 55 = .ok (.iload_n 1, 1) := by decide +kernel
theorem dK_joinWithPoolBefore_56 : decode cK_joinWithPoolBefore 56 = .ok (.iconst 1, 1) := by decide +kernel
theorem dK_joinWithPoolBefore_57 : decode cK_joinWithPoolBefore 57 = .ok (.isub, 1) := by decide +kernel
theorem dK_joinWithPoolBefore_58 : decode cK_joinWithPoolBefore 58 = .ok (.aload_n 0, 1) := by decide +kernel
theorem dK_joinWithPoolBefore_59 : decode cK_joinWithPoolBefore 59 = .ok (.getfield 70, 3) := by decide +kernel
theorem dK_joinWithPoolBefore_62 : decode cK_joinWithPoolBefore 62 = .ok (.iload_n 1, 1) := by decide +kernel
theorem dK_joinWithPoolBefore_63 : decode cK_joinWithPoolBefore 63 = .ok (.iaload, 1) := by decide +kernel
theorem dK_joinWithPoolBefore_64 : decode cK_joinWithPoolBefore 64 = .ok (.iastore, 1) := by decide +kernel
theorem dK_joinWithPoolBefore_65 : decode cK_joinWithPoolBefore 65 = .ok (.return_, 1) := by decide +kernel
set_option maxHeartbeats 4000000 in
set_option maxRecDepth 100000 in
theorem mK_joinWithPoolBefore (l : Launch) (D : va_G) (q : Nat → Nat) (k : kK) (cI cJ : ClassId) (sz : Nat) (σ : sK) (σ' : sK) (x1 : Int32) (hf : fK_joinWithPoolBefore k σ x1 = some σ') : Met l yK_joinWithPoolBefore (.code yK_joinWithPoolBefore cK_joinWithPoolBefore 2 none :: TK) ({ frames := 0, cells := 0, slots := 0, locals := 0 }) (kPre D cl0 [(cI, .int), (cJ, .long)] (wdK q k cI cJ) sz σ [.ref (q 0), .int x1]) (kQv D cl0 [(cI, .int), (cJ, .long)] (wdK q k cI cJ) (va_A (wdK q k cI cJ σ) sz) σ') 0 0 (va_A (wdK q k cI cJ σ) sz) := by
  refine kr_start (own := RK) (by decide) rfl (Nat.le_of_ble_eq_true rfl) ?_
  intro p e s m args below meth c ls C0 hsz hK hP hD hl
  subst hsz
  obtain ⟨hx, hb, hr, hml, hown, hts, hlocks⟩ := id C0
  have hA : ∀ z : Nat, s.heap.size ≤ z → va_A (wdK q k cI cJ σ) s.heap.size z := fun z h => Or.inr h
  generalize va_A (wdK q k cI cJ σ) s.heap.size = A at hD hA ⊢
  have hS : va_S A s.heap s.heap [] := va_S.rf
  have hl : lv_has ls 2 [(0, .ref (q 0)), (1, .int x1)] := hl
  unfold fK_joinWithPoolBefore at hf
  refine lv_aload_n hx hb dK_joinWithPoolBefore_0 rfl (lv_at hl 0 rfl) ?_
  refine gK_poolSum hx hb hown hts hK hP dK_joinWithPoolBefore_1 ?_
  refine lv_iload_n hx hb dK_joinWithPoolBefore_4 rfl (lv_at hl 1 rfl) ?_
  refine lv_iconst (v := 1) hx hb dK_joinWithPoolBefore_5 (by decide) ?_
  refine lv_isub hx hb dK_joinWithPoolBefore_6 ?_
  refine lv_dup2_11 hx hb dK_joinWithPoolBefore_7 rfl rfl ?_
  obtain ⟨v8, ev8, hf⟩ := kb1 hf
  refine kr_iaload hx hb hK hP 10 0 rfl rfl ev8 dK_joinWithPoolBefore_8 ?_
  refine lv_aload_n hx hb dK_joinWithPoolBefore_9 rfl (lv_at hl 0 rfl) ?_
  refine gK_poolSum hx hb hown hts hK hP dK_joinWithPoolBefore_10 ?_
  refine lv_iload_n hx hb dK_joinWithPoolBefore_13 rfl (lv_at hl 1 rfl) ?_
  obtain ⟨v14, ev14, hf⟩ := kb1 hf
  refine kr_iaload hx hb hK hP 10 0 rfl rfl ev14 dK_joinWithPoolBefore_14 ?_
  refine lv_iadd hx hb dK_joinWithPoolBefore_15 ?_
  obtain ⟨a16, ea16, hf⟩ := kb1 hf
  refine kr_iastore (σ' := (uK_poolSum σ a16)) hx hb hK hP hD hS 10 0 rfl rfl ea16 rfl dK_joinWithPoolBefore_16 (fun H locs hP hD hS => ?_)
  generalize (uK_poolSum σ a16) = s16 at hf hP hD
  refine lv_aload_n hx hb dK_joinWithPoolBefore_17 rfl (lv_at hl 0 rfl) ?_
  refine gK_poolSize hx hb hown hts hK hP dK_joinWithPoolBefore_18 ?_
  refine lv_iload_n hx hb dK_joinWithPoolBefore_21 rfl (lv_at hl 1 rfl) ?_
  refine lv_iconst (v := 1) hx hb dK_joinWithPoolBefore_22 (by decide) ?_
  refine lv_isub hx hb dK_joinWithPoolBefore_23 ?_
  refine lv_dup2_11 hx hb dK_joinWithPoolBefore_24 rfl rfl ?_
  obtain ⟨v25, ev25, hf⟩ := kb1 hf
  refine kr_iaload hx hb hK hP 11 0 rfl rfl ev25 dK_joinWithPoolBefore_25 ?_
  refine lv_aload_n hx hb dK_joinWithPoolBefore_26 rfl (lv_at hl 0 rfl) ?_
  refine gK_poolSize hx hb hown hts hK hP dK_joinWithPoolBefore_27 ?_
  refine lv_iload_n hx hb dK_joinWithPoolBefore_30 rfl (lv_at hl 1 rfl) ?_
  obtain ⟨v31, ev31, hf⟩ := kb1 hf
  refine kr_iaload hx hb hK hP 11 0 rfl rfl ev31 dK_joinWithPoolBefore_31 ?_
  refine lv_iadd hx hb dK_joinWithPoolBefore_32 ?_
  obtain ⟨a33, ea33, hf⟩ := kb1 hf
  refine kr_iastore (σ' := (uK_poolSize s16 a33)) hx hb hK hP hD hS 11 0 rfl rfl ea33 rfl dK_joinWithPoolBefore_33 (fun H locs hP hD hS => ?_)
  generalize (uK_poolSize s16 a33) = s33 at hf hP hD
  refine lv_aload_n hx hb dK_joinWithPoolBefore_34 rfl (lv_at hl 0 rfl) ?_
  refine gK_poolAges hx hb hown hts hK hP dK_joinWithPoolBefore_35 ?_
  refine lv_iload_n hx hb dK_joinWithPoolBefore_38 rfl (lv_at hl 1 rfl) ?_
  refine lv_iconst (v := 1) hx hb dK_joinWithPoolBefore_39 (by decide) ?_
  refine lv_isub hx hb dK_joinWithPoolBefore_40 ?_
  refine lv_dup2_11 hx hb dK_joinWithPoolBefore_41 rfl rfl ?_
  obtain ⟨v42, ev42, hf⟩ := kb1 hf
  refine kr_iaload hx hb hK hP 12 0 rfl rfl ev42 dK_joinWithPoolBefore_42 ?_
  refine lv_aload_n hx hb dK_joinWithPoolBefore_43 rfl (lv_at hl 0 rfl) ?_
  refine gK_poolAges hx hb hown hts hK hP dK_joinWithPoolBefore_44 ?_
  refine lv_iload_n hx hb dK_joinWithPoolBefore_47 rfl (lv_at hl 1 rfl) ?_
  obtain ⟨v48, ev48, hf⟩ := kb1 hf
  refine kr_iaload hx hb hK hP 12 0 rfl rfl ev48 dK_joinWithPoolBefore_48 ?_
  refine lv_iadd hx hb dK_joinWithPoolBefore_49 ?_
  obtain ⟨a50, ea50, hf⟩ := kb1 hf
  refine kr_iastore (σ' := (uK_poolAges s33 a50)) hx hb hK hP hD hS 12 0 rfl rfl ea50 rfl dK_joinWithPoolBefore_50 (fun H locs hP hD hS => ?_)
  generalize (uK_poolAges s33 a50) = s50 at hf hP hD
  refine lv_aload_n hx hb dK_joinWithPoolBefore_51 rfl (lv_at hl 0 rfl) ?_
  refine gK_poolLastAge hx hb hown hts hK hP dK_joinWithPoolBefore_52 ?_
  refine lv_iload_n hx hb dK_joinWithPoolBefore_55 rfl (lv_at hl 1 rfl) ?_
  refine lv_iconst (v := 1) hx hb dK_joinWithPoolBefore_56 (by decide) ?_
  refine lv_isub hx hb dK_joinWithPoolBefore_57 ?_
  refine lv_aload_n hx hb dK_joinWithPoolBefore_58 rfl (lv_at hl 0 rfl) ?_
  refine gK_poolLastAge hx hb hown hts hK hP dK_joinWithPoolBefore_59 ?_
  refine lv_iload_n hx hb dK_joinWithPoolBefore_62 rfl (lv_at hl 1 rfl) ?_
  obtain ⟨v63, ev63, hf⟩ := kb1 hf
  refine kr_iaload hx hb hK hP 13 0 rfl rfl ev63 dK_joinWithPoolBefore_63 ?_
  obtain ⟨a64, ea64, hf⟩ := kb1 hf
  refine kr_iastore (σ' := (uK_poolLastAge s50 a64)) hx hb hK hP hD hS 13 0 rfl rfl ea64 rfl dK_joinWithPoolBefore_64 (fun H locs hP hD hS => ?_)
  generalize (uK_poolLastAge s50 a64) = s64 at hf hP hD
  exact kr_vret C0 hK hP hD hS (Option.some.inj hf) dK_joinWithPoolBefore_65
theorem dK_makePools_0 : decode cK_makePools 0 = .ok (.iconst 0, 1) := by decide +kernel
theorem dK_makePools_1 : decode cK_makePools 1 = .ok (.istore_n 1, 1) := by decide +kernel
theorem dK_makePools_2 : decode cK_makePools 2 = .ok (.iconst 0, 1) := by decide +kernel
theorem dK_makePools_3 : decode cK_makePools 3 = .ok (.istore_n 2, 1) := by decide +kernel
theorem dK_makePools_4 : decode cK_makePools 4 = .ok (.iload_n 2, 1) := by decide +kernel
theorem dK_makePools_5 : decode cK_makePools 5 = .ok (.aload_n 0, 1) := by decide +kernel
theorem dK_makePools_6 : decode cK_makePools 6 = .ok (.getfield 29, 3) := by decide +kernel
theorem dK_makePools_9 : decode cK_makePools 9 = .ok (.if_icmp .ge (57), 3) := by decide +kernel
theorem dK_makePools_12 : decode cK_makePools 12 = .ok (.aload_n 0, 1) := by decide +kernel
theorem dK_makePools_13 : decode cK_makePools 13 = .ok (.iload_n 2, 1) := by decide +kernel
theorem dK_makePools_14 : decode cK_makePools 14 = .ok (.invokevirtual 183, 3) := by decide +kernel
theorem dK_makePools_17 : decode cK_makePools 17 = .ok (.ifCond .ne (6), 3) := by decide +kernel
theorem dK_makePools_20 : decode cK_makePools 20 = .ok (.goto (40), 3) := by decide +kernel
theorem dK_makePools_23 : decode cK_makePools 23 = .ok (.aload_n 0, 1) := by decide +kernel
theorem dK_makePools_24 : decode cK_makePools 24 = .ok (.iload_n 1, 1) := by decide +kernel
theorem dK_makePools_25 : decode cK_makePools 25 = .ok (.iload_n 2, 1) := by decide +kernel
theorem dK_makePools_26 : decode cK_makePools 26 = .ok (.invokevirtual 189, 3) := by decide +kernel
theorem dK_makePools_29 : decode cK_makePools 29 = .ok (.iinc 1 (1), 3) := by decide +kernel
theorem dK_makePools_32 : decode cK_makePools 32 = .ok (.iload_n 1, 1) := by decide +kernel
theorem dK_makePools_33 : decode cK_makePools 33 = .ok (.iconst 1, 1) := by decide +kernel
theorem dK_makePools_34 : decode cK_makePools 34 = .ok (.if_icmp .le (26), 3) := by decide +kernel
theorem dK_makePools_37 : decode cK_makePools 37 = .ok (.aload_n 0, 1) := by decide +kernel
theorem dK_makePools_38 : decode cK_makePools 38 = .ok (.iload_n 1, 1) := by decide +kernel
theorem dK_makePools_39 : decode cK_makePools 39 = .ok (.iconst 1, 1) := by decide +kernel
theorem dK_makePools_40 : decode cK_makePools 40 = .ok (.isub, 1) := by decide +kernel
theorem dK_makePools_41 : decode cK_makePools 41 = .ok (.invokevirtual 192, 3) := by decide +kernel
theorem dK_makePools_44 : decode cK_makePools 44 = .ok (.ifCond .eq (16), 3) := by decide +kernel
theorem dK_makePools_47 : decode cK_makePools 47 = .ok (.aload_n 0, 1) := by decide +kernel
theorem dK_makePools_48 : decode cK_makePools 48 = .ok (.iload_n 1, 1) := by decide +kernel
theorem dK_makePools_49 : decode cK_makePools 49 = .ok (.iconst 1, 1) := by decide +kernel
theorem dK_makePools_50 : decode cK_makePools 50 = .ok (.isub, 1) := by decide +kernel
theorem dK_makePools_51 : decode cK_makePools 51 = .ok (.invokevirtual 195, 3) := by decide +kernel
theorem dK_makePools_54 : decode cK_makePools 54 = .ok (.iinc 1 (-1), 3) := by decide +kernel
theorem dK_makePools_57 : decode cK_makePools 57 = .ok (.goto (-25), 3) := by decide +kernel
theorem dK_makePools_60 : decode cK_makePools 60 = .ok (.iinc 2 (1), 3) := by decide +kernel
theorem dK_makePools_63 : decode cK_makePools 63 = .ok (.goto (-59), 3) := by decide +kernel
theorem dK_makePools_66 : decode cK_makePools 66 = .ok (.iload_n 1, 1) := by decide +kernel
theorem dK_makePools_67 : decode cK_makePools 67 = .ok (.ireturn, 1) := by decide +kernel
set_option maxHeartbeats 4000000 in
set_option maxRecDepth 100000 in
theorem tK_makePools_32 {p : Program} {l : Launch} {e : Env} {s : State} {m : MethodId} {args : Array Value} {below : List Frame} {meth : Method} {c : Code} {D : va_G} {A : Nat → Prop} {q : Nat → Nat} {k : kK} {cI cJ : ClassId} {r : Int32} {σ' : sK} {fu : Nat} {h4 : sK → Int32 → Int32 → Option (Int32 × sK)} (C0 : Cx p s m args meth c cK_makePools 3 (some .int) RK TK) (hK : va_K D cl0 [(cI, .int), (cJ, .long)] s) (hA : ∀ z, s.heap.size ≤ z → A z) (ih4 : ∀ (σ : sK) (x1 : Int32) (x2 : Int32)(H : Heap) (locs : List Loc) (ls : Array Slot), h4 σ x1 x2 = some (r, σ') → lv_has ls 3 [(0, .ref (q 0)), (1, .int x1), (2, .int x2)] → va_P D cl0 (wdK q k cI cJ σ) H → va_D A (wdK q k cI cJ σ) → va_S A s.heap H locs → W p l e ({ frames := 3, cells := 0, slots := 0, locals := 70 }) s m args below meth c H locs 0 0 (MQ below (kQi D cl0 [(cI, .int), (cJ, .long)] (wdK q k cI cJ) A r σ') args s 0 0 A) (F0 m 4 ls [])) : ∀ n : Nat, ∀ (σ : sK) (x1 : Int32) (x2 : Int32)(H : Heap) (locs : List Loc) (ls : Array Slot), fK_makePools_32 fu k h4 n σ x1 x2 = some (r, σ') → lv_has ls 3 [(0, .ref (q 0)), (1, .int x1), (2, .int x2)] → va_P D cl0 (wdK q k cI cJ σ) H → va_D A (wdK q k cI cJ σ) → va_S A s.heap H locs → W p l e ({ frames := 3, cells := 0, slots := 0, locals := 70 }) s m args below meth c H locs 0 0 (MQ below (kQi D cl0 [(cI, .int), (cJ, .long)] (wdK q k cI cJ) A r σ') args s 0 0 A) (F0 m 32 ls []) := by
  obtain ⟨hx, hb, hr, hml, hown, hts, hlocks⟩ := id C0
  intro n
  induction n with
  | zero =>
    intro σ x1 x2 H locs ls hf hl hP hD hS
    cases hf
  | succ n ih =>
    intro σ x1 x2 H locs ls hf hl hP hD hS
    rw [fK_makePools_32] at hf
    refine lv_iload_n hx hb dK_makePools_32 rfl (lv_at hl 1 rfl) ?_
    refine lv_iconst (v := 1) hx hb dK_makePools_33 (by decide) ?_
    refine lv_icmp_le (tgt := 60) hx hb dK_makePools_34 (by decide) (fun c34 => ?_) (fun c34 => ?_)
    · have hf := (if_pos c34).symm.trans hf
      refine lv_iinc (v := (x2 + 1)) (lv' := [(2, .int (x2 + 1)), (0, .ref (q 0)), (1, .int x1)]) hx hb dK_makePools_60 hl (k := 2) rfl rfl (by decide) rfl (fun ls hl => ?_)
      refine lv_goto (tgt := 4) hx hb dK_makePools_63 (by decide) ?_
      exact ih4 σ x1 (x2 + 1) _ _ ls hf (lv_sub hl [1, 2, 0] rfl) hP hD hS
    · have hf := (if_neg c34).symm.trans hf
      refine lv_aload_n hx hb dK_makePools_37 rfl (lv_at hl 0 rfl) ?_
      refine lv_iload_n hx hb dK_makePools_38 rfl (lv_at hl 1 rfl) ?_
      refine lv_iconst (v := 1) hx hb dK_makePools_39 (by decide) ?_
      refine lv_isub hx hb dK_makePools_40 ?_
      obtain ⟨v41, ev41, hf⟩ := kb1 hf
      refine kr_callVi (av := [.int (x1 - 1)]) ⟨hx, hb, hml, hown, hts⟩ (mK_doesNotRise l D q k cI cJ _ σ (x1 - 1) v41 ev41) (cwV 1 hts (kgood_V TK_good (by decide +kernel)) rfl rfl rfl (by decide +kernel) ⟨Nat.le_of_ble_eq_true rfl, Nat.le_of_ble_eq_true rfl⟩) hK hP hD hS hA (ci := 0) (q0 := 0) rfl rfl rfl hl.1 rfl (Nat.le_of_ble_eq_true rfl) dK_makePools_41 ⟨Nat.le_of_ble_eq_true rfl, Nat.le_of_ble_eq_true rfl⟩ (fun H locs hP hD hS => ?_)
      refine lv_if_eq (tgt := 60) hx hb dK_makePools_44 (by decide) (fun c44 => ?_) (fun c44 => ?_)
      · have hf := (if_pos c44).symm.trans hf
        refine lv_iinc (v := (x2 + 1)) (lv' := [(2, .int (x2 + 1)), (0, .ref (q 0)), (1, .int x1)]) hx hb dK_makePools_60 hl (k := 2) rfl rfl (by decide) rfl (fun ls hl => ?_)
        refine lv_goto (tgt := 4) hx hb dK_makePools_63 (by decide) ?_
        exact ih4 σ x1 (x2 + 1) _ _ ls hf (lv_sub hl [1, 2, 0] rfl) hP hD hS
      · have hf := (if_neg c44).symm.trans hf
        refine lv_aload_n hx hb dK_makePools_47 rfl (lv_at hl 0 rfl) ?_
        refine lv_iload_n hx hb dK_makePools_48 rfl (lv_at hl 1 rfl) ?_
        refine lv_iconst (v := 1) hx hb dK_makePools_49 (by decide) ?_
        refine lv_isub hx hb dK_makePools_50 ?_
        obtain ⟨s51, es51, hf⟩ := kb1 hf
        refine kr_callVv (av := [.int (x1 - 1)]) ⟨hx, hb, hml, hown, hts⟩ (mK_joinWithPoolBefore l D q k cI cJ _ σ s51 (x1 - 1) es51) (cwV 1 hts (kgood_V TK_good (by decide +kernel)) rfl rfl rfl (by decide +kernel) ⟨Nat.le_of_ble_eq_true rfl, Nat.le_of_ble_eq_true rfl⟩) hK hP hD hS hA (ci := 0) (q0 := 0) rfl rfl rfl hl.1 rfl (Nat.le_of_ble_eq_true rfl) dK_makePools_51 ⟨Nat.le_of_ble_eq_true rfl, Nat.le_of_ble_eq_true rfl⟩ (fun H locs hP hD hS => ?_)
        refine lv_iinc (v := (x1 + (-1))) (lv' := [(1, .int (x1 + (-1))), (0, .ref (q 0)), (2, .int x2)]) hx hb dK_makePools_54 hl (k := 1) rfl rfl (by decide) rfl (fun ls hl => ?_)
        refine lv_goto (tgt := 32) hx hb dK_makePools_57 (by decide) ?_
        exact ih s51 (x1 + (-1)) x2 _ _ ls hf (lv_sub hl [1, 0, 2] rfl) hP hD hS
set_option maxHeartbeats 4000000 in
set_option maxRecDepth 100000 in
theorem tK_makePools_4 {p : Program} {l : Launch} {e : Env} {s : State} {m : MethodId} {args : Array Value} {below : List Frame} {meth : Method} {c : Code} {D : va_G} {A : Nat → Prop} {q : Nat → Nat} {k : kK} {cI cJ : ClassId} {r : Int32} {σ' : sK} {fu : Nat} (C0 : Cx p s m args meth c cK_makePools 3 (some .int) RK TK) (hK : va_K D cl0 [(cI, .int), (cJ, .long)] s) (hA : ∀ z, s.heap.size ≤ z → A z) : ∀ n : Nat, ∀ (σ : sK) (x1 : Int32) (x2 : Int32)(H : Heap) (locs : List Loc) (ls : Array Slot), fK_makePools_4 fu k n σ x1 x2 = some (r, σ') → lv_has ls 3 [(0, .ref (q 0)), (1, .int x1), (2, .int x2)] → va_P D cl0 (wdK q k cI cJ σ) H → va_D A (wdK q k cI cJ σ) → va_S A s.heap H locs → W p l e ({ frames := 3, cells := 0, slots := 0, locals := 70 }) s m args below meth c H locs 0 0 (MQ below (kQi D cl0 [(cI, .int), (cJ, .long)] (wdK q k cI cJ) A r σ') args s 0 0 A) (F0 m 4 ls []) := by
  obtain ⟨hx, hb, hr, hml, hown, hts, hlocks⟩ := id C0
  intro n
  induction n with
  | zero =>
    intro σ x1 x2 H locs ls hf hl hP hD hS
    cases hf
  | succ n ih =>
    intro σ x1 x2 H locs ls hf hl hP hD hS
    rw [fK_makePools_4] at hf
    refine lv_iload_n hx hb dK_makePools_4 rfl (lv_at hl 2 rfl) ?_
    refine lv_aload_n hx hb dK_makePools_5 rfl (lv_at hl 0 rfl) ?_
    refine gK_ages hx hb hown hts hK hP dK_makePools_6 ?_
    refine lv_icmp_ge (tgt := 66) hx hb dK_makePools_9 (by decide) (fun c9 => ?_) (fun c9 => ?_)
    · have hf := (if_pos c9).symm.trans hf
      refine lv_iload_n hx hb dK_makePools_66 rfl (lv_at hl 1 rfl) ?_
      exact kr_iret C0 hK hP hD hS (congrArg Prod.fst (Option.some.inj hf)) (congrArg Prod.snd (Option.some.inj hf)) dK_makePools_67
    · have hf := (if_neg c9).symm.trans hf
      refine lv_aload_n hx hb dK_makePools_12 rfl (lv_at hl 0 rfl) ?_
      refine lv_iload_n hx hb dK_makePools_13 rfl (lv_at hl 2 rfl) ?_
      obtain ⟨v14, ev14, hf⟩ := kb1 hf
      refine kr_callVi (av := [.int x2]) ⟨hx, hb, hml, hown, hts⟩ (mK_readingsOfAge l D q k cI cJ _ fu σ x2 v14 ev14) (cwV 1 hts (kgood_V TK_good (by decide +kernel)) rfl rfl rfl (by decide +kernel) ⟨Nat.le_of_ble_eq_true rfl, Nat.le_of_ble_eq_true rfl⟩) hK hP hD hS hA (ci := 0) (q0 := 0) rfl rfl rfl hl.1 rfl (Nat.le_of_ble_eq_true rfl) dK_makePools_14 ⟨Nat.le_of_ble_eq_true rfl, Nat.le_of_ble_eq_true rfl⟩ (fun H locs hP hD hS => ?_)
      refine lv_if_ne (tgt := 23) hx hb dK_makePools_17 (by decide) (fun c17 => ?_) (fun c17 => ?_)
      · have hf := (if_neg c17).symm.trans hf
        refine lv_aload_n hx hb dK_makePools_23 rfl (lv_at hl 0 rfl) ?_
        refine lv_iload_n hx hb dK_makePools_24 rfl (lv_at hl 1 rfl) ?_
        refine lv_iload_n hx hb dK_makePools_25 rfl (lv_at hl 2 rfl) ?_
        obtain ⟨s26, es26, hf⟩ := kb1 hf
        refine kr_callVv (av := [.int x1, .int x2]) ⟨hx, hb, hml, hown, hts⟩ (mK_openPool l D q k cI cJ _ fu σ s26 x1 x2 es26) (cwV 2 hts (kgood_V TK_good (by decide +kernel)) rfl rfl rfl (by decide +kernel) ⟨Nat.le_of_ble_eq_true rfl, Nat.le_of_ble_eq_true rfl⟩) hK hP hD hS hA (ci := 0) (q0 := 0) rfl rfl rfl hl.1 rfl (Nat.le_of_ble_eq_true rfl) dK_makePools_26 ⟨Nat.le_of_ble_eq_true rfl, Nat.le_of_ble_eq_true rfl⟩ (fun H locs hP hD hS => ?_)
        refine lv_iinc (v := (x1 + 1)) (lv' := [(1, .int (x1 + 1)), (0, .ref (q 0)), (2, .int x2)]) hx hb dK_makePools_29 hl (k := 1) rfl rfl (by decide) rfl (fun ls hl => ?_)
        exact tK_makePools_32 C0 hK hA ih fu s26 (x1 + 1) x2 _ _ ls hf (lv_sub hl [1, 0, 2] rfl) hP hD hS
      · have hf := (if_pos c17).symm.trans hf
        refine lv_goto (tgt := 60) hx hb dK_makePools_20 (by decide) ?_
        refine lv_iinc (v := (x2 + 1)) (lv' := [(2, .int (x2 + 1)), (0, .ref (q 0)), (1, .int x1)]) hx hb dK_makePools_60 hl (k := 2) rfl rfl (by decide) rfl (fun ls hl => ?_)
        refine lv_goto (tgt := 4) hx hb dK_makePools_63 (by decide) ?_
        exact ih σ x1 (x2 + 1) _ _ ls hf (lv_sub hl [1, 2, 0] rfl) hP hD hS
set_option maxHeartbeats 4000000 in
set_option maxRecDepth 100000 in
theorem mK_makePools (l : Launch) (D : va_G) (q : Nat → Nat) (k : kK) (cI cJ : ClassId) (sz : Nat) (fu : Nat) (σ : sK) (σ' : sK) (r : Int32) (hf : fK_makePools fu k σ = some (r, σ')) : Met l yK_makePools (.code yK_makePools cK_makePools 3 (some .int) :: TK) ({ frames := 3, cells := 0, slots := 0, locals := 70 }) (kPre D cl0 [(cI, .int), (cJ, .long)] (wdK q k cI cJ) sz σ [.ref (q 0)]) (kQi D cl0 [(cI, .int), (cJ, .long)] (wdK q k cI cJ) (va_A (wdK q k cI cJ σ) sz) r σ') 0 0 (va_A (wdK q k cI cJ σ) sz) := by
  refine kr_start (own := RK) (by decide) rfl (Nat.le_of_ble_eq_true rfl) ?_
  intro p e s m args below meth c ls C0 hsz hK hP hD hl
  subst hsz
  obtain ⟨hx, hb, hr, hml, hown, hts, hlocks⟩ := id C0
  have hA : ∀ z : Nat, s.heap.size ≤ z → va_A (wdK q k cI cJ σ) s.heap.size z := fun z h => Or.inr h
  generalize va_A (wdK q k cI cJ σ) s.heap.size = A at hD hA ⊢
  have hS : va_S A s.heap s.heap [] := va_S.rf
  have hl : lv_has ls 3 [(0, .ref (q 0))] := hl
  unfold fK_makePools at hf
  refine lv_iconst (v := 0) hx hb dK_makePools_0 (by decide) ?_
  refine lv_istore_n (lv' := [(1, .int 0), (0, .ref (q 0))]) hx hb dK_makePools_1 rfl hl (by decide) rfl (fun ls hl => ?_)
  refine lv_iconst (v := 0) hx hb dK_makePools_2 (by decide) ?_
  refine lv_istore_n (lv' := [(2, .int 0), (1, .int 0), (0, .ref (q 0))]) hx hb dK_makePools_3 rfl hl (by decide) rfl (fun ls hl => ?_)
  exact tK_makePools_4 C0 hK hA fu σ 0 0 _ _ ls hf (lv_sub hl [2, 1, 0] rfl) hP hD hS
theorem dK_poolOf_0 : decode cK_poolOf 0 = .ok (.aload_n 0, 1) := by decide +kernel
theorem dK_poolOf_1 : decode cK_poolOf 1 = .ok (.iload_n 1, 1) := by decide +kernel
theorem dK_poolOf_2 : decode cK_poolOf 2 = .ok (.invokevirtual 83, 3) := by decide +kernel
theorem dK_poolOf_5 : decode cK_poolOf 5 = .ok (.ifCond .eq (11), 3) := by decide +kernel
theorem dK_poolOf_8 : decode cK_poolOf 8 = .ok (.aload_n 0, 1) := by decide +kernel
theorem dK_poolOf_9 : decode cK_poolOf 9 = .ok (.iload_n 1, 1) := by decide +kernel
theorem dK_poolOf_10 : decode cK_poolOf 10 = .ok (.invokevirtual 183, 3) := by decide +kernel
theorem dK_poolOf_13 : decode cK_poolOf 13 = .ok (.ifCond .ne (5), 3) := by decide +kernel
theorem dK_poolOf_16 : decode cK_poolOf 16 = .ok (.iconst (-1), 1) := by decide +kernel
theorem dK_poolOf_17 : decode cK_poolOf 17 = .ok (.ireturn, 1) := by decide +kernel
theorem dK_poolOf_18 : decode cK_poolOf 18 = .ok (.aload_n 0, 1) := by decide +kernel
theorem dK_poolOf_19 : decode cK_poolOf 19 = .ok (.invokevirtual 186, 3) := by decide +kernel
theorem dK_poolOf_22 : decode cK_poolOf 22 = .ok (.istore_n 2, 1) := by decide +kernel
theorem dK_poolOf_23 : decode cK_poolOf 23 = .ok (.iconst 0, 1) := by decide +kernel
theorem dK_poolOf_24 : decode cK_poolOf 24 = .ok (.istore_n 3, 1) := by decide +kernel
theorem dK_poolOf_25 : decode cK_poolOf 25 = .ok (.iload_n 3, 1) := by decide +kernel
theorem dK_poolOf_26 : decode cK_poolOf 26 = .ok (.iload_n 2, 1) := by decide +kernel
theorem dK_poolOf_27 : decode cK_poolOf 27 = .ok (.if_icmp .ge (21), 3) := by decide +kernel
theorem dK_poolOf_30 : decode cK_poolOf 30 = .ok (.iload_n 1, 1) := by decide +kernel
theorem dK_poolOf_31 : decode cK_poolOf 31 = .ok (.aload_n 0, 1) := by decide +kernel
theorem dK_poolOf_32 : decode cK_poolOf 32 = .ok (.getfield 70, 3) := by decide +kernel
theorem dK_poolOf_35 : decode cK_poolOf 35 = .ok (.iload_n 3, 1) := by decide +kernel
theorem dK_poolOf_36 : decode cK_poolOf 36 = .ok (.iaload, 1) := by decide +kernel
theorem dK_poolOf_37 : decode cK_poolOf 37 = .ok (.if_icmp .gt (5), 3) := by decide +kernel
theorem dK_poolOf_40 : decode cK_poolOf 40 = .ok (.iload_n 3, 1) := by decide +kernel
theorem dK_poolOf_41 : decode cK_poolOf 41 = .ok (.ireturn, 1) := by decide +kernel
theorem dK_poolOf_42 : decode cK_poolOf 42 = .ok (.iinc 3 (1), 3) := by decide +kernel
theorem dK_poolOf_45 : decode cK_poolOf 45 = .ok (.goto (-20), 3) := by decide +kernel
theorem dK_poolOf_48 : decode cK_poolOf 48 = .ok (.iconst (-1), 1) := by decide +kernel
theorem dK_poolOf_49 : decode cK_poolOf 49 = .ok (.ireturn, 1) := by decide +kernel
set_option maxHeartbeats 4000000 in
set_option maxRecDepth 100000 in
theorem tK_poolOf_25 {p : Program} {l : Launch} {e : Env} {s : State} {m : MethodId} {args : Array Value} {below : List Frame} {meth : Method} {c : Code} {D : va_G} {A : Nat → Prop} {q : Nat → Nat} {k : kK} {cI cJ : ClassId} {r : Int32} {σ' : sK} {fu : Nat} (C0 : Cx p s m args meth c cK_poolOf 4 (some .int) RK TK) (hK : va_K D cl0 [(cI, .int), (cJ, .long)] s) (hA : ∀ z, s.heap.size ≤ z → A z) : ∀ n : Nat, ∀ (σ : sK) (x1 : Int32) (x2 : Int32) (x3 : Int32)(H : Heap) (locs : List Loc) (ls : Array Slot), fK_poolOf_25 fu k n σ x1 x2 x3 = some (r, σ') → lv_has ls 4 [(0, .ref (q 0)), (1, .int x1), (2, .int x2), (3, .int x3)] → va_P D cl0 (wdK q k cI cJ σ) H → va_D A (wdK q k cI cJ σ) → va_S A s.heap H locs → W p l e ({ frames := 4, cells := 0, slots := 0, locals := 92 }) s m args below meth c H locs 0 0 (MQ below (kQi D cl0 [(cI, .int), (cJ, .long)] (wdK q k cI cJ) A r σ') args s 0 0 A) (F0 m 25 ls []) := by
  obtain ⟨hx, hb, hr, hml, hown, hts, hlocks⟩ := id C0
  intro n
  induction n with
  | zero =>
    intro σ x1 x2 x3 H locs ls hf hl hP hD hS
    cases hf
  | succ n ih =>
    intro σ x1 x2 x3 H locs ls hf hl hP hD hS
    rw [fK_poolOf_25] at hf
    refine lv_iload_n hx hb dK_poolOf_25 rfl (lv_at hl 3 rfl) ?_
    refine lv_iload_n hx hb dK_poolOf_26 rfl (lv_at hl 2 rfl) ?_
    refine lv_icmp_ge (tgt := 48) hx hb dK_poolOf_27 (by decide) (fun c27 => ?_) (fun c27 => ?_)
    · have hf := (if_pos c27).symm.trans hf
      refine lv_iconst (v := (-1)) hx hb dK_poolOf_48 (by decide) ?_
      exact kr_iret C0 hK hP hD hS (congrArg Prod.fst (Option.some.inj hf)) (congrArg Prod.snd (Option.some.inj hf)) dK_poolOf_49
    · have hf := (if_neg c27).symm.trans hf
      refine lv_iload_n hx hb dK_poolOf_30 rfl (lv_at hl 1 rfl) ?_
      refine lv_aload_n hx hb dK_poolOf_31 rfl (lv_at hl 0 rfl) ?_
      refine gK_poolLastAge hx hb hown hts hK hP dK_poolOf_32 ?_
      refine lv_iload_n hx hb dK_poolOf_35 rfl (lv_at hl 3 rfl) ?_
      obtain ⟨v36, ev36, hf⟩ := kb1 hf
      refine kr_iaload hx hb hK hP 13 0 rfl rfl ev36 dK_poolOf_36 ?_
      refine lv_icmp_gt (tgt := 42) hx hb dK_poolOf_37 (by decide) (fun c37 => ?_) (fun c37 => ?_)
      · have hf := (if_pos c37).symm.trans hf
        refine lv_iinc (v := (x3 + 1)) (lv' := [(3, .int (x3 + 1)), (0, .ref (q 0)), (1, .int x1), (2, .int x2)]) hx hb dK_poolOf_42 hl (k := 3) rfl rfl (by decide) rfl (fun ls hl => ?_)
        refine lv_goto (tgt := 25) hx hb dK_poolOf_45 (by decide) ?_
        exact ih σ x1 x2 (x3 + 1) _ _ ls hf (lv_sub hl [1, 2, 3, 0] rfl) hP hD hS
      · have hf := (if_neg c37).symm.trans hf
        refine lv_iload_n hx hb dK_poolOf_40 rfl (lv_at hl 3 rfl) ?_
        exact kr_iret C0 hK hP hD hS (congrArg Prod.fst (Option.some.inj hf)) (congrArg Prod.snd (Option.some.inj hf)) dK_poolOf_41
set_option maxHeartbeats 4000000 in
set_option maxRecDepth 100000 in
theorem mK_poolOf (l : Launch) (D : va_G) (q : Nat → Nat) (k : kK) (cI cJ : ClassId) (sz : Nat) (fu : Nat) (σ : sK) (σ' : sK) (x1 : Int32) (r : Int32) (hf : fK_poolOf fu k σ x1 = some (r, σ')) : Met l yK_poolOf (.code yK_poolOf cK_poolOf 4 (some .int) :: TK) ({ frames := 4, cells := 0, slots := 0, locals := 92 }) (kPre D cl0 [(cI, .int), (cJ, .long)] (wdK q k cI cJ) sz σ [.ref (q 0), .int x1]) (kQi D cl0 [(cI, .int), (cJ, .long)] (wdK q k cI cJ) (va_A (wdK q k cI cJ σ) sz) r σ') 0 0 (va_A (wdK q k cI cJ σ) sz) := by
  refine kr_start (own := RK) (by decide) rfl (Nat.le_of_ble_eq_true rfl) ?_
  intro p e s m args below meth c ls C0 hsz hK hP hD hl
  subst hsz
  obtain ⟨hx, hb, hr, hml, hown, hts, hlocks⟩ := id C0
  have hA : ∀ z : Nat, s.heap.size ≤ z → va_A (wdK q k cI cJ σ) s.heap.size z := fun z h => Or.inr h
  generalize va_A (wdK q k cI cJ σ) s.heap.size = A at hD hA ⊢
  have hS : va_S A s.heap s.heap [] := va_S.rf
  have hl : lv_has ls 4 [(0, .ref (q 0)), (1, .int x1)] := hl
  unfold fK_poolOf at hf
  refine lv_aload_n hx hb dK_poolOf_0 rfl (lv_at hl 0 rfl) ?_
  refine lv_iload_n hx hb dK_poolOf_1 rfl (lv_at hl 1 rfl) ?_
  refine kr_callVi (av := [.int x1]) ⟨hx, hb, hml, hown, hts⟩ (mK_isAge l D q k cI cJ _ σ x1 _ rfl) (cwV 1 hts (kgood_V TK_good (by decide +kernel)) rfl rfl rfl (by decide +kernel) ⟨Nat.le_of_ble_eq_true rfl, Nat.le_of_ble_eq_true rfl⟩) hK hP hD hS hA (ci := 0) (q0 := 0) rfl rfl rfl hl.1 rfl (Nat.le_of_ble_eq_true rfl) dK_poolOf_2 ⟨Nat.le_of_ble_eq_true rfl, Nat.le_of_ble_eq_true rfl⟩ (fun H locs hP hD hS => ?_)
  refine lv_if_eq (tgt := 16) hx hb dK_poolOf_5 (by decide) (fun c5 => ?_) (fun c5 => ?_)
  · have hf := (if_pos c5).symm.trans hf
    refine lv_iconst (v := (-1)) hx hb dK_poolOf_16 (by decide) ?_
    exact kr_iret C0 hK hP hD hS (congrArg Prod.fst (Option.some.inj hf)) (congrArg Prod.snd (Option.some.inj hf)) dK_poolOf_17
  · have hf := (if_neg c5).symm.trans hf
    refine lv_aload_n hx hb dK_poolOf_8 rfl (lv_at hl 0 rfl) ?_
    refine lv_iload_n hx hb dK_poolOf_9 rfl (lv_at hl 1 rfl) ?_
    obtain ⟨v10, ev10, hf⟩ := kb1 hf
    refine kr_callVi (av := [.int x1]) ⟨hx, hb, hml, hown, hts⟩ (mK_readingsOfAge l D q k cI cJ _ fu σ x1 v10 ev10) (cwV 1 hts (kgood_V TK_good (by decide +kernel)) rfl rfl rfl (by decide +kernel) ⟨Nat.le_of_ble_eq_true rfl, Nat.le_of_ble_eq_true rfl⟩) hK hP hD hS hA (ci := 0) (q0 := 0) rfl rfl rfl hl.1 rfl (Nat.le_of_ble_eq_true rfl) dK_poolOf_10 ⟨Nat.le_of_ble_eq_true rfl, Nat.le_of_ble_eq_true rfl⟩ (fun H locs hP hD hS => ?_)
    refine lv_if_ne (tgt := 18) hx hb dK_poolOf_13 (by decide) (fun c13 => ?_) (fun c13 => ?_)
    · have hf := (if_neg c13).symm.trans hf
      refine lv_aload_n hx hb dK_poolOf_18 rfl (lv_at hl 0 rfl) ?_
      obtain ⟨v19, s19, es19, hf⟩ := kb2 hf
      refine kr_callVi (av := []) ⟨hx, hb, hml, hown, hts⟩ (mK_makePools l D q k cI cJ _ fu σ s19 v19 es19) (cwV 0 hts (kgood_V TK_good (by decide +kernel)) rfl rfl rfl (by decide +kernel) ⟨Nat.le_of_ble_eq_true rfl, Nat.le_of_ble_eq_true rfl⟩) hK hP hD hS hA (ci := 0) (q0 := 0) rfl rfl rfl hl.1 rfl (Nat.le_of_ble_eq_true rfl) dK_poolOf_19 ⟨Nat.le_of_ble_eq_true rfl, Nat.le_of_ble_eq_true rfl⟩ (fun H locs hP hD hS => ?_)
      refine lv_istore_n (lv' := [(2, .int v19), (0, .ref (q 0)), (1, .int x1)]) hx hb dK_poolOf_22 rfl hl (by decide) rfl (fun ls hl => ?_)
      refine lv_iconst (v := 0) hx hb dK_poolOf_23 (by decide) ?_
      refine lv_istore_n (lv' := [(3, .int 0), (2, .int v19), (0, .ref (q 0)), (1, .int x1)]) hx hb dK_poolOf_24 rfl hl (by decide) rfl (fun ls hl => ?_)
      exact tK_poolOf_25 C0 hK hA fu s19 x1 v19 0 _ _ ls hf (lv_sub hl [2, 3, 1, 0] rfl) hP hD hS
    · have hf := (if_pos c13).symm.trans hf
      refine lv_iconst (v := (-1)) hx hb dK_poolOf_16 (by decide) ?_
      exact kr_iret C0 hK hP hD hS (congrArg Prod.fst (Option.some.inj hf)) (congrArg Prod.snd (Option.some.inj hf)) dK_poolOf_17
theorem dK_length_0 : decode cK_length 0 = .ok (.iload_n 2, 1) := by decide +kernel
theorem dK_length_1 : decode cK_length 1 = .ok (.invokestatic 100, 3) := by decide +kernel
theorem dK_length_4 : decode cK_length 4 = .ok (.ifCond .ne (7), 3) := by decide +kernel
theorem dK_length_7 : decode cK_length 7 = .ok (.ldc2_w 103, 3) := by decide +kernel
theorem dK_length_10 : decode cK_length 10 = .ok (.lreturn, 1) := by decide +kernel
theorem dK_length_11 : decode cK_length 11 = .ok (.aload_n 0, 1) := by decide +kernel
theorem dK_length_12 : decode cK_length 12 = .ok (.iload_n 1, 1) := by decide +kernel
theorem dK_length_13 : decode cK_length 13 = .ok (.invokevirtual 180, 3) := by decide +kernel
theorem dK_length_16 : decode cK_length 16 = .ok (.istore_n 3, 1) := by decide +kernel
theorem dK_length_17 : decode cK_length 17 = .ok (.iload_n 3, 1) := by decide +kernel
theorem dK_length_18 : decode cK_length 18 = .ok (.iconst (-1), 1) := by decide +kernel
theorem dK_length_19 : decode cK_length 19 = .ok (.if_icmp .ne (9), 3) := by decide +kernel
theorem dK_length_22 : decode cK_length 22 = .ok (.ldc2_w 103, 3) := by decide +kernel
theorem dK_length_25 : decode cK_length 25 = .ok (.goto (21), 3) := by decide +kernel
theorem dK_length_28 : decode cK_length 28 = .ok (.aload_n 0, 1) := by decide +kernel
theorem dK_length_29 : decode cK_length 29 = .ok (.getfield 61, 3) := by decide +kernel
theorem dK_length_32 : decode cK_length 32 = .ok (.iload_n 3, 1) := by decide +kernel
theorem dK_length_33 : decode cK_length 33 = .ok (.iaload, 1) := by decide +kernel
theorem dK_length_34 : decode cK_length 34 = .ok (.i2l, 1) := by decide +kernel
theorem dK_length_35 : decode cK_length 35 = .ok (.aload_n 0, 1) := by decide +kernel
theorem dK_length_36 : decode cK_length 36 = .ok (.getfield 64, 3) := by decide +kernel
theorem dK_length_39 : decode cK_length 39 = .ok (.iload_n 3, 1) := by decide +kernel
theorem dK_length_40 : decode cK_length 40 = .ok (.iaload, 1) := by decide +kernel
theorem dK_length_41 : decode cK_length 41 = .ok (.i2l, 1) := by decide +kernel
theorem dK_length_42 : decode cK_length 42 = .ok (.iload_n 2, 1) := by decide +kernel
theorem dK_length_43 : decode cK_length 43 = .ok (.invokestatic 115, 3) := by decide +kernel
theorem dK_length_46 : decode cK_length 46 = .ok (.lreturn, 1) := by decide +kernel
set_option maxHeartbeats 4000000 in
set_option maxRecDepth 100000 in
theorem mK_length (l : Launch) (D : va_G) (q : Nat → Nat) (k : kK) (cI cJ : ClassId) (sz : Nat) (fu : Nat) (σ : sK) (σ' : sK) (x1 : Int32) (x2 : Int32) (r : Int64) (hf : fK_length fu k σ x1 x2 = some (r, σ')) : Met l yK_length (.code yK_length cK_length 4 (some .long) :: TK) ({ frames := 5, cells := 0, slots := 0, locals := 115 }) (kPre D cl0 [(cI, .int), (cJ, .long)] (wdK q k cI cJ) sz σ [.ref (q 0), .int x1, .int x2]) (kQl D cl0 [(cI, .int), (cJ, .long)] (wdK q k cI cJ) (va_A (wdK q k cI cJ σ) sz) r σ') 0 0 (va_A (wdK q k cI cJ σ) sz) := by
  refine kr_start (own := RK) (by decide) rfl (Nat.le_of_ble_eq_true rfl) ?_
  intro p e s m args below meth c ls C0 hsz hK hP hD hl
  subst hsz
  obtain ⟨hx, hb, hr, hml, hown, hts, hlocks⟩ := id C0
  have hA : ∀ z : Nat, s.heap.size ≤ z → va_A (wdK q k cI cJ σ) s.heap.size z := fun z h => Or.inr h
  generalize va_A (wdK q k cI cJ σ) s.heap.size = A at hD hA ⊢
  have hS : va_S A s.heap s.heap [] := va_S.rf
  have hl : lv_has ls 4 [(0, .ref (q 0)), (1, .int x1), (2, .int x2)] := hl
  unfold fK_length at hf
  refine lv_iload_n hx hb dK_length_0 rfl (lv_at hl 2 rfl) ?_
  refine kr_callSi (av := [.int x2]) ⟨hx, hb, hml, hown, hts⟩ (mK_isZeroOrOne l D _ (wdK q k cI cJ) [(cI, .int), (cJ, .long)] cl0 _ σ x2 _ rfl) (cwS 1 hts (kgood_S TK_good (by decide +kernel)) rfl rfl rfl (by decide +kernel) ⟨Nat.le_of_ble_eq_true rfl, Nat.le_of_ble_eq_true rfl⟩) hK hP hD hS hA rfl hl.1 rfl (Nat.le_of_ble_eq_true rfl) dK_length_1 ⟨Nat.le_of_ble_eq_true rfl, Nat.le_of_ble_eq_true rfl⟩ (fun H locs hP hD hS => ?_)
  refine lv_if_ne (tgt := 11) hx hb dK_length_4 (by decide) (fun c4 => ?_) (fun c4 => ?_)
  · have hf := (if_neg c4).symm.trans hf
    refine lv_aload_n hx hb dK_length_11 rfl (lv_at hl 0 rfl) ?_
    refine lv_iload_n hx hb dK_length_12 rfl (lv_at hl 1 rfl) ?_
    obtain ⟨v13, s13, es13, hf⟩ := kb2 hf
    refine kr_callVi (av := [.int x1]) ⟨hx, hb, hml, hown, hts⟩ (mK_poolOf l D q k cI cJ _ fu σ s13 x1 v13 es13) (cwV 1 hts (kgood_V TK_good (by decide +kernel)) rfl rfl rfl (by decide +kernel) ⟨Nat.le_of_ble_eq_true rfl, Nat.le_of_ble_eq_true rfl⟩) hK hP hD hS hA (ci := 0) (q0 := 0) rfl rfl rfl hl.1 rfl (Nat.le_of_ble_eq_true rfl) dK_length_13 ⟨Nat.le_of_ble_eq_true rfl, Nat.le_of_ble_eq_true rfl⟩ (fun H locs hP hD hS => ?_)
    refine lv_istore_n (lv' := [(3, .int v13), (0, .ref (q 0)), (1, .int x1), (2, .int x2)]) hx hb dK_length_16 rfl hl (by decide) rfl (fun ls hl => ?_)
    refine lv_iload_n hx hb dK_length_17 rfl (lv_at hl 0 rfl) ?_
    refine lv_iconst (v := (-1)) hx hb dK_length_18 (by decide) ?_
    refine lv_icmp_ne (tgt := 28) hx hb dK_length_19 (by decide) (fun c19 => ?_) (fun c19 => ?_)
    · have hf := (if_neg c19).symm.trans hf
      refine lv_aload_n hx hb dK_length_28 rfl (lv_at hl 1 rfl) ?_
      refine gK_poolSum hx hb hown hts hK hP dK_length_29 ?_
      refine lv_iload_n hx hb dK_length_32 rfl (lv_at hl 0 rfl) ?_
      obtain ⟨v33, ev33, hf⟩ := kb1 hf
      refine kr_iaload hx hb hK hP 10 0 rfl rfl ev33 dK_length_33 ?_
      refine lv_i2l (v := v33.toInt64) hx hb dK_length_34 rfl ?_
      refine lv_aload_n hx hb dK_length_35 rfl (lv_at hl 1 rfl) ?_
      refine gK_poolSize hx hb hown hts hK hP dK_length_36 ?_
      refine lv_iload_n hx hb dK_length_39 rfl (lv_at hl 0 rfl) ?_
      obtain ⟨v40, ev40, hf⟩ := kb1 hf
      refine kr_iaload hx hb hK hP 11 0 rfl rfl ev40 dK_length_40 ?_
      refine lv_i2l (v := v40.toInt64) hx hb dK_length_41 rfl ?_
      refine lv_iload_n hx hb dK_length_42 rfl (lv_at hl 3 rfl) ?_
      obtain ⟨v43, ev43, hf⟩ := kb1 hf
      refine kr_callSl (av := [.long v33.toInt64, .long v40.toInt64, .int x2]) ⟨hx, hb, hml, hown, hts⟩ (mK_fractionPart l D _ (wdK q k cI cJ) [(cI, .int), (cJ, .long)] cl0 _ fu s13 v33.toInt64 v40.toInt64 x2 v43 ev43) (cwS 3 hts (kgood_S TK_good (by decide +kernel)) rfl rfl rfl (by decide +kernel) ⟨Nat.le_of_ble_eq_true rfl, Nat.le_of_ble_eq_true rfl⟩) hK hP hD hS hA rfl hl.1 rfl (Nat.le_of_ble_eq_true rfl) dK_length_43 ⟨Nat.le_of_ble_eq_true rfl, Nat.le_of_ble_eq_true rfl⟩ (fun H locs hP hD hS => ?_)
      exact kr_lret C0 hK hP hD hS (congrArg Prod.fst (Option.some.inj hf)) (congrArg Prod.snd (Option.some.inj hf)) dK_length_46
    · have hf := (if_pos c19).symm.trans hf
      refine lv_ldc2 (v := -1) hx hb hown (hts (.constantLong RK 103 (-1)) (by decide +kernel)) dK_length_22 ?_
      refine lv_goto (tgt := 46) hx hb dK_length_25 (by decide) ?_
      exact kr_lret C0 hK hP hD hS (congrArg Prod.fst (Option.some.inj hf)) (congrArg Prod.snd (Option.some.inj hf)) dK_length_46
  · have hf := (if_pos c4).symm.trans hf
    refine lv_ldc2 (v := -1) hx hb hown (hts (.constantLong RK 103 (-1)) (by decide +kernel)) dK_length_7 ?_
    exact kr_lret C0 hK hP hD hS (congrArg Prod.fst (Option.some.inj hf)) (congrArg Prod.snd (Option.some.inj hf)) dK_length_10
theorem dK_pooled_0 : decode cK_pooled 0 = .ok (.aload_n 0, 1) := by decide +kernel
theorem dK_pooled_1 : decode cK_pooled 1 = .ok (.iload_n 1, 1) := by decide +kernel
theorem dK_pooled_2 : decode cK_pooled 2 = .ok (.invokevirtual 180, 3) := by decide +kernel
theorem dK_pooled_5 : decode cK_pooled 5 = .ok (.istore_n 2, 1) := by decide +kernel
theorem dK_pooled_6 : decode cK_pooled 6 = .ok (.iload_n 2, 1) := by decide +kernel
theorem dK_pooled_7 : decode cK_pooled 7 = .ok (.iconst (-1), 1) := by decide +kernel
theorem dK_pooled_8 : decode cK_pooled 8 = .ok (.if_icmp .ne (7), 3) := by decide +kernel
theorem dK_pooled_11 : decode cK_pooled 11 = .ok (.iconst 0, 1) := by decide +kernel
theorem dK_pooled_12 : decode cK_pooled 12 = .ok (.goto (9), 3) := by decide +kernel
theorem dK_pooled_15 : decode cK_pooled 15 = .ok (.aload_n 0, 1) := by decide +kernel
theorem dK_pooled_16 : decode cK_pooled 16 = .ok (.getfield 67, 3) := by decide +kernel
theorem dK_pooled_19 : decode cK_pooled 19 = .ok (.iload_n 2, 1) := by decide +kernel
theorem dK_pooled_20 : decode cK_pooled 20 = .ok (.iaload, 1) := by decide +kernel
theorem dK_pooled_21 : decode cK_pooled 21 = .ok (.ireturn, 1) := by decide +kernel
set_option maxHeartbeats 4000000 in
set_option maxRecDepth 100000 in
theorem mK_pooled (l : Launch) (D : va_G) (q : Nat → Nat) (k : kK) (cI cJ : ClassId) (sz : Nat) (fu : Nat) (σ : sK) (σ' : sK) (x1 : Int32) (r : Int32) (hf : fK_pooled fu k σ x1 = some (r, σ')) : Met l yK_pooled (.code yK_pooled cK_pooled 3 (some .int) :: TK) ({ frames := 5, cells := 0, slots := 0, locals := 115 }) (kPre D cl0 [(cI, .int), (cJ, .long)] (wdK q k cI cJ) sz σ [.ref (q 0), .int x1]) (kQi D cl0 [(cI, .int), (cJ, .long)] (wdK q k cI cJ) (va_A (wdK q k cI cJ σ) sz) r σ') 0 0 (va_A (wdK q k cI cJ σ) sz) := by
  refine kr_start (own := RK) (by decide) rfl (Nat.le_of_ble_eq_true rfl) ?_
  intro p e s m args below meth c ls C0 hsz hK hP hD hl
  subst hsz
  obtain ⟨hx, hb, hr, hml, hown, hts, hlocks⟩ := id C0
  have hA : ∀ z : Nat, s.heap.size ≤ z → va_A (wdK q k cI cJ σ) s.heap.size z := fun z h => Or.inr h
  generalize va_A (wdK q k cI cJ σ) s.heap.size = A at hD hA ⊢
  have hS : va_S A s.heap s.heap [] := va_S.rf
  have hl : lv_has ls 3 [(0, .ref (q 0)), (1, .int x1)] := hl
  unfold fK_pooled at hf
  refine lv_aload_n hx hb dK_pooled_0 rfl (lv_at hl 0 rfl) ?_
  refine lv_iload_n hx hb dK_pooled_1 rfl (lv_at hl 1 rfl) ?_
  obtain ⟨v2, s2, es2, hf⟩ := kb2 hf
  refine kr_callVi (av := [.int x1]) ⟨hx, hb, hml, hown, hts⟩ (mK_poolOf l D q k cI cJ _ fu σ s2 x1 v2 es2) (cwV 1 hts (kgood_V TK_good (by decide +kernel)) rfl rfl rfl (by decide +kernel) ⟨Nat.le_of_ble_eq_true rfl, Nat.le_of_ble_eq_true rfl⟩) hK hP hD hS hA (ci := 0) (q0 := 0) rfl rfl rfl hl.1 rfl (Nat.le_of_ble_eq_true rfl) dK_pooled_2 ⟨Nat.le_of_ble_eq_true rfl, Nat.le_of_ble_eq_true rfl⟩ (fun H locs hP hD hS => ?_)
  refine lv_istore_n (lv' := [(2, .int v2), (0, .ref (q 0)), (1, .int x1)]) hx hb dK_pooled_5 rfl hl (by decide) rfl (fun ls hl => ?_)
  refine lv_iload_n hx hb dK_pooled_6 rfl (lv_at hl 0 rfl) ?_
  refine lv_iconst (v := (-1)) hx hb dK_pooled_7 (by decide) ?_
  refine lv_icmp_ne (tgt := 15) hx hb dK_pooled_8 (by decide) (fun c8 => ?_) (fun c8 => ?_)
  · have hf := (if_neg c8).symm.trans hf
    refine lv_aload_n hx hb dK_pooled_15 rfl (lv_at hl 1 rfl) ?_
    refine gK_poolAges hx hb hown hts hK hP dK_pooled_16 ?_
    refine lv_iload_n hx hb dK_pooled_19 rfl (lv_at hl 0 rfl) ?_
    obtain ⟨v20, ev20, hf⟩ := kb1 hf
    refine kr_iaload hx hb hK hP 12 0 rfl rfl ev20 dK_pooled_20 ?_
    exact kr_iret C0 hK hP hD hS (congrArg Prod.fst (Option.some.inj hf)) (congrArg Prod.snd (Option.some.inj hf)) dK_pooled_21
  · have hf := (if_pos c8).symm.trans hf
    refine lv_iconst (v := 0) hx hb dK_pooled_11 (by decide) ?_
    refine lv_goto (tgt := 21) hx hb dK_pooled_12 (by decide) ?_
    exact kr_iret C0 hK hP hD hS (congrArg Prod.fst (Option.some.inj hf)) (congrArg Prod.snd (Option.some.inj hf)) dK_pooled_21
theorem dK_sex_0 : decode cK_sex 0 = .ok (.aload_n 0, 1) := by decide +kernel
theorem dK_sex_1 : decode cK_sex 1 = .ok (.iload_n 1, 1) := by decide +kernel
theorem dK_sex_2 : decode cK_sex 2 = .ok (.invokevirtual 79, 3) := by decide +kernel
theorem dK_sex_5 : decode cK_sex 5 = .ok (.ifCond .eq (18), 3) := by decide +kernel
theorem dK_sex_8 : decode cK_sex 8 = .ok (.iload_n 2, 1) := by decide +kernel
theorem dK_sex_9 : decode cK_sex 9 = .ok (.ifCond .lt (14), 3) := by decide +kernel
theorem dK_sex_12 : decode cK_sex 12 = .ok (.iload_n 2, 1) := by decide +kernel
theorem dK_sex_13 : decode cK_sex 13 = .ok (.iload_n 3, 1) := by decide +kernel
theorem dK_sex_14 : decode cK_sex 14 = .ok (.if_icmp .gt (9), 3) := by decide +kernel
theorem dK_sex_17 : decode cK_sex 17 = .ok (.iload_n 3, 1) := by decide +kernel
theorem dK_sex_18 : decode cK_sex 18 = .ok (.bipush (100), 2) := by decide +kernel
theorem dK_sex_20 : decode cK_sex 20 = .ok (.if_icmp .le (5), 3) := by decide +kernel
theorem dK_sex_23 : decode cK_sex 23 = .ok (.iconst 0, 1) := by decide +kernel
theorem dK_sex_24 : decode cK_sex 24 = .ok (.ireturn, 1) := by decide +kernel
theorem dK_sex_25 : decode cK_sex 25 = .ok (.aload_n 0, 1) := by decide +kernel
theorem dK_sex_26 : decode cK_sex 26 = .ok (.getfield 73, 3) := by decide +kernel
theorem dK_sex_29 : decode cK_sex 29 = .ok (.iload_n 1, 1) := by decide +kernel
theorem dK_sex_30 : decode cK_sex 30 = .ok (.iload_n 2, 1) := by decide +kernel
theorem dK_sex_31 : decode cK_sex 31 = .ok (.iastore, 1) := by decide +kernel
theorem dK_sex_32 : decode cK_sex 32 = .ok (.aload_n 0, 1) := by decide +kernel
theorem dK_sex_33 : decode cK_sex 33 = .ok (.getfield 76, 3) := by decide +kernel
theorem dK_sex_36 : decode cK_sex 36 = .ok (.iload_n 1, 1) := by decide +kernel
theorem dK_sex_37 : decode cK_sex 37 = .ok (.iload_n 3, 1) := by decide +kernel
theorem dK_sex_38 : decode cK_sex 38 = .ok (.iastore, 1) := by decide +kernel
theorem dK_sex_39 : decode cK_sex 39 = .ok (.iconst 1, 1) := by decide +kernel
theorem dK_sex_40 : decode cK_sex 40 = .ok (.ireturn, 1) := by decide +kernel
set_option maxHeartbeats 4000000 in
set_option maxRecDepth 100000 in
theorem mK_sex (l : Launch) (D : va_G) (q : Nat → Nat) (k : kK) (cI cJ : ClassId) (sz : Nat) (σ : sK) (σ' : sK) (x1 : Int32) (x2 : Int32) (x3 : Int32) (r : Int32) (hf : fK_sex k σ x1 x2 x3 = some (r, σ')) : Met l yK_sex (.code yK_sex cK_sex 4 (some .boolean) :: TK) ({ frames := 1, cells := 0, slots := 0, locals := 21 }) (kPre D cl0 [(cI, .int), (cJ, .long)] (wdK q k cI cJ) sz σ [.ref (q 0), .int x1, .int x2, .int x3]) (kQi D cl0 [(cI, .int), (cJ, .long)] (wdK q k cI cJ) (va_A (wdK q k cI cJ σ) sz) r σ') 0 0 (va_A (wdK q k cI cJ σ) sz) := by
  refine kr_start (own := RK) (by decide) rfl (Nat.le_of_ble_eq_true rfl) ?_
  intro p e s m args below meth c ls C0 hsz hK hP hD hl
  subst hsz
  obtain ⟨hx, hb, hr, hml, hown, hts, hlocks⟩ := id C0
  have hA : ∀ z : Nat, s.heap.size ≤ z → va_A (wdK q k cI cJ σ) s.heap.size z := fun z h => Or.inr h
  generalize va_A (wdK q k cI cJ σ) s.heap.size = A at hD hA ⊢
  have hS : va_S A s.heap s.heap [] := va_S.rf
  have hl : lv_has ls 4 [(0, .ref (q 0)), (1, .int x1), (2, .int x2), (3, .int x3)] := hl
  unfold fK_sex at hf
  refine lv_aload_n hx hb dK_sex_0 rfl (lv_at hl 0 rfl) ?_
  refine lv_iload_n hx hb dK_sex_1 rfl (lv_at hl 1 rfl) ?_
  refine kr_callVi (av := [.int x1]) ⟨hx, hb, hml, hown, hts⟩ (mK_isClass l D q k cI cJ _ σ x1 _ rfl) (cwV 1 hts (kgood_V TK_good (by decide +kernel)) rfl rfl rfl (by decide +kernel) ⟨Nat.le_of_ble_eq_true rfl, Nat.le_of_ble_eq_true rfl⟩) hK hP hD hS hA (ci := 0) (q0 := 0) rfl rfl rfl hl.1 rfl (Nat.le_of_ble_eq_true rfl) dK_sex_2 ⟨Nat.le_of_ble_eq_true rfl, Nat.le_of_ble_eq_true rfl⟩ (fun H locs hP hD hS => ?_)
  refine lv_if_eq (tgt := 23) hx hb dK_sex_5 (by decide) (fun c5 => ?_) (fun c5 => ?_)
  · have hf := (if_pos c5).symm.trans hf
    refine lv_iconst (v := 0) hx hb dK_sex_23 (by decide) ?_
    exact kr_zret C0 hK hP hD hS rfl (congrArg Prod.fst (Option.some.inj hf)) (congrArg Prod.snd (Option.some.inj hf)) dK_sex_24
  · have hf := (if_neg c5).symm.trans hf
    refine lv_iload_n hx hb dK_sex_8 rfl (lv_at hl 2 rfl) ?_
    refine lv_if_lt (tgt := 23) hx hb dK_sex_9 (by decide) (fun c9 => ?_) (fun c9 => ?_)
    · have hf := (if_pos c9).symm.trans hf
      refine lv_iconst (v := 0) hx hb dK_sex_23 (by decide) ?_
      exact kr_zret C0 hK hP hD hS rfl (congrArg Prod.fst (Option.some.inj hf)) (congrArg Prod.snd (Option.some.inj hf)) dK_sex_24
    · have hf := (if_neg c9).symm.trans hf
      refine lv_iload_n hx hb dK_sex_12 rfl (lv_at hl 2 rfl) ?_
      refine lv_iload_n hx hb dK_sex_13 rfl (lv_at hl 3 rfl) ?_
      refine lv_icmp_gt (tgt := 23) hx hb dK_sex_14 (by decide) (fun c14 => ?_) (fun c14 => ?_)
      · have hf := (if_pos c14).symm.trans hf
        refine lv_iconst (v := 0) hx hb dK_sex_23 (by decide) ?_
        exact kr_zret C0 hK hP hD hS rfl (congrArg Prod.fst (Option.some.inj hf)) (congrArg Prod.snd (Option.some.inj hf)) dK_sex_24
      · have hf := (if_neg c14).symm.trans hf
        refine lv_iload_n hx hb dK_sex_17 rfl (lv_at hl 3 rfl) ?_
        refine lv_bipush (v := 100) hx hb dK_sex_18 (by decide) ?_
        refine lv_icmp_le (tgt := 25) hx hb dK_sex_20 (by decide) (fun c20 => ?_) (fun c20 => ?_)
        · have hf := (if_pos c20).symm.trans hf
          refine lv_aload_n hx hb dK_sex_25 rfl (lv_at hl 0 rfl) ?_
          refine gK_maleCount hx hb hown hts hK hP dK_sex_26 ?_
          refine lv_iload_n hx hb dK_sex_29 rfl (lv_at hl 1 rfl) ?_
          refine lv_iload_n hx hb dK_sex_30 rfl (lv_at hl 2 rfl) ?_
          obtain ⟨a31, ea31, hf⟩ := kb1 hf
          refine kr_iastore (σ' := (uK_maleCount σ a31)) hx hb hK hP hD hS 14 0 rfl rfl ea31 rfl dK_sex_31 (fun H locs hP hD hS => ?_)
          generalize (uK_maleCount σ a31) = s31 at hf hP hD
          refine lv_aload_n hx hb dK_sex_32 rfl (lv_at hl 0 rfl) ?_
          refine gK_lookedAt hx hb hown hts hK hP dK_sex_33 ?_
          refine lv_iload_n hx hb dK_sex_36 rfl (lv_at hl 1 rfl) ?_
          refine lv_iload_n hx hb dK_sex_37 rfl (lv_at hl 3 rfl) ?_
          obtain ⟨a38, ea38, hf⟩ := kb1 hf
          refine kr_iastore (σ' := (uK_lookedAt s31 a38)) hx hb hK hP hD hS 15 0 rfl rfl ea38 rfl dK_sex_38 (fun H locs hP hD hS => ?_)
          generalize (uK_lookedAt s31 a38) = s38 at hf hP hD
          refine lv_iconst (v := 1) hx hb dK_sex_39 (by decide) ?_
          exact kr_zret C0 hK hP hD hS rfl (congrArg Prod.fst (Option.some.inj hf)) (congrArg Prod.snd (Option.some.inj hf)) dK_sex_40
        · have hf := (if_neg c20).symm.trans hf
          refine lv_iconst (v := 0) hx hb dK_sex_23 (by decide) ?_
          exact kr_zret C0 hK hP hD hS rfl (congrArg Prod.fst (Option.some.inj hf)) (congrArg Prod.snd (Option.some.inj hf)) dK_sex_24
theorem dK_males_0 : decode cK_males 0 = .ok (.aload_n 0, 1) := by decide +kernel
theorem dK_males_1 : decode cK_males 1 = .ok (.iload_n 1, 1) := by decide +kernel
theorem dK_males_2 : decode cK_males 2 = .ok (.invokevirtual 79, 3) := by decide +kernel
theorem dK_males_5 : decode cK_males 5 = .ok (.ifCond .eq (10), 3) := by decide +kernel
theorem dK_males_8 : decode cK_males 8 = .ok (.iload_n 2, 1) := by decide +kernel
theorem dK_males_9 : decode cK_males 9 = .ok (.invokestatic 100, 3) := by decide +kernel
theorem dK_males_12 : decode cK_males 12 = .ok (.ifCond .ne (7), 3) := by decide +kernel
theorem dK_males_15 : decode cK_males 15 = .ok (.ldc2_w 103, 3) := by decide +kernel
theorem dK_males_18 : decode cK_males 18 = .ok (.lreturn, 1) := by decide +kernel
theorem dK_males_19 : decode cK_males 19 = .ok (.iconst 0, 1) := by decide +kernel
theorem dK_males_20 : decode cK_males 20 = .ok (.istore_n 3, 1) := by decide +kernel
theorem dK_males_21 : decode cK_males 21 = .ok (.iconst 0, 1) := by decide +kernel
theorem dK_males_22 : decode cK_males 22 = .ok (.istore 4, 2) := by decide +kernel
theorem dK_males_24 : decode cK_males 24 = .ok (.iconst 0, 1) := by decide +kernel
theorem dK_males_25 : decode cK_males 25 = .ok (.istore 5, 2) := by decide +kernel
theorem dK_males_27 : decode cK_males 27 = .ok (.iload 5, 2) := by decide +kernel
theorem dK_males_29 : decode cK_males 29 = .ok (.aload_n 0, 1) := by decide +kernel
theorem dK_males_30 : decode cK_males 30 = .ok (.getfield 26, 3) := by decide +kernel
theorem dK_males_33 : decode cK_males 33 = .ok (.if_icmp .ge (47), 3) := by decide +kernel
theorem dK_males_36 : decode cK_males 36 = .ok (.aload_n 0, 1) := by decide +kernel
theorem dK_males_37 : decode cK_males 37 = .ok (.getfield 45, 3) := by decide +kernel
theorem dK_males_40 : decode cK_males 40 = .ok (.iload 5, 2) := by decide +kernel
theorem dK_males_42 : decode cK_males 42 = .ok (.iaload, 1) := by decide +kernel
theorem dK_males_43 : decode cK_males 43 = .ok (.aload_n 0, 1) := by decide +kernel
theorem dK_males_44 : decode cK_males 44 = .ok (.getfield 45, 3) := by decide +kernel
theorem dK_males_47 : decode cK_males 47 = .ok (.iload_n 1, 1) := by decide +kernel
theorem dK_males_48 : decode cK_males 48 = .ok (.iaload, 1) := by decide +kernel
theorem dK_males_49 : decode cK_males 49 = .ok (.if_icmp .ne (25), 3) := by decide +kernel
theorem dK_males_52 : decode cK_males 52 = .ok (.iload_n 3, 1) := by decide +kernel
theorem dK_males_53 : decode cK_males 53 = .ok (.aload_n 0, 1) := by decide +kernel
theorem dK_males_54 : decode cK_males 54 = .ok (.getfield 73, 3) := by decide +kernel
theorem dK_males_57 : decode cK_males 57 = .ok (.iload 5, 2) := by decide +kernel
theorem dK_males_59 : decode cK_males 59 = .ok (.iaload, 1) := by decide +kernel
theorem dK_males_60 : decode cK_males 60 = .ok (.iadd, 1) := by decide +kernel
theorem dK_males_61 : decode cK_males 61 = .ok (.istore_n 3, 1) := by decide +kernel
theorem dK_males_62 : decode cK_males 62 = .ok (.iload 4, 2) := by decide +kernel
theorem dK_males_64 : decode cK_males 64 = .ok (.aload_n 0, 1) := by decide +kernel
theorem dK_males_65 : decode cK_males 65 = .ok (.getfield 76, 3) := by decide +kernel
theorem dK_males_68 : decode cK_males 68 = .ok (.iload 5, 2) := by decide +kernel
theorem dK_males_70 : decode cK_males 70 = .ok (.iaload, 1) := by decide +kernel
theorem dK_males_71 : decode cK_males 71 = .ok (.iadd, 1) := by decide +kernel
theorem dK_males_72 : decode cK_males 72 = .ok (.istore 4, 2) := by decide +kernel
theorem dK_males_74 : decode cK_males 74 = .ok (.iinc 5 (1), 3) := by decide +kernel
theorem dK_males_77 : decode cK_males 77 = .ok (.goto (-50), 3) := by decide +kernel
theorem dK_males_80 : decode cK_males 80 = .ok (.iload 4, 2) := by decide +kernel
theorem dK_males_82 : decode cK_males 82 = .ok (.ifCond .ne (9), 3) := by decide +kernel
theorem dK_males_85 : decode cK_males 85 = .ok (.ldc2_w 103, 3) := by decide +kernel
theorem dK_males_88 : decode cK_males 88 = .ok (.goto (12), 3) := by decide +kernel
theorem dK_males_91 : decode cK_males 91 = .ok (.iload_n 3, 1) := by decide +kernel
theorem dK_males_92 : decode cK_males 92 = .ok (.i2l, 1) := by decide +kernel
theorem dK_males_93 : decode cK_males 93 = .ok (.iload 4, 2) := by decide +kernel
theorem dK_males_95 : decode cK_males 95 = .ok (.i2l, 1) := by decide +kernel
theorem dK_males_96 : decode cK_males 96 = .ok (.iload_n 2, 1) := by decide +kernel
theorem dK_males_97 : decode cK_males 97 = .ok (.invokestatic 115, 3) := by decide +kernel
theorem dK_males_100 : decode cK_males 100 = .ok (.lreturn, 1) := by decide +kernel
set_option maxHeartbeats 4000000 in
set_option maxRecDepth 100000 in
theorem tK_males_27 {p : Program} {l : Launch} {e : Env} {s : State} {m : MethodId} {args : Array Value} {below : List Frame} {meth : Method} {c : Code} {D : va_G} {A : Nat → Prop} {q : Nat → Nat} {k : kK} {cI cJ : ClassId} {r : Int64} {σ : sK} {fu : Nat} (C0 : Cx p s m args meth c cK_males 6 (some .long) RK TK) (hK : va_K D cl0 [(cI, .int), (cJ, .long)] s) (hA : ∀ z, s.heap.size ≤ z → A z) : ∀ n : Nat, ∀ (x1 : Int32) (x2 : Int32) (x3 : Int32) (x4 : Int32) (x5 : Int32)(H : Heap) (locs : List Loc) (ls : Array Slot), fK_males_27 fu k σ n x1 x2 x3 x4 x5 = some r → lv_has ls 6 [(0, .ref (q 0)), (1, .int x1), (2, .int x2), (3, .int x3), (4, .int x4), (5, .int x5)] → va_P D cl0 (wdK q k cI cJ σ) H → va_D A (wdK q k cI cJ σ) → va_S A s.heap H locs → W p l e ({ frames := 2, cells := 0, slots := 0, locals := 56 }) s m args below meth c H locs 0 0 (MQ below (kQl D cl0 [(cI, .int), (cJ, .long)] (wdK q k cI cJ) A r σ) args s 0 0 A) (F0 m 27 ls []) := by
  obtain ⟨hx, hb, hr, hml, hown, hts, hlocks⟩ := id C0
  intro n
  induction n with
  | zero =>
    intro x1 x2 x3 x4 x5 H locs ls hf hl hP hD hS
    cases hf
  | succ n ih =>
    intro x1 x2 x3 x4 x5 H locs ls hf hl hP hD hS
    rw [fK_males_27] at hf
    refine lv_iload hx hb dK_males_27 (lv_at hl 5 rfl) ?_
    refine lv_aload_n hx hb dK_males_29 rfl (lv_at hl 0 rfl) ?_
    refine gK_classes hx hb hown hts hK hP dK_males_30 ?_
    refine lv_icmp_ge (tgt := 80) hx hb dK_males_33 (by decide) (fun c33 => ?_) (fun c33 => ?_)
    · have hf := (if_pos c33).symm.trans hf
      refine lv_iload hx hb dK_males_80 (lv_at hl 4 rfl) ?_
      refine lv_if_ne (tgt := 91) hx hb dK_males_82 (by decide) (fun c82 => ?_) (fun c82 => ?_)
      · have hf := (if_neg c82).symm.trans hf
        refine lv_iload_n hx hb dK_males_91 rfl (lv_at hl 3 rfl) ?_
        refine lv_i2l (v := x3.toInt64) hx hb dK_males_92 rfl ?_
        refine lv_iload hx hb dK_males_93 (lv_at hl 4 rfl) ?_
        refine lv_i2l (v := x4.toInt64) hx hb dK_males_95 rfl ?_
        refine lv_iload_n hx hb dK_males_96 rfl (lv_at hl 2 rfl) ?_
        obtain ⟨v97, ev97, hf⟩ := kb1 hf
        refine kr_callSl (av := [.long x3.toInt64, .long x4.toInt64, .int x2]) ⟨hx, hb, hml, hown, hts⟩ (mK_fractionPart l D _ (wdK q k cI cJ) [(cI, .int), (cJ, .long)] cl0 _ fu σ x3.toInt64 x4.toInt64 x2 v97 ev97) (cwS 3 hts (kgood_S TK_good (by decide +kernel)) rfl rfl rfl (by decide +kernel) ⟨Nat.le_of_ble_eq_true rfl, Nat.le_of_ble_eq_true rfl⟩) hK hP hD hS hA rfl hl.1 rfl (Nat.le_of_ble_eq_true rfl) dK_males_97 ⟨Nat.le_of_ble_eq_true rfl, Nat.le_of_ble_eq_true rfl⟩ (fun H locs hP hD hS => ?_)
        exact kr_lret C0 hK hP hD hS (Option.some.inj hf) rfl dK_males_100
      · have hf := (if_pos c82).symm.trans hf
        refine lv_ldc2 (v := -1) hx hb hown (hts (.constantLong RK 103 (-1)) (by decide +kernel)) dK_males_85 ?_
        refine lv_goto (tgt := 100) hx hb dK_males_88 (by decide) ?_
        exact kr_lret C0 hK hP hD hS (Option.some.inj hf) rfl dK_males_100
    · have hf := (if_neg c33).symm.trans hf
      refine lv_aload_n hx hb dK_males_36 rfl (lv_at hl 0 rfl) ?_
      refine gK_groupOf hx hb hown hts hK hP dK_males_37 ?_
      refine lv_iload hx hb dK_males_40 (lv_at hl 5 rfl) ?_
      obtain ⟨v42, ev42, hf⟩ := kb1 hf
      refine kr_iaload hx hb hK hP 5 0 rfl rfl ev42 dK_males_42 ?_
      refine lv_aload_n hx hb dK_males_43 rfl (lv_at hl 0 rfl) ?_
      refine gK_groupOf hx hb hown hts hK hP dK_males_44 ?_
      refine lv_iload_n hx hb dK_males_47 rfl (lv_at hl 1 rfl) ?_
      obtain ⟨v48, ev48, hf⟩ := kb1 hf
      refine kr_iaload hx hb hK hP 5 0 rfl rfl ev48 dK_males_48 ?_
      refine lv_icmp_ne (tgt := 74) hx hb dK_males_49 (by decide) (fun c49 => ?_) (fun c49 => ?_)
      · have hf := (if_neg c49).symm.trans hf
        refine lv_iinc (v := (x5 + 1)) (lv' := [(5, .int (x5 + 1)), (0, .ref (q 0)), (1, .int x1), (2, .int x2), (3, .int x3), (4, .int x4)]) hx hb dK_males_74 hl (k := 5) rfl rfl (by decide) rfl (fun ls hl => ?_)
        refine lv_goto (tgt := 27) hx hb dK_males_77 (by decide) ?_
        exact ih x1 x2 x3 x4 (x5 + 1) _ _ ls hf (lv_sub hl [1, 2, 3, 4, 5, 0] rfl) hP hD hS
      · have hf := (if_pos c49).symm.trans hf
        refine lv_iload_n hx hb dK_males_52 rfl (lv_at hl 3 rfl) ?_
        refine lv_aload_n hx hb dK_males_53 rfl (lv_at hl 0 rfl) ?_
        refine gK_maleCount hx hb hown hts hK hP dK_males_54 ?_
        refine lv_iload hx hb dK_males_57 (lv_at hl 5 rfl) ?_
        obtain ⟨v59, ev59, hf⟩ := kb1 hf
        refine kr_iaload hx hb hK hP 14 0 rfl rfl ev59 dK_males_59 ?_
        refine lv_iadd hx hb dK_males_60 ?_
        refine lv_istore_n (lv' := [(3, .int (x3 + v59)), (0, .ref (q 0)), (1, .int x1), (2, .int x2), (4, .int x4), (5, .int x5)]) hx hb dK_males_61 rfl hl (by decide) rfl (fun ls hl => ?_)
        refine lv_iload hx hb dK_males_62 (lv_at hl 4 rfl) ?_
        refine lv_aload_n hx hb dK_males_64 rfl (lv_at hl 1 rfl) ?_
        refine gK_lookedAt hx hb hown hts hK hP dK_males_65 ?_
        refine lv_iload hx hb dK_males_68 (lv_at hl 5 rfl) ?_
        obtain ⟨v70, ev70, hf⟩ := kb1 hf
        refine kr_iaload hx hb hK hP 15 0 rfl rfl ev70 dK_males_70 ?_
        refine lv_iadd hx hb dK_males_71 ?_
        refine lv_istore (lv' := [(4, .int (x4 + v70)), (3, .int (x3 + v59)), (0, .ref (q 0)), (1, .int x1), (2, .int x2), (5, .int x5)]) hx hb dK_males_72 hl (by decide) rfl (fun ls hl => ?_)
        refine lv_iinc (v := (x5 + 1)) (lv' := [(5, .int (x5 + 1)), (4, .int (x4 + v70)), (3, .int (x3 + v59)), (0, .ref (q 0)), (1, .int x1), (2, .int x2)]) hx hb dK_males_74 hl (k := 5) rfl rfl (by decide) rfl (fun ls hl => ?_)
        refine lv_goto (tgt := 27) hx hb dK_males_77 (by decide) ?_
        exact ih x1 x2 (x3 + v59) (x4 + v70) (x5 + 1) _ _ ls hf (lv_sub hl [3, 4, 5, 2, 1, 0] rfl) hP hD hS
set_option maxHeartbeats 4000000 in
set_option maxRecDepth 100000 in
theorem mK_males (l : Launch) (D : va_G) (q : Nat → Nat) (k : kK) (cI cJ : ClassId) (sz : Nat) (fu : Nat) (σ : sK) (x1 : Int32) (x2 : Int32) (r : Int64) (hf : fK_males fu k σ x1 x2 = some r) : Met l yK_males (.code yK_males cK_males 6 (some .long) :: TK) ({ frames := 2, cells := 0, slots := 0, locals := 56 }) (kPre D cl0 [(cI, .int), (cJ, .long)] (wdK q k cI cJ) sz σ [.ref (q 0), .int x1, .int x2]) (kQl D cl0 [(cI, .int), (cJ, .long)] (wdK q k cI cJ) (va_A (wdK q k cI cJ σ) sz) r σ) 0 0 (va_A (wdK q k cI cJ σ) sz) := by
  refine kr_start (own := RK) (by decide) rfl (Nat.le_of_ble_eq_true rfl) ?_
  intro p e s m args below meth c ls C0 hsz hK hP hD hl
  subst hsz
  obtain ⟨hx, hb, hr, hml, hown, hts, hlocks⟩ := id C0
  have hA : ∀ z : Nat, s.heap.size ≤ z → va_A (wdK q k cI cJ σ) s.heap.size z := fun z h => Or.inr h
  generalize va_A (wdK q k cI cJ σ) s.heap.size = A at hD hA ⊢
  have hS : va_S A s.heap s.heap [] := va_S.rf
  have hl : lv_has ls 6 [(0, .ref (q 0)), (1, .int x1), (2, .int x2)] := hl
  unfold fK_males at hf
  refine lv_aload_n hx hb dK_males_0 rfl (lv_at hl 0 rfl) ?_
  refine lv_iload_n hx hb dK_males_1 rfl (lv_at hl 1 rfl) ?_
  refine kr_callVi (av := [.int x1]) ⟨hx, hb, hml, hown, hts⟩ (mK_isClass l D q k cI cJ _ σ x1 _ rfl) (cwV 1 hts (kgood_V TK_good (by decide +kernel)) rfl rfl rfl (by decide +kernel) ⟨Nat.le_of_ble_eq_true rfl, Nat.le_of_ble_eq_true rfl⟩) hK hP hD hS hA (ci := 0) (q0 := 0) rfl rfl rfl hl.1 rfl (Nat.le_of_ble_eq_true rfl) dK_males_2 ⟨Nat.le_of_ble_eq_true rfl, Nat.le_of_ble_eq_true rfl⟩ (fun H locs hP hD hS => ?_)
  refine lv_if_eq (tgt := 15) hx hb dK_males_5 (by decide) (fun c5 => ?_) (fun c5 => ?_)
  · have hf := (if_pos c5).symm.trans hf
    refine lv_ldc2 (v := -1) hx hb hown (hts (.constantLong RK 103 (-1)) (by decide +kernel)) dK_males_15 ?_
    exact kr_lret C0 hK hP hD hS (Option.some.inj hf) rfl dK_males_18
  · have hf := (if_neg c5).symm.trans hf
    refine lv_iload_n hx hb dK_males_8 rfl (lv_at hl 2 rfl) ?_
    refine kr_callSi (av := [.int x2]) ⟨hx, hb, hml, hown, hts⟩ (mK_isZeroOrOne l D _ (wdK q k cI cJ) [(cI, .int), (cJ, .long)] cl0 _ σ x2 _ rfl) (cwS 1 hts (kgood_S TK_good (by decide +kernel)) rfl rfl rfl (by decide +kernel) ⟨Nat.le_of_ble_eq_true rfl, Nat.le_of_ble_eq_true rfl⟩) hK hP hD hS hA rfl hl.1 rfl (Nat.le_of_ble_eq_true rfl) dK_males_9 ⟨Nat.le_of_ble_eq_true rfl, Nat.le_of_ble_eq_true rfl⟩ (fun H locs hP hD hS => ?_)
    refine lv_if_ne (tgt := 19) hx hb dK_males_12 (by decide) (fun c12 => ?_) (fun c12 => ?_)
    · have hf := (if_neg c12).symm.trans hf
      refine lv_iconst (v := 0) hx hb dK_males_19 (by decide) ?_
      refine lv_istore_n (lv' := [(3, .int 0), (0, .ref (q 0)), (1, .int x1), (2, .int x2)]) hx hb dK_males_20 rfl hl (by decide) rfl (fun ls hl => ?_)
      refine lv_iconst (v := 0) hx hb dK_males_21 (by decide) ?_
      refine lv_istore (lv' := [(4, .int 0), (3, .int 0), (0, .ref (q 0)), (1, .int x1), (2, .int x2)]) hx hb dK_males_22 hl (by decide) rfl (fun ls hl => ?_)
      refine lv_iconst (v := 0) hx hb dK_males_24 (by decide) ?_
      refine lv_istore (lv' := [(5, .int 0), (4, .int 0), (3, .int 0), (0, .ref (q 0)), (1, .int x1), (2, .int x2)]) hx hb dK_males_25 hl (by decide) rfl (fun ls hl => ?_)
      exact tK_males_27 C0 hK hA fu x1 x2 0 0 0 _ _ ls hf (lv_sub hl [3, 4, 5, 2, 1, 0] rfl) hP hD hS
    · have hf := (if_pos c12).symm.trans hf
      refine lv_ldc2 (v := -1) hx hb hown (hts (.constantLong RK 103 (-1)) (by decide +kernel)) dK_males_15 ?_
      exact kr_lret C0 hK hP hD hS (Option.some.inj hf) rfl dK_males_18
end
