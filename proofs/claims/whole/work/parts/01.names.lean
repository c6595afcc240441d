-- ===== PART A: goes FIRST, ahead of the names: the tables' words, and 'selects' of the private methods out of them =====
/-- a private method of a class that the tables say can be made, by its rows of tables_1 -/
def lw_okq (q : MethodName × Nat) : Prop := (q.1.cls ≠ "java/lang/invoke/MethodHandle" ∧ q.1.cls ≠ "java/lang/invoke/VarHandle") ∧ Cond.instantiable q.1.cls q.2 ∈ tables_1 ∧ Cond.privateMethod q.1 ∈ tables_1 ∧ Cond.instanceMethod q.1 ∈ tables_1
theorem lw_p0 : lw_okq (⟨"AgeKeys", "isClass", "(I)Z"⟩, 19) := ⟨⟨by decide +kernel, by decide +kernel⟩, List.mem_of_getElem? (i := 5) (by decide +kernel), List.mem_of_getElem? (i := 83) (by decide +kernel), List.mem_of_getElem? (i := 84) (by decide +kernel)⟩
theorem lw_p1 : lw_okq (⟨"AgeKeys", "isAge", "(I)Z"⟩, 19) := ⟨⟨by decide +kernel, by decide +kernel⟩, List.mem_of_getElem? (i := 5) (by decide +kernel), List.mem_of_getElem? (i := 87) (by decide +kernel), List.mem_of_getElem? (i := 88) (by decide +kernel)⟩
theorem lw_p2 : lw_okq (⟨"AgeKeys", "sizeIn", "(II)I"⟩, 19) := ⟨⟨by decide +kernel, by decide +kernel⟩, List.mem_of_getElem? (i := 5) (by decide +kernel), List.mem_of_getElem? (i := 94) (by decide +kernel), List.mem_of_getElem? (i := 95) (by decide +kernel)⟩
theorem lw_p3 : lw_okq (⟨"AgeKeys", "countReading", "(III)V"⟩, 19) := ⟨⟨by decide +kernel, by decide +kernel⟩, List.mem_of_getElem? (i := 5) (by decide +kernel), List.mem_of_getElem? (i := 98) (by decide +kernel), List.mem_of_getElem? (i := 99) (by decide +kernel)⟩
theorem lw_p4 : lw_okq (⟨"AgeKeys", "cell", "(III)I"⟩, 19) := ⟨⟨by decide +kernel, by decide +kernel⟩, List.mem_of_getElem? (i := 5) (by decide +kernel), List.mem_of_getElem? (i := 102) (by decide +kernel), List.mem_of_getElem? (i := 103) (by decide +kernel)⟩
theorem lw_p5 : lw_okq (⟨"AgeKeys", "sourceOf", "(I)I"⟩, 19) := ⟨⟨by decide +kernel, by decide +kernel⟩, List.mem_of_getElem? (i := 5) (by decide +kernel), List.mem_of_getElem? (i := 118) (by decide +kernel), List.mem_of_getElem? (i := 119) (by decide +kernel)⟩
theorem lw_p6 : lw_okq (⟨"AgeKeys", "own", "(I)I"⟩, 19) := ⟨⟨by decide +kernel, by decide +kernel⟩, List.mem_of_getElem? (i := 5) (by decide +kernel), List.mem_of_getElem? (i := 122) (by decide +kernel), List.mem_of_getElem? (i := 123) (by decide +kernel)⟩
theorem lw_p7 : lw_okq (⟨"AgeKeys", "ownOfAge", "(II)I"⟩, 19) := ⟨⟨by decide +kernel, by decide +kernel⟩, List.mem_of_getElem? (i := 5) (by decide +kernel), List.mem_of_getElem? (i := 126) (by decide +kernel), List.mem_of_getElem? (i := 127) (by decide +kernel)⟩
theorem lw_p8 : lw_okq (⟨"AgeKeys", "isLeastOfGroup", "(I)Z"⟩, 19) := ⟨⟨by decide +kernel, by decide +kernel⟩, List.mem_of_getElem? (i := 5) (by decide +kernel), List.mem_of_getElem? (i := 147) (by decide +kernel), List.mem_of_getElem? (i := 148) (by decide +kernel)⟩
theorem lw_p9 : lw_okq (⟨"AgeKeys", "nearestWithReadings", "(I)I"⟩, 19) := ⟨⟨by decide +kernel, by decide +kernel⟩, List.mem_of_getElem? (i := 5) (by decide +kernel), List.mem_of_getElem? (i := 155) (by decide +kernel), List.mem_of_getElem? (i := 156) (by decide +kernel)⟩
theorem lw_p10 : lw_okq (⟨"AgeKeys", "distanceTo", "(II)I"⟩, 19) := ⟨⟨by decide +kernel, by decide +kernel⟩, List.mem_of_getElem? (i := 5) (by decide +kernel), List.mem_of_getElem? (i := 159) (by decide +kernel), List.mem_of_getElem? (i := 160) (by decide +kernel)⟩
theorem lw_p11 : lw_okq (⟨"AgeKeys", "dropFills", "(II)V"⟩, 19) := ⟨⟨by decide +kernel, by decide +kernel⟩, List.mem_of_getElem? (i := 5) (by decide +kernel), List.mem_of_getElem? (i := 174) (by decide +kernel), List.mem_of_getElem? (i := 175) (by decide +kernel)⟩
theorem lw_p12 : lw_okq (⟨"AgeKeys", "moveReadings", "(II)V"⟩, 19) := ⟨⟨by decide +kernel, by decide +kernel⟩, List.mem_of_getElem? (i := 5) (by decide +kernel), List.mem_of_getElem? (i := 178) (by decide +kernel), List.mem_of_getElem? (i := 179) (by decide +kernel)⟩
theorem lw_p13 : lw_okq (⟨"AgeKeys", "canRaise", "(J)Z"⟩, 19) := ⟨⟨by decide +kernel, by decide +kernel⟩, List.mem_of_getElem? (i := 5) (by decide +kernel), List.mem_of_getElem? (i := 195) (by decide +kernel), List.mem_of_getElem? (i := 196) (by decide +kernel)⟩
theorem lw_p14 : lw_okq (⟨"AgeKeys", "measuredOfAge", "(I)J"⟩, 19) := ⟨⟨by decide +kernel, by decide +kernel⟩, List.mem_of_getElem? (i := 5) (by decide +kernel), List.mem_of_getElem? (i := 199) (by decide +kernel), List.mem_of_getElem? (i := 200) (by decide +kernel)⟩
theorem lw_p15 : lw_okq (⟨"AgeKeys", "commonShare", "(II)J"⟩, 19) := ⟨⟨by decide +kernel, by decide +kernel⟩, List.mem_of_getElem? (i := 5) (by decide +kernel), List.mem_of_getElem? (i := 203) (by decide +kernel), List.mem_of_getElem? (i := 204) (by decide +kernel)⟩
def lw_privs_1 : List (MethodName × Nat) := [(⟨"AgeKeys", "isClass", "(I)Z"⟩, 19), (⟨"AgeKeys", "isAge", "(I)Z"⟩, 19), (⟨"AgeKeys", "sizeIn", "(II)I"⟩, 19), (⟨"AgeKeys", "countReading", "(III)V"⟩, 19), (⟨"AgeKeys", "cell", "(III)I"⟩, 19), (⟨"AgeKeys", "sourceOf", "(I)I"⟩, 19), (⟨"AgeKeys", "own", "(I)I"⟩, 19), (⟨"AgeKeys", "ownOfAge", "(II)I"⟩, 19), (⟨"AgeKeys", "isLeastOfGroup", "(I)Z"⟩, 19), (⟨"AgeKeys", "nearestWithReadings", "(I)I"⟩, 19), (⟨"AgeKeys", "distanceTo", "(II)I"⟩, 19), (⟨"AgeKeys", "dropFills", "(II)V"⟩, 19), (⟨"AgeKeys", "moveReadings", "(II)V"⟩, 19), (⟨"AgeKeys", "canRaise", "(J)Z"⟩, 19), (⟨"AgeKeys", "measuredOfAge", "(I)J"⟩, 19), (⟨"AgeKeys", "commonShare", "(II)J"⟩, 19)]
theorem lw_r1 : ∀ q ∈ lw_privs_1, lw_okq q := List.forall_mem_cons.mpr ⟨lw_p0, List.forall_mem_cons.mpr ⟨lw_p1, List.forall_mem_cons.mpr ⟨lw_p2, List.forall_mem_cons.mpr ⟨lw_p3, List.forall_mem_cons.mpr ⟨lw_p4, List.forall_mem_cons.mpr ⟨lw_p5, List.forall_mem_cons.mpr ⟨lw_p6, List.forall_mem_cons.mpr ⟨lw_p7, List.forall_mem_cons.mpr ⟨lw_p8, List.forall_mem_cons.mpr ⟨lw_p9, List.forall_mem_cons.mpr ⟨lw_p10, List.forall_mem_cons.mpr ⟨lw_p11, List.forall_mem_cons.mpr ⟨lw_p12, List.forall_mem_cons.mpr ⟨lw_p13, List.forall_mem_cons.mpr ⟨lw_p14, List.forall_mem_cons.mpr ⟨lw_p15, fun _ h => absurd h List.not_mem_nil⟩⟩⟩⟩⟩⟩⟩⟩⟩⟩⟩⟩⟩⟩⟩⟩
theorem lw_p16 : lw_okq (⟨"AgeKeys", "errorSum", "(I)I"⟩, 19) := ⟨⟨by decide +kernel, by decide +kernel⟩, List.mem_of_getElem? (i := 5) (by decide +kernel), List.mem_of_getElem? (i := 220) (by decide +kernel), List.mem_of_getElem? (i := 221) (by decide +kernel)⟩
theorem lw_p17 : lw_okq (⟨"AgeKeys", "loadErrors", "()V"⟩, 19) := ⟨⟨by decide +kernel, by decide +kernel⟩, List.mem_of_getElem? (i := 5) (by decide +kernel), List.mem_of_getElem? (i := 224) (by decide +kernel), List.mem_of_getElem? (i := 225) (by decide +kernel)⟩
theorem lw_p18 : lw_okq (⟨"AgeKeys", "determinant", "()J"⟩, 19) := ⟨⟨by decide +kernel, by decide +kernel⟩, List.mem_of_getElem? (i := 5) (by decide +kernel), List.mem_of_getElem? (i := 228) (by decide +kernel), List.mem_of_getElem? (i := 229) (by decide +kernel)⟩
theorem lw_p19 : lw_okq (⟨"AgeKeys", "pivotRow", "(I)I"⟩, 19) := ⟨⟨by decide +kernel, by decide +kernel⟩, List.mem_of_getElem? (i := 5) (by decide +kernel), List.mem_of_getElem? (i := 232) (by decide +kernel), List.mem_of_getElem? (i := 233) (by decide +kernel)⟩
theorem lw_p20 : lw_okq (⟨"AgeKeys", "swapRows", "(II)V"⟩, 19) := ⟨⟨by decide +kernel, by decide +kernel⟩, List.mem_of_getElem? (i := 5) (by decide +kernel), List.mem_of_getElem? (i := 236) (by decide +kernel), List.mem_of_getElem? (i := 237) (by decide +kernel)⟩
theorem lw_p21 : lw_okq (⟨"AgeKeys", "clearBelow", "(IJ)V"⟩, 19) := ⟨⟨by decide +kernel, by decide +kernel⟩, List.mem_of_getElem? (i := 5) (by decide +kernel), List.mem_of_getElem? (i := 240) (by decide +kernel), List.mem_of_getElem? (i := 241) (by decide +kernel)⟩
theorem lw_p22 : lw_okq (⟨"AgeKeys", "poolOf", "(I)I"⟩, 19) := ⟨⟨by decide +kernel, by decide +kernel⟩, List.mem_of_getElem? (i := 5) (by decide +kernel), List.mem_of_getElem? (i := 258) (by decide +kernel), List.mem_of_getElem? (i := 259) (by decide +kernel)⟩
theorem lw_p23 : lw_okq (⟨"AgeKeys", "readingsOfAge", "(I)I"⟩, 19) := ⟨⟨by decide +kernel, by decide +kernel⟩, List.mem_of_getElem? (i := 5) (by decide +kernel), List.mem_of_getElem? (i := 262) (by decide +kernel), List.mem_of_getElem? (i := 263) (by decide +kernel)⟩
theorem lw_p24 : lw_okq (⟨"AgeKeys", "makePools", "()I"⟩, 19) := ⟨⟨by decide +kernel, by decide +kernel⟩, List.mem_of_getElem? (i := 5) (by decide +kernel), List.mem_of_getElem? (i := 266) (by decide +kernel), List.mem_of_getElem? (i := 267) (by decide +kernel)⟩
theorem lw_p25 : lw_okq (⟨"AgeKeys", "openPool", "(II)V"⟩, 19) := ⟨⟨by decide +kernel, by decide +kernel⟩, List.mem_of_getElem? (i := 5) (by decide +kernel), List.mem_of_getElem? (i := 270) (by decide +kernel), List.mem_of_getElem? (i := 271) (by decide +kernel)⟩
theorem lw_p26 : lw_okq (⟨"AgeKeys", "doesNotRise", "(I)Z"⟩, 19) := ⟨⟨by decide +kernel, by decide +kernel⟩, List.mem_of_getElem? (i := 5) (by decide +kernel), List.mem_of_getElem? (i := 274) (by decide +kernel), List.mem_of_getElem? (i := 275) (by decide +kernel)⟩
theorem lw_p27 : lw_okq (⟨"AgeKeys", "joinWithPoolBefore", "(I)V"⟩, 19) := ⟨⟨by decide +kernel, by decide +kernel⟩, List.mem_of_getElem? (i := 5) (by decide +kernel), List.mem_of_getElem? (i := 278) (by decide +kernel), List.mem_of_getElem? (i := 279) (by decide +kernel)⟩
theorem lw_p28 : lw_okq (⟨"AgeKeysModel", "isClass", "(I)Z"⟩, 13) := ⟨⟨by decide +kernel, by decide +kernel⟩, List.mem_of_getElem? (i := 297) (by decide +kernel), List.mem_of_getElem? (i := 347) (by decide +kernel), List.mem_of_getElem? (i := 348) (by decide +kernel)⟩
theorem lw_p29 : lw_okq (⟨"AgeKeysModel", "isAge", "(I)Z"⟩, 13) := ⟨⟨by decide +kernel, by decide +kernel⟩, List.mem_of_getElem? (i := 297) (by decide +kernel), List.mem_of_getElem? (i := 351) (by decide +kernel), List.mem_of_getElem? (i := 352) (by decide +kernel)⟩
theorem lw_p30 : lw_okq (⟨"AgeKeysModel", "inGroup", "(III)I"⟩, 13) := ⟨⟨by decide +kernel, by decide +kernel⟩, List.mem_of_getElem? (i := 297) (by decide +kernel), List.mem_of_getElem? (i := 355) (by decide +kernel), List.mem_of_getElem? (i := 356) (by decide +kernel)⟩
theorem lw_p31 : lw_okq (⟨"AgeKeysModel", "count", "(III)I"⟩, 13) := ⟨⟨by decide +kernel, by decide +kernel⟩, List.mem_of_getElem? (i := 297) (by decide +kernel), List.mem_of_getElem? (i := 359) (by decide +kernel), List.mem_of_getElem? (i := 360) (by decide +kernel)⟩
def lw_privs_2 : List (MethodName × Nat) := [(⟨"AgeKeys", "errorSum", "(I)I"⟩, 19), (⟨"AgeKeys", "loadErrors", "()V"⟩, 19), (⟨"AgeKeys", "determinant", "()J"⟩, 19), (⟨"AgeKeys", "pivotRow", "(I)I"⟩, 19), (⟨"AgeKeys", "swapRows", "(II)V"⟩, 19), (⟨"AgeKeys", "clearBelow", "(IJ)V"⟩, 19), (⟨"AgeKeys", "poolOf", "(I)I"⟩, 19), (⟨"AgeKeys", "readingsOfAge", "(I)I"⟩, 19), (⟨"AgeKeys", "makePools", "()I"⟩, 19), (⟨"AgeKeys", "openPool", "(II)V"⟩, 19), (⟨"AgeKeys", "doesNotRise", "(I)Z"⟩, 19), (⟨"AgeKeys", "joinWithPoolBefore", "(I)V"⟩, 19), (⟨"AgeKeysModel", "isClass", "(I)Z"⟩, 13), (⟨"AgeKeysModel", "isAge", "(I)Z"⟩, 13), (⟨"AgeKeysModel", "inGroup", "(III)I"⟩, 13), (⟨"AgeKeysModel", "count", "(III)I"⟩, 13)]
theorem lw_r2 : ∀ q ∈ lw_privs_2, lw_okq q := List.forall_mem_cons.mpr ⟨lw_p16, List.forall_mem_cons.mpr ⟨lw_p17, List.forall_mem_cons.mpr ⟨lw_p18, List.forall_mem_cons.mpr ⟨lw_p19, List.forall_mem_cons.mpr ⟨lw_p20, List.forall_mem_cons.mpr ⟨lw_p21, List.forall_mem_cons.mpr ⟨lw_p22, List.forall_mem_cons.mpr ⟨lw_p23, List.forall_mem_cons.mpr ⟨lw_p24, List.forall_mem_cons.mpr ⟨lw_p25, List.forall_mem_cons.mpr ⟨lw_p26, List.forall_mem_cons.mpr ⟨lw_p27, List.forall_mem_cons.mpr ⟨lw_p28, List.forall_mem_cons.mpr ⟨lw_p29, List.forall_mem_cons.mpr ⟨lw_p30, List.forall_mem_cons.mpr ⟨lw_p31, fun _ h => absurd h List.not_mem_nil⟩⟩⟩⟩⟩⟩⟩⟩⟩⟩⟩⟩⟩⟩⟩⟩
theorem lw_p32 : lw_okq (⟨"AgeKeysModel", "inAll", "(I)I"⟩, 13) := ⟨⟨by decide +kernel, by decide +kernel⟩, List.mem_of_getElem? (i := 297) (by decide +kernel), List.mem_of_getElem? (i := 366) (by decide +kernel), List.mem_of_getElem? (i := 367) (by decide +kernel)⟩
theorem lw_p33 : lw_okq (⟨"AgeKeysModel", "source", "(I)I"⟩, 13) := ⟨⟨by decide +kernel, by decide +kernel⟩, List.mem_of_getElem? (i := 297) (by decide +kernel), List.mem_of_getElem? (i := 382) (by decide +kernel), List.mem_of_getElem? (i := 383) (by decide +kernel)⟩
theorem lw_p34 : lw_okq (⟨"AgeKeysModel", "own", "(I)I"⟩, 13) := ⟨⟨by decide +kernel, by decide +kernel⟩, List.mem_of_getElem? (i := 297) (by decide +kernel), List.mem_of_getElem? (i := 386) (by decide +kernel), List.mem_of_getElem? (i := 387) (by decide +kernel)⟩
theorem lw_p35 : lw_okq (⟨"AgeKeysModel", "distance", "(II)I"⟩, 13) := ⟨⟨by decide +kernel, by decide +kernel⟩, List.mem_of_getElem? (i := 297) (by decide +kernel), List.mem_of_getElem? (i := 401) (by decide +kernel), List.mem_of_getElem? (i := 402) (by decide +kernel)⟩
theorem lw_p36 : lw_okq (⟨"AgeKeysModel", "allMeasured", "()J"⟩, 13) := ⟨⟨by decide +kernel, by decide +kernel⟩, List.mem_of_getElem? (i := 297) (by decide +kernel), List.mem_of_getElem? (i := 422) (by decide +kernel), List.mem_of_getElem? (i := 423) (by decide +kernel)⟩
theorem lw_p37 : lw_okq (⟨"AgeKeysModel", "raise", "(JI)Z"⟩, 13) := ⟨⟨by decide +kernel, by decide +kernel⟩, List.mem_of_getElem? (i := 297) (by decide +kernel), List.mem_of_getElem? (i := 430) (by decide +kernel), List.mem_of_getElem? (i := 431) (by decide +kernel)⟩
theorem lw_p38 : lw_okq (⟨"AgeKeysModel", "lay", "(II)V"⟩, 13) := ⟨⟨by decide +kernel, by decide +kernel⟩, List.mem_of_getElem? (i := 297) (by decide +kernel), List.mem_of_getElem? (i := 451) (by decide +kernel), List.mem_of_getElem? (i := 452) (by decide +kernel)⟩
theorem lw_p39 : lw_okq (⟨"AgeKeysModel", "determinant", "()J"⟩, 13) := ⟨⟨by decide +kernel, by decide +kernel⟩, List.mem_of_getElem? (i := 297) (by decide +kernel), List.mem_of_getElem? (i := 456) (by decide +kernel), List.mem_of_getElem? (i := 457) (by decide +kernel)⟩
theorem lw_p40 : lw_okq (⟨"AgeKeysModel", "ofAge", "(I)I"⟩, 13) := ⟨⟨by decide +kernel, by decide +kernel⟩, List.mem_of_getElem? (i := 297) (by decide +kernel), List.mem_of_getElem? (i := 473) (by decide +kernel), List.mem_of_getElem? (i := 474) (by decide +kernel)⟩
theorem lw_p41 : lw_okq (⟨"AgeKeysModel", "mean", "(I)V"⟩, 13) := ⟨⟨by decide +kernel, by decide +kernel⟩, List.mem_of_getElem? (i := 297) (by decide +kernel), List.mem_of_getElem? (i := 477) (by decide +kernel), List.mem_of_getElem? (i := 478) (by decide +kernel)⟩
theorem lw_p42 : lw_okq (⟨"AgeKeysModel", "classesOf", "(I)I"⟩, 13) := ⟨⟨by decide +kernel, by decide +kernel⟩, List.mem_of_getElem? (i := 297) (by decide +kernel), List.mem_of_getElem? (i := 481) (by decide +kernel), List.mem_of_getElem? (i := 482) (by decide +kernel)⟩
theorem lw_p43 : lw_okq (⟨"AgeKeysModel", "isSame", "(II)Z"⟩, 13) := ⟨⟨by decide +kernel, by decide +kernel⟩, List.mem_of_getElem? (i := 297) (by decide +kernel), List.mem_of_getElem? (i := 489) (by decide +kernel), List.mem_of_getElem? (i := 490) (by decide +kernel)⟩
def lw_privs_3 : List (MethodName × Nat) := [(⟨"AgeKeysModel", "inAll", "(I)I"⟩, 13), (⟨"AgeKeysModel", "source", "(I)I"⟩, 13), (⟨"AgeKeysModel", "own", "(I)I"⟩, 13), (⟨"AgeKeysModel", "distance", "(II)I"⟩, 13), (⟨"AgeKeysModel", "allMeasured", "()J"⟩, 13), (⟨"AgeKeysModel", "raise", "(JI)Z"⟩, 13), (⟨"AgeKeysModel", "lay", "(II)V"⟩, 13), (⟨"AgeKeysModel", "determinant", "()J"⟩, 13), (⟨"AgeKeysModel", "ofAge", "(I)I"⟩, 13), (⟨"AgeKeysModel", "mean", "(I)V"⟩, 13), (⟨"AgeKeysModel", "classesOf", "(I)I"⟩, 13), (⟨"AgeKeysModel", "isSame", "(II)Z"⟩, 13)]
theorem lw_r3 : ∀ q ∈ lw_privs_3, lw_okq q := List.forall_mem_cons.mpr ⟨lw_p32, List.forall_mem_cons.mpr ⟨lw_p33, List.forall_mem_cons.mpr ⟨lw_p34, List.forall_mem_cons.mpr ⟨lw_p35, List.forall_mem_cons.mpr ⟨lw_p36, List.forall_mem_cons.mpr ⟨lw_p37, List.forall_mem_cons.mpr ⟨lw_p38, List.forall_mem_cons.mpr ⟨lw_p39, List.forall_mem_cons.mpr ⟨lw_p40, List.forall_mem_cons.mpr ⟨lw_p41, List.forall_mem_cons.mpr ⟨lw_p42, List.forall_mem_cons.mpr ⟨lw_p43, fun _ h => absurd h List.not_mem_nil⟩⟩⟩⟩⟩⟩⟩⟩⟩⟩⟩⟩
def lw_privs : List (MethodName × Nat) := lw_privs_1 ++ (lw_privs_2 ++ (lw_privs_3))
def lw_tbl : List Cond := k2_sels lw_privs ++ tables_1
theorem lw_privs_ok : ∀ q ∈ lw_privs, lw_okq q := by
  show ∀ q ∈ lw_privs_1 ++ (lw_privs_2 ++ (lw_privs_3)), lw_okq q
  exact List.forall_mem_append.mpr ⟨lw_r1, List.forall_mem_append.mpr ⟨lw_r2, lw_r3⟩⟩
-- ===== names =====
theorem kmem_r {big ws : List Cond} (ps : List Nat) (hp : ws = ps.filterMap (fun i => big[i]?)) : ∀ w ∈ ws, w ∈ big := by
  intro w hw
  rw [hp] at hw
  obtain ⟨i, -, hi⟩ := List.mem_filterMap.mp hw
  exact List.mem_of_getElem? hi
theorem kgood_self {T : List Cond} (h : T.all goodWord = true) : GoodIn T T := fun w hw => ⟨hw, good_of_word (List.all_eq_true.mp h w hw)⟩
def RK : String := "AgeKeys"
def FK : u_T := fun k => match k with
  | 0 => ("AgeKeys", "classes", "I", true)
  | 1 => ("AgeKeys", "ages", "I", true)
  | 2 => ("AgeKeys", "chosenRow", "I", false)
  | 3 => ("AgeKeys", "readings", "[I", true)
  | 4 => ("AgeKeys", "rowSize", "[I", true)
  | 5 => ("AgeKeys", "groupReadings", "[I", true)
  | 6 => ("AgeKeys", "groupSize", "[I", true)
  | 7 => ("AgeKeys", "groupOf", "[I", true)
  | 8 => ("AgeKeys", "filledBy", "[I", true)
  | 9 => ("AgeKeys", "measured", "[J", true)
  | 10 => ("AgeKeys", "measuredInAll", "J", false)
  | 11 => ("AgeKeys", "errors", "[I", true)
  | 12 => ("AgeKeys", "square", "[J", true)
  | 13 => ("AgeKeys", "poolSum", "[I", true)
  | 14 => ("AgeKeys", "poolSize", "[I", true)
  | 15 => ("AgeKeys", "poolAges", "[I", true)
  | 16 => ("AgeKeys", "poolLastAge", "[I", true)
  | 17 => ("AgeKeys", "maleCount", "[I", true)
  | _ => ("AgeKeys", "lookedAt", "[I", true)
def tyK : Nat → FieldType := fun k => match k with
  | 0 => .int
  | 1 => .int
  | 2 => .int
  | 3 => (.array .int)
  | 4 => (.array .int)
  | 5 => (.array .int)
  | 6 => (.array .int)
  | 7 => (.array .int)
  | 8 => (.array .int)
  | 9 => (.array .long)
  | 10 => .long
  | 11 => (.array .int)
  | 12 => (.array .long)
  | 13 => (.array .int)
  | 14 => (.array .int)
  | 15 => (.array .int)
  | 16 => (.array .int)
  | 17 => (.array .int)
  | _ => (.array .int)
abbrev cK_init : ByteArray := prog_1_method_1_code
def yK_init : MethodName := ⟨RK, "<init>", "(II)V"⟩
abbrev cK_read : ByteArray := prog_1_method_2_code
def yK_read : MethodName := ⟨RK, "read", "(III)Z"⟩
abbrev cK_place : ByteArray := prog_1_method_3_code
def yK_place : MethodName := ⟨RK, "place", "(I)I"⟩
abbrev cK_countReading : ByteArray := prog_1_method_4_code
def yK_countReading : MethodName := ⟨RK, "countReading", "(III)V"⟩
abbrev cK_share : ByteArray := prog_1_method_5_code
def yK_share : MethodName := ⟨RK, "share", "(III)J"⟩
abbrev cK_without : ByteArray := prog_1_method_6_code
def yK_without : MethodName := ⟨RK, "without", "(IIII)J"⟩
abbrev cK_sourceOf : ByteArray := prog_1_method_7_code
def yK_sourceOf : MethodName := ⟨RK, "sourceOf", "(I)I"⟩
abbrev cK_empty : ByteArray := prog_1_method_8_code
def yK_empty : MethodName := ⟨RK, "empty", "(I)I"⟩
abbrev cK_fill : ByteArray := prog_1_method_9_code
def yK_fill : MethodName := ⟨RK, "fill", "(I)I"⟩
abbrev cK_marked : ByteArray := prog_1_method_10_code
def yK_marked : MethodName := ⟨RK, "marked", "(I)Z"⟩
abbrev cK_joined : ByteArray := prog_1_method_11_code
def yK_joined : MethodName := ⟨RK, "joined", "(II)I"⟩
abbrev cK_groups : ByteArray := prog_1_method_12_code
def yK_groups : MethodName := ⟨RK, "groups", "()I"⟩
abbrev cK_nearestWithReadings : ByteArray := prog_1_method_13_code
def yK_nearestWithReadings : MethodName := ⟨RK, "nearestWithReadings", "(I)I"⟩
abbrev cK_distanceTo : ByteArray := prog_1_method_14_code
def yK_distanceTo : MethodName := ⟨RK, "distanceTo", "(II)I"⟩
abbrev cK_dropFills : ByteArray := prog_1_method_15_code
def yK_dropFills : MethodName := ⟨RK, "dropFills", "(II)V"⟩
abbrev cK_moveReadings : ByteArray := prog_1_method_16_code
def yK_moveReadings : MethodName := ⟨RK, "moveReadings", "(II)V"⟩
abbrev cK_sample : ByteArray := prog_1_method_17_code
def yK_sample : MethodName := ⟨RK, "sample", "(IJ)Z"⟩
abbrev cK_raised : ByteArray := prog_1_method_18_code
def yK_raised : MethodName := ⟨RK, "raised", "(JII)J"⟩
abbrev cK_sums : ByteArray := prog_1_method_19_code
def yK_sums : MethodName := ⟨RK, "sums", "(J)Z"⟩
abbrev cK_canRaise : ByteArray := prog_1_method_20_code
def yK_canRaise : MethodName := ⟨RK, "canRaise", "(J)Z"⟩
abbrev cK_measuredOfAge : ByteArray := prog_1_method_21_code
def yK_measuredOfAge : MethodName := ⟨RK, "measuredOfAge", "(I)J"⟩
abbrev cK_commonShare : ByteArray := prog_1_method_22_code
def yK_commonShare : MethodName := ⟨RK, "commonShare", "(II)J"⟩
abbrev cK_error : ByteArray := prog_1_method_23_code
def yK_error : MethodName := ⟨RK, "error", "(III)Z"⟩
abbrev cK_undo : ByteArray := prog_1_method_24_code
def yK_undo : MethodName := ⟨RK, "undo", "()I"⟩
abbrev cK_undone : ByteArray := prog_1_method_25_code
def yK_undone : MethodName := ⟨RK, "undone", "(III)J"⟩
abbrev cK_errorSum : ByteArray := prog_1_method_26_code
def yK_errorSum : MethodName := ⟨RK, "errorSum", "(I)I"⟩
abbrev cK_loadErrors : ByteArray := prog_1_method_27_code
def yK_loadErrors : MethodName := ⟨RK, "loadErrors", "()V"⟩
abbrev cK_determinant : ByteArray := prog_1_method_28_code
def yK_determinant : MethodName := ⟨RK, "determinant", "()J"⟩
abbrev cK_pivotRow : ByteArray := prog_1_method_29_code
def yK_pivotRow : MethodName := ⟨RK, "pivotRow", "(I)I"⟩
abbrev cK_swapRows : ByteArray := prog_1_method_30_code
def yK_swapRows : MethodName := ⟨RK, "swapRows", "(II)V"⟩
abbrev cK_clearBelow : ByteArray := prog_1_method_31_code
def yK_clearBelow : MethodName := ⟨RK, "clearBelow", "(IJ)V"⟩
abbrev cK_apart : ByteArray := prog_1_method_32_code
def yK_apart : MethodName := ⟨RK, "apart", "(III)J"⟩
abbrev cK_length : ByteArray := prog_1_method_33_code
def yK_length : MethodName := ⟨RK, "length", "(II)J"⟩
abbrev cK_pooled : ByteArray := prog_1_method_34_code
def yK_pooled : MethodName := ⟨RK, "pooled", "(I)I"⟩
abbrev cK_poolOf : ByteArray := prog_1_method_35_code
def yK_poolOf : MethodName := ⟨RK, "poolOf", "(I)I"⟩
abbrev cK_makePools : ByteArray := prog_1_method_36_code
def yK_makePools : MethodName := ⟨RK, "makePools", "()I"⟩
abbrev cK_openPool : ByteArray := prog_1_method_37_code
def yK_openPool : MethodName := ⟨RK, "openPool", "(II)V"⟩
abbrev cK_doesNotRise : ByteArray := prog_1_method_38_code
def yK_doesNotRise : MethodName := ⟨RK, "doesNotRise", "(I)Z"⟩
abbrev cK_joinWithPoolBefore : ByteArray := prog_1_method_39_code
def yK_joinWithPoolBefore : MethodName := ⟨RK, "joinWithPoolBefore", "(I)V"⟩
abbrev cK_readingsOfAge : ByteArray := prog_1_method_40_code
def yK_readingsOfAge : MethodName := ⟨RK, "readingsOfAge", "(I)I"⟩
abbrev cK_sex : ByteArray := prog_1_method_41_code
def yK_sex : MethodName := ⟨RK, "sex", "(III)Z"⟩
abbrev cK_males : ByteArray := prog_1_method_42_code
def yK_males : MethodName := ⟨RK, "males", "(II)J"⟩
abbrev cK_isClass : ByteArray := prog_1_method_43_code
def yK_isClass : MethodName := ⟨RK, "isClass", "(I)Z"⟩
abbrev cK_isAge : ByteArray := prog_1_method_44_code
def yK_isAge : MethodName := ⟨RK, "isAge", "(I)Z"⟩
abbrev cK_isPlace : ByteArray := prog_1_method_45_code
def yK_isPlace : MethodName := ⟨RK, "isPlace", "(I)Z"⟩
abbrev cK_isZeroOrOne : ByteArray := prog_1_method_46_code
def yK_isZeroOrOne : MethodName := ⟨RK, "isZeroOrOne", "(I)Z"⟩
abbrev cK_isLeastOfGroup : ByteArray := prog_1_method_47_code
def yK_isLeastOfGroup : MethodName := ⟨RK, "isLeastOfGroup", "(I)Z"⟩
abbrev cK_cell : ByteArray := prog_1_method_48_code
def yK_cell : MethodName := ⟨RK, "cell", "(III)I"⟩
abbrev cK_sizeIn : ByteArray := prog_1_method_49_code
def yK_sizeIn : MethodName := ⟨RK, "sizeIn", "(II)I"⟩
abbrev cK_own : ByteArray := prog_1_method_50_code
def yK_own : MethodName := ⟨RK, "own", "(I)I"⟩
abbrev cK_ownOfAge : ByteArray := prog_1_method_51_code
def yK_ownOfAge : MethodName := ⟨RK, "ownOfAge", "(II)I"⟩
abbrev cK_fractionPart : ByteArray := prog_1_method_52_code
def yK_fractionPart : MethodName := ⟨RK, "fractionPart", "(JJI)J"⟩
abbrev cK_commonDivisor : ByteArray := prog_1_method_53_code
def yK_commonDivisor : MethodName := ⟨RK, "commonDivisor", "(JJ)J"⟩
def RM : String := "AgeKeysModel"
def FM : u_T := fun k => match k with
  | 0 => ("AgeKeysModel", "classes", "I", true)
  | 1 => ("AgeKeysModel", "ages", "I", true)
  | 2 => ("AgeKeysModel", "counts", "[I", true)
  | 3 => ("AgeKeysModel", "chosen", "I", false)
  | 4 => ("AgeKeysModel", "group", "[I", true)
  | 5 => ("AgeKeysModel", "filler", "[I", true)
  | 6 => ("AgeKeysModel", "measured", "[J", true)
  | 7 => ("AgeKeysModel", "errors", "[I", true)
  | 8 => ("AgeKeysModel", "maleCount", "[I", true)
  | 9 => ("AgeKeysModel", "sexCount", "[I", true)
  | 10 => ("AgeKeysModel", "cells", "[J", true)
  | 11 => ("AgeKeysModel", "above", "J", false)
  | _ => ("AgeKeysModel", "below", "J", false)
def tyM : Nat → FieldType := fun k => match k with
  | 0 => .int
  | 1 => .int
  | 2 => (.array .int)
  | 3 => .int
  | 4 => (.array .int)
  | 5 => (.array .int)
  | 6 => (.array .long)
  | 7 => (.array .int)
  | 8 => (.array .int)
  | 9 => (.array .int)
  | 10 => (.array .long)
  | 11 => .long
  | _ => .long
abbrev cM_init : ByteArray := prog_3_method_1_code
def yM_init : MethodName := ⟨RM, "<init>", "(II)V"⟩
abbrev cM_isClass : ByteArray := prog_3_method_3_code
def yM_isClass : MethodName := ⟨RM, "isClass", "(I)Z"⟩
abbrev cM_isAge : ByteArray := prog_3_method_4_code
def yM_isAge : MethodName := ⟨RM, "isAge", "(I)Z"⟩
abbrev cM_isPart : ByteArray := prog_3_method_5_code
def yM_isPart : MethodName := ⟨RM, "isPart", "(I)Z"⟩
abbrev cM_at : ByteArray := prog_3_method_6_code
def yM_at : MethodName := ⟨RM, "at", "(III)I"⟩
abbrev cM_count : ByteArray := prog_3_method_7_code
def yM_count : MethodName := ⟨RM, "count", "(III)I"⟩
abbrev cM_inGroup : ByteArray := prog_3_method_8_code
def yM_inGroup : MethodName := ⟨RM, "inGroup", "(III)I"⟩
abbrev cM_inAll : ByteArray := prog_3_method_9_code
def yM_inAll : MethodName := ⟨RM, "inAll", "(I)I"⟩
abbrev cM_partOf : ByteArray := prog_3_method_10_code
def yM_partOf : MethodName := ⟨RM, "partOf", "(JJI)J"⟩
abbrev cM_read : ByteArray := prog_3_method_11_code
def yM_read : MethodName := ⟨RM, "read", "(III)Z"⟩
abbrev cM_place : ByteArray := prog_3_method_12_code
def yM_place : MethodName := ⟨RM, "place", "(I)I"⟩
abbrev cM_own : ByteArray := prog_3_method_13_code
def yM_own : MethodName := ⟨RM, "own", "(I)I"⟩
abbrev cM_source : ByteArray := prog_3_method_14_code
def yM_source : MethodName := ⟨RM, "source", "(I)I"⟩
abbrev cM_share : ByteArray := prog_3_method_15_code
def yM_share : MethodName := ⟨RM, "share", "(III)J"⟩
abbrev cM_empty : ByteArray := prog_3_method_16_code
def yM_empty : MethodName := ⟨RM, "empty", "(I)I"⟩
abbrev cM_distance : ByteArray := prog_3_method_17_code
def yM_distance : MethodName := ⟨RM, "distance", "(II)I"⟩
abbrev cM_fill : ByteArray := prog_3_method_18_code
def yM_fill : MethodName := ⟨RM, "fill", "(I)I"⟩
abbrev cM_marked : ByteArray := prog_3_method_19_code
def yM_marked : MethodName := ⟨RM, "marked", "(I)Z"⟩
abbrev cM_joined : ByteArray := prog_3_method_20_code
def yM_joined : MethodName := ⟨RM, "joined", "(II)I"⟩
abbrev cM_groups : ByteArray := prog_3_method_21_code
def yM_groups : MethodName := ⟨RM, "groups", "()I"⟩
abbrev cM_allMeasured : ByteArray := prog_3_method_22_code
def yM_allMeasured : MethodName := ⟨RM, "allMeasured", "()J"⟩
abbrev cM_sample : ByteArray := prog_3_method_23_code
def yM_sample : MethodName := ⟨RM, "sample", "(IJ)Z"⟩
abbrev cM_raise : ByteArray := prog_3_method_24_code
def yM_raise : MethodName := ⟨RM, "raise", "(JI)Z"⟩
abbrev cM_raised : ByteArray := prog_3_method_25_code
def yM_raised : MethodName := ⟨RM, "raised", "(JII)J"⟩
abbrev cM_sums : ByteArray := prog_3_method_26_code
def yM_sums : MethodName := ⟨RM, "sums", "(J)Z"⟩
abbrev cM_without : ByteArray := prog_3_method_27_code
def yM_without : MethodName := ⟨RM, "without", "(IIII)J"⟩
abbrev cM_error : ByteArray := prog_3_method_28_code
def yM_error : MethodName := ⟨RM, "error", "(III)Z"⟩
abbrev cM_determinant : ByteArray := prog_3_method_29_code
def yM_determinant : MethodName := ⟨RM, "determinant", "()J"⟩
abbrev cM_lay : ByteArray := prog_3_method_30_code
def yM_lay : MethodName := ⟨RM, "lay", "(II)V"⟩
abbrev cM_undo : ByteArray := prog_3_method_31_code
def yM_undo : MethodName := ⟨RM, "undo", "()I"⟩
abbrev cM_undone : ByteArray := prog_3_method_32_code
def yM_undone : MethodName := ⟨RM, "undone", "(III)J"⟩
abbrev cM_apart : ByteArray := prog_3_method_33_code
def yM_apart : MethodName := ⟨RM, "apart", "(III)J"⟩
abbrev cM_ofAge : ByteArray := prog_3_method_34_code
def yM_ofAge : MethodName := ⟨RM, "ofAge", "(I)I"⟩
abbrev cM_classesOf : ByteArray := prog_3_method_35_code
def yM_classesOf : MethodName := ⟨RM, "classesOf", "(I)I"⟩
abbrev cM_mean : ByteArray := prog_3_method_36_code
def yM_mean : MethodName := ⟨RM, "mean", "(I)V"⟩
abbrev cM_length : ByteArray := prog_3_method_37_code
def yM_length : MethodName := ⟨RM, "length", "(II)J"⟩
abbrev cM_isSame : ByteArray := prog_3_method_38_code
def yM_isSame : MethodName := ⟨RM, "isSame", "(II)Z"⟩
abbrev cM_pooled : ByteArray := prog_3_method_39_code
def yM_pooled : MethodName := ⟨RM, "pooled", "(I)I"⟩
abbrev cM_sex : ByteArray := prog_3_method_40_code
def yM_sex : MethodName := ⟨RM, "sex", "(III)Z"⟩
abbrev cM_males : ByteArray := prog_3_method_41_code
def yM_males : MethodName := ⟨RM, "males", "(II)J"⟩
abbrev cl0 : List vw_C := [(RK, FK, 19), (RM, FM, 13)]
def TK_0 : List Cond := [.code yK_init cK_init 4 none, .code yK_read cK_read 4 (some .boolean), .code yK_place cK_place 2 (some .int), .code yK_countReading cK_countReading 5 none, .code yK_share cK_share 5 (some .long), .code yK_without cK_without 8 (some .long), .code yK_sourceOf cK_sourceOf 3 (some .int), .code yK_empty cK_empty 4 (some .int), .code yK_fill cK_fill 3 (some .int), .code yK_marked cK_marked 2 (some .boolean), .code yK_joined cK_joined 6 (some .int), .code yK_groups cK_groups 3 (some .int), .code yK_nearestWithReadings cK_nearestWithReadings 7 (some .int), .code yK_distanceTo cK_distanceTo 5 (some .int), .code yK_dropFills cK_dropFills 4 none, .code yK_moveReadings cK_moveReadings 5 none]
set_option maxRecDepth 20000 in
theorem TK_0_in : ∀ w ∈ TK_0, w ∈ lw_tbl := fun w h => (goodIn_p TK_0 [52, 125, 152, 144, 156, 185, 164, 189, 197, 212, 216, 228, 201, 205, 220, 224] (by decide +kernel) (by decide +kernel) w h).1
def TK_1 : List Cond := [.code yK_sample cK_sample 4 (some .boolean), .code yK_raised cK_raised 5 (some .long), .code yK_sums cK_sums 6 (some .boolean), .code yK_canRaise cK_canRaise 4 (some .boolean), .code yK_measuredOfAge cK_measuredOfAge 5 (some .long), .code yK_commonShare cK_commonShare 5 (some .long), .code yK_error cK_error 4 (some .boolean), .code yK_undo cK_undo 2 (some .int), .code yK_undone cK_undone 8 (some .long), .code yK_errorSum cK_errorSum 4 (some .int), .code yK_loadErrors cK_loadErrors 2 none, .code yK_determinant cK_determinant 7 (some .long), .code yK_pivotRow cK_pivotRow 3 (some .int), .code yK_swapRows cK_swapRows 6 none, .code yK_clearBelow cK_clearBelow 12 none, .code yK_apart cK_apart 9 (some .long)]
set_option maxRecDepth 20000 in
theorem TK_1_in : ∀ w ∈ TK_1, w ∈ lw_tbl := fun w h => (goodIn_p TK_1 [232, 237, 254, 241, 245, 249, 258, 262, 290, 266, 270, 274, 278, 282, 286, 296] (by decide +kernel) (by decide +kernel) w h).1
def TK_2 : List Cond := [.code yK_length cK_length 4 (some .long), .code yK_pooled cK_pooled 3 (some .int), .code yK_poolOf cK_poolOf 4 (some .int), .code yK_makePools cK_makePools 3 (some .int), .code yK_openPool cK_openPool 5 none, .code yK_doesNotRise cK_doesNotRise 2 (some .boolean), .code yK_joinWithPoolBefore cK_joinWithPoolBefore 2 none, .code yK_readingsOfAge cK_readingsOfAge 4 (some .int), .code yK_sex cK_sex 4 (some .boolean), .code yK_males cK_males 6 (some .long), .code yK_isClass cK_isClass 2 (some .boolean), .code yK_isAge cK_isAge 2 (some .boolean), .code yK_isPlace cK_isPlace 1 (some .boolean), .code yK_isZeroOrOne cK_isZeroOrOne 1 (some .boolean), .code yK_isLeastOfGroup cK_isLeastOfGroup 2 (some .boolean), .code yK_cell cK_cell 4 (some .int)]
set_option maxRecDepth 20000 in
theorem TK_2_in : ∀ w ∈ TK_2, w ∈ lw_tbl := fun w h => (goodIn_p TK_2 [300, 328, 304, 312, 316, 320, 324, 308, 332, 336, 129, 133, 136, 159, 193, 148] (by decide +kernel) (by decide +kernel) w h).1
def TK_3 : List Cond := [.code yK_sizeIn cK_sizeIn 3 (some .int), .code yK_own cK_own 2 (some .int), .code yK_ownOfAge cK_ownOfAge 3 (some .int), .code yK_fractionPart cK_fractionPart 7 (some .long), .code yK_commonDivisor cK_commonDivisor 11 (some .long), .code objectInit ⟨#[0xb1]⟩ 1 none, .code Lib.Math.min.name Lib.Math.min.code 2 (some .int), .code Lib.Math.max.name Lib.Math.max.code 2 (some .int), .code Lib.Math.abs.name Lib.Math.abs.code 1 (some .int), .code Lib.MathLoose.abs_long.x Lib.MathLoose.abs_long.code 2 (some .long)]
set_option maxRecDepth 20000 in
theorem TK_3_in : ∀ w ∈ TK_3, w ∈ lw_tbl := fun w h => (goodIn_p TK_3 [140, 168, 172, 175, 181, 55, 58, 61, 208, 178] (by decide +kernel) (by decide +kernel) w h).1
def TK_4 : List Cond := [.instanceMethod yK_init, .methodLink RK 3 objectInit, .instanceMethod objectInit, .fieldLink RK 9 "AgeKeys" "chosenRow" "I", .fieldLink RK 13 "AgeKeys" "measuredInAll" "J", .methodLink RK 17 Lib.Math.min.name, .static Lib.Math.min.name, .initialized "java/lang/Math", .methodLink RK 23 Lib.Math.max.name, .static Lib.Math.max.name, .fieldLink RK 26 "AgeKeys" "classes" "I", .fieldLink RK 29 "AgeKeys" "ages" "I", .arrayClass .int, .fieldLink RK 32 "AgeKeys" "readings" "[I", .fieldLink RK 36 "AgeKeys" "rowSize" "[I", .fieldLink RK 39 "AgeKeys" "groupReadings" "[I"]
theorem TK_4_in : ∀ w ∈ TK_4, w ∈ lw_tbl := List.forall_mem_cons.mpr ⟨List.mem_of_getElem? (i := 51) (by decide +kernel), List.forall_mem_cons.mpr ⟨List.mem_of_getElem? (i := 53) (by decide +kernel), List.forall_mem_cons.mpr ⟨List.mem_of_getElem? (i := 54) (by decide +kernel), List.forall_mem_cons.mpr ⟨List.mem_of_getElem? (i := 64) (by decide +kernel), List.forall_mem_cons.mpr ⟨List.mem_of_getElem? (i := 72) (by decide +kernel), List.forall_mem_cons.mpr ⟨List.mem_of_getElem? (i := 56) (by decide +kernel), List.forall_mem_cons.mpr ⟨List.mem_of_getElem? (i := 57) (by decide +kernel), List.forall_mem_cons.mpr ⟨List.mem_of_getElem? (i := 46) (by decide +kernel), List.forall_mem_cons.mpr ⟨List.mem_of_getElem? (i := 59) (by decide +kernel), List.forall_mem_cons.mpr ⟨List.mem_of_getElem? (i := 60) (by decide +kernel), List.forall_mem_cons.mpr ⟨List.mem_of_getElem? (i := 62) (by decide +kernel), List.forall_mem_cons.mpr ⟨List.mem_of_getElem? (i := 63) (by decide +kernel), List.forall_mem_cons.mpr ⟨List.mem_of_getElem? (i := 120) (by decide +kernel), List.forall_mem_cons.mpr ⟨List.mem_of_getElem? (i := 65) (by decide +kernel), List.forall_mem_cons.mpr ⟨List.mem_of_getElem? (i := 66) (by decide +kernel), List.forall_mem_cons.mpr ⟨List.mem_of_getElem? (i := 67) (by decide +kernel), fun _ h => absurd h List.not_mem_nil⟩⟩⟩⟩⟩⟩⟩⟩⟩⟩⟩⟩⟩⟩⟩⟩
def TK_5 : List Cond := [.fieldLink RK 42 "AgeKeys" "groupSize" "[I", .fieldLink RK 45 "AgeKeys" "groupOf" "[I", .fieldLink RK 48 "AgeKeys" "filledBy" "[I", .arrayClass .long, .fieldLink RK 51 "AgeKeys" "measured" "[J", .fieldLink RK 55 "AgeKeys" "errors" "[I", .fieldLink RK 58 "AgeKeys" "square" "[J", .fieldLink RK 61 "AgeKeys" "poolSum" "[I", .fieldLink RK 64 "AgeKeys" "poolSize" "[I", .fieldLink RK 67 "AgeKeys" "poolAges" "[I", .fieldLink RK 70 "AgeKeys" "poolLastAge" "[I", .fieldLink RK 73 "AgeKeys" "maleCount" "[I", .fieldLink RK 76 "AgeKeys" "lookedAt" "[I", .instanceMethod yK_read, .selects RK yK_read yK_read, .methodLink RK 79 yK_isClass]
theorem TK_5_in : ∀ w ∈ TK_5, w ∈ lw_tbl := List.forall_mem_cons.mpr ⟨List.mem_of_getElem? (i := 68) (by decide +kernel), List.forall_mem_cons.mpr ⟨List.mem_of_getElem? (i := 69) (by decide +kernel), List.forall_mem_cons.mpr ⟨List.mem_of_getElem? (i := 70) (by decide +kernel), List.forall_mem_cons.mpr ⟨List.mem_of_getElem? (i := 121) (by decide +kernel), List.forall_mem_cons.mpr ⟨List.mem_of_getElem? (i := 71) (by decide +kernel), List.forall_mem_cons.mpr ⟨List.mem_of_getElem? (i := 73) (by decide +kernel), List.forall_mem_cons.mpr ⟨List.mem_of_getElem? (i := 74) (by decide +kernel), List.forall_mem_cons.mpr ⟨List.mem_of_getElem? (i := 75) (by decide +kernel), List.forall_mem_cons.mpr ⟨List.mem_of_getElem? (i := 76) (by decide +kernel), List.forall_mem_cons.mpr ⟨List.mem_of_getElem? (i := 77) (by decide +kernel), List.forall_mem_cons.mpr ⟨List.mem_of_getElem? (i := 78) (by decide +kernel), List.forall_mem_cons.mpr ⟨List.mem_of_getElem? (i := 79) (by decide +kernel), List.forall_mem_cons.mpr ⟨List.mem_of_getElem? (i := 80) (by decide +kernel), List.forall_mem_cons.mpr ⟨List.mem_of_getElem? (i := 123) (by decide +kernel), List.forall_mem_cons.mpr ⟨List.mem_of_getElem? (i := 124) (by decide +kernel), List.forall_mem_cons.mpr ⟨List.mem_of_getElem? (i := 126) (by decide +kernel), fun _ h => absurd h List.not_mem_nil⟩⟩⟩⟩⟩⟩⟩⟩⟩⟩⟩⟩⟩⟩⟩⟩
def TK_6 : List Cond := [.methodLink RK 83 yK_isAge, .methodLink RK 86 yK_isPlace, .methodLink RK 89 yK_sizeIn, .methodLink RK 92 yK_countReading, .instanceMethod yK_place, .selects RK yK_place yK_place, .instanceMethod yK_countReading, .selects RK yK_countReading yK_countReading, .methodLink RK 96 yK_cell, .instanceMethod yK_share, .selects RK yK_share yK_share, .methodLink RK 100 yK_isZeroOrOne, .constantLong RK 103 (-1), .methodLink RK 105 yK_sourceOf, .methodLink RK 109 yK_ownOfAge, .methodLink RK 112 yK_own]
theorem TK_6_in : ∀ w ∈ TK_6, w ∈ lw_tbl := List.forall_mem_cons.mpr ⟨List.mem_of_getElem? (i := 130) (by decide +kernel), List.forall_mem_cons.mpr ⟨List.mem_of_getElem? (i := 134) (by decide +kernel), List.forall_mem_cons.mpr ⟨List.mem_of_getElem? (i := 137) (by decide +kernel), List.forall_mem_cons.mpr ⟨List.mem_of_getElem? (i := 141) (by decide +kernel), List.forall_mem_cons.mpr ⟨List.mem_of_getElem? (i := 150) (by decide +kernel), List.forall_mem_cons.mpr ⟨List.mem_of_getElem? (i := 151) (by decide +kernel), List.forall_mem_cons.mpr ⟨List.mem_of_getElem? (i := 143) (by decide +kernel), List.forall_mem_cons.mpr ⟨List.mem_of_getElem? (i := 3) (by decide +kernel), List.forall_mem_cons.mpr ⟨List.mem_of_getElem? (i := 145) (by decide +kernel), List.forall_mem_cons.mpr ⟨List.mem_of_getElem? (i := 154) (by decide +kernel), List.forall_mem_cons.mpr ⟨List.mem_of_getElem? (i := 155) (by decide +kernel), List.forall_mem_cons.mpr ⟨List.mem_of_getElem? (i := 157) (by decide +kernel), List.forall_mem_cons.mpr ⟨List.mem_of_getElem? (i := 160) (by decide +kernel), List.forall_mem_cons.mpr ⟨List.mem_of_getElem? (i := 161) (by decide +kernel), List.forall_mem_cons.mpr ⟨List.mem_of_getElem? (i := 169) (by decide +kernel), List.forall_mem_cons.mpr ⟨List.mem_of_getElem? (i := 165) (by decide +kernel), fun _ h => absurd h List.not_mem_nil⟩⟩⟩⟩⟩⟩⟩⟩⟩⟩⟩⟩⟩⟩⟩⟩
def TK_7 : List Cond := [.methodLink RK 115 yK_fractionPart, .instanceMethod yK_without, .selects RK yK_without yK_without, .instanceMethod yK_sourceOf, .selects RK yK_sourceOf yK_sourceOf, .instanceMethod yK_empty, .selects RK yK_empty yK_empty, .methodLink RK 119 yK_isLeastOfGroup, .instanceMethod yK_fill, .selects RK yK_fill yK_fill, .methodLink RK 122 yK_nearestWithReadings, .instanceMethod yK_marked, .selects RK yK_marked yK_marked, .instanceMethod yK_joined, .selects RK yK_joined yK_joined, .methodLink RK 125 yK_dropFills]
theorem TK_7_in : ∀ w ∈ TK_7, w ∈ lw_tbl := List.forall_mem_cons.mpr ⟨List.mem_of_getElem? (i := 173) (by decide +kernel), List.forall_mem_cons.mpr ⟨List.mem_of_getElem? (i := 183) (by decide +kernel), List.forall_mem_cons.mpr ⟨List.mem_of_getElem? (i := 184) (by decide +kernel), List.forall_mem_cons.mpr ⟨List.mem_of_getElem? (i := 163) (by decide +kernel), List.forall_mem_cons.mpr ⟨List.mem_of_getElem? (i := 5) (by decide +kernel), List.forall_mem_cons.mpr ⟨List.mem_of_getElem? (i := 187) (by decide +kernel), List.forall_mem_cons.mpr ⟨List.mem_of_getElem? (i := 188) (by decide +kernel), List.forall_mem_cons.mpr ⟨List.mem_of_getElem? (i := 190) (by decide +kernel), List.forall_mem_cons.mpr ⟨List.mem_of_getElem? (i := 195) (by decide +kernel), List.forall_mem_cons.mpr ⟨List.mem_of_getElem? (i := 196) (by decide +kernel), List.forall_mem_cons.mpr ⟨List.mem_of_getElem? (i := 198) (by decide +kernel), List.forall_mem_cons.mpr ⟨List.mem_of_getElem? (i := 210) (by decide +kernel), List.forall_mem_cons.mpr ⟨List.mem_of_getElem? (i := 211) (by decide +kernel), List.forall_mem_cons.mpr ⟨List.mem_of_getElem? (i := 214) (by decide +kernel), List.forall_mem_cons.mpr ⟨List.mem_of_getElem? (i := 215) (by decide +kernel), List.forall_mem_cons.mpr ⟨List.mem_of_getElem? (i := 217) (by decide +kernel), fun _ h => absurd h List.not_mem_nil⟩⟩⟩⟩⟩⟩⟩⟩⟩⟩⟩⟩⟩⟩⟩⟩
def TK_8 : List Cond := [.methodLink RK 129 yK_moveReadings, .instanceMethod yK_groups, .selects RK yK_groups yK_groups, .instanceMethod yK_nearestWithReadings, .selects RK yK_nearestWithReadings yK_nearestWithReadings, .methodLink RK 132 yK_distanceTo, .instanceMethod yK_distanceTo, .selects RK yK_distanceTo yK_distanceTo, .methodLink RK 135 Lib.Math.abs.name, .static Lib.Math.abs.name, .instanceMethod yK_dropFills, .selects RK yK_dropFills yK_dropFills, .instanceMethod yK_moveReadings, .selects RK yK_moveReadings yK_moveReadings, .instanceMethod yK_sample, .selects RK yK_sample yK_sample]
theorem TK_8_in : ∀ w ∈ TK_8, w ∈ lw_tbl := List.forall_mem_cons.mpr ⟨List.mem_of_getElem? (i := 221) (by decide +kernel), List.forall_mem_cons.mpr ⟨List.mem_of_getElem? (i := 226) (by decide +kernel), List.forall_mem_cons.mpr ⟨List.mem_of_getElem? (i := 227) (by decide +kernel), List.forall_mem_cons.mpr ⟨List.mem_of_getElem? (i := 200) (by decide +kernel), List.forall_mem_cons.mpr ⟨List.mem_of_getElem? (i := 9) (by decide +kernel), List.forall_mem_cons.mpr ⟨List.mem_of_getElem? (i := 202) (by decide +kernel), List.forall_mem_cons.mpr ⟨List.mem_of_getElem? (i := 204) (by decide +kernel), List.forall_mem_cons.mpr ⟨List.mem_of_getElem? (i := 10) (by decide +kernel), List.forall_mem_cons.mpr ⟨List.mem_of_getElem? (i := 206) (by decide +kernel), List.forall_mem_cons.mpr ⟨List.mem_of_getElem? (i := 207) (by decide +kernel), List.forall_mem_cons.mpr ⟨List.mem_of_getElem? (i := 219) (by decide +kernel), List.forall_mem_cons.mpr ⟨List.mem_of_getElem? (i := 11) (by decide +kernel), List.forall_mem_cons.mpr ⟨List.mem_of_getElem? (i := 223) (by decide +kernel), List.forall_mem_cons.mpr ⟨List.mem_of_getElem? (i := 12) (by decide +kernel), List.forall_mem_cons.mpr ⟨List.mem_of_getElem? (i := 230) (by decide +kernel), List.forall_mem_cons.mpr ⟨List.mem_of_getElem? (i := 231) (by decide +kernel), fun _ h => absurd h List.not_mem_nil⟩⟩⟩⟩⟩⟩⟩⟩⟩⟩⟩⟩⟩⟩⟩⟩
def TK_9 : List Cond := [.constantLong RK 138 (10000), .instanceMethod yK_raised, .selects RK yK_raised yK_raised, .methodLink RK 140 yK_canRaise, .methodLink RK 144 yK_measuredOfAge, .constantLong RK 148 (232792560), .instanceMethod yK_sums, .selects RK yK_sums yK_sums, .instanceMethod yK_canRaise, .selects RK yK_canRaise yK_canRaise, .instanceMethod yK_measuredOfAge, .selects RK yK_measuredOfAge yK_measuredOfAge, .methodLink RK 150 yK_commonShare, .instanceMethod yK_commonShare, .selects RK yK_commonShare yK_commonShare, .instanceMethod yK_error]
theorem TK_9_in : ∀ w ∈ TK_9, w ∈ lw_tbl := List.forall_mem_cons.mpr ⟨List.mem_of_getElem? (i := 233) (by decide +kernel), List.forall_mem_cons.mpr ⟨List.mem_of_getElem? (i := 235) (by decide +kernel), List.forall_mem_cons.mpr ⟨List.mem_of_getElem? (i := 236) (by decide +kernel), List.forall_mem_cons.mpr ⟨List.mem_of_getElem? (i := 238) (by decide +kernel), List.forall_mem_cons.mpr ⟨List.mem_of_getElem? (i := 242) (by decide +kernel), List.forall_mem_cons.mpr ⟨List.mem_of_getElem? (i := 250) (by decide +kernel), List.forall_mem_cons.mpr ⟨List.mem_of_getElem? (i := 252) (by decide +kernel), List.forall_mem_cons.mpr ⟨List.mem_of_getElem? (i := 253) (by decide +kernel), List.forall_mem_cons.mpr ⟨List.mem_of_getElem? (i := 240) (by decide +kernel), List.forall_mem_cons.mpr ⟨List.mem_of_getElem? (i := 13) (by decide +kernel), List.forall_mem_cons.mpr ⟨List.mem_of_getElem? (i := 244) (by decide +kernel), List.forall_mem_cons.mpr ⟨List.mem_of_getElem? (i := 14) (by decide +kernel), List.forall_mem_cons.mpr ⟨List.mem_of_getElem? (i := 246) (by decide +kernel), List.forall_mem_cons.mpr ⟨List.mem_of_getElem? (i := 248) (by decide +kernel), List.forall_mem_cons.mpr ⟨List.mem_of_getElem? (i := 15) (by decide +kernel), List.forall_mem_cons.mpr ⟨List.mem_of_getElem? (i := 256) (by decide +kernel), fun _ h => absurd h List.not_mem_nil⟩⟩⟩⟩⟩⟩⟩⟩⟩⟩⟩⟩⟩⟩⟩⟩
def TK_10 : List Cond := [.selects RK yK_error yK_error, .instanceMethod yK_undo, .selects RK yK_undo yK_undo, .methodLink RK 154 yK_errorSum, .methodLink RK 157 yK_loadErrors, .methodLink RK 160 yK_determinant, .instanceMethod yK_undone, .selects RK yK_undone yK_undone, .methodLink RK 164 yK_undo, .constantLong RK 168 (20), .instanceMethod yK_errorSum, .selects RK yK_errorSum yK_errorSum, .instanceMethod yK_loadErrors, .selects RK yK_loadErrors yK_loadErrors, .instanceMethod yK_determinant, .selects RK yK_determinant yK_determinant]
theorem TK_10_in : ∀ w ∈ TK_10, w ∈ lw_tbl := List.forall_mem_cons.mpr ⟨List.mem_of_getElem? (i := 257) (by decide +kernel), List.forall_mem_cons.mpr ⟨List.mem_of_getElem? (i := 260) (by decide +kernel), List.forall_mem_cons.mpr ⟨List.mem_of_getElem? (i := 261) (by decide +kernel), List.forall_mem_cons.mpr ⟨List.mem_of_getElem? (i := 263) (by decide +kernel), List.forall_mem_cons.mpr ⟨List.mem_of_getElem? (i := 267) (by decide +kernel), List.forall_mem_cons.mpr ⟨List.mem_of_getElem? (i := 271) (by decide +kernel), List.forall_mem_cons.mpr ⟨List.mem_of_getElem? (i := 288) (by decide +kernel), List.forall_mem_cons.mpr ⟨List.mem_of_getElem? (i := 289) (by decide +kernel), List.forall_mem_cons.mpr ⟨List.mem_of_getElem? (i := 291) (by decide +kernel), List.forall_mem_cons.mpr ⟨List.mem_of_getElem? (i := 292) (by decide +kernel), List.forall_mem_cons.mpr ⟨List.mem_of_getElem? (i := 265) (by decide +kernel), List.forall_mem_cons.mpr ⟨List.mem_of_getElem? (i := 16) (by decide +kernel), List.forall_mem_cons.mpr ⟨List.mem_of_getElem? (i := 269) (by decide +kernel), List.forall_mem_cons.mpr ⟨List.mem_of_getElem? (i := 17) (by decide +kernel), List.forall_mem_cons.mpr ⟨List.mem_of_getElem? (i := 273) (by decide +kernel), List.forall_mem_cons.mpr ⟨List.mem_of_getElem? (i := 18) (by decide +kernel), fun _ h => absurd h List.not_mem_nil⟩⟩⟩⟩⟩⟩⟩⟩⟩⟩⟩⟩⟩⟩⟩⟩
def TK_11 : List Cond := [.methodLink RK 170 yK_pivotRow, .methodLink RK 173 yK_swapRows, .methodLink RK 176 yK_clearBelow, .instanceMethod yK_pivotRow, .selects RK yK_pivotRow yK_pivotRow, .instanceMethod yK_swapRows, .selects RK yK_swapRows yK_swapRows, .instanceMethod yK_clearBelow, .selects RK yK_clearBelow yK_clearBelow, .instanceMethod yK_apart, .selects RK yK_apart yK_apart, .instanceMethod yK_length, .selects RK yK_length yK_length, .methodLink RK 180 yK_poolOf, .instanceMethod yK_pooled, .selects RK yK_pooled yK_pooled]
theorem TK_11_in : ∀ w ∈ TK_11, w ∈ lw_tbl := List.forall_mem_cons.mpr ⟨List.mem_of_getElem? (i := 275) (by decide +kernel), List.forall_mem_cons.mpr ⟨List.mem_of_getElem? (i := 279) (by decide +kernel), List.forall_mem_cons.mpr ⟨List.mem_of_getElem? (i := 283) (by decide +kernel), List.forall_mem_cons.mpr ⟨List.mem_of_getElem? (i := 277) (by decide +kernel), List.forall_mem_cons.mpr ⟨List.mem_of_getElem? (i := 19) (by decide +kernel), List.forall_mem_cons.mpr ⟨List.mem_of_getElem? (i := 281) (by decide +kernel), List.forall_mem_cons.mpr ⟨List.mem_of_getElem? (i := 20) (by decide +kernel), List.forall_mem_cons.mpr ⟨List.mem_of_getElem? (i := 285) (by decide +kernel), List.forall_mem_cons.mpr ⟨List.mem_of_getElem? (i := 21) (by decide +kernel), List.forall_mem_cons.mpr ⟨List.mem_of_getElem? (i := 294) (by decide +kernel), List.forall_mem_cons.mpr ⟨List.mem_of_getElem? (i := 295) (by decide +kernel), List.forall_mem_cons.mpr ⟨List.mem_of_getElem? (i := 298) (by decide +kernel), List.forall_mem_cons.mpr ⟨List.mem_of_getElem? (i := 299) (by decide +kernel), List.forall_mem_cons.mpr ⟨List.mem_of_getElem? (i := 301) (by decide +kernel), List.forall_mem_cons.mpr ⟨List.mem_of_getElem? (i := 326) (by decide +kernel), List.forall_mem_cons.mpr ⟨List.mem_of_getElem? (i := 327) (by decide +kernel), fun _ h => absurd h List.not_mem_nil⟩⟩⟩⟩⟩⟩⟩⟩⟩⟩⟩⟩⟩⟩⟩⟩
def TK_12 : List Cond := [.instanceMethod yK_poolOf, .selects RK yK_poolOf yK_poolOf, .methodLink RK 183 yK_readingsOfAge, .methodLink RK 186 yK_makePools, .instanceMethod yK_makePools, .selects RK yK_makePools yK_makePools, .methodLink RK 189 yK_openPool, .methodLink RK 192 yK_doesNotRise, .methodLink RK 195 yK_joinWithPoolBefore, .instanceMethod yK_openPool, .selects RK yK_openPool yK_openPool, .instanceMethod yK_doesNotRise, .selects RK yK_doesNotRise yK_doesNotRise, .instanceMethod yK_joinWithPoolBefore, .selects RK yK_joinWithPoolBefore yK_joinWithPoolBefore, .instanceMethod yK_readingsOfAge]
theorem TK_12_in : ∀ w ∈ TK_12, w ∈ lw_tbl := List.forall_mem_cons.mpr ⟨List.mem_of_getElem? (i := 303) (by decide +kernel), List.forall_mem_cons.mpr ⟨List.mem_of_getElem? (i := 22) (by decide +kernel), List.forall_mem_cons.mpr ⟨List.mem_of_getElem? (i := 305) (by decide +kernel), List.forall_mem_cons.mpr ⟨List.mem_of_getElem? (i := 309) (by decide +kernel), List.forall_mem_cons.mpr ⟨List.mem_of_getElem? (i := 311) (by decide +kernel), List.forall_mem_cons.mpr ⟨List.mem_of_getElem? (i := 24) (by decide +kernel), List.forall_mem_cons.mpr ⟨List.mem_of_getElem? (i := 313) (by decide +kernel), List.forall_mem_cons.mpr ⟨List.mem_of_getElem? (i := 317) (by decide +kernel), List.forall_mem_cons.mpr ⟨List.mem_of_getElem? (i := 321) (by decide +kernel), List.forall_mem_cons.mpr ⟨List.mem_of_getElem? (i := 315) (by decide +kernel), List.forall_mem_cons.mpr ⟨List.mem_of_getElem? (i := 25) (by decide +kernel), List.forall_mem_cons.mpr ⟨List.mem_of_getElem? (i := 319) (by decide +kernel), List.forall_mem_cons.mpr ⟨List.mem_of_getElem? (i := 26) (by decide +kernel), List.forall_mem_cons.mpr ⟨List.mem_of_getElem? (i := 323) (by decide +kernel), List.forall_mem_cons.mpr ⟨List.mem_of_getElem? (i := 27) (by decide +kernel), List.forall_mem_cons.mpr ⟨List.mem_of_getElem? (i := 307) (by decide +kernel), fun _ h => absurd h List.not_mem_nil⟩⟩⟩⟩⟩⟩⟩⟩⟩⟩⟩⟩⟩⟩⟩⟩
def TK_13 : List Cond := [.selects RK yK_readingsOfAge yK_readingsOfAge, .instanceMethod yK_sex, .selects RK yK_sex yK_sex, .instanceMethod yK_males, .selects RK yK_males yK_males, .instanceMethod yK_isClass, .selects RK yK_isClass yK_isClass, .instanceMethod yK_isAge, .selects RK yK_isAge yK_isAge, .static yK_isPlace, .static yK_isZeroOrOne, .instanceMethod yK_isLeastOfGroup, .selects RK yK_isLeastOfGroup yK_isLeastOfGroup, .instanceMethod yK_cell, .selects RK yK_cell yK_cell, .instanceMethod yK_sizeIn]
theorem TK_13_in : ∀ w ∈ TK_13, w ∈ lw_tbl := List.forall_mem_cons.mpr ⟨List.mem_of_getElem? (i := 23) (by decide +kernel), List.forall_mem_cons.mpr ⟨List.mem_of_getElem? (i := 330) (by decide +kernel), List.forall_mem_cons.mpr ⟨List.mem_of_getElem? (i := 331) (by decide +kernel), List.forall_mem_cons.mpr ⟨List.mem_of_getElem? (i := 334) (by decide +kernel), List.forall_mem_cons.mpr ⟨List.mem_of_getElem? (i := 335) (by decide +kernel), List.forall_mem_cons.mpr ⟨List.mem_of_getElem? (i := 128) (by decide +kernel), List.forall_mem_cons.mpr ⟨List.mem_of_getElem? (i := 0) (by decide +kernel), List.forall_mem_cons.mpr ⟨List.mem_of_getElem? (i := 132) (by decide +kernel), List.forall_mem_cons.mpr ⟨List.mem_of_getElem? (i := 1) (by decide +kernel), List.forall_mem_cons.mpr ⟨List.mem_of_getElem? (i := 135) (by decide +kernel), List.forall_mem_cons.mpr ⟨List.mem_of_getElem? (i := 158) (by decide +kernel), List.forall_mem_cons.mpr ⟨List.mem_of_getElem? (i := 192) (by decide +kernel), List.forall_mem_cons.mpr ⟨List.mem_of_getElem? (i := 8) (by decide +kernel), List.forall_mem_cons.mpr ⟨List.mem_of_getElem? (i := 147) (by decide +kernel), List.forall_mem_cons.mpr ⟨List.mem_of_getElem? (i := 4) (by decide +kernel), List.forall_mem_cons.mpr ⟨List.mem_of_getElem? (i := 139) (by decide +kernel), fun _ h => absurd h List.not_mem_nil⟩⟩⟩⟩⟩⟩⟩⟩⟩⟩⟩⟩⟩⟩⟩⟩
def TK_14 : List Cond := [.selects RK yK_sizeIn yK_sizeIn, .instanceMethod yK_own, .selects RK yK_own yK_own, .instanceMethod yK_ownOfAge, .selects RK yK_ownOfAge yK_ownOfAge, .static yK_fractionPart, .methodLink RK 199 Lib.MathLoose.abs_long.x, .static Lib.MathLoose.abs_long.x, .methodLink RK 202 yK_commonDivisor, .static yK_commonDivisor, .initialized RK]
theorem TK_14_in : ∀ w ∈ TK_14, w ∈ lw_tbl := List.forall_mem_cons.mpr ⟨List.mem_of_getElem? (i := 2) (by decide +kernel), List.forall_mem_cons.mpr ⟨List.mem_of_getElem? (i := 167) (by decide +kernel), List.forall_mem_cons.mpr ⟨List.mem_of_getElem? (i := 6) (by decide +kernel), List.forall_mem_cons.mpr ⟨List.mem_of_getElem? (i := 171) (by decide +kernel), List.forall_mem_cons.mpr ⟨List.mem_of_getElem? (i := 7) (by decide +kernel), List.forall_mem_cons.mpr ⟨List.mem_of_getElem? (i := 174) (by decide +kernel), List.forall_mem_cons.mpr ⟨List.mem_of_getElem? (i := 176) (by decide +kernel), List.forall_mem_cons.mpr ⟨List.mem_of_getElem? (i := 177) (by decide +kernel), List.forall_mem_cons.mpr ⟨List.mem_of_getElem? (i := 179) (by decide +kernel), List.forall_mem_cons.mpr ⟨List.mem_of_getElem? (i := 180) (by decide +kernel), List.forall_mem_cons.mpr ⟨List.mem_of_getElem? (i := 45) (by decide +kernel), fun _ h => absurd h List.not_mem_nil⟩⟩⟩⟩⟩⟩⟩⟩⟩⟩⟩
def TK_15 : List Cond := u_ws RK FK 19
set_option maxRecDepth 20000 in
theorem TK_15_in : ∀ w ∈ TK_15, w ∈ lw_tbl := by decide +kernel
def TK : List Cond := TK_0 ++ (TK_1 ++ (TK_2 ++ (TK_3 ++ (TK_4 ++ (TK_5 ++ (TK_6 ++ (TK_7 ++ (TK_8 ++ (TK_9 ++ (TK_10 ++ (TK_11 ++ (TK_12 ++ (TK_13 ++ (TK_14 ++ (TK_15)))))))))))))))
set_option maxRecDepth 20000 in
theorem TK_good : GoodIn TK TK := kgood_self (by decide +kernel)
theorem TK_in : ∀ w ∈ TK, w ∈ lw_tbl := List.forall_mem_append.mpr ⟨TK_0_in, List.forall_mem_append.mpr ⟨TK_1_in, List.forall_mem_append.mpr ⟨TK_2_in, List.forall_mem_append.mpr ⟨TK_3_in, List.forall_mem_append.mpr ⟨TK_4_in, List.forall_mem_append.mpr ⟨TK_5_in, List.forall_mem_append.mpr ⟨TK_6_in, List.forall_mem_append.mpr ⟨TK_7_in, List.forall_mem_append.mpr ⟨TK_8_in, List.forall_mem_append.mpr ⟨TK_9_in, List.forall_mem_append.mpr ⟨TK_10_in, List.forall_mem_append.mpr ⟨TK_11_in, List.forall_mem_append.mpr ⟨TK_12_in, List.forall_mem_append.mpr ⟨TK_13_in, List.forall_mem_append.mpr ⟨TK_14_in, TK_15_in⟩⟩⟩⟩⟩⟩⟩⟩⟩⟩⟩⟩⟩⟩⟩
theorem iK_u : ∀ w ∈ u_ws RK FK 19, w ∈ TK := fun w h => List.mem_append_right _ (List.mem_append_right _ (List.mem_append_right _ (List.mem_append_right _ (List.mem_append_right _ (List.mem_append_right _ (List.mem_append_right _ (List.mem_append_right _ (List.mem_append_right _ (List.mem_append_right _ (List.mem_append_right _ (List.mem_append_right _ (List.mem_append_right _ (List.mem_append_right _ (List.mem_append_right _ (h)))))))))))))))
theorem nK_ok : ∀ a, a < 19 → ∀ b, b < 19 → a ≠ b → (FK a).2.1 ≠ (FK b).2.1 := by decide +kernel
theorem tyK_ok : ∀ k, k < 19 → parseFieldDescriptor (FK k).2.2.1 = some (tyK k) := by decide +kernel
