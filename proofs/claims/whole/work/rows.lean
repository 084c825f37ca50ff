section
-- ===== PART A: goes FIRST, ahead of the names: the tables' words, and 'selects' of the private methods out of them =====
/-- a private method of a class that the tables say can be made, by its rows of tables_1 -/
def lw_okq (q : MethodName × Nat) : Prop := (q.1.cls ≠ "java/lang/invoke/MethodHandle" ∧ q.1.cls ≠ "java/lang/invoke/VarHandle") ∧ Cond.instantiable q.1.cls q.2 ∈ tables_1 ∧ Cond.privateMethod q.1 ∈ tables_1 ∧ Cond.instanceMethod q.1 ∈ tables_1
theorem lw_p0 : lw_okq (⟨"LiningLog$Lining", "lay", "(II)V"⟩, 13) := ⟨⟨by decide +kernel, by decide +kernel⟩, List.mem_of_getElem? (i := 25) (by decide +kernel), List.mem_of_getElem? (i := 31) (by decide +kernel), List.mem_of_getElem? (i := 32) (by decide +kernel)⟩
theorem lw_p1 : lw_okq (⟨"LiningLog$History", "record", "(LLiningLog$State;)V"⟩, 3) := ⟨⟨by decide +kernel, by decide +kernel⟩, List.mem_of_getElem? (i := 130) (by decide +kernel), List.mem_of_getElem? (i := 205) (by decide +kernel), List.mem_of_getElem? (i := 206) (by decide +kernel)⟩
theorem lw_p2 : lw_okq (⟨"LiningLog$State", "copyFrom", "(LLiningLog$State;)V"⟩, 3) := ⟨⟨by decide +kernel, by decide +kernel⟩, List.mem_of_getElem? (i := 19) (by decide +kernel), List.mem_of_getElem? (i := 209) (by decide +kernel), List.mem_of_getElem? (i := 210) (by decide +kernel)⟩
theorem lw_p3 : lw_okq (⟨"LiningLog$Lining", "copyFrom", "(LLiningLog$Lining;)V"⟩, 13) := ⟨⟨by decide +kernel, by decide +kernel⟩, List.mem_of_getElem? (i := 25) (by decide +kernel), List.mem_of_getElem? (i := 213) (by decide +kernel), List.mem_of_getElem? (i := 214) (by decide +kernel)⟩
theorem lw_p4 : lw_okq (⟨"LiningLog$Scan", "copyFrom", "(LLiningLog$Scan;)V"⟩, 3) := ⟨⟨by decide +kernel, by decide +kernel⟩, List.mem_of_getElem? (i := 94) (by decide +kernel), List.mem_of_getElem? (i := 220) (by decide +kernel), List.mem_of_getElem? (i := 221) (by decide +kernel)⟩
theorem lw_p5 : lw_okq (⟨"LiningLog$State", "startAnew", "(II)V"⟩, 3) := ⟨⟨by decide +kernel, by decide +kernel⟩, List.mem_of_getElem? (i := 19) (by decide +kernel), List.mem_of_getElem? (i := 225) (by decide +kernel), List.mem_of_getElem? (i := 226) (by decide +kernel)⟩
theorem lw_p6 : lw_okq (⟨"LiningLog$Lining", "hasRing", "(I)Z"⟩, 13) := ⟨⟨by decide +kernel, by decide +kernel⟩, List.mem_of_getElem? (i := 25) (by decide +kernel), List.mem_of_getElem? (i := 234) (by decide +kernel), List.mem_of_getElem? (i := 235) (by decide +kernel)⟩
theorem lw_p7 : lw_okq (⟨"LiningLog$Lining", "makeHeat", "(I)I"⟩, 13) := ⟨⟨by decide +kernel, by decide +kernel⟩, List.mem_of_getElem? (i := 25) (by decide +kernel), List.mem_of_getElem? (i := 261) (by decide +kernel), List.mem_of_getElem? (i := 262) (by decide +kernel)⟩
theorem lw_p8 : lw_okq (⟨"LiningLog$Lining", "keepThicknesses", "()V"⟩, 13) := ⟨⟨by decide +kernel, by decide +kernel⟩, List.mem_of_getElem? (i := 25) (by decide +kernel), List.mem_of_getElem? (i := 265) (by decide +kernel), List.mem_of_getElem? (i := 266) (by decide +kernel)⟩
theorem lw_p9 : lw_okq (⟨"LiningLog$Lining", "thickness", "(I)I"⟩, 13) := ⟨⟨by decide +kernel, by decide +kernel⟩, List.mem_of_getElem? (i := 25) (by decide +kernel), List.mem_of_getElem? (i := 269) (by decide +kernel), List.mem_of_getElem? (i := 270) (by decide +kernel)⟩
theorem lw_p10 : lw_okq (⟨"LiningLog$Lining", "wearAhead", "(II)I"⟩, 13) := ⟨⟨by decide +kernel, by decide +kernel⟩, List.mem_of_getElem? (i := 25) (by decide +kernel), List.mem_of_getElem? (i := 273) (by decide +kernel), List.mem_of_getElem? (i := 274) (by decide +kernel)⟩
theorem lw_p11 : lw_okq (⟨"LiningLog$Lining", "ringOf", "(I)I"⟩, 13) := ⟨⟨by decide +kernel, by decide +kernel⟩, List.mem_of_getElem? (i := 25) (by decide +kernel), List.mem_of_getElem? (i := 277) (by decide +kernel), List.mem_of_getElem? (i := 278) (by decide +kernel)⟩
theorem lw_p12 : lw_okq (⟨"LiningLog$Lining", "standingOutAhead", "(I)I"⟩, 13) := ⟨⟨by decide +kernel, by decide +kernel⟩, List.mem_of_getElem? (i := 25) (by decide +kernel), List.mem_of_getElem? (i := 281) (by decide +kernel), List.mem_of_getElem? (i := 282) (by decide +kernel)⟩
theorem lw_p13 : lw_okq (⟨"LiningLog$Lining", "placeBefore", "(I)I"⟩, 13) := ⟨⟨by decide +kernel, by decide +kernel⟩, List.mem_of_getElem? (i := 25) (by decide +kernel), List.mem_of_getElem? (i := 285) (by decide +kernel), List.mem_of_getElem? (i := 286) (by decide +kernel)⟩
theorem lw_p14 : lw_okq (⟨"LiningLog$Lining", "placeBehind", "(I)I"⟩, 13) := ⟨⟨by decide +kernel, by decide +kernel⟩, List.mem_of_getElem? (i := 25) (by decide +kernel), List.mem_of_getElem? (i := 289) (by decide +kernel), List.mem_of_getElem? (i := 290) (by decide +kernel)⟩
theorem lw_p15 : lw_okq (⟨"LiningLog$Lining", "takeWear", "(II)I"⟩, 13) := ⟨⟨by decide +kernel, by decide +kernel⟩, List.mem_of_getElem? (i := 25) (by decide +kernel), List.mem_of_getElem? (i := 296) (by decide +kernel), List.mem_of_getElem? (i := 297) (by decide +kernel)⟩
def lw_privs_1 : List (MethodName × Nat) := [(⟨"LiningLog$Lining", "lay", "(II)V"⟩, 13), (⟨"LiningLog$History", "record", "(LLiningLog$State;)V"⟩, 3), (⟨"LiningLog$State", "copyFrom", "(LLiningLog$State;)V"⟩, 3), (⟨"LiningLog$Lining", "copyFrom", "(LLiningLog$Lining;)V"⟩, 13), (⟨"LiningLog$Scan", "copyFrom", "(LLiningLog$Scan;)V"⟩, 3), (⟨"LiningLog$State", "startAnew", "(II)V"⟩, 3), (⟨"LiningLog$Lining", "hasRing", "(I)Z"⟩, 13), (⟨"LiningLog$Lining", "makeHeat", "(I)I"⟩, 13), (⟨"LiningLog$Lining", "keepThicknesses", "()V"⟩, 13), (⟨"LiningLog$Lining", "thickness", "(I)I"⟩, 13), (⟨"LiningLog$Lining", "wearAhead", "(II)I"⟩, 13), (⟨"LiningLog$Lining", "ringOf", "(I)I"⟩, 13), (⟨"LiningLog$Lining", "standingOutAhead", "(I)I"⟩, 13), (⟨"LiningLog$Lining", "placeBefore", "(I)I"⟩, 13), (⟨"LiningLog$Lining", "placeBehind", "(I)I"⟩, 13), (⟨"LiningLog$Lining", "takeWear", "(II)I"⟩, 13)]
theorem lw_r1 : ∀ q ∈ lw_privs_1, lw_okq q := List.forall_mem_cons.mpr ⟨lw_p0, List.forall_mem_cons.mpr ⟨lw_p1, List.forall_mem_cons.mpr ⟨lw_p2, List.forall_mem_cons.mpr ⟨lw_p3, List.forall_mem_cons.mpr ⟨lw_p4, List.forall_mem_cons.mpr ⟨lw_p5, List.forall_mem_cons.mpr ⟨lw_p6, List.forall_mem_cons.mpr ⟨lw_p7, List.forall_mem_cons.mpr ⟨lw_p8, List.forall_mem_cons.mpr ⟨lw_p9, List.forall_mem_cons.mpr ⟨lw_p10, List.forall_mem_cons.mpr ⟨lw_p11, List.forall_mem_cons.mpr ⟨lw_p12, List.forall_mem_cons.mpr ⟨lw_p13, List.forall_mem_cons.mpr ⟨lw_p14, List.forall_mem_cons.mpr ⟨lw_p15, fun _ h => absurd h List.not_mem_nil⟩⟩⟩⟩⟩⟩⟩⟩⟩⟩⟩⟩⟩⟩⟩⟩
theorem lw_p16 : lw_okq (⟨"LiningLog$Lining", "rest", "()V"⟩, 13) := ⟨⟨by decide +kernel, by decide +kernel⟩, List.mem_of_getElem? (i := 25) (by decide +kernel), List.mem_of_getElem? (i := 300) (by decide +kernel), List.mem_of_getElem? (i := 301) (by decide +kernel)⟩
theorem lw_p17 : lw_okq (⟨"LiningLog$Lining", "firstBelowLimit", "()I"⟩, 13) := ⟨⟨by decide +kernel, by decide +kernel⟩, List.mem_of_getElem? (i := 25) (by decide +kernel), List.mem_of_getElem? (i := 304) (by decide +kernel), List.mem_of_getElem? (i := 305) (by decide +kernel)⟩
theorem lw_p18 : lw_okq (⟨"LiningLog$Lining", "hasSpot", "(I)Z"⟩, 13) := ⟨⟨by decide +kernel, by decide +kernel⟩, List.mem_of_getElem? (i := 25) (by decide +kernel), List.mem_of_getElem? (i := 313) (by decide +kernel), List.mem_of_getElem? (i := 314) (by decide +kernel)⟩
theorem lw_p19 : lw_okq (⟨"LiningLog$Lining", "gunningRefusal", "(II)I"⟩, 13) := ⟨⟨by decide +kernel, by decide +kernel⟩, List.mem_of_getElem? (i := 25) (by decide +kernel), List.mem_of_getElem? (i := 320) (by decide +kernel), List.mem_of_getElem? (i := 321) (by decide +kernel)⟩
theorem lw_p20 : lw_okq (⟨"LiningLog$Lining", "staying", "(II)I"⟩, 13) := ⟨⟨by decide +kernel, by decide +kernel⟩, List.mem_of_getElem? (i := 25) (by decide +kernel), List.mem_of_getElem? (i := 324) (by decide +kernel), List.mem_of_getElem? (i := 325) (by decide +kernel)⟩
theorem lw_p21 : lw_okq (⟨"LiningLog$Lining", "shellTemperature", "(I)I"⟩, 13) := ⟨⟨by decide +kernel, by decide +kernel⟩, List.mem_of_getElem? (i := 25) (by decide +kernel), List.mem_of_getElem? (i := 328) (by decide +kernel), List.mem_of_getElem? (i := 329) (by decide +kernel)⟩
theorem lw_p22 : lw_okq (⟨"LiningLog$Lining", "putOn", "(II)I"⟩, 13) := ⟨⟨by decide +kernel, by decide +kernel⟩, List.mem_of_getElem? (i := 25) (by decide +kernel), List.mem_of_getElem? (i := 333) (by decide +kernel), List.mem_of_getElem? (i := 334) (by decide +kernel)⟩
theorem lw_p23 : lw_okq (⟨"LiningLog$Lining", "layAllRings", "()I"⟩, 13) := ⟨⟨by decide +kernel, by decide +kernel⟩, List.mem_of_getElem? (i := 25) (by decide +kernel), List.mem_of_getElem? (i := 341) (by decide +kernel), List.mem_of_getElem? (i := 342) (by decide +kernel)⟩
theorem lw_p24 : lw_okq (⟨"LiningLog$Lining", "layRing", "(I)I"⟩, 13) := ⟨⟨by decide +kernel, by decide +kernel⟩, List.mem_of_getElem? (i := 25) (by decide +kernel), List.mem_of_getElem? (i := 345) (by decide +kernel), List.mem_of_getElem? (i := 346) (by decide +kernel)⟩
theorem lw_p25 : lw_okq (⟨"LiningLog$State", "takeScan", "()LLiningLog$Scan;"⟩, 3) := ⟨⟨by decide +kernel, by decide +kernel⟩, List.mem_of_getElem? (i := 19) (by decide +kernel), List.mem_of_getElem? (i := 354) (by decide +kernel), List.mem_of_getElem? (i := 355) (by decide +kernel)⟩
theorem lw_p26 : lw_okq (⟨"LiningLog$State", "dropOldestScan", "()V"⟩, 3) := ⟨⟨by decide +kernel, by decide +kernel⟩, List.mem_of_getElem? (i := 19) (by decide +kernel), List.mem_of_getElem? (i := 358) (by decide +kernel), List.mem_of_getElem? (i := 359) (by decide +kernel)⟩
theorem lw_p27 : lw_okq (⟨"LiningLog$Scan", "take", "(LLiningLog$Lining;)V"⟩, 3) := ⟨⟨by decide +kernel, by decide +kernel⟩, List.mem_of_getElem? (i := 94) (by decide +kernel), List.mem_of_getElem? (i := 362) (by decide +kernel), List.mem_of_getElem? (i := 363) (by decide +kernel)⟩
theorem lw_p28 : lw_okq (⟨"LiningLog$Scan", "hotSpots", "(LLiningLog$Lining;)I"⟩, 3) := ⟨⟨by decide +kernel, by decide +kernel⟩, List.mem_of_getElem? (i := 94) (by decide +kernel), List.mem_of_getElem? (i := 368) (by decide +kernel), List.mem_of_getElem? (i := 369) (by decide +kernel)⟩
theorem lw_p29 : lw_okq (⟨"LiningLog$Scan", "isHot", "(ILLiningLog$Lining;)Z"⟩, 3) := ⟨⟨by decide +kernel, by decide +kernel⟩, List.mem_of_getElem? (i := 94) (by decide +kernel), List.mem_of_getElem? (i := 372) (by decide +kernel), List.mem_of_getElem? (i := 373) (by decide +kernel)⟩
theorem lw_p30 : lw_okq (⟨"LiningLog$History", "restoreLatest", "(LLiningLog$State;)V"⟩, 3) := ⟨⟨by decide +kernel, by decide +kernel⟩, List.mem_of_getElem? (i := 130) (by decide +kernel), List.mem_of_getElem? (i := 380) (by decide +kernel), List.mem_of_getElem? (i := 381) (by decide +kernel)⟩
theorem lw_p31 : lw_okq (⟨"LiningLog$Lining", "layeredSpots", "()I"⟩, 13) := ⟨⟨by decide +kernel, by decide +kernel⟩, List.mem_of_getElem? (i := 25) (by decide +kernel), List.mem_of_getElem? (i := 388) (by decide +kernel), List.mem_of_getElem? (i := 389) (by decide +kernel)⟩
def lw_privs_2 : List (MethodName × Nat) := [(⟨"LiningLog$Lining", "rest", "()V"⟩, 13), (⟨"LiningLog$Lining", "firstBelowLimit", "()I"⟩, 13), (⟨"LiningLog$Lining", "hasSpot", "(I)Z"⟩, 13), (⟨"LiningLog$Lining", "gunningRefusal", "(II)I"⟩, 13), (⟨"LiningLog$Lining", "staying", "(II)I"⟩, 13), (⟨"LiningLog$Lining", "shellTemperature", "(I)I"⟩, 13), (⟨"LiningLog$Lining", "putOn", "(II)I"⟩, 13), (⟨"LiningLog$Lining", "layAllRings", "()I"⟩, 13), (⟨"LiningLog$Lining", "layRing", "(I)I"⟩, 13), (⟨"LiningLog$State", "takeScan", "()LLiningLog$Scan;"⟩, 3), (⟨"LiningLog$State", "dropOldestScan", "()V"⟩, 3), (⟨"LiningLog$Scan", "take", "(LLiningLog$Lining;)V"⟩, 3), (⟨"LiningLog$Scan", "hotSpots", "(LLiningLog$Lining;)I"⟩, 3), (⟨"LiningLog$Scan", "isHot", "(ILLiningLog$Lining;)Z"⟩, 3), (⟨"LiningLog$History", "restoreLatest", "(LLiningLog$State;)V"⟩, 3), (⟨"LiningLog$Lining", "layeredSpots", "()I"⟩, 13)]
theorem lw_r2 : ∀ q ∈ lw_privs_2, lw_okq q := List.forall_mem_cons.mpr ⟨lw_p16, List.forall_mem_cons.mpr ⟨lw_p17, List.forall_mem_cons.mpr ⟨lw_p18, List.forall_mem_cons.mpr ⟨lw_p19, List.forall_mem_cons.mpr ⟨lw_p20, List.forall_mem_cons.mpr ⟨lw_p21, List.forall_mem_cons.mpr ⟨lw_p22, List.forall_mem_cons.mpr ⟨lw_p23, List.forall_mem_cons.mpr ⟨lw_p24, List.forall_mem_cons.mpr ⟨lw_p25, List.forall_mem_cons.mpr ⟨lw_p26, List.forall_mem_cons.mpr ⟨lw_p27, List.forall_mem_cons.mpr ⟨lw_p28, List.forall_mem_cons.mpr ⟨lw_p29, List.forall_mem_cons.mpr ⟨lw_p30, List.forall_mem_cons.mpr ⟨lw_p31, fun _ h => absurd h List.not_mem_nil⟩⟩⟩⟩⟩⟩⟩⟩⟩⟩⟩⟩⟩⟩⟩⟩
theorem lw_p32 : lw_okq (⟨"LiningLog$Lining", "leastThickness", "()I"⟩, 13) := ⟨⟨by decide +kernel, by decide +kernel⟩, List.mem_of_getElem? (i := 25) (by decide +kernel), List.mem_of_getElem? (i := 392) (by decide +kernel), List.mem_of_getElem? (i := 393) (by decide +kernel)⟩
theorem lw_p33 : lw_okq (⟨"LiningLog$Lining", "standingOut", "(I)I"⟩, 13) := ⟨⟨by decide +kernel, by decide +kernel⟩, List.mem_of_getElem? (i := 25) (by decide +kernel), List.mem_of_getElem? (i := 402) (by decide +kernel), List.mem_of_getElem? (i := 403) (by decide +kernel)⟩
theorem lw_p34 : lw_okq (⟨"LiningLog$Lining", "neighboursOf", "(I)I"⟩, 13) := ⟨⟨by decide +kernel, by decide +kernel⟩, List.mem_of_getElem? (i := 25) (by decide +kernel), List.mem_of_getElem? (i := 406) (by decide +kernel), List.mem_of_getElem? (i := 407) (by decide +kernel)⟩
theorem lw_p35 : lw_okq (⟨"LiningLog$Lining", "neighbourAt", "(II)I"⟩, 13) := ⟨⟨by decide +kernel, by decide +kernel⟩, List.mem_of_getElem? (i := 25) (by decide +kernel), List.mem_of_getElem? (i := 416) (by decide +kernel), List.mem_of_getElem? (i := 417) (by decide +kernel)⟩
theorem lw_p36 : lw_okq (⟨"LiningLog$Lining", "sumOfThicknesses", "()I"⟩, 13) := ⟨⟨by decide +kernel, by decide +kernel⟩, List.mem_of_getElem? (i := 25) (by decide +kernel), List.mem_of_getElem? (i := 427) (by decide +kernel), List.mem_of_getElem? (i := 428) (by decide +kernel)⟩
theorem lw_p37 : lw_okq (⟨"LiningLog$State", "hasScan", "(I)Z"⟩, 3) := ⟨⟨by decide +kernel, by decide +kernel⟩, List.mem_of_getElem? (i := 19) (by decide +kernel), List.mem_of_getElem? (i := 435) (by decide +kernel), List.mem_of_getElem? (i := 436) (by decide +kernel)⟩
theorem lw_p38 : lw_okq (⟨"LiningLog$Scan", "isPeak", "(ILLiningLog$Lining;)Z"⟩, 3) := ⟨⟨by decide +kernel, by decide +kernel⟩, List.mem_of_getElem? (i := 94) (by decide +kernel), List.mem_of_getElem? (i := 441) (by decide +kernel), List.mem_of_getElem? (i := 442) (by decide +kernel)⟩
theorem lw_p39 : lw_okq (⟨"LiningLog$Scan", "peakSpots", "(LLiningLog$Lining;)I"⟩, 3) := ⟨⟨by decide +kernel, by decide +kernel⟩, List.mem_of_getElem? (i := 94) (by decide +kernel), List.mem_of_getElem? (i := 451) (by decide +kernel), List.mem_of_getElem? (i := 452) (by decide +kernel)⟩
theorem lw_p40 : lw_okq (⟨"LiningLog$State", "trendIsKnown", "()Z"⟩, 3) := ⟨⟨by decide +kernel, by decide +kernel⟩, List.mem_of_getElem? (i := 19) (by decide +kernel), List.mem_of_getElem? (i := 460) (by decide +kernel), List.mem_of_getElem? (i := 461) (by decide +kernel)⟩
theorem lw_p41 : lw_okq (⟨"LiningLog$State", "heatsBetweenLatestScans", "()I"⟩, 3) := ⟨⟨by decide +kernel, by decide +kernel⟩, List.mem_of_getElem? (i := 19) (by decide +kernel), List.mem_of_getElem? (i := 464) (by decide +kernel), List.mem_of_getElem? (i := 465) (by decide +kernel)⟩
theorem lw_p42 : lw_okq (⟨"LiningLog$State", "trendOf", "(I)I"⟩, 3) := ⟨⟨by decide +kernel, by decide +kernel⟩, List.mem_of_getElem? (i := 19) (by decide +kernel), List.mem_of_getElem? (i := 468) (by decide +kernel), List.mem_of_getElem? (i := 469) (by decide +kernel)⟩
theorem lw_p43 : lw_okq (⟨"LiningLog$Lining", "heatsUntilOver", "(I)I"⟩, 13) := ⟨⟨by decide +kernel, by decide +kernel⟩, List.mem_of_getElem? (i := 25) (by decide +kernel), List.mem_of_getElem? (i := 482) (by decide +kernel), List.mem_of_getElem? (i := 483) (by decide +kernel)⟩
theorem lw_p44 : lw_okq (⟨"LiningLog$Lining", "wearNow", "(II)I"⟩, 13) := ⟨⟨by decide +kernel, by decide +kernel⟩, List.mem_of_getElem? (i := 25) (by decide +kernel), List.mem_of_getElem? (i := 500) (by decide +kernel), List.mem_of_getElem? (i := 501) (by decide +kernel)⟩
theorem lw_p45 : lw_okq (⟨"LiningLog$LogText", "append", "(C)V"⟩, 6) := ⟨⟨by decide +kernel, by decide +kernel⟩, List.mem_of_getElem? (i := 150) (by decide +kernel), List.mem_of_getElem? (i := 508) (by decide +kernel), List.mem_of_getElem? (i := 509) (by decide +kernel)⟩
theorem lw_p46 : lw_okq (⟨"LiningLog$LogText", "firstFault", "(LLiningLog$Lining;)I"⟩, 6) := ⟨⟨by decide +kernel, by decide +kernel⟩, List.mem_of_getElem? (i := 150) (by decide +kernel), List.mem_of_getElem? (i := 520) (by decide +kernel), List.mem_of_getElem? (i := 521) (by decide +kernel)⟩
theorem lw_p47 : lw_okq (⟨"LiningLog$LogText", "readLine", "(I)Z"⟩, 6) := ⟨⟨by decide +kernel, by decide +kernel⟩, List.mem_of_getElem? (i := 150) (by decide +kernel), List.mem_of_getElem? (i := 524) (by decide +kernel), List.mem_of_getElem? (i := 525) (by decide +kernel)⟩
def lw_privs_3 : List (MethodName × Nat) := [(⟨"LiningLog$Lining", "leastThickness", "()I"⟩, 13), (⟨"LiningLog$Lining", "standingOut", "(I)I"⟩, 13), (⟨"LiningLog$Lining", "neighboursOf", "(I)I"⟩, 13), (⟨"LiningLog$Lining", "neighbourAt", "(II)I"⟩, 13), (⟨"LiningLog$Lining", "sumOfThicknesses", "()I"⟩, 13), (⟨"LiningLog$State", "hasScan", "(I)Z"⟩, 3), (⟨"LiningLog$Scan", "isPeak", "(ILLiningLog$Lining;)Z"⟩, 3), (⟨"LiningLog$Scan", "peakSpots", "(LLiningLog$Lining;)I"⟩, 3), (⟨"LiningLog$State", "trendIsKnown", "()Z"⟩, 3), (⟨"LiningLog$State", "heatsBetweenLatestScans", "()I"⟩, 3), (⟨"LiningLog$State", "trendOf", "(I)I"⟩, 3), (⟨"LiningLog$Lining", "heatsUntilOver", "(I)I"⟩, 13), (⟨"LiningLog$Lining", "wearNow", "(II)I"⟩, 13), (⟨"LiningLog$LogText", "append", "(C)V"⟩, 6), (⟨"LiningLog$LogText", "firstFault", "(LLiningLog$Lining;)I"⟩, 6), (⟨"LiningLog$LogText", "readLine", "(I)Z"⟩, 6)]
theorem lw_r3 : ∀ q ∈ lw_privs_3, lw_okq q := List.forall_mem_cons.mpr ⟨lw_p32, List.forall_mem_cons.mpr ⟨lw_p33, List.forall_mem_cons.mpr ⟨lw_p34, List.forall_mem_cons.mpr ⟨lw_p35, List.forall_mem_cons.mpr ⟨lw_p36, List.forall_mem_cons.mpr ⟨lw_p37, List.forall_mem_cons.mpr ⟨lw_p38, List.forall_mem_cons.mpr ⟨lw_p39, List.forall_mem_cons.mpr ⟨lw_p40, List.forall_mem_cons.mpr ⟨lw_p41, List.forall_mem_cons.mpr ⟨lw_p42, List.forall_mem_cons.mpr ⟨lw_p43, List.forall_mem_cons.mpr ⟨lw_p44, List.forall_mem_cons.mpr ⟨lw_p45, List.forall_mem_cons.mpr ⟨lw_p46, List.forall_mem_cons.mpr ⟨lw_p47, fun _ h => absurd h List.not_mem_nil⟩⟩⟩⟩⟩⟩⟩⟩⟩⟩⟩⟩⟩⟩⟩⟩
theorem lw_p48 : lw_okq (⟨"LiningLog$LogText", "readFirst", "()Z"⟩, 6) := ⟨⟨by decide +kernel, by decide +kernel⟩, List.mem_of_getElem? (i := 150) (by decide +kernel), List.mem_of_getElem? (i := 528) (by decide +kernel), List.mem_of_getElem? (i := 529) (by decide +kernel)⟩
theorem lw_p49 : lw_okq (⟨"LiningLog$LogText", "readDigits", "()I"⟩, 6) := ⟨⟨by decide +kernel, by decide +kernel⟩, List.mem_of_getElem? (i := 150) (by decide +kernel), List.mem_of_getElem? (i := 532) (by decide +kernel), List.mem_of_getElem? (i := 533) (by decide +kernel)⟩
theorem lw_p50 : lw_okq (⟨"LiningLog$LogText", "readSign", "(C)Z"⟩, 6) := ⟨⟨by decide +kernel, by decide +kernel⟩, List.mem_of_getElem? (i := 150) (by decide +kernel), List.mem_of_getElem? (i := 537) (by decide +kernel), List.mem_of_getElem? (i := 538) (by decide +kernel)⟩
theorem lw_p51 : lw_okq (⟨"LiningLog$LogText", "isAt", "(IC)Z"⟩, 6) := ⟨⟨by decide +kernel, by decide +kernel⟩, List.mem_of_getElem? (i := 150) (by decide +kernel), List.mem_of_getElem? (i := 541) (by decide +kernel), List.mem_of_getElem? (i := 542) (by decide +kernel)⟩
theorem lw_p52 : lw_okq (⟨"LiningLog$LogText", "readSecond", "()Z"⟩, 6) := ⟨⟨by decide +kernel, by decide +kernel⟩, List.mem_of_getElem? (i := 150) (by decide +kernel), List.mem_of_getElem? (i := 545) (by decide +kernel), List.mem_of_getElem? (i := 546) (by decide +kernel)⟩
theorem lw_p53 : lw_okq (⟨"LiningLog$LogText", "isInRange", "(LLiningLog$Lining;)Z"⟩, 6) := ⟨⟨by decide +kernel, by decide +kernel⟩, List.mem_of_getElem? (i := 150) (by decide +kernel), List.mem_of_getElem? (i := 549) (by decide +kernel), List.mem_of_getElem? (i := 550) (by decide +kernel)⟩
theorem lw_p54 : lw_okq (⟨"LiningLog", "carryOutLine", "()I"⟩, 5) := ⟨⟨by decide +kernel, by decide +kernel⟩, List.mem_of_getElem? (i := 11) (by decide +kernel), List.mem_of_getElem? (i := 563) (by decide +kernel), List.mem_of_getElem? (i := 564) (by decide +kernel)⟩
theorem lw_p55 : lw_okq (⟨"LiningLogModel", "begins", "(II)V"⟩, 12) := ⟨⟨by decide +kernel, by decide +kernel⟩, List.mem_of_getElem? (i := 571) (by decide +kernel), List.mem_of_getElem? (i := 577) (by decide +kernel), List.mem_of_getElem? (i := 578) (by decide +kernel)⟩
theorem lw_p56 : lw_okq (⟨"LiningLogModel", "spots", "()I"⟩, 12) := ⟨⟨by decide +kernel, by decide +kernel⟩, List.mem_of_getElem? (i := 571) (by decide +kernel), List.mem_of_getElem? (i := 581) (by decide +kernel), List.mem_of_getElem? (i := 582) (by decide +kernel)⟩
theorem lw_p57 : lw_okq (⟨"LiningLogModel", "records", "()V"⟩, 12) := ⟨⟨by decide +kernel, by decide +kernel⟩, List.mem_of_getElem? (i := 571) (by decide +kernel), List.mem_of_getElem? (i := 630) (by decide +kernel), List.mem_of_getElem? (i := 631) (by decide +kernel)⟩
theorem lw_p58 : lw_okq (⟨"LiningLogModel", "heats", "(II)I"⟩, 12) := ⟨⟨by decide +kernel, by decide +kernel⟩, List.mem_of_getElem? (i := 571) (by decide +kernel), List.mem_of_getElem? (i := 654) (by decide +kernel), List.mem_of_getElem? (i := 655) (by decide +kernel)⟩
theorem lw_p59 : lw_okq (⟨"LiningLogModel", "wearOf", "(III)I"⟩, 12) := ⟨⟨by decide +kernel, by decide +kernel⟩, List.mem_of_getElem? (i := 571) (by decide +kernel), List.mem_of_getElem? (i := 658) (by decide +kernel), List.mem_of_getElem? (i := 659) (by decide +kernel)⟩
theorem lw_p60 : lw_okq (⟨"LiningLogModel", "thick", "(I)I"⟩, 12) := ⟨⟨by decide +kernel, by decide +kernel⟩, List.mem_of_getElem? (i := 571) (by decide +kernel), List.mem_of_getElem? (i := 665) (by decide +kernel), List.mem_of_getElem? (i := 666) (by decide +kernel)⟩
theorem lw_p61 : lw_okq (⟨"LiningLogModel", "leastBeside", "(I)I"⟩, 12) := ⟨⟨by decide +kernel, by decide +kernel⟩, List.mem_of_getElem? (i := 571) (by decide +kernel), List.mem_of_getElem? (i := 669) (by decide +kernel), List.mem_of_getElem? (i := 670) (by decide +kernel)⟩
theorem lw_p62 : lw_okq (⟨"LiningLogModel", "wears", "(II)I"⟩, 12) := ⟨⟨by decide +kernel, by decide +kernel⟩, List.mem_of_getElem? (i := 571) (by decide +kernel), List.mem_of_getElem? (i := 673) (by decide +kernel), List.mem_of_getElem? (i := 674) (by decide +kernel)⟩
theorem lw_p63 : lw_okq (⟨"LiningLogModel", "isSpot", "(I)Z"⟩, 12) := ⟨⟨by decide +kernel, by decide +kernel⟩, List.mem_of_getElem? (i := 571) (by decide +kernel), List.mem_of_getElem? (i := 681) (by decide +kernel), List.mem_of_getElem? (i := 682) (by decide +kernel)⟩
def lw_privs_4 : List (MethodName × Nat) := [(⟨"LiningLog$LogText", "readFirst", "()Z"⟩, 6), (⟨"LiningLog$LogText", "readDigits", "()I"⟩, 6), (⟨"LiningLog$LogText", "readSign", "(C)Z"⟩, 6), (⟨"LiningLog$LogText", "isAt", "(IC)Z"⟩, 6), (⟨"LiningLog$LogText", "readSecond", "()Z"⟩, 6), (⟨"LiningLog$LogText", "isInRange", "(LLiningLog$Lining;)Z"⟩, 6), (⟨"LiningLog", "carryOutLine", "()I"⟩, 5), (⟨"LiningLogModel", "begins", "(II)V"⟩, 12), (⟨"LiningLogModel", "spots", "()I"⟩, 12), (⟨"LiningLogModel", "records", "()V"⟩, 12), (⟨"LiningLogModel", "heats", "(II)I"⟩, 12), (⟨"LiningLogModel", "wearOf", "(III)I"⟩, 12), (⟨"LiningLogModel", "thick", "(I)I"⟩, 12), (⟨"LiningLogModel", "leastBeside", "(I)I"⟩, 12), (⟨"LiningLogModel", "wears", "(II)I"⟩, 12), (⟨"LiningLogModel", "isSpot", "(I)Z"⟩, 12)]
theorem lw_r4 : ∀ q ∈ lw_privs_4, lw_okq q := List.forall_mem_cons.mpr ⟨lw_p48, List.forall_mem_cons.mpr ⟨lw_p49, List.forall_mem_cons.mpr ⟨lw_p50, List.forall_mem_cons.mpr ⟨lw_p51, List.forall_mem_cons.mpr ⟨lw_p52, List.forall_mem_cons.mpr ⟨lw_p53, List.forall_mem_cons.mpr ⟨lw_p54, List.forall_mem_cons.mpr ⟨lw_p55, List.forall_mem_cons.mpr ⟨lw_p56, List.forall_mem_cons.mpr ⟨lw_p57, List.forall_mem_cons.mpr ⟨lw_p58, List.forall_mem_cons.mpr ⟨lw_p59, List.forall_mem_cons.mpr ⟨lw_p60, List.forall_mem_cons.mpr ⟨lw_p61, List.forall_mem_cons.mpr ⟨lw_p62, List.forall_mem_cons.mpr ⟨lw_p63, fun _ h => absurd h List.not_mem_nil⟩⟩⟩⟩⟩⟩⟩⟩⟩⟩⟩⟩⟩⟩⟩⟩
theorem lw_p64 : lw_okq (⟨"LiningLogModel", "refusal", "(II)I"⟩, 12) := ⟨⟨by decide +kernel, by decide +kernel⟩, List.mem_of_getElem? (i := 571) (by decide +kernel), List.mem_of_getElem? (i := 685) (by decide +kernel), List.mem_of_getElem? (i := 686) (by decide +kernel)⟩
theorem lw_p65 : lw_okq (⟨"LiningLogModel", "stays", "(II)I"⟩, 12) := ⟨⟨by decide +kernel, by decide +kernel⟩, List.mem_of_getElem? (i := 571) (by decide +kernel), List.mem_of_getElem? (i := 689) (by decide +kernel), List.mem_of_getElem? (i := 690) (by decide +kernel)⟩
theorem lw_p66 : lw_okq (⟨"LiningLogModel", "warmth", "(I)I"⟩, 12) := ⟨⟨by decide +kernel, by decide +kernel⟩, List.mem_of_getElem? (i := 571) (by decide +kernel), List.mem_of_getElem? (i := 693) (by decide +kernel), List.mem_of_getElem? (i := 694) (by decide +kernel)⟩
theorem lw_p67 : lw_okq (⟨"LiningLogModel", "guns", "(II)I"⟩, 12) := ⟨⟨by decide +kernel, by decide +kernel⟩, List.mem_of_getElem? (i := 571) (by decide +kernel), List.mem_of_getElem? (i := 698) (by decide +kernel), List.mem_of_getElem? (i := 699) (by decide +kernel)⟩
theorem lw_p68 : lw_okq (⟨"LiningLogModel", "relines", "(II)I"⟩, 12) := ⟨⟨by decide +kernel, by decide +kernel⟩, List.mem_of_getElem? (i := 571) (by decide +kernel), List.mem_of_getElem? (i := 706) (by decide +kernel), List.mem_of_getElem? (i := 707) (by decide +kernel)⟩
theorem lw_p69 : lw_okq (⟨"LiningLogModel", "scans", "()V"⟩, 12) := ⟨⟨by decide +kernel, by decide +kernel⟩, List.mem_of_getElem? (i := 571) (by decide +kernel), List.mem_of_getElem? (i := 714) (by decide +kernel), List.mem_of_getElem? (i := 715) (by decide +kernel)⟩
theorem lw_p70 : lw_okq (⟨"LiningLogModel", "isHot", "(II)Z"⟩, 12) := ⟨⟨by decide +kernel, by decide +kernel⟩, List.mem_of_getElem? (i := 571) (by decide +kernel), List.mem_of_getElem? (i := 718) (by decide +kernel), List.mem_of_getElem? (i := 719) (by decide +kernel)⟩
theorem lw_p71 : lw_okq (⟨"LiningLogModel", "besides", "(I)I"⟩, 12) := ⟨⟨by decide +kernel, by decide +kernel⟩, List.mem_of_getElem? (i := 571) (by decide +kernel), List.mem_of_getElem? (i := 734) (by decide +kernel), List.mem_of_getElem? (i := 735) (by decide +kernel)⟩
theorem lw_p72 : lw_okq (⟨"LiningLogModel", "beside", "(II)I"⟩, 12) := ⟨⟨by decide +kernel, by decide +kernel⟩, List.mem_of_getElem? (i := 571) (by decide +kernel), List.mem_of_getElem? (i := 742) (by decide +kernel), List.mem_of_getElem? (i := 743) (by decide +kernel)⟩
theorem lw_p73 : lw_okq (⟨"LiningLogModel", "isScan", "(I)Z"⟩, 12) := ⟨⟨by decide +kernel, by decide +kernel⟩, List.mem_of_getElem? (i := 571) (by decide +kernel), List.mem_of_getElem? (i := 755) (by decide +kernel), List.mem_of_getElem? (i := 756) (by decide +kernel)⟩
theorem lw_p74 : lw_okq (⟨"LiningLogModel", "isPeak", "(II)Z"⟩, 12) := ⟨⟨by decide +kernel, by decide +kernel⟩, List.mem_of_getElem? (i := 571) (by decide +kernel), List.mem_of_getElem? (i := 759) (by decide +kernel), List.mem_of_getElem? (i := 760) (by decide +kernel)⟩
theorem lw_p75 : lw_okq (⟨"LiningLogModel", "keeps", "()V"⟩, 12) := ⟨⟨by decide +kernel, by decide +kernel⟩, List.mem_of_getElem? (i := 571) (by decide +kernel), List.mem_of_getElem? (i := 780) (by decide +kernel), List.mem_of_getElem? (i := 781) (by decide +kernel)⟩
theorem lw_p76 : lw_okq (⟨"LiningLogModel", "lasts", "(II)I"⟩, 12) := ⟨⟨by decide +kernel, by decide +kernel⟩, List.mem_of_getElem? (i := 571) (by decide +kernel), List.mem_of_getElem? (i := 784) (by decide +kernel), List.mem_of_getElem? (i := 785) (by decide +kernel)⟩
theorem lw_p77 : lw_okq (⟨"LiningLogModel", "restores", "()V"⟩, 12) := ⟨⟨by decide +kernel, by decide +kernel⟩, List.mem_of_getElem? (i := 571) (by decide +kernel), List.mem_of_getElem? (i := 788) (by decide +kernel), List.mem_of_getElem? (i := 789) (by decide +kernel)⟩
theorem lw_p78 : lw_okq (⟨"LiningLogModel", "readsLine", "()Z"⟩, 12) := ⟨⟨by decide +kernel, by decide +kernel⟩, List.mem_of_getElem? (i := 571) (by decide +kernel), List.mem_of_getElem? (i := 816) (by decide +kernel), List.mem_of_getElem? (i := 817) (by decide +kernel)⟩
theorem lw_p79 : lw_okq (⟨"LiningLogModel", "number", "()I"⟩, 12) := ⟨⟨by decide +kernel, by decide +kernel⟩, List.mem_of_getElem? (i := 571) (by decide +kernel), List.mem_of_getElem? (i := 820) (by decide +kernel), List.mem_of_getElem? (i := 821) (by decide +kernel)⟩
def lw_privs_5 : List (MethodName × Nat) := [(⟨"LiningLogModel", "refusal", "(II)I"⟩, 12), (⟨"LiningLogModel", "stays", "(II)I"⟩, 12), (⟨"LiningLogModel", "warmth", "(I)I"⟩, 12), (⟨"LiningLogModel", "guns", "(II)I"⟩, 12), (⟨"LiningLogModel", "relines", "(II)I"⟩, 12), (⟨"LiningLogModel", "scans", "()V"⟩, 12), (⟨"LiningLogModel", "isHot", "(II)Z"⟩, 12), (⟨"LiningLogModel", "besides", "(I)I"⟩, 12), (⟨"LiningLogModel", "beside", "(II)I"⟩, 12), (⟨"LiningLogModel", "isScan", "(I)Z"⟩, 12), (⟨"LiningLogModel", "isPeak", "(II)Z"⟩, 12), (⟨"LiningLogModel", "keeps", "()V"⟩, 12), (⟨"LiningLogModel", "lasts", "(II)I"⟩, 12), (⟨"LiningLogModel", "restores", "()V"⟩, 12), (⟨"LiningLogModel", "readsLine", "()Z"⟩, 12), (⟨"LiningLogModel", "number", "()I"⟩, 12)]
theorem lw_r5 : ∀ q ∈ lw_privs_5, lw_okq q := List.forall_mem_cons.mpr ⟨lw_p64, List.forall_mem_cons.mpr ⟨lw_p65, List.forall_mem_cons.mpr ⟨lw_p66, List.forall_mem_cons.mpr ⟨lw_p67, List.forall_mem_cons.mpr ⟨lw_p68, List.forall_mem_cons.mpr ⟨lw_p69, List.forall_mem_cons.mpr ⟨lw_p70, List.forall_mem_cons.mpr ⟨lw_p71, List.forall_mem_cons.mpr ⟨lw_p72, List.forall_mem_cons.mpr ⟨lw_p73, List.forall_mem_cons.mpr ⟨lw_p74, List.forall_mem_cons.mpr ⟨lw_p75, List.forall_mem_cons.mpr ⟨lw_p76, List.forall_mem_cons.mpr ⟨lw_p77, List.forall_mem_cons.mpr ⟨lw_p78, List.forall_mem_cons.mpr ⟨lw_p79, fun _ h => absurd h List.not_mem_nil⟩⟩⟩⟩⟩⟩⟩⟩⟩⟩⟩⟩⟩⟩⟩⟩
theorem lw_p80 : lw_okq (⟨"LiningLogModel", "passes", "(C)Z"⟩, 12) := ⟨⟨by decide +kernel, by decide +kernel⟩, List.mem_of_getElem? (i := 571) (by decide +kernel), List.mem_of_getElem? (i := 824) (by decide +kernel), List.mem_of_getElem? (i := 825) (by decide +kernel)⟩
theorem lw_p81 : lw_okq (⟨"LiningLogModel", "carries", "()I"⟩, 12) := ⟨⟨by decide +kernel, by decide +kernel⟩, List.mem_of_getElem? (i := 571) (by decide +kernel), List.mem_of_getElem? (i := 833) (by decide +kernel), List.mem_of_getElem? (i := 834) (by decide +kernel)⟩
def lw_privs_6 : List (MethodName × Nat) := [(⟨"LiningLogModel", "passes", "(C)Z"⟩, 12), (⟨"LiningLogModel", "carries", "()I"⟩, 12)]
theorem lw_r6 : ∀ q ∈ lw_privs_6, lw_okq q := List.forall_mem_cons.mpr ⟨lw_p80, List.forall_mem_cons.mpr ⟨lw_p81, fun _ h => absurd h List.not_mem_nil⟩⟩
def lw_privs : List (MethodName × Nat) := lw_privs_1 ++ (lw_privs_2 ++ (lw_privs_3 ++ (lw_privs_4 ++ (lw_privs_5 ++ (lw_privs_6)))))
def lw_tbl : List Cond := k2_sels lw_privs ++ tables_1
theorem lw_privs_ok : ∀ q ∈ lw_privs, lw_okq q := by
  show ∀ q ∈ lw_privs_1 ++ (lw_privs_2 ++ (lw_privs_3 ++ (lw_privs_4 ++ (lw_privs_5 ++ (lw_privs_6))))), lw_okq q
  exact List.forall_mem_append.mpr ⟨lw_r1, List.forall_mem_append.mpr ⟨lw_r2, List.forall_mem_append.mpr ⟨lw_r3, List.forall_mem_append.mpr ⟨lw_r4, List.forall_mem_append.mpr ⟨lw_r5, lw_r6⟩⟩⟩⟩⟩
end
section
/-! THE SMALL MACHINE: the instructions that the class and the law use, over a memory of ints by (kind, number, place); 'mj_go' is what a frame comes to -/
abbrev mj_V : Type := Int32 ⊕ (Nat × Nat)
abbrev mj_L : Type := List (Option mj_V)
abbrev mj_F : Type := Nat → Nat → Nat → Int32
abbrev mj_G : Type := Nat → Nat → Nat → Option (Nat × Nat)
abbrev mj_H : Type := List (Nat × Nat) × mj_F × mj_G
abbrev mj_X : Type := Nat × (Nat → Int32)
/-- an instruction: pc, length, the instruction, three numbers, a constant, targets -/
abbrev mj_E : Type := Nat × Nat × Instr × Nat × Nat × Nat × Int32 × List Nat
abbrev mj_C : Type := Nat × mj_L × List mj_V × mj_H
abbrev mj_R : Type := mj_C ⊕ (Option mj_V) ⊕ (Nat × List mj_V × List mj_V)
def mj_u (f : mj_F) (k i j : Nat) (v : Int32) : mj_F := fun a b c => if a = k ∧ b = i ∧ c = j then v else f a b c
def mj_w (g : mj_G) (k i j : Nat) (v : Option (Nat × Nat)) : mj_G := fun a b c => if a = k ∧ b = i ∧ c = j then v else g a b c
/-- an index: within, and as a number -/
def mj_ix (x : Int32) (n : Nat) : Option Nat := if 0 ≤ x.toInt ∧ x.toInt < (n : Int) then some x.toNatClampNeg else none
def mj_cmp (o : ClassFile.Cond) (x y : Int32) : Bool := match o with
  | .eq => decide (x = y)
  | .ne => decide (¬ x = y)
  | .lt => decide (x < y)
  | .ge => decide (y ≤ x)
  | .gt => decide (y < x)
  | .le => decide (x ≤ y)
/-- what a field or an answer of a small type must be: 1: boolean, 2: char -/
def mj_chk (c : Nat) (x : Int32) : Bool := match c with
  | 0 => true
  | 1 => decide (x = 0 ∨ x = 1)
  | _ => decide (0 ≤ x.toInt ∧ x.toInt < 65536)
/-- the table of kinds: (0, class, fields) an object; (1, 0 int or 2 char, length) an array; (2, class, length) an array of references; (3, ..) the script; (4, 0, length) a fixed table -/
def mj_pop : Nat → List mj_V → Option (List mj_V × List mj_V)
  | 0, st => some ([], st)
  | _ + 1, [] => none
  | n + 1, x :: st => match mj_pop n st with
    | none => none
    | some (as, r) => some (as ++ [x], r)
def mj_cnt (a : Nat) : List (Nat × Nat) → Nat
  | [] => 0
  | x :: l => if x.1 = a then mj_cnt a l + 1 else mj_cnt a l
def mj_z (f : mj_F) (a n : Nat) : mj_F := fun k i j => if k = a ∧ i = n then 0 else f k i j
def mj_n (g : mj_G) (a n : Nat) : mj_G := fun k i j => if k = a ∧ i = n then none else g k i j
/-- a stretch of one array to another, both from 0 on -/
def mj_cp (f : mj_F) (k0 i0 k1 i1 n : Nat) : mj_F := fun a b c => if a = k1 ∧ b = i1 ∧ c < n then f k0 i0 c else f a b c
def mj_tsw (lo hi : Int) (ts : List Nat) (d : Nat) (x : Int32) : Nat := if x.toInt < lo ∨ hi < x.toInt then d else (ts[(x.toInt - lo).toNat]?).getD d
def mj_lsw : List (Int × Int) → List Nat → Nat → Int32 → Nat
  | (a, _) :: ps, t :: ts, d, x => if x.toInt = a then t else mj_lsw ps ts d x
  | _, _, d, _ => d
/-- the tables that a class and its law have, as one value: kinds, the fields' types, the fixed tables, per method: the number of its locals, its instructions -/
abbrev mj_T : Type := List (Nat × Nat × Nat) × List (List Nat) × List (List Int32) × List Nat × List (List mj_E)
def mj_kd (Y : mj_T) (k : Nat) : Nat × Nat × Nat := (Y.1[k]?).getD (9, 0, 0)
def mj_ft (Y : mj_T) (a b : Nat) : Nat := (((Y.2.1[a]?).getD [])[b]?).getD 9
def mj_len (Y : mj_T) (X : mj_X) (k : Nat) : Nat := match mj_kd Y k with
  | (3, _, _) => X.1
  | (_, _, n) => n
def mj_isI (Y : mj_T) (k : Nat) : Bool := match mj_kd Y k with
  | (1, 0, _) => true
  | (3, _, _) => true
  | (4, _, _) => true
  | _ => false
def mj_isA (Y : mj_T) (t k : Nat) : Bool := match mj_kd Y k with
  | (1, u, _) => decide (u = t)
  | _ => false
def mj_isQ (Y : mj_T) (k : Nat) : Bool := match mj_kd Y k with
  | (2, _, _) => true
  | _ => false
def mj_rd (Y : mj_T) (X : mj_X) (f : mj_F) (k i j : Nat) : Int32 := match mj_kd Y k with
  | (3, _, _) => X.2 j
  | (4, t, _) => (((Y.2.2.1[t]?).getD [])[j]?).getD 0
  | _ => f k i j
def mj_mx (Y : mj_T) (m : Nat) : Nat := (Y.2.2.2.1[m]?).getD 0
def mj_cd (Y : mj_T) (m : Nat) : List mj_E := (Y.2.2.2.2[m]?).getD []
def mj_ent (Y : mj_T) (m k : Nat) : Option mj_E := (mj_cd Y m)[k]?
def mj_ld (k : Nat) (ls : mj_L) (st : List mj_V) (σ : mj_H) (isI : Bool) (i : Nat) : Option mj_R := match ls[i]? with
  | some (some (.inl x)) => if isI = true then some (.inl (k + 1, ls, .inl x :: st, σ)) else none
  | some (some (.inr x)) => if isI = true then none else some (.inl (k + 1, ls, .inr x :: st, σ))
  | _ => none
def mj_st (k : Nat) (ls : mj_L) (st : List mj_V) (σ : mj_H) (isI : Bool) (i : Nat) : Option mj_R := match st with
  | .inl x :: r => if isI = true ∧ i < ls.length then some (.inl (k + 1, ls.set i (some (.inl x)), r, σ)) else none
  | .inr x :: r => if isI = false ∧ i < ls.length then some (.inl (k + 1, ls.set i (some (.inr x)), r, σ)) else none
  | _ => none
def mj_bin (k : Nat) (ls : mj_L) (st : List mj_V) (σ : mj_H) (o : Int32 → Int32 → Int32) : Option mj_R := match st with
  | .inl y :: .inl x :: r => some (.inl (k + 1, ls, .inl (o x y) :: r, σ))
  | _ => none
def mj_div (k : Nat) (ls : mj_L) (st : List mj_V) (σ : mj_H) (o : Int32 → Int32 → Int32) : Option mj_R := match st with
  | .inl y :: .inl x :: r => if y = 0 then none else some (.inl (k + 1, ls, .inl (o x y) :: r, σ))
  | _ => none
def mj_rcv : List Nat → List mj_V → Bool
  | [], _ => true
  | k0 :: _, .inr c :: _ => decide (c.1 = k0)
  | _, _ => false
def mj_call (k a b : Nat) (ts : List Nat) (ls : mj_L) (st : List mj_V) (σ : mj_H) : Option mj_R :=
  if a = 999 then (match st with
    | [.inr _] => some (.inl (k + 1, ls, [], σ))
    | _ => none)
  else (match mj_pop b st with
    | some (as, r) => if r.length ≤ 8 ∧ mj_rcv ts as = true then some (.inr (.inr (a, as, r))) else none
    | none => none)
def mj_copy (Y : mj_T) (X : mj_X) (k : Nat) (ls : mj_L) (st : List mj_V) (σ : mj_H) : Option mj_R := match st with
  | [.inl n, .inl dp, .inr (k1, i1), .inl sp, .inr (k0, i0)] =>
    if mj_isA Y 0 k0 = true ∧ mj_isA Y 0 k1 = true ∧ sp = 0 ∧ dp = 0 ∧ 0 ≤ n.toInt ∧ n.toInt ≤ (mj_len Y X k0 : Int) ∧ n.toInt ≤ (mj_len Y X k1 : Int) then
      some (.inl (k + 1, ls, [], (σ.1, mj_cp σ.2.1 k0 i0 k1 i1 n.toNatClampNeg, σ.2.2))) else none
  | _ => none
def mj_do (Y : mj_T) (X : mj_X) (k : Nat) (e : mj_E) (ls : mj_L) (st : List mj_V) (σ : mj_H) : Option mj_R :=
  match e with
  | (_, _, ins, a, b, _, v, ts) => match ins with
    | .iconst _ => some (.inl (k + 1, ls, .inl v :: st, σ))
    | .bipush _ => some (.inl (k + 1, ls, .inl v :: st, σ))
    | .sipush _ => some (.inl (k + 1, ls, .inl v :: st, σ))
    | .ldc _ => some (.inl (k + 1, ls, .inl v :: st, σ))
    | .iload_n i => mj_ld k ls st σ true i.val
    | .iload i => mj_ld k ls st σ true i
    | .aload_n i => mj_ld k ls st σ false i.val
    | .aload i => mj_ld k ls st σ false i
    | .istore_n i => mj_st k ls st σ true i.val
    | .istore i => mj_st k ls st σ true i
    | .astore_n i => mj_st k ls st σ false i.val
    | .astore i => mj_st k ls st σ false i
    | .iinc i _ => (match ls[i]? with
      | some (some (.inl x)) => some (.inl (k + 1, ls.set i (some (.inl (x + v))), st, σ))
      | _ => none)
    | .iadd => mj_bin k ls st σ (fun x y => x + y)
    | .isub => mj_bin k ls st σ (fun x y => x - y)
    | .imul => mj_bin k ls st σ (fun x y => x * y)
    | .iand => mj_bin k ls st σ (fun x y => x &&& y)
    | .ixor => mj_bin k ls st σ (fun x y => x ^^^ y)
    | .idiv => mj_div k ls st σ (fun x y => x / y)
    | .irem => mj_div k ls st σ (fun x y => x - x / y * y)
    | .dup => (match st with
      | x :: r => some (.inl (k + 1, ls, x :: x :: r, σ))
      | _ => none)
    | .dup2 => (match st with
      | x :: y :: r => some (.inl (k + 1, ls, x :: y :: x :: y :: r, σ))
      | _ => none)
    | .pop => (match st with
      | _ :: r => some (.inl (k + 1, ls, r, σ))
      | _ => none)
    | .i2c => (match st with
      | .inl x :: r => some (.inl (k + 1, ls, .inl (x.toUInt32 % 65536).toInt32 :: r, σ))
      | _ => none)
    | .ifCond o _ => (match st with
      | .inl x :: r => some (.inl (if mj_cmp o x 0 = true then a else k + 1, ls, r, σ))
      | _ => none)
    | .if_icmp o _ => (match st with
      | .inl y :: .inl x :: r => some (.inl (if mj_cmp o x y = true then a else k + 1, ls, r, σ))
      | _ => none)
    | .goto _ => some (.inl (a, ls, st, σ))
    | .tableswitch _ lo hi _ => (match st with
      | .inl x :: r => some (.inl (mj_tsw lo hi ts a x, ls, r, σ))
      | _ => none)
    | .lookupswitch _ ps => (match st with
      | .inl x :: r => some (.inl (mj_lsw ps.toList ts a x, ls, r, σ))
      | _ => none)
    | .getfield _ => (match st with
      | .inr (c, i) :: r => if c = a then (if mj_ft Y a b = 3 then (match σ.2.2 a i b with
          | some q => some (.inl (k + 1, ls, .inr q :: r, σ))
          | none => none) else some (.inl (k + 1, ls, .inl (σ.2.1 a i b) :: r, σ))) else none
      | _ => none)
    | .putfield _ => (match st with
      | .inl x :: .inr (c, i) :: r => if c = a ∧ ¬ mj_ft Y a b = 3 ∧ mj_chk (mj_ft Y a b) x = true then some (.inl (k + 1, ls, r, (σ.1, mj_u σ.2.1 a i b x, σ.2.2))) else none
      | .inr q :: .inr (c, i) :: r => if c = a ∧ mj_ft Y a b = 3 then some (.inl (k + 1, ls, r, (σ.1, σ.2.1, mj_w σ.2.2 a i b (some q)))) else none
      | _ => none)
    | .getstatic _ => some (.inl (k + 1, ls, .inr (a, 0) :: st, σ))
    | .iaload => (match st with
      | .inl j :: .inr (c, i) :: r => if mj_isI Y c = true then (match mj_ix j (mj_len Y X c) with
          | some q => some (.inl (k + 1, ls, .inl (mj_rd Y X σ.2.1 c i q) :: r, σ))
          | none => none) else none
      | _ => none)
    | .caload => (match st with
      | .inl j :: .inr (c, i) :: r => if mj_isA Y 2 c = true then (match mj_ix j (mj_len Y X c) with
          | some q => some (.inl (k + 1, ls, .inl (σ.2.1 c i q) :: r, σ))
          | none => none) else none
      | _ => none)
    | .aaload => (match st with
      | .inl j :: .inr (c, i) :: r => if mj_isQ Y c = true then (match mj_ix j (mj_len Y X c) with
          | some q => (match σ.2.2 c i q with
            | some z => some (.inl (k + 1, ls, .inr z :: r, σ))
            | none => none)
          | none => none) else none
      | _ => none)
    | .iastore => (match st with
      | .inl x :: .inl j :: .inr (c, i) :: r => if mj_isA Y 0 c = true then (match mj_ix j (mj_len Y X c) with
          | some q => some (.inl (k + 1, ls, r, (σ.1, mj_u σ.2.1 c i q x, σ.2.2)))
          | none => none) else none
      | _ => none)
    | .castore => (match st with
      | .inl x :: .inl j :: .inr (c, i) :: r => if mj_isA Y 2 c = true ∧ mj_chk 2 x = true then (match mj_ix j (mj_len Y X c) with
          | some q => some (.inl (k + 1, ls, r, (σ.1, mj_u σ.2.1 c i q x, σ.2.2)))
          | none => none) else none
      | _ => none)
    | .aastore => (match st with
      | .inr z :: .inl j :: .inr (c, i) :: r => if mj_isQ Y c = true ∧ z.1 = (mj_kd Y c).2.1 then (match mj_ix j (mj_len Y X c) with
          | some q => some (.inl (k + 1, ls, r, (σ.1, σ.2.1, mj_w σ.2.2 c i q (some z))))
          | none => none) else none
      | _ => none)
    | .new _ => if (a, mj_cnt a σ.1) ∈ σ.1 then none else some (.inl (k + 1, ls, .inr (a, mj_cnt a σ.1) :: st, (σ.1 ++ [(a, mj_cnt a σ.1)], mj_z σ.2.1 a (mj_cnt a σ.1), mj_n σ.2.2 a (mj_cnt a σ.1))))
    | .newarray _ => (match st with
      | .inl n :: r => if (a, mj_cnt a σ.1) ∈ σ.1 ∨ ¬ n = Int32.ofNat (mj_kd Y a).2.2 then none else some (.inl (k + 1, ls, .inr (a, mj_cnt a σ.1) :: r, (σ.1 ++ [(a, mj_cnt a σ.1)], mj_z σ.2.1 a (mj_cnt a σ.1), mj_n σ.2.2 a (mj_cnt a σ.1))))
      | _ => none)
    | .anewarray _ => (match st with
      | .inl n :: r => if (a, mj_cnt a σ.1) ∈ σ.1 ∨ ¬ n = Int32.ofNat (mj_kd Y a).2.2 then none else some (.inl (k + 1, ls, .inr (a, mj_cnt a σ.1) :: r, (σ.1 ++ [(a, mj_cnt a σ.1)], mj_z σ.2.1 a (mj_cnt a σ.1), mj_n σ.2.2 a (mj_cnt a σ.1))))
      | _ => none)
    | .arraylength => (match st with
      | .inr (c, _) :: r => if (mj_kd Y c).1 = 3 then some (.inl (k + 1, ls, .inl (Int32.ofNat X.1) :: r, σ)) else none
      | _ => none)
    | .invokevirtual _ => mj_call k a b ts ls st σ
    | .invokespecial _ => mj_call k a b ts ls st σ
    | .invokestatic _ => if a = 998 then mj_copy Y X k ls st σ else mj_call k a b ts ls st σ
    | .ireturn => (match st with
      | [.inl x] => if mj_chk b x = true then some (.inr (.inl (some (.inl x)))) else none
      | _ => none)
    | .areturn => (match st with
      | [.inr x] => some (.inr (.inl (some (.inr x))))
      | _ => none)
    | .return_ => (match st with
      | [] => some (.inr (.inl none))
      | _ => none)
    | _ => none
def mj_stp (Y : mj_T) (X : mj_X) (m k : Nat) (ls : mj_L) (st : List mj_V) (σ : mj_H) : Option mj_R := match mj_ent Y m k with
  | none => none
  | some e => mj_do Y X k e ls st σ
def mj_in (Y : mj_T) (m : Nat) (as : List mj_V) : mj_L := as.map some ++ List.replicate (mj_mx Y m - as.length) none
def mj_run (Y : mj_T) (X : mj_X) : Nat → Nat → Nat → mj_L → List mj_V → mj_H → Option (Option mj_V × mj_H)
  | 0, _, _, _, _, _ => none
  | n + 1, m, k, ls, st, σ => match mj_stp Y X m k ls st σ with
    | none => none
    | some (.inl c) => mj_run Y X n m c.1 c.2.1 c.2.2.1 c.2.2.2
    | some (.inr (.inl r)) => some (r, σ)
    | some (.inr (.inr c)) => match mj_run Y X n c.1 0 (mj_in Y c.1 c.2.1) [] σ with
      | none => none
      | some r => mj_run Y X n m (k + 1) ls (r.1.toList ++ c.2.2) r.2
theorem mj_run_mono (Y : mj_T) (X : mj_X) : ∀ (n m k : Nat) (ls : mj_L) (st : List mj_V) (σ : mj_H) (r : Option mj_V × mj_H), mj_run Y X n m k ls st σ = some r → ∀ n' : Nat, n ≤ n' → mj_run Y X n' m k ls st σ = some r := by
  intro n
  induction n with
  | zero => intro m k ls st σ r h; cases h
  | succ n ih =>
    intro m k ls st σ r h n' hn
    obtain ⟨n1, rfl⟩ : ∃ n1, n' = n1 + 1 := ⟨n' - 1, by omega⟩
    have hn1 : n ≤ n1 := by omega
    unfold mj_run at h ⊢
    cases hc : mj_stp Y X m k ls st σ with
    | none => rw [hc] at h; cases h
    | some d =>
      rw [hc] at h
      cases d with
      | inl c => exact ih _ _ _ _ _ _ h _ hn1
      | inr d =>
        cases d with
        | inl c => exact h
        | inr c =>
          dsimp only at h ⊢
          cases hr : mj_run Y X n c.1 0 (mj_in Y c.1 c.2.1) [] σ with
          | none => rw [hr] at h; cases h
          | some r1 =>
            rw [hr] at h
            rw [ih _ _ _ _ _ _ hr _ hn1]
            exact ih _ _ _ _ _ _ h _ hn1
/-- what a frame comes to, however long it takes -/
noncomputable def mj_go (Y : mj_T) (X : mj_X) (m k : Nat) (ls : mj_L) (st : List mj_V) (σ : mj_H) : Option (Option mj_V × mj_H) :=
  @dite _ (∃ r, ∃ n, mj_run Y X n m k ls st σ = some r) (Classical.propDecidable _) (fun h => some (Classical.choose h)) (fun _ => none)
theorem mj_go_run {Y : mj_T} {X : mj_X} {m k : Nat} {ls : mj_L} {st : List mj_V} {σ : mj_H} {r : Option mj_V × mj_H} {n : Nat} (h : mj_run Y X n m k ls st σ = some r) : mj_go Y X m k ls st σ = some r := by
  have hx : ∃ r, ∃ n, mj_run Y X n m k ls st σ = some r := ⟨r, n, h⟩
  unfold mj_go
  rw [dif_pos hx]
  obtain ⟨n2, h2⟩ := Classical.choose_spec hx
  have a := mj_run_mono Y X _ _ _ _ _ _ _ h (max n n2) (Nat.le_max_left _ _)
  have b := mj_run_mono Y X _ _ _ _ _ _ _ h2 (max n n2) (Nat.le_max_right _ _)
  rw [a] at b
  exact b.symm
theorem mj_go_some {Y : mj_T} {X : mj_X} {m k : Nat} {ls : mj_L} {st : List mj_V} {σ : mj_H} {r : Option mj_V × mj_H} (h : mj_go Y X m k ls st σ = some r) : ∃ n, mj_run Y X n m k ls st σ = some r := by
  unfold mj_go at h
  split at h
  · rename_i hx
    cases h
    exact Classical.choose_spec hx
  · cases h
theorem mj_go_none {Y : mj_T} {X : mj_X} {m k : Nat} {ls : mj_L} {st : List mj_V} {σ : mj_H} (h : ∀ r n, ¬ mj_run Y X n m k ls st σ = some r) : mj_go Y X m k ls st σ = none := by
  unfold mj_go
  rw [dif_neg]
  rintro ⟨r, n, e⟩
  exact h r n e
theorem mj_opt {α : Type} {a b : Option α} (h1 : ∀ r, a = some r → b = some r) (h2 : ∀ r, b = some r → a = some r) : a = b := by
  cases a with
  | some x => exact (h1 x rfl).symm
  | none =>
    cases b with
    | none => rfl
    | some y => exact h2 y rfl
theorem mj_go_c {Y : mj_T} {X : mj_X} {m k : Nat} {ls : mj_L} {st : List mj_V} {σ : mj_H} {k' : Nat} {ls' : mj_L} {st' : List mj_V} {σ' : mj_H} (h : mj_stp Y X m k ls st σ = some (.inl (k', ls', st', σ'))) : mj_go Y X m k ls st σ = mj_go Y X m k' ls' st' σ' := by
  refine mj_opt (fun r hr => ?_) (fun r hr => ?_)
  · obtain ⟨n, hn⟩ := mj_go_some hr
    cases n with
    | zero => cases hn
    | succ n =>
      unfold mj_run at hn
      rw [h] at hn
      exact mj_go_run hn
  · obtain ⟨n, hn⟩ := mj_go_some hr
    refine mj_go_run (n := n + 1) ?_
    unfold mj_run
    rw [h]
    exact hn
theorem mj_go_r {Y : mj_T} {X : mj_X} {m k : Nat} {ls : mj_L} {st : List mj_V} {σ : mj_H} {r : Option mj_V} (h : mj_stp Y X m k ls st σ = some (.inr (.inl r))) : mj_go Y X m k ls st σ = some (r, σ) := by
  refine mj_go_run (n := 1) ?_
  unfold mj_run
  rw [h]
/-- a call: a method's whole run -/
noncomputable def mj_ex (Y : mj_T) (X : mj_X) (m : Nat) (as : List mj_V) (σ : mj_H) : Option (Option mj_V × mj_H) := mj_go Y X m 0 (mj_in Y m as) [] σ
theorem mj_go_l {Y : mj_T} {X : mj_X} {m k : Nat} {ls : mj_L} {st : List mj_V} {σ : mj_H} {a : Nat} {as rest : List mj_V} (h : mj_stp Y X m k ls st σ = some (.inr (.inr (a, as, rest)))) : mj_go Y X m k ls st σ = (mj_ex Y X a as σ).bind (fun p => mj_go Y X m (k + 1) ls (p.1.toList ++ rest) p.2) := by
  refine mj_opt (fun r hr => ?_) (fun r hr => ?_)
  · obtain ⟨n, hn⟩ := mj_go_some hr
    cases n with
    | zero => cases hn
    | succ n =>
      unfold mj_run at hn
      rw [h] at hn
      dsimp only at hn
      split at hn
      · cases hn
      · rename_i r1 h1
        unfold mj_ex
        rw [mj_go_run h1]
        exact mj_go_run hn
  · unfold mj_ex at hr
    cases h1 : mj_go Y X a 0 (mj_in Y a as) [] σ with
    | none => rw [h1] at hr; cases hr
    | some r1 =>
      rw [h1] at hr
      obtain ⟨n1, e1⟩ := mj_go_some h1
      obtain ⟨n2, e2⟩ := mj_go_some (show mj_go Y X m (k + 1) ls (r1.1.toList ++ rest) r1.2 = some r from hr)
      have a1 := mj_run_mono Y X _ _ _ _ _ _ _ e1 (max n1 n2) (Nat.le_max_left _ _)
      have a2 := mj_run_mono Y X _ _ _ _ _ _ _ e2 (max n1 n2) (Nat.le_max_right _ _)
      refine mj_go_run (n := max n1 n2 + 1) ?_
      unfold mj_run
      rw [h]
      simp only [a1]
      exact a2
/-- a branch -/
theorem mj_go_b {Y : mj_T} {X : mj_X} {m k : Nat} {ls : mj_L} {st st' : List mj_V} {σ : mj_H} {a b : Nat} {c : Bool} {P : Prop} [Decidable P] (hP : c = decide P) (h : mj_stp Y X m k ls st σ = some (.inl (if c = true then a else b, ls, st', σ))) : mj_go Y X m k ls st σ = if P then mj_go Y X m a ls st' σ else mj_go Y X m b ls st' σ := by
  rw [mj_go_c h]
  subst hP
  by_cases hp : P
  · rw [if_pos hp, if_pos (by simpa using hp)]
  · rw [if_neg hp, if_neg (by simpa using hp)]
/-- an index within -/
theorem mj_go_i {Y : mj_T} {X : mj_X} {m k : Nat} {ls : mj_L} {st : List mj_V} {σ : mj_H} {j : Int32} {n : Nat} {F : Nat → Option mj_R} {G : Nat → Option (Option mj_V × mj_H)} (h : mj_stp Y X m k ls st σ = (match mj_ix j n with
      | some q => F q
      | none => none)) (hG : ∀ q, ∃ c : mj_C, F q = some (.inl c) ∧ G q = mj_go Y X m c.1 c.2.1 c.2.2.1 c.2.2.2) : mj_go Y X m k ls st σ = (mj_ix j n).bind G := by
  cases hq : mj_ix j n with
  | none =>
    rw [hq] at h
    refine mj_go_none (fun r n e => ?_)
    cases n with
    | zero => cases e
    | succ n => unfold mj_run at e; rw [h] at e; cases e
  | some q =>
    rw [hq] at h
    obtain ⟨c, e1, e2⟩ := hG q
    rw [Option.bind_some, e2]
    exact mj_go_c (h.trans e1)
/-- a test that must hold -/
theorem mj_go_t {Y : mj_T} {X : mj_X} {m k : Nat} {ls : mj_L} {st : List mj_V} {σ : mj_H} {P : Prop} [Decidable P] {c : mj_C} (h : mj_stp Y X m k ls st σ = if P then some (.inl c) else none) : mj_go Y X m k ls st σ = if P then mj_go Y X m c.1 c.2.1 c.2.2.1 c.2.2.2 else none := by
  by_cases hp : P
  · rw [if_pos hp] at h ⊢
    exact mj_go_c h
  · rw [if_neg hp] at h ⊢
    refine mj_go_none (fun r n e => ?_)
    cases n with
    | zero => cases e
    | succ n => unfold mj_run at e; rw [h] at e; cases e
end
section
/-! THE TABLES: classes, fields, kinds, methods, instructions: written by a program out of the task's texts -/
def mj_R0 : String := "LiningLog$History"
def mj_T0 : u_T := fun k => match k with
  | 0 => ("LiningLog$History", "states", "[LLiningLog$State;", true)
  | 1 => ("LiningLog$History", "oldest", "I", false)
  | _ => ("LiningLog$History", "size", "I", false)
def mj_ty0 : Nat → FieldType := fun k => match k with
  | 0 => .array (.object "LiningLog$State")
  | 1 => .int
  | _ => .int
def mj_R1 : String := "LiningLog$Lining"
def mj_T1 : u_T := fun k => match k with
  | 0 => ("LiningLog$Lining", "rings", "I", false)
  | 1 => ("LiningLog$Lining", "sectors", "I", false)
  | 2 => ("LiningLog$Lining", "spots", "I", false)
  | 3 => ("LiningLog$Lining", "brick", "[I", true)
  | 4 => ("LiningLog$Lining", "layer", "[I", true)
  | 5 => ("LiningLog$Lining", "rates", "[I", true)
  | 6 => ("LiningLog$Lining", "settings", "[I", true)
  | 7 => ("LiningLog$Lining", "accounts", "[I", true)
  | 8 => ("LiningLog$Lining", "heats", "I", false)
  | 9 => ("LiningLog$Lining", "campaignHeats", "I", false)
  | 10 => ("LiningLog$Lining", "campaign", "I", false)
  | 11 => ("LiningLog$Lining", "over", "Z", false)
  | _ => ("LiningLog$Lining", "ahead", "[I", true)
def mj_ty1 : Nat → FieldType := fun k => match k with
  | 0 => .int
  | 1 => .int
  | 2 => .int
  | 3 => .array .int
  | 4 => .array .int
  | 5 => .array .int
  | 6 => .array .int
  | 7 => .array .int
  | 8 => .int
  | 9 => .int
  | 10 => .int
  | 11 => .boolean
  | _ => .array .int
def mj_R2 : String := "LiningLog$LogText"
def mj_T2 : u_T := fun k => match k with
  | 0 => ("LiningLog$LogText", "signs", "[C", true)
  | 1 => ("LiningLog$LogText", "length", "I", false)
  | 2 => ("LiningLog$LogText", "kind", "C", false)
  | 3 => ("LiningLog$LogText", "first", "I", false)
  | 4 => ("LiningLog$LogText", "second", "I", false)
  | _ => ("LiningLog$LogText", "next", "I", false)
def mj_ty2 : Nat → FieldType := fun k => match k with
  | 0 => .array .char
  | 1 => .int
  | 2 => .char
  | 3 => .int
  | 4 => .int
  | _ => .int
def mj_R3 : String := "LiningLog$Scan"
def mj_T3 : u_T := fun k => match k with
  | 0 => ("LiningLog$Scan", "temperatures", "[I", true)
  | 1 => ("LiningLog$Scan", "thicknesses", "[I", true)
  | _ => ("LiningLog$Scan", "heats", "I", false)
def mj_ty3 : Nat → FieldType := fun k => match k with
  | 0 => .array .int
  | 1 => .array .int
  | _ => .int
def mj_R4 : String := "LiningLog$State"
def mj_T4 : u_T := fun k => match k with
  | 0 => ("LiningLog$State", "lining", "LLiningLog$Lining;", true)
  | 1 => ("LiningLog$State", "scans", "[LLiningLog$Scan;", true)
  | _ => ("LiningLog$State", "scanCount", "I", false)
def mj_ty4 : Nat → FieldType := fun k => match k with
  | 0 => .object "LiningLog$Lining"
  | 1 => .array (.object "LiningLog$Scan")
  | _ => .int
def mj_R5 : String := "LiningLog"
def mj_T5 : u_T := fun k => match k with
  | 0 => ("LiningLog", "now", "LLiningLog$State;", true)
  | 1 => ("LiningLog", "plan", "LLiningLog$Lining;", true)
  | 2 => ("LiningLog", "history", "LLiningLog$History;", true)
  | 3 => ("LiningLog", "text", "LLiningLog$LogText;", true)
  | _ => ("LiningLog", "latestRefusal", "I", false)
def mj_ty5 : Nat → FieldType := fun k => match k with
  | 0 => .object "LiningLog$State"
  | 1 => .object "LiningLog$Lining"
  | 2 => .object "LiningLog$History"
  | 3 => .object "LiningLog$LogText"
  | _ => .int
def mj_R6 : String := "LiningLogModel"
def mj_T6 : u_T := fun k => match k with
  | 0 => ("LiningLogModel", "d", "[I", true)
  | 1 => ("LiningLogModel", "was", "[I", true)
  | 2 => ("LiningLogModel", "states", "I", false)
  | 3 => ("LiningLogModel", "refused", "I", false)
  | 4 => ("LiningLogModel", "aside", "[I", true)
  | 5 => ("LiningLogModel", "worn", "[I", true)
  | 6 => ("LiningLogModel", "text", "[C", true)
  | 7 => ("LiningLogModel", "typed", "I", false)
  | 8 => ("LiningLogModel", "at", "I", false)
  | 9 => ("LiningLogModel", "kind", "I", false)
  | 10 => ("LiningLogModel", "first", "I", false)
  | _ => ("LiningLogModel", "second", "I", false)
def mj_ty6 : Nat → FieldType := fun k => match k with
  | 0 => .array .int
  | 1 => .array .int
  | 2 => .int
  | 3 => .int
  | 4 => .array .int
  | 5 => .array .int
  | 6 => .array .char
  | 7 => .int
  | 8 => .int
  | 9 => .int
  | 10 => .int
  | _ => .int
def mj_cl : List vw_C := [(mj_R0, mj_T0, 3), (mj_R1, mj_T1, 13), (mj_R2, mj_T2, 6), (mj_R3, mj_T3, 3), (mj_R4, mj_T4, 3), (mj_R5, mj_T5, 5), (mj_R6, mj_T6, 12)]
def mj_tys : List (Nat → FieldType) := [mj_ty0, mj_ty1, mj_ty2, mj_ty3, mj_ty4, mj_ty5, mj_ty6]
def mj_kds : List (Nat × Nat × Nat) := [(0, 0, 3), (0, 1, 13), (0, 2, 6), (0, 3, 3), (0, 4, 3), (0, 5, 5), (0, 6, 12), (2, 4, 4), (1, 0, 60), (1, 0, 60), (1, 0, 6), (1, 0, 6), (1, 0, 4), (1, 0, 60), (1, 2, 100), (1, 0, 60), (1, 0, 60), (2, 3, 4), (1, 0, 627), (1, 0, 2508), (1, 0, 627), (1, 0, 60), (1, 2, 100), (3, 0, 0), (4, 0, 6), (4, 1, 6), (4, 2, 6)]
def mj_fts : List (List Nat) := [[3, 0, 0], [0, 0, 0, 3, 3, 3, 3, 3, 0, 0, 0, 1, 3], [3, 0, 2, 0, 0, 0], [3, 3, 0], [3, 3, 0], [3, 3, 3, 3, 0], [3, 3, 0, 0, 3, 3, 3, 0, 0, 0, 0, 0]]
def mj_tbs : List (List Int32) := [[nI 800, nI 50, nI 30000, nI 60, nI 20000, nI 20], [nI 0, nI 1, nI 1000, nI 50, nI 0, nI 1], [nI 2000, nI 500, nI 100000, nI 1000, nI 100000, nI 100]]
def mj_mxs : List Nat := [2, 2, 2, 1, 4, 2, 2, 2, 2, 4, 4, 2, 2, 2, 3, 3, 3, 2, 2, 2, 2, 3, 3, 6, 4, 5, 3, 4, 3, 4, 5, 3, 3, 1, 2, 3, 4, 3, 2, 2, 2, 3, 2, 1, 3, 2, 3, 7, 4, 4, 2, 3, 3, 2, 2, 3, 1, 1, 4, 1, 3, 5, 5, 3, 5, 2, 2, 1, 3, 4, 3, 2, 6, 2, 2, 5, 4, 4, 9, 4, 2, 2, 1, 5, 1, 3, 3, 2, 1, 2, 1, 3, 3, 1, 2, 4, 2, 10, 3, 6, 2, 7, 5, 5, 3, 3, 4, 5, 3, 3, 4, 2, 4, 2, 2, 3, 4, 2, 3, 2, 5, 3, 4, 4, 3, 8, 2, 4, 4, 3, 4, 4, 2, 2, 4, 5, 8, 4, 2, 2, 3, 3, 2, 2, 2, 3, 1, 3, 2, 2, 4]
/- 0: LiningLog$History.<init>()V -/
def mj_c0 : List mj_E := [(0, 1, .aload_n 0, 0, 0, 0, nI 0, []),
  (1, 3, .invokespecial 3, 999, 1, 216, nI 0, []),
  (4, 1, .aload_n 0, 0, 0, 0, nI 0, []),
  (5, 1, .iconst 4, 0, 0, 0, nI 4, []),
  (6, 3, .anewarray 9, 7, 0, 217, nI 0, []),
  (9, 3, .putfield 11, 0, 0, 220, nI 0, []),
  (12, 1, .iconst 0, 0, 0, 0, nI 0, []),
  (13, 1, .istore_n 1, 0, 0, 0, nI 0, []),
  (14, 1, .iload_n 1, 0, 0, 0, nI 0, []),
  (15, 1, .iconst 4, 0, 0, 0, nI 4, []),
  (16, 3, .if_icmp .ge 22, 20, 0, 0, nI 0, []),
  (19, 1, .aload_n 0, 0, 0, 0, nI 0, []),
  (20, 3, .getfield 11, 0, 0, 220, nI 0, []),
  (23, 1, .iload_n 1, 0, 0, 0, nI 0, []),
  (24, 3, .new 9, 4, 0, 217, nI 0, []),
  (27, 1, .dup, 0, 0, 0, nI 0, []),
  (28, 3, .invokespecial 17, 50, 1, 219, nI 0, [4]),
  (31, 1, .aastore, 0, 0, 0, nI 0, []),
  (32, 3, .iinc 1 1, 0, 0, 0, nI 1, []),
  (35, 3, .goto (-21), 8, 0, 0, nI 0, []),
  (38, 1, .return_, 0, 0, 0, nI 0, [])]
/- 1: LiningLog$History.record(LLiningLog$State;)V -/
def mj_c1 : List mj_E := [(0, 1, .aload_n 0, 0, 0, 0, nI 0, []),
  (1, 3, .getfield 18, 0, 2, 222, nI 0, []),
  (4, 1, .iconst 4, 0, 0, 0, nI 4, []),
  (5, 3, .if_icmp .ne 25, 18, 0, 0, nI 0, []),
  (8, 1, .aload_n 0, 0, 0, 0, nI 0, []),
  (9, 1, .aload_n 0, 0, 0, 0, nI 0, []),
  (10, 3, .getfield 22, 0, 1, 221, nI 0, []),
  (13, 1, .iconst 1, 0, 0, 0, nI 1, []),
  (14, 1, .iadd, 0, 0, 0, nI 0, []),
  (15, 1, .iconst 4, 0, 0, 0, nI 4, []),
  (16, 1, .irem, 0, 0, 0, nI 0, []),
  (17, 3, .putfield 22, 0, 1, 221, nI 0, []),
  (20, 1, .aload_n 0, 0, 0, 0, nI 0, []),
  (21, 1, .dup, 0, 0, 0, nI 0, []),
  (22, 3, .getfield 18, 0, 2, 222, nI 0, []),
  (25, 1, .iconst 1, 0, 0, 0, nI 1, []),
  (26, 1, .isub, 0, 0, 0, nI 0, []),
  (27, 3, .putfield 18, 0, 2, 222, nI 0, []),
  (30, 1, .aload_n 0, 0, 0, 0, nI 0, []),
  (31, 3, .getfield 11, 0, 0, 220, nI 0, []),
  (34, 1, .aload_n 0, 0, 0, 0, nI 0, []),
  (35, 3, .getfield 22, 0, 1, 221, nI 0, []),
  (38, 1, .aload_n 0, 0, 0, 0, nI 0, []),
  (39, 3, .getfield 18, 0, 2, 222, nI 0, []),
  (42, 1, .iadd, 0, 0, 0, nI 0, []),
  (43, 1, .iconst 4, 0, 0, 0, nI 4, []),
  (44, 1, .irem, 0, 0, 0, nI 0, []),
  (45, 1, .aaload, 0, 0, 0, nI 0, []),
  (46, 1, .aload_n 1, 0, 0, 0, nI 0, []),
  (47, 3, .invokevirtual 25, 52, 2, 290, nI 0, [4]),
  (50, 1, .aload_n 0, 0, 0, 0, nI 0, []),
  (51, 1, .dup, 0, 0, 0, nI 0, []),
  (52, 3, .getfield 18, 0, 2, 222, nI 0, []),
  (55, 1, .iconst 1, 0, 0, 0, nI 1, []),
  (56, 1, .iadd, 0, 0, 0, nI 0, []),
  (57, 3, .putfield 18, 0, 2, 222, nI 0, []),
  (60, 1, .return_, 0, 0, 0, nI 0, [])]
/- 2: LiningLog$History.restoreLatest(LLiningLog$State;)V -/
def mj_c2 : List mj_E := [(0, 1, .aload_n 0, 0, 0, 0, nI 0, []),
  (1, 1, .dup, 0, 0, 0, nI 0, []),
  (2, 3, .getfield 18, 0, 2, 222, nI 0, []),
  (5, 1, .iconst 1, 0, 0, 0, nI 1, []),
  (6, 1, .isub, 0, 0, 0, nI 0, []),
  (7, 3, .putfield 18, 0, 2, 222, nI 0, []),
  (10, 1, .aload_n 1, 0, 0, 0, nI 0, []),
  (11, 1, .aload_n 0, 0, 0, 0, nI 0, []),
  (12, 3, .getfield 11, 0, 0, 220, nI 0, []),
  (15, 1, .aload_n 0, 0, 0, 0, nI 0, []),
  (16, 3, .getfield 22, 0, 1, 221, nI 0, []),
  (19, 1, .aload_n 0, 0, 0, 0, nI 0, []),
  (20, 3, .getfield 18, 0, 2, 222, nI 0, []),
  (23, 1, .iadd, 0, 0, 0, nI 0, []),
  (24, 1, .iconst 4, 0, 0, 0, nI 4, []),
  (25, 1, .irem, 0, 0, 0, nI 0, []),
  (26, 1, .aaload, 0, 0, 0, nI 0, []),
  (27, 3, .invokevirtual 25, 52, 2, 290, nI 0, [4]),
  (30, 1, .return_, 0, 0, 0, nI 0, [])]
/- 3: LiningLog$Lining.<init>()V -/
def mj_c3 : List mj_E := [(0, 1, .aload_n 0, 0, 0, 0, nI 0, []),
  (1, 3, .invokespecial 3, 999, 1, 111, nI 0, []),
  (4, 1, .aload_n 0, 0, 0, 0, nI 0, []),
  (5, 2, .bipush 60, 0, 0, 0, nI 60, []),
  (7, 2, .newarray .int, 8, 0, 0, nI 0, []),
  (9, 3, .putfield 9, 1, 3, 125, nI 0, []),
  (12, 1, .aload_n 0, 0, 0, 0, nI 0, []),
  (13, 2, .bipush 60, 0, 0, 0, nI 60, []),
  (15, 2, .newarray .int, 9, 0, 0, nI 0, []),
  (17, 3, .putfield 15, 1, 4, 127, nI 0, []),
  (20, 1, .aload_n 0, 0, 0, 0, nI 0, []),
  (21, 2, .bipush 6, 0, 0, 0, nI 6, []),
  (23, 2, .newarray .int, 10, 0, 0, nI 0, []),
  (25, 3, .putfield 18, 1, 5, 129, nI 0, []),
  (28, 1, .aload_n 0, 0, 0, 0, nI 0, []),
  (29, 2, .bipush 6, 0, 0, 0, nI 6, []),
  (31, 2, .newarray .int, 11, 0, 0, nI 0, []),
  (33, 3, .putfield 21, 1, 6, 131, nI 0, []),
  (36, 1, .aload_n 0, 0, 0, 0, nI 0, []),
  (37, 1, .iconst 4, 0, 0, 0, nI 4, []),
  (38, 2, .newarray .int, 12, 0, 0, nI 0, []),
  (40, 3, .putfield 24, 1, 7, 134, nI 0, []),
  (43, 1, .aload_n 0, 0, 0, 0, nI 0, []),
  (44, 2, .bipush 60, 0, 0, 0, nI 60, []),
  (46, 2, .newarray .int, 13, 0, 0, nI 0, []),
  (48, 3, .putfield 27, 1, 12, 145, nI 0, []),
  (51, 1, .aload_n 0, 0, 0, 0, nI 0, []),
  (52, 1, .iconst 3, 0, 0, 0, nI 3, []),
  (53, 2, .bipush 6, 0, 0, 0, nI 6, []),
  (55, 3, .invokevirtual 30, 4, 3, 112, nI 0, [1]),
  (58, 1, .return_, 0, 0, 0, nI 0, [])]
/- 4: LiningLog$Lining.lay(II)V -/
def mj_c4 : List mj_E := [(0, 1, .aload_n 0, 0, 0, 0, nI 0, []),
  (1, 1, .iload_n 1, 0, 0, 0, nI 0, []),
  (2, 3, .putfield 34, 1, 0, 118, nI 0, []),
  (5, 1, .aload_n 0, 0, 0, 0, nI 0, []),
  (6, 1, .iload_n 2, 0, 0, 0, nI 0, []),
  (7, 3, .putfield 38, 1, 1, 120, nI 0, []),
  (10, 1, .aload_n 0, 0, 0, 0, nI 0, []),
  (11, 1, .iload_n 1, 0, 0, 0, nI 0, []),
  (12, 1, .iload_n 2, 0, 0, 0, nI 0, []),
  (13, 1, .imul, 0, 0, 0, nI 0, []),
  (14, 3, .putfield 41, 1, 2, 123, nI 0, []),
  (17, 1, .iconst 0, 0, 0, 0, nI 0, []),
  (18, 1, .istore_n 3, 0, 0, 0, nI 0, []),
  (19, 1, .iload_n 3, 0, 0, 0, nI 0, []),
  (20, 1, .aload_n 0, 0, 0, 0, nI 0, []),
  (21, 3, .getfield 41, 1, 2, 123, nI 0, []),
  (24, 3, .if_icmp .ge 25, 29, 0, 0, nI 0, []),
  (27, 1, .aload_n 0, 0, 0, 0, nI 0, []),
  (28, 3, .getfield 9, 1, 3, 125, nI 0, []),
  (31, 1, .iload_n 3, 0, 0, 0, nI 0, []),
  (32, 3, .sipush 3000, 0, 0, 0, nI 3000, []),
  (35, 1, .iastore, 0, 0, 0, nI 0, []),
  (36, 1, .aload_n 0, 0, 0, 0, nI 0, []),
  (37, 3, .getfield 15, 1, 4, 127, nI 0, []),
  (40, 1, .iload_n 3, 0, 0, 0, nI 0, []),
  (41, 1, .iconst 0, 0, 0, 0, nI 0, []),
  (42, 1, .iastore, 0, 0, 0, nI 0, []),
  (43, 3, .iinc 3 1, 0, 0, 0, nI 1, []),
  (46, 3, .goto (-27), 13, 0, 0, nI 0, []),
  (49, 1, .iconst 0, 0, 0, 0, nI 0, []),
  (50, 1, .istore_n 3, 0, 0, 0, nI 0, []),
  (51, 1, .iload_n 3, 0, 0, 0, nI 0, []),
  (52, 2, .bipush 6, 0, 0, 0, nI 6, []),
  (54, 3, .if_icmp .ge 17, 41, 0, 0, nI 0, []),
  (57, 1, .aload_n 0, 0, 0, 0, nI 0, []),
  (58, 3, .getfield 18, 1, 5, 129, nI 0, []),
  (61, 1, .iload_n 3, 0, 0, 0, nI 0, []),
  (62, 2, .bipush 10, 0, 0, 0, nI 10, []),
  (64, 1, .iastore, 0, 0, 0, nI 0, []),
  (65, 3, .iinc 3 1, 0, 0, 0, nI 1, []),
  (68, 3, .goto (-17), 31, 0, 0, nI 0, []),
  (71, 1, .iconst 0, 0, 0, 0, nI 0, []),
  (72, 1, .istore_n 3, 0, 0, 0, nI 0, []),
  (73, 1, .iload_n 3, 0, 0, 0, nI 0, []),
  (74, 2, .bipush 6, 0, 0, 0, nI 6, []),
  (76, 3, .if_icmp .ge 20, 55, 0, 0, nI 0, []),
  (79, 1, .aload_n 0, 0, 0, 0, nI 0, []),
  (80, 3, .getfield 21, 1, 6, 131, nI 0, []),
  (83, 1, .iload_n 3, 0, 0, 0, nI 0, []),
  (84, 3, .getstatic 44, 24, 0, 116, nI 0, []),
  (87, 1, .iload_n 3, 0, 0, 0, nI 0, []),
  (88, 1, .iaload, 0, 0, 0, nI 0, []),
  (89, 1, .iastore, 0, 0, 0, nI 0, []),
  (90, 3, .iinc 3 1, 0, 0, 0, nI 1, []),
  (93, 3, .goto (-20), 43, 0, 0, nI 0, []),
  (96, 1, .aload_n 0, 0, 0, 0, nI 0, []),
  (97, 3, .getfield 24, 1, 7, 134, nI 0, []),
  (100, 1, .iconst 0, 0, 0, 0, nI 0, []),
  (101, 1, .aload_n 0, 0, 0, 0, nI 0, []),
  (102, 3, .getfield 41, 1, 2, 123, nI 0, []),
  (105, 3, .sipush 3000, 0, 0, 0, nI 3000, []),
  (108, 1, .imul, 0, 0, 0, nI 0, []),
  (109, 1, .iastore, 0, 0, 0, nI 0, []),
  (110, 1, .aload_n 0, 0, 0, 0, nI 0, []),
  (111, 3, .getfield 24, 1, 7, 134, nI 0, []),
  (114, 1, .iconst 1, 0, 0, 0, nI 1, []),
  (115, 1, .iconst 0, 0, 0, 0, nI 0, []),
  (116, 1, .iastore, 0, 0, 0, nI 0, []),
  (117, 1, .aload_n 0, 0, 0, 0, nI 0, []),
  (118, 3, .getfield 24, 1, 7, 134, nI 0, []),
  (121, 1, .iconst 2, 0, 0, 0, nI 2, []),
  (122, 1, .iconst 0, 0, 0, 0, nI 0, []),
  (123, 1, .iastore, 0, 0, 0, nI 0, []),
  (124, 1, .aload_n 0, 0, 0, 0, nI 0, []),
  (125, 3, .getfield 24, 1, 7, 134, nI 0, []),
  (128, 1, .iconst 3, 0, 0, 0, nI 3, []),
  (129, 1, .iconst 0, 0, 0, 0, nI 0, []),
  (130, 1, .iastore, 0, 0, 0, nI 0, []),
  (131, 1, .aload_n 0, 0, 0, 0, nI 0, []),
  (132, 1, .iconst 0, 0, 0, 0, nI 0, []),
  (133, 3, .putfield 47, 1, 8, 137, nI 0, []),
  (136, 1, .aload_n 0, 0, 0, 0, nI 0, []),
  (137, 1, .iconst 0, 0, 0, 0, nI 0, []),
  (138, 3, .putfield 50, 1, 9, 139, nI 0, []),
  (141, 1, .aload_n 0, 0, 0, 0, nI 0, []),
  (142, 1, .iconst 1, 0, 0, 0, nI 1, []),
  (143, 3, .putfield 53, 1, 10, 141, nI 0, []),
  (146, 1, .aload_n 0, 0, 0, 0, nI 0, []),
  (147, 1, .iconst 0, 0, 0, 0, nI 0, []),
  (148, 3, .putfield 56, 1, 11, 143, nI 0, []),
  (151, 1, .return_, 0, 0, 0, nI 0, [])]
/- 5: LiningLog$Lining.copyFrom(LLiningLog$Lining;)V -/
def mj_c5 : List mj_E := [(0, 1, .aload_n 0, 0, 0, 0, nI 0, []),
  (1, 1, .aload_n 1, 0, 0, 0, nI 0, []),
  (2, 3, .getfield 34, 1, 0, 118, nI 0, []),
  (5, 3, .putfield 34, 1, 0, 118, nI 0, []),
  (8, 1, .aload_n 0, 0, 0, 0, nI 0, []),
  (9, 1, .aload_n 1, 0, 0, 0, nI 0, []),
  (10, 3, .getfield 38, 1, 1, 120, nI 0, []),
  (13, 3, .putfield 38, 1, 1, 120, nI 0, []),
  (16, 1, .aload_n 0, 0, 0, 0, nI 0, []),
  (17, 1, .aload_n 1, 0, 0, 0, nI 0, []),
  (18, 3, .getfield 41, 1, 2, 123, nI 0, []),
  (21, 3, .putfield 41, 1, 2, 123, nI 0, []),
  (24, 1, .aload_n 1, 0, 0, 0, nI 0, []),
  (25, 3, .getfield 9, 1, 3, 125, nI 0, []),
  (28, 1, .iconst 0, 0, 0, 0, nI 0, []),
  (29, 1, .aload_n 0, 0, 0, 0, nI 0, []),
  (30, 3, .getfield 9, 1, 3, 125, nI 0, []),
  (33, 1, .iconst 0, 0, 0, 0, nI 0, []),
  (34, 2, .bipush 60, 0, 0, 0, nI 60, []),
  (36, 3, .invokestatic 60, 998, 5, 298, nI 0, []),
  (39, 1, .aload_n 1, 0, 0, 0, nI 0, []),
  (40, 3, .getfield 15, 1, 4, 127, nI 0, []),
  (43, 1, .iconst 0, 0, 0, 0, nI 0, []),
  (44, 1, .aload_n 0, 0, 0, 0, nI 0, []),
  (45, 3, .getfield 15, 1, 4, 127, nI 0, []),
  (48, 1, .iconst 0, 0, 0, 0, nI 0, []),
  (49, 2, .bipush 60, 0, 0, 0, nI 60, []),
  (51, 3, .invokestatic 60, 998, 5, 298, nI 0, []),
  (54, 1, .aload_n 1, 0, 0, 0, nI 0, []),
  (55, 3, .getfield 18, 1, 5, 129, nI 0, []),
  (58, 1, .iconst 0, 0, 0, 0, nI 0, []),
  (59, 1, .aload_n 0, 0, 0, 0, nI 0, []),
  (60, 3, .getfield 18, 1, 5, 129, nI 0, []),
  (63, 1, .iconst 0, 0, 0, 0, nI 0, []),
  (64, 2, .bipush 6, 0, 0, 0, nI 6, []),
  (66, 3, .invokestatic 60, 998, 5, 298, nI 0, []),
  (69, 1, .aload_n 1, 0, 0, 0, nI 0, []),
  (70, 3, .getfield 21, 1, 6, 131, nI 0, []),
  (73, 1, .iconst 0, 0, 0, 0, nI 0, []),
  (74, 1, .aload_n 0, 0, 0, 0, nI 0, []),
  (75, 3, .getfield 21, 1, 6, 131, nI 0, []),
  (78, 1, .iconst 0, 0, 0, 0, nI 0, []),
  (79, 2, .bipush 6, 0, 0, 0, nI 6, []),
  (81, 3, .invokestatic 60, 998, 5, 298, nI 0, []),
  (84, 1, .aload_n 1, 0, 0, 0, nI 0, []),
  (85, 3, .getfield 24, 1, 7, 134, nI 0, []),
  (88, 1, .iconst 0, 0, 0, 0, nI 0, []),
  (89, 1, .aload_n 0, 0, 0, 0, nI 0, []),
  (90, 3, .getfield 24, 1, 7, 134, nI 0, []),
  (93, 1, .iconst 0, 0, 0, 0, nI 0, []),
  (94, 1, .iconst 4, 0, 0, 0, nI 4, []),
  (95, 3, .invokestatic 60, 998, 5, 298, nI 0, []),
  (98, 1, .aload_n 0, 0, 0, 0, nI 0, []),
  (99, 1, .aload_n 1, 0, 0, 0, nI 0, []),
  (100, 3, .getfield 47, 1, 8, 137, nI 0, []),
  (103, 3, .putfield 47, 1, 8, 137, nI 0, []),
  (106, 1, .aload_n 0, 0, 0, 0, nI 0, []),
  (107, 1, .aload_n 1, 0, 0, 0, nI 0, []),
  (108, 3, .getfield 50, 1, 9, 139, nI 0, []),
  (111, 3, .putfield 50, 1, 9, 139, nI 0, []),
  (114, 1, .aload_n 0, 0, 0, 0, nI 0, []),
  (115, 1, .aload_n 1, 0, 0, 0, nI 0, []),
  (116, 3, .getfield 53, 1, 10, 141, nI 0, []),
  (119, 3, .putfield 53, 1, 10, 141, nI 0, []),
  (122, 1, .aload_n 0, 0, 0, 0, nI 0, []),
  (123, 1, .aload_n 1, 0, 0, 0, nI 0, []),
  (124, 3, .getfield 56, 1, 11, 143, nI 0, []),
  (127, 3, .putfield 56, 1, 11, 143, nI 0, []),
  (130, 1, .return_, 0, 0, 0, nI 0, [])]
/- 6: LiningLog$Lining.hasRing(I)Z -/
def mj_c6 : List mj_E := [(0, 1, .iload_n 1, 0, 0, 0, nI 0, []),
  (1, 1, .iconst 0, 0, 0, 0, nI 0, []),
  (2, 1, .aload_n 0, 0, 0, 0, nI 0, []),
  (3, 3, .getfield 34, 1, 0, 118, nI 0, []),
  (6, 1, .iconst 1, 0, 0, 0, nI 1, []),
  (7, 1, .isub, 0, 0, 0, nI 0, []),
  (8, 3, .invokestatic 66, 86, 3, 319, nI 0, []),
  (11, 1, .ireturn, 0, 1, 0, nI 0, [])]
/- 7: LiningLog$Lining.hasSpot(I)Z -/
def mj_c7 : List mj_E := [(0, 1, .iload_n 1, 0, 0, 0, nI 0, []),
  (1, 1, .iconst 0, 0, 0, 0, nI 0, []),
  (2, 1, .aload_n 0, 0, 0, 0, nI 0, []),
  (3, 3, .getfield 41, 1, 2, 123, nI 0, []),
  (6, 1, .iconst 1, 0, 0, 0, nI 1, []),
  (7, 1, .isub, 0, 0, 0, nI 0, []),
  (8, 3, .invokestatic 66, 86, 3, 319, nI 0, []),
  (11, 1, .ireturn, 0, 1, 0, nI 0, [])]
/- 8: LiningLog$Lining.ringOf(I)I -/
def mj_c8 : List mj_E := [(0, 1, .iload_n 1, 0, 0, 0, nI 0, []),
  (1, 1, .aload_n 0, 0, 0, 0, nI 0, []),
  (2, 3, .getfield 38, 1, 1, 120, nI 0, []),
  (5, 1, .idiv, 0, 0, 0, nI 0, []),
  (6, 1, .ireturn, 0, 0, 0, nI 0, [])]
/- 9: LiningLog$Lining.neighboursOf(I)I -/
def mj_c9 : List mj_E := [(0, 1, .iload_n 1, 0, 0, 0, nI 0, []),
  (1, 1, .aload_n 0, 0, 0, 0, nI 0, []),
  (2, 3, .getfield 38, 1, 1, 120, nI 0, []),
  (5, 3, .if_icmp .lt 7, 6, 0, 0, nI 0, []),
  (8, 1, .iconst 1, 0, 0, 0, nI 1, []),
  (9, 3, .goto 4, 7, 0, 0, nI 0, []),
  (12, 1, .iconst 0, 0, 0, 0, nI 0, []),
  (13, 1, .istore_n 2, 0, 0, 0, nI 0, []),
  (14, 1, .iload_n 1, 0, 0, 0, nI 0, []),
  (15, 1, .aload_n 0, 0, 0, 0, nI 0, []),
  (16, 3, .getfield 38, 1, 1, 120, nI 0, []),
  (19, 1, .iadd, 0, 0, 0, nI 0, []),
  (20, 1, .aload_n 0, 0, 0, 0, nI 0, []),
  (21, 3, .getfield 41, 1, 2, 123, nI 0, []),
  (24, 3, .if_icmp .ge 7, 17, 0, 0, nI 0, []),
  (27, 1, .iconst 1, 0, 0, 0, nI 1, []),
  (28, 3, .goto 4, 18, 0, 0, nI 0, []),
  (31, 1, .iconst 0, 0, 0, 0, nI 0, []),
  (32, 1, .istore_n 3, 0, 0, 0, nI 0, []),
  (33, 1, .iload_n 2, 0, 0, 0, nI 0, []),
  (34, 1, .iconst 2, 0, 0, 0, nI 2, []),
  (35, 1, .iadd, 0, 0, 0, nI 0, []),
  (36, 1, .iload_n 3, 0, 0, 0, nI 0, []),
  (37, 1, .iadd, 0, 0, 0, nI 0, []),
  (38, 1, .ireturn, 0, 0, 0, nI 0, [])]
/- 10: LiningLog$Lining.neighbourAt(II)I -/
def mj_c10 : List mj_E := [(0, 1, .iload_n 1, 0, 0, 0, nI 0, []),
  (1, 1, .aload_n 0, 0, 0, 0, nI 0, []),
  (2, 3, .getfield 38, 1, 1, 120, nI 0, []),
  (5, 3, .if_icmp .lt 9, 8, 0, 0, nI 0, []),
  (8, 1, .iload_n 2, 0, 0, 0, nI 0, []),
  (9, 1, .iconst 1, 0, 0, 0, nI 1, []),
  (10, 1, .isub, 0, 0, 0, nI 0, []),
  (11, 3, .goto 4, 9, 0, 0, nI 0, []),
  (14, 1, .iload_n 2, 0, 0, 0, nI 0, []),
  (15, 1, .istore_n 3, 0, 0, 0, nI 0, []),
  (16, 1, .iload_n 3, 0, 0, 0, nI 0, []),
  (17, 3, .ifCond .ge 10, 17, 0, 0, nI 0, []),
  (20, 1, .iload_n 1, 0, 0, 0, nI 0, []),
  (21, 1, .aload_n 0, 0, 0, 0, nI 0, []),
  (22, 3, .getfield 38, 1, 1, 120, nI 0, []),
  (25, 1, .isub, 0, 0, 0, nI 0, []),
  (26, 1, .ireturn, 0, 0, 0, nI 0, []),
  (27, 1, .iload_n 3, 0, 0, 0, nI 0, []),
  (28, 3, .ifCond .ne 17, 27, 0, 0, nI 0, []),
  (31, 1, .aload_n 0, 0, 0, 0, nI 0, []),
  (32, 1, .iload_n 1, 0, 0, 0, nI 0, []),
  (33, 3, .invokevirtual 70, 11, 2, 366, nI 0, [1]),
  (36, 1, .aload_n 0, 0, 0, 0, nI 0, []),
  (37, 1, .iload_n 1, 0, 0, 0, nI 0, []),
  (38, 3, .invokevirtual 74, 12, 2, 370, nI 0, [1]),
  (41, 3, .invokestatic 77, 149, 2, 374, nI 0, []),
  (44, 1, .ireturn, 0, 0, 0, nI 0, []),
  (45, 1, .iload_n 3, 0, 0, 0, nI 0, []),
  (46, 1, .iconst 1, 0, 0, 0, nI 1, []),
  (47, 3, .if_icmp .ne 17, 38, 0, 0, nI 0, []),
  (50, 1, .aload_n 0, 0, 0, 0, nI 0, []),
  (51, 1, .iload_n 1, 0, 0, 0, nI 0, []),
  (52, 3, .invokevirtual 70, 11, 2, 366, nI 0, [1]),
  (55, 1, .aload_n 0, 0, 0, 0, nI 0, []),
  (56, 1, .iload_n 1, 0, 0, 0, nI 0, []),
  (57, 3, .invokevirtual 74, 12, 2, 370, nI 0, [1]),
  (60, 3, .invokestatic 83, 148, 2, 501, nI 0, []),
  (63, 1, .ireturn, 0, 0, 0, nI 0, []),
  (64, 1, .iload_n 1, 0, 0, 0, nI 0, []),
  (65, 1, .aload_n 0, 0, 0, 0, nI 0, []),
  (66, 3, .getfield 38, 1, 1, 120, nI 0, []),
  (69, 1, .iadd, 0, 0, 0, nI 0, []),
  (70, 1, .ireturn, 0, 0, 0, nI 0, [])]
/- 11: LiningLog$Lining.placeBefore(I)I -/
def mj_c11 : List mj_E := [(0, 1, .iload_n 1, 0, 0, 0, nI 0, []),
  (1, 1, .aload_n 0, 0, 0, 0, nI 0, []),
  (2, 3, .getfield 38, 1, 1, 120, nI 0, []),
  (5, 1, .irem, 0, 0, 0, nI 0, []),
  (6, 3, .ifCond .ne 14, 12, 0, 0, nI 0, []),
  (9, 1, .iload_n 1, 0, 0, 0, nI 0, []),
  (10, 1, .aload_n 0, 0, 0, 0, nI 0, []),
  (11, 3, .getfield 38, 1, 1, 120, nI 0, []),
  (14, 1, .iadd, 0, 0, 0, nI 0, []),
  (15, 1, .iconst 1, 0, 0, 0, nI 1, []),
  (16, 1, .isub, 0, 0, 0, nI 0, []),
  (17, 3, .goto 6, 15, 0, 0, nI 0, []),
  (20, 1, .iload_n 1, 0, 0, 0, nI 0, []),
  (21, 1, .iconst 1, 0, 0, 0, nI 1, []),
  (22, 1, .isub, 0, 0, 0, nI 0, []),
  (23, 1, .ireturn, 0, 0, 0, nI 0, [])]
/- 12: LiningLog$Lining.placeBehind(I)I -/
def mj_c12 : List mj_E := [(0, 1, .iload_n 1, 0, 0, 0, nI 0, []),
  (1, 1, .iconst 1, 0, 0, 0, nI 1, []),
  (2, 1, .iadd, 0, 0, 0, nI 0, []),
  (3, 1, .aload_n 0, 0, 0, 0, nI 0, []),
  (4, 3, .getfield 38, 1, 1, 120, nI 0, []),
  (7, 1, .irem, 0, 0, 0, nI 0, []),
  (8, 3, .ifCond .ne 14, 14, 0, 0, nI 0, []),
  (11, 1, .iload_n 1, 0, 0, 0, nI 0, []),
  (12, 1, .iconst 1, 0, 0, 0, nI 1, []),
  (13, 1, .iadd, 0, 0, 0, nI 0, []),
  (14, 1, .aload_n 0, 0, 0, 0, nI 0, []),
  (15, 3, .getfield 38, 1, 1, 120, nI 0, []),
  (18, 1, .isub, 0, 0, 0, nI 0, []),
  (19, 3, .goto 6, 17, 0, 0, nI 0, []),
  (22, 1, .iload_n 1, 0, 0, 0, nI 0, []),
  (23, 1, .iconst 1, 0, 0, 0, nI 1, []),
  (24, 1, .iadd, 0, 0, 0, nI 0, []),
  (25, 1, .ireturn, 0, 0, 0, nI 0, [])]
/- 13: LiningLog$Lining.thickness(I)I -/
def mj_c13 : List mj_E := [(0, 1, .aload_n 0, 0, 0, 0, nI 0, []),
  (1, 3, .getfield 9, 1, 3, 125, nI 0, []),
  (4, 1, .iload_n 1, 0, 0, 0, nI 0, []),
  (5, 1, .iaload, 0, 0, 0, nI 0, []),
  (6, 1, .aload_n 0, 0, 0, 0, nI 0, []),
  (7, 3, .getfield 15, 1, 4, 127, nI 0, []),
  (10, 1, .iload_n 1, 0, 0, 0, nI 0, []),
  (11, 1, .iaload, 0, 0, 0, nI 0, []),
  (12, 1, .iadd, 0, 0, 0, nI 0, []),
  (13, 1, .ireturn, 0, 0, 0, nI 0, [])]
/- 14: LiningLog$Lining.leastThickness()I -/
def mj_c14 : List mj_E := [(0, 1, .aload_n 0, 0, 0, 0, nI 0, []),
  (1, 1, .iconst 0, 0, 0, 0, nI 0, []),
  (2, 3, .invokevirtual 86, 13, 2, 350, nI 0, [1]),
  (5, 1, .istore_n 1, 0, 0, 0, nI 0, []),
  (6, 1, .iconst 1, 0, 0, 0, nI 1, []),
  (7, 1, .istore_n 2, 0, 0, 0, nI 0, []),
  (8, 1, .iload_n 2, 0, 0, 0, nI 0, []),
  (9, 1, .aload_n 0, 0, 0, 0, nI 0, []),
  (10, 3, .getfield 41, 1, 2, 123, nI 0, []),
  (13, 3, .if_icmp .ge 19, 18, 0, 0, nI 0, []),
  (16, 1, .iload_n 1, 0, 0, 0, nI 0, []),
  (17, 1, .aload_n 0, 0, 0, 0, nI 0, []),
  (18, 1, .iload_n 2, 0, 0, 0, nI 0, []),
  (19, 3, .invokevirtual 86, 13, 2, 350, nI 0, [1]),
  (22, 3, .invokestatic 77, 149, 2, 374, nI 0, []),
  (25, 1, .istore_n 1, 0, 0, 0, nI 0, []),
  (26, 3, .iinc 2 1, 0, 0, 0, nI 1, []),
  (29, 3, .goto (-21), 6, 0, 0, nI 0, []),
  (32, 1, .iload_n 1, 0, 0, 0, nI 0, []),
  (33, 1, .ireturn, 0, 0, 0, nI 0, [])]
/- 15: LiningLog$Lining.sumOfThicknesses()I -/
def mj_c15 : List mj_E := [(0, 1, .iconst 0, 0, 0, 0, nI 0, []),
  (1, 1, .istore_n 1, 0, 0, 0, nI 0, []),
  (2, 1, .iconst 0, 0, 0, 0, nI 0, []),
  (3, 1, .istore_n 2, 0, 0, 0, nI 0, []),
  (4, 1, .iload_n 2, 0, 0, 0, nI 0, []),
  (5, 1, .aload_n 0, 0, 0, 0, nI 0, []),
  (6, 3, .getfield 41, 1, 2, 123, nI 0, []),
  (9, 3, .if_icmp .ge 17, 16, 0, 0, nI 0, []),
  (12, 1, .iload_n 1, 0, 0, 0, nI 0, []),
  (13, 1, .aload_n 0, 0, 0, 0, nI 0, []),
  (14, 1, .iload_n 2, 0, 0, 0, nI 0, []),
  (15, 3, .invokevirtual 86, 13, 2, 350, nI 0, [1]),
  (18, 1, .iadd, 0, 0, 0, nI 0, []),
  (19, 1, .istore_n 1, 0, 0, 0, nI 0, []),
  (20, 3, .iinc 2 1, 0, 0, 0, nI 1, []),
  (23, 3, .goto (-19), 4, 0, 0, nI 0, []),
  (26, 1, .iload_n 1, 0, 0, 0, nI 0, []),
  (27, 1, .ireturn, 0, 0, 0, nI 0, [])]
/- 16: LiningLog$Lining.layeredSpots()I -/
def mj_c16 : List mj_E := [(0, 1, .iconst 0, 0, 0, 0, nI 0, []),
  (1, 1, .istore_n 1, 0, 0, 0, nI 0, []),
  (2, 1, .iconst 0, 0, 0, 0, nI 0, []),
  (3, 1, .istore_n 2, 0, 0, 0, nI 0, []),
  (4, 1, .iload_n 2, 0, 0, 0, nI 0, []),
  (5, 1, .aload_n 0, 0, 0, 0, nI 0, []),
  (6, 3, .getfield 41, 1, 2, 123, nI 0, []),
  (9, 3, .if_icmp .ge 21, 16, 0, 0, nI 0, []),
  (12, 1, .aload_n 0, 0, 0, 0, nI 0, []),
  (13, 3, .getfield 15, 1, 4, 127, nI 0, []),
  (16, 1, .iload_n 2, 0, 0, 0, nI 0, []),
  (17, 1, .iaload, 0, 0, 0, nI 0, []),
  (18, 3, .ifCond .le 6, 14, 0, 0, nI 0, []),
  (21, 3, .iinc 1 1, 0, 0, 0, nI 1, []),
  (24, 3, .iinc 2 1, 0, 0, 0, nI 1, []),
  (27, 3, .goto (-23), 4, 0, 0, nI 0, []),
  (30, 1, .iload_n 1, 0, 0, 0, nI 0, []),
  (31, 1, .ireturn, 0, 0, 0, nI 0, [])]
/- 17: LiningLog$Lining.firstBelowLimit()I -/
def mj_c17 : List mj_E := [(0, 1, .iconst 0, 0, 0, 0, nI 0, []),
  (1, 1, .istore_n 1, 0, 0, 0, nI 0, []),
  (2, 1, .iload_n 1, 0, 0, 0, nI 0, []),
  (3, 1, .aload_n 0, 0, 0, 0, nI 0, []),
  (4, 3, .getfield 41, 1, 2, 123, nI 0, []),
  (7, 3, .if_icmp .ge 25, 18, 0, 0, nI 0, []),
  (10, 1, .aload_n 0, 0, 0, 0, nI 0, []),
  (11, 1, .iload_n 1, 0, 0, 0, nI 0, []),
  (12, 3, .invokevirtual 86, 13, 2, 350, nI 0, [1]),
  (15, 1, .aload_n 0, 0, 0, 0, nI 0, []),
  (16, 3, .getfield 21, 1, 6, 131, nI 0, []),
  (19, 1, .iconst 0, 0, 0, 0, nI 0, []),
  (20, 1, .iaload, 0, 0, 0, nI 0, []),
  (21, 3, .if_icmp .ge 5, 16, 0, 0, nI 0, []),
  (24, 1, .iload_n 1, 0, 0, 0, nI 0, []),
  (25, 1, .ireturn, 0, 0, 0, nI 0, []),
  (26, 3, .iinc 1 1, 0, 0, 0, nI 1, []),
  (29, 3, .goto (-27), 2, 0, 0, nI 0, []),
  (32, 2, .ldc 89, 0, 0, 389, (-1000004), []),
  (34, 1, .ireturn, 0, 0, 0, nI 0, [])]
/- 18: LiningLog$Lining.shellTemperature(I)I -/
def mj_c18 : List mj_E := [(0, 2, .bipush 40, 0, 0, 0, nI 40, []),
  (2, 1, .aload_n 0, 0, 0, 0, nI 0, []),
  (3, 3, .getfield 21, 1, 6, 131, nI 0, []),
  (6, 1, .iconst 2, 0, 0, 0, nI 2, []),
  (7, 1, .iaload, 0, 0, 0, nI 0, []),
  (8, 1, .aload_n 0, 0, 0, 0, nI 0, []),
  (9, 1, .iload_n 1, 0, 0, 0, nI 0, []),
  (10, 3, .invokevirtual 86, 13, 2, 350, nI 0, [1]),
  (13, 2, .bipush 100, 0, 0, 0, nI 100, []),
  (15, 1, .iadd, 0, 0, 0, nI 0, []),
  (16, 1, .idiv, 0, 0, 0, nI 0, []),
  (17, 1, .iadd, 0, 0, 0, nI 0, []),
  (18, 1, .ireturn, 0, 0, 0, nI 0, [])]
/- 19: LiningLog$Lining.keepThicknesses()V -/
def mj_c19 : List mj_E := [(0, 1, .iconst 0, 0, 0, 0, nI 0, []),
  (1, 1, .istore_n 1, 0, 0, 0, nI 0, []),
  (2, 1, .iload_n 1, 0, 0, 0, nI 0, []),
  (3, 1, .aload_n 0, 0, 0, 0, nI 0, []),
  (4, 3, .getfield 41, 1, 2, 123, nI 0, []),
  (7, 3, .if_icmp .ge 20, 15, 0, 0, nI 0, []),
  (10, 1, .aload_n 0, 0, 0, 0, nI 0, []),
  (11, 3, .getfield 27, 1, 12, 145, nI 0, []),
  (14, 1, .iload_n 1, 0, 0, 0, nI 0, []),
  (15, 1, .aload_n 0, 0, 0, 0, nI 0, []),
  (16, 1, .iload_n 1, 0, 0, 0, nI 0, []),
  (17, 3, .invokevirtual 86, 13, 2, 350, nI 0, [1]),
  (20, 1, .iastore, 0, 0, 0, nI 0, []),
  (21, 3, .iinc 1 1, 0, 0, 0, nI 1, []),
  (24, 3, .goto (-22), 2, 0, 0, nI 0, []),
  (27, 1, .return_, 0, 0, 0, nI 0, [])]
/- 20: LiningLog$Lining.standingOut(I)I -/
def mj_c20 : List mj_E := [(0, 1, .aload_n 0, 0, 0, 0, nI 0, []),
  (1, 3, .invokevirtual 90, 19, 1, 346, nI 0, [1]),
  (4, 1, .aload_n 0, 0, 0, 0, nI 0, []),
  (5, 1, .iload_n 1, 0, 0, 0, nI 0, []),
  (6, 3, .invokevirtual 93, 21, 2, 362, nI 0, [1]),
  (9, 1, .ireturn, 0, 0, 0, nI 0, [])]
/- 21: LiningLog$Lining.standingOutAhead(I)I -/
def mj_c21 : List mj_E := [(0, 1, .aload_n 0, 0, 0, 0, nI 0, []),
  (1, 3, .getfield 27, 1, 12, 145, nI 0, []),
  (4, 1, .aload_n 0, 0, 0, 0, nI 0, []),
  (5, 1, .iload_n 1, 0, 0, 0, nI 0, []),
  (6, 3, .invokevirtual 70, 11, 2, 366, nI 0, [1]),
  (9, 1, .iaload, 0, 0, 0, nI 0, []),
  (10, 1, .aload_n 0, 0, 0, 0, nI 0, []),
  (11, 3, .getfield 27, 1, 12, 145, nI 0, []),
  (14, 1, .aload_n 0, 0, 0, 0, nI 0, []),
  (15, 1, .iload_n 1, 0, 0, 0, nI 0, []),
  (16, 3, .invokevirtual 74, 12, 2, 370, nI 0, [1]),
  (19, 1, .iaload, 0, 0, 0, nI 0, []),
  (20, 3, .invokestatic 77, 149, 2, 374, nI 0, []),
  (23, 1, .istore_n 2, 0, 0, 0, nI 0, []),
  (24, 1, .iload_n 1, 0, 0, 0, nI 0, []),
  (25, 1, .aload_n 0, 0, 0, 0, nI 0, []),
  (26, 3, .getfield 38, 1, 1, 120, nI 0, []),
  (29, 3, .if_icmp .lt 19, 28, 0, 0, nI 0, []),
  (32, 1, .iload_n 2, 0, 0, 0, nI 0, []),
  (33, 1, .aload_n 0, 0, 0, 0, nI 0, []),
  (34, 3, .getfield 27, 1, 12, 145, nI 0, []),
  (37, 1, .iload_n 1, 0, 0, 0, nI 0, []),
  (38, 1, .aload_n 0, 0, 0, 0, nI 0, []),
  (39, 3, .getfield 38, 1, 1, 120, nI 0, []),
  (42, 1, .isub, 0, 0, 0, nI 0, []),
  (43, 1, .iaload, 0, 0, 0, nI 0, []),
  (44, 3, .invokestatic 77, 149, 2, 374, nI 0, []),
  (47, 1, .istore_n 2, 0, 0, 0, nI 0, []),
  (48, 1, .iload_n 1, 0, 0, 0, nI 0, []),
  (49, 1, .aload_n 0, 0, 0, 0, nI 0, []),
  (50, 3, .getfield 38, 1, 1, 120, nI 0, []),
  (53, 1, .iadd, 0, 0, 0, nI 0, []),
  (54, 1, .aload_n 0, 0, 0, 0, nI 0, []),
  (55, 3, .getfield 41, 1, 2, 123, nI 0, []),
  (58, 3, .if_icmp .ge 19, 45, 0, 0, nI 0, []),
  (61, 1, .iload_n 2, 0, 0, 0, nI 0, []),
  (62, 1, .aload_n 0, 0, 0, 0, nI 0, []),
  (63, 3, .getfield 27, 1, 12, 145, nI 0, []),
  (66, 1, .iload_n 1, 0, 0, 0, nI 0, []),
  (67, 1, .aload_n 0, 0, 0, 0, nI 0, []),
  (68, 3, .getfield 38, 1, 1, 120, nI 0, []),
  (71, 1, .iadd, 0, 0, 0, nI 0, []),
  (72, 1, .iaload, 0, 0, 0, nI 0, []),
  (73, 3, .invokestatic 77, 149, 2, 374, nI 0, []),
  (76, 1, .istore_n 2, 0, 0, 0, nI 0, []),
  (77, 1, .aload_n 0, 0, 0, 0, nI 0, []),
  (78, 3, .getfield 27, 1, 12, 145, nI 0, []),
  (81, 1, .iload_n 1, 0, 0, 0, nI 0, []),
  (82, 1, .iaload, 0, 0, 0, nI 0, []),
  (83, 1, .iload_n 2, 0, 0, 0, nI 0, []),
  (84, 1, .isub, 0, 0, 0, nI 0, []),
  (85, 1, .ireturn, 0, 0, 0, nI 0, [])]
/- 22: LiningLog$Lining.wearNow(II)I -/
def mj_c22 : List mj_E := [(0, 1, .aload_n 0, 0, 0, 0, nI 0, []),
  (1, 3, .invokevirtual 90, 19, 1, 346, nI 0, [1]),
  (4, 1, .aload_n 0, 0, 0, 0, nI 0, []),
  (5, 1, .iload_n 1, 0, 0, 0, nI 0, []),
  (6, 1, .iload_n 2, 0, 0, 0, nI 0, []),
  (7, 3, .invokevirtual 96, 23, 3, 354, nI 0, [1]),
  (10, 1, .ireturn, 0, 0, 0, nI 0, [])]
/- 23: LiningLog$Lining.wearAhead(II)I -/
def mj_c23 : List mj_E := [(0, 1, .aload_n 0, 0, 0, 0, nI 0, []),
  (1, 3, .getfield 18, 1, 5, 129, nI 0, []),
  (4, 1, .aload_n 0, 0, 0, 0, nI 0, []),
  (5, 1, .iload_n 1, 0, 0, 0, nI 0, []),
  (6, 3, .invokevirtual 99, 8, 2, 358, nI 0, [1]),
  (9, 1, .iaload, 0, 0, 0, nI 0, []),
  (10, 1, .iload_n 2, 0, 0, 0, nI 0, []),
  (11, 1, .imul, 0, 0, 0, nI 0, []),
  (12, 2, .bipush 100, 0, 0, 0, nI 100, []),
  (14, 1, .idiv, 0, 0, 0, nI 0, []),
  (15, 1, .istore_n 3, 0, 0, 0, nI 0, []),
  (16, 1, .aload_n 0, 0, 0, 0, nI 0, []),
  (17, 1, .iload_n 1, 0, 0, 0, nI 0, []),
  (18, 3, .invokevirtual 93, 21, 2, 362, nI 0, [1]),
  (21, 2, .istore 4, 0, 0, 0, nI 0, []),
  (23, 1, .aload_n 0, 0, 0, 0, nI 0, []),
  (24, 3, .getfield 21, 1, 6, 131, nI 0, []),
  (27, 1, .iconst 1, 0, 0, 0, nI 1, []),
  (28, 1, .iaload, 0, 0, 0, nI 0, []),
  (29, 2, .istore 5, 0, 0, 0, nI 0, []),
  (31, 2, .iload 4, 0, 0, 0, nI 0, []),
  (33, 2, .iload 5, 0, 0, 0, nI 0, []),
  (35, 3, .if_icmp .lt 13, 29, 0, 0, nI 0, []),
  (38, 1, .iload_n 3, 0, 0, 0, nI 0, []),
  (39, 2, .iload 4, 0, 0, 0, nI 0, []),
  (41, 2, .iload 5, 0, 0, 0, nI 0, []),
  (43, 1, .idiv, 0, 0, 0, nI 0, []),
  (44, 1, .iadd, 0, 0, 0, nI 0, []),
  (45, 3, .goto 4, 30, 0, 0, nI 0, []),
  (48, 1, .iload_n 3, 0, 0, 0, nI 0, []),
  (49, 1, .ireturn, 0, 0, 0, nI 0, [])]
/- 24: LiningLog$Lining.makeHeat(I)I -/
def mj_c24 : List mj_E := [(0, 1, .aload_n 0, 0, 0, 0, nI 0, []),
  (1, 3, .invokevirtual 90, 19, 1, 346, nI 0, [1]),
  (4, 1, .iconst 0, 0, 0, 0, nI 0, []),
  (5, 1, .istore_n 2, 0, 0, 0, nI 0, []),
  (6, 1, .iconst 0, 0, 0, 0, nI 0, []),
  (7, 1, .istore_n 3, 0, 0, 0, nI 0, []),
  (8, 1, .iload_n 3, 0, 0, 0, nI 0, []),
  (9, 1, .aload_n 0, 0, 0, 0, nI 0, []),
  (10, 3, .getfield 41, 1, 2, 123, nI 0, []),
  (13, 3, .if_icmp .ge 23, 22, 0, 0, nI 0, []),
  (16, 1, .iload_n 2, 0, 0, 0, nI 0, []),
  (17, 1, .aload_n 0, 0, 0, 0, nI 0, []),
  (18, 1, .iload_n 3, 0, 0, 0, nI 0, []),
  (19, 1, .aload_n 0, 0, 0, 0, nI 0, []),
  (20, 1, .iload_n 3, 0, 0, 0, nI 0, []),
  (21, 1, .iload_n 1, 0, 0, 0, nI 0, []),
  (22, 3, .invokevirtual 96, 23, 3, 354, nI 0, [1]),
  (25, 3, .invokevirtual 102, 25, 3, 377, nI 0, [1]),
  (28, 1, .iadd, 0, 0, 0, nI 0, []),
  (29, 1, .istore_n 2, 0, 0, 0, nI 0, []),
  (30, 3, .iinc 3 1, 0, 0, 0, nI 1, []),
  (33, 3, .goto (-25), 6, 0, 0, nI 0, []),
  (36, 1, .aload_n 0, 0, 0, 0, nI 0, []),
  (37, 3, .getfield 24, 1, 7, 134, nI 0, []),
  (40, 1, .iconst 2, 0, 0, 0, nI 2, []),
  (41, 1, .dup2, 0, 0, 0, nI 0, []),
  (42, 1, .iaload, 0, 0, 0, nI 0, []),
  (43, 1, .iload_n 2, 0, 0, 0, nI 0, []),
  (44, 1, .iadd, 0, 0, 0, nI 0, []),
  (45, 1, .iastore, 0, 0, 0, nI 0, []),
  (46, 1, .aload_n 0, 0, 0, 0, nI 0, []),
  (47, 1, .dup, 0, 0, 0, nI 0, []),
  (48, 3, .getfield 47, 1, 8, 137, nI 0, []),
  (51, 1, .iconst 1, 0, 0, 0, nI 1, []),
  (52, 1, .iadd, 0, 0, 0, nI 0, []),
  (53, 3, .putfield 47, 1, 8, 137, nI 0, []),
  (56, 1, .aload_n 0, 0, 0, 0, nI 0, []),
  (57, 1, .dup, 0, 0, 0, nI 0, []),
  (58, 3, .getfield 50, 1, 9, 139, nI 0, []),
  (61, 1, .iconst 1, 0, 0, 0, nI 1, []),
  (62, 1, .iadd, 0, 0, 0, nI 0, []),
  (63, 3, .putfield 50, 1, 9, 139, nI 0, []),
  (66, 1, .aload_n 0, 0, 0, 0, nI 0, []),
  (67, 3, .getfield 50, 1, 9, 139, nI 0, []),
  (70, 1, .aload_n 0, 0, 0, 0, nI 0, []),
  (71, 3, .getfield 21, 1, 6, 131, nI 0, []),
  (74, 1, .iconst 5, 0, 0, 0, nI 5, []),
  (75, 1, .iaload, 0, 0, 0, nI 0, []),
  (76, 1, .irem, 0, 0, 0, nI 0, []),
  (77, 3, .ifCond .ne 7, 52, 0, 0, nI 0, []),
  (80, 1, .aload_n 0, 0, 0, 0, nI 0, []),
  (81, 3, .invokevirtual 105, 26, 1, 381, nI 0, [1]),
  (84, 1, .aload_n 0, 0, 0, 0, nI 0, []),
  (85, 1, .aload_n 0, 0, 0, 0, nI 0, []),
  (86, 3, .invokevirtual 108, 17, 1, 385, nI 0, [1]),
  (89, 2, .ldc 89, 0, 0, 389, (-1000004), []),
  (91, 3, .if_icmp .eq 7, 59, 0, 0, nI 0, []),
  (94, 1, .iconst 1, 0, 0, 0, nI 1, []),
  (95, 3, .goto 4, 60, 0, 0, nI 0, []),
  (98, 1, .iconst 0, 0, 0, 0, nI 0, []),
  (99, 3, .putfield 56, 1, 11, 143, nI 0, []),
  (102, 1, .iload_n 2, 0, 0, 0, nI 0, []),
  (103, 1, .ireturn, 0, 0, 0, nI 0, [])]
/- 25: LiningLog$Lining.takeWear(II)I -/
def mj_c25 : List mj_E := [(0, 1, .aload_n 0, 0, 0, 0, nI 0, []),
  (1, 3, .getfield 15, 1, 4, 127, nI 0, []),
  (4, 1, .iload_n 1, 0, 0, 0, nI 0, []),
  (5, 1, .iaload, 0, 0, 0, nI 0, []),
  (6, 1, .istore_n 3, 0, 0, 0, nI 0, []),
  (7, 1, .iload_n 3, 0, 0, 0, nI 0, []),
  (8, 1, .iconst 2, 0, 0, 0, nI 2, []),
  (9, 1, .iload_n 2, 0, 0, 0, nI 0, []),
  (10, 1, .imul, 0, 0, 0, nI 0, []),
  (11, 3, .if_icmp .lt 18, 23, 0, 0, nI 0, []),
  (14, 1, .aload_n 0, 0, 0, 0, nI 0, []),
  (15, 3, .getfield 15, 1, 4, 127, nI 0, []),
  (18, 1, .iload_n 1, 0, 0, 0, nI 0, []),
  (19, 1, .iload_n 3, 0, 0, 0, nI 0, []),
  (20, 1, .iconst 2, 0, 0, 0, nI 2, []),
  (21, 1, .iload_n 2, 0, 0, 0, nI 0, []),
  (22, 1, .imul, 0, 0, 0, nI 0, []),
  (23, 1, .isub, 0, 0, 0, nI 0, []),
  (24, 1, .iastore, 0, 0, 0, nI 0, []),
  (25, 1, .iconst 2, 0, 0, 0, nI 2, []),
  (26, 1, .iload_n 2, 0, 0, 0, nI 0, []),
  (27, 1, .imul, 0, 0, 0, nI 0, []),
  (28, 1, .ireturn, 0, 0, 0, nI 0, []),
  (29, 1, .iload_n 2, 0, 0, 0, nI 0, []),
  (30, 1, .iload_n 3, 0, 0, 0, nI 0, []),
  (31, 1, .iconst 2, 0, 0, 0, nI 2, []),
  (32, 1, .idiv, 0, 0, 0, nI 0, []),
  (33, 1, .isub, 0, 0, 0, nI 0, []),
  (34, 1, .aload_n 0, 0, 0, 0, nI 0, []),
  (35, 3, .getfield 9, 1, 3, 125, nI 0, []),
  (38, 1, .iload_n 1, 0, 0, 0, nI 0, []),
  (39, 1, .iaload, 0, 0, 0, nI 0, []),
  (40, 3, .invokestatic 77, 149, 2, 374, nI 0, []),
  (43, 2, .istore 4, 0, 0, 0, nI 0, []),
  (45, 1, .aload_n 0, 0, 0, 0, nI 0, []),
  (46, 3, .getfield 15, 1, 4, 127, nI 0, []),
  (49, 1, .iload_n 1, 0, 0, 0, nI 0, []),
  (50, 1, .iconst 0, 0, 0, 0, nI 0, []),
  (51, 1, .iastore, 0, 0, 0, nI 0, []),
  (52, 1, .aload_n 0, 0, 0, 0, nI 0, []),
  (53, 3, .getfield 9, 1, 3, 125, nI 0, []),
  (56, 1, .iload_n 1, 0, 0, 0, nI 0, []),
  (57, 1, .dup2, 0, 0, 0, nI 0, []),
  (58, 1, .iaload, 0, 0, 0, nI 0, []),
  (59, 2, .iload 4, 0, 0, 0, nI 0, []),
  (61, 1, .isub, 0, 0, 0, nI 0, []),
  (62, 1, .iastore, 0, 0, 0, nI 0, []),
  (63, 1, .iload_n 3, 0, 0, 0, nI 0, []),
  (64, 2, .iload 4, 0, 0, 0, nI 0, []),
  (66, 1, .iadd, 0, 0, 0, nI 0, []),
  (67, 1, .ireturn, 0, 0, 0, nI 0, [])]
/- 26: LiningLog$Lining.rest()V -/
def mj_c26 : List mj_E := [(0, 1, .iconst 0, 0, 0, 0, nI 0, []),
  (1, 1, .istore_n 1, 0, 0, 0, nI 0, []),
  (2, 1, .iload_n 1, 0, 0, 0, nI 0, []),
  (3, 1, .aload_n 0, 0, 0, 0, nI 0, []),
  (4, 3, .getfield 41, 1, 2, 123, nI 0, []),
  (7, 3, .if_icmp .ge 38, 31, 0, 0, nI 0, []),
  (10, 1, .aload_n 0, 0, 0, 0, nI 0, []),
  (11, 3, .getfield 15, 1, 4, 127, nI 0, []),
  (14, 1, .iload_n 1, 0, 0, 0, nI 0, []),
  (15, 1, .iaload, 0, 0, 0, nI 0, []),
  (16, 1, .iconst 2, 0, 0, 0, nI 2, []),
  (17, 1, .idiv, 0, 0, 0, nI 0, []),
  (18, 1, .istore_n 2, 0, 0, 0, nI 0, []),
  (19, 1, .aload_n 0, 0, 0, 0, nI 0, []),
  (20, 3, .getfield 15, 1, 4, 127, nI 0, []),
  (23, 1, .iload_n 1, 0, 0, 0, nI 0, []),
  (24, 1, .dup2, 0, 0, 0, nI 0, []),
  (25, 1, .iaload, 0, 0, 0, nI 0, []),
  (26, 1, .iload_n 2, 0, 0, 0, nI 0, []),
  (27, 1, .isub, 0, 0, 0, nI 0, []),
  (28, 1, .iastore, 0, 0, 0, nI 0, []),
  (29, 1, .aload_n 0, 0, 0, 0, nI 0, []),
  (30, 3, .getfield 24, 1, 7, 134, nI 0, []),
  (33, 1, .iconst 3, 0, 0, 0, nI 3, []),
  (34, 1, .dup2, 0, 0, 0, nI 0, []),
  (35, 1, .iaload, 0, 0, 0, nI 0, []),
  (36, 1, .iload_n 2, 0, 0, 0, nI 0, []),
  (37, 1, .iadd, 0, 0, 0, nI 0, []),
  (38, 1, .iastore, 0, 0, 0, nI 0, []),
  (39, 3, .iinc 1 1, 0, 0, 0, nI 1, []),
  (42, 3, .goto (-40), 2, 0, 0, nI 0, []),
  (45, 1, .return_, 0, 0, 0, nI 0, [])]
/- 27: LiningLog$Lining.staying(II)I -/
def mj_c27 : List mj_E := [(0, 1, .aload_n 0, 0, 0, 0, nI 0, []),
  (1, 1, .iload_n 1, 0, 0, 0, nI 0, []),
  (2, 3, .invokevirtual 112, 18, 2, 409, nI 0, [1]),
  (5, 1, .aload_n 0, 0, 0, 0, nI 0, []),
  (6, 3, .getfield 21, 1, 6, 131, nI 0, []),
  (9, 1, .iconst 3, 0, 0, 0, nI 3, []),
  (10, 1, .iaload, 0, 0, 0, nI 0, []),
  (11, 3, .if_icmp .lt 7, 10, 0, 0, nI 0, []),
  (14, 1, .iconst 1, 0, 0, 0, nI 1, []),
  (15, 3, .goto 4, 11, 0, 0, nI 0, []),
  (18, 1, .iconst 0, 0, 0, 0, nI 0, []),
  (19, 1, .istore_n 3, 0, 0, 0, nI 0, []),
  (20, 1, .iload_n 3, 0, 0, 0, nI 0, []),
  (21, 3, .ifCond .eq 11, 20, 0, 0, nI 0, []),
  (24, 1, .iload_n 2, 0, 0, 0, nI 0, []),
  (25, 1, .iconst 4, 0, 0, 0, nI 4, []),
  (26, 1, .imul, 0, 0, 0, nI 0, []),
  (27, 1, .iconst 5, 0, 0, 0, nI 5, []),
  (28, 1, .idiv, 0, 0, 0, nI 0, []),
  (29, 3, .goto 8, 25, 0, 0, nI 0, []),
  (32, 1, .iload_n 2, 0, 0, 0, nI 0, []),
  (33, 1, .iconst 3, 0, 0, 0, nI 3, []),
  (34, 1, .imul, 0, 0, 0, nI 0, []),
  (35, 1, .iconst 5, 0, 0, 0, nI 5, []),
  (36, 1, .idiv, 0, 0, 0, nI 0, []),
  (37, 1, .ireturn, 0, 0, 0, nI 0, [])]
/- 28: LiningLog$Lining.gunningRefusal(II)I -/
def mj_c28 : List mj_E := [(0, 1, .aload_n 0, 0, 0, 0, nI 0, []),
  (1, 3, .getfield 56, 1, 11, 143, nI 0, []),
  (4, 3, .ifCond .eq 5, 5, 0, 0, nI 0, []),
  (7, 1, .iconst 1, 0, 0, 0, nI 1, []),
  (8, 1, .ireturn, 0, 0, 0, nI 0, []),
  (9, 1, .aload_n 0, 0, 0, 0, nI 0, []),
  (10, 1, .iload_n 1, 0, 0, 0, nI 0, []),
  (11, 3, .invokevirtual 86, 13, 2, 350, nI 0, [1]),
  (14, 1, .aload_n 0, 0, 0, 0, nI 0, []),
  (15, 1, .iload_n 1, 0, 0, 0, nI 0, []),
  (16, 1, .iload_n 2, 0, 0, 0, nI 0, []),
  (17, 3, .invokevirtual 115, 27, 3, 405, nI 0, [1]),
  (20, 1, .iadd, 0, 0, 0, nI 0, []),
  (21, 3, .sipush 3500, 0, 0, 0, nI 3500, []),
  (24, 3, .if_icmp .le 5, 17, 0, 0, nI 0, []),
  (27, 1, .iconst 2, 0, 0, 0, nI 2, []),
  (28, 1, .ireturn, 0, 0, 0, nI 0, []),
  (29, 1, .aload_n 0, 0, 0, 0, nI 0, []),
  (30, 3, .getfield 21, 1, 6, 131, nI 0, []),
  (33, 1, .iconst 4, 0, 0, 0, nI 4, []),
  (34, 1, .iaload, 0, 0, 0, nI 0, []),
  (35, 1, .iload_n 2, 0, 0, 0, nI 0, []),
  (36, 3, .if_icmp .ge 7, 25, 0, 0, nI 0, []),
  (39, 1, .iconst 3, 0, 0, 0, nI 3, []),
  (40, 3, .goto 4, 26, 0, 0, nI 0, []),
  (43, 1, .iconst 0, 0, 0, 0, nI 0, []),
  (44, 1, .ireturn, 0, 0, 0, nI 0, [])]
/- 29: LiningLog$Lining.putOn(II)I -/
def mj_c29 : List mj_E := [(0, 1, .aload_n 0, 0, 0, 0, nI 0, []),
  (1, 1, .iload_n 1, 0, 0, 0, nI 0, []),
  (2, 1, .iload_n 2, 0, 0, 0, nI 0, []),
  (3, 3, .invokevirtual 115, 27, 3, 405, nI 0, [1]),
  (6, 1, .istore_n 3, 0, 0, 0, nI 0, []),
  (7, 1, .aload_n 0, 0, 0, 0, nI 0, []),
  (8, 3, .getfield 15, 1, 4, 127, nI 0, []),
  (11, 1, .iload_n 1, 0, 0, 0, nI 0, []),
  (12, 1, .dup2, 0, 0, 0, nI 0, []),
  (13, 1, .iaload, 0, 0, 0, nI 0, []),
  (14, 1, .iload_n 3, 0, 0, 0, nI 0, []),
  (15, 1, .iadd, 0, 0, 0, nI 0, []),
  (16, 1, .iastore, 0, 0, 0, nI 0, []),
  (17, 1, .aload_n 0, 0, 0, 0, nI 0, []),
  (18, 3, .getfield 21, 1, 6, 131, nI 0, []),
  (21, 1, .iconst 4, 0, 0, 0, nI 4, []),
  (22, 1, .dup2, 0, 0, 0, nI 0, []),
  (23, 1, .iaload, 0, 0, 0, nI 0, []),
  (24, 1, .iload_n 2, 0, 0, 0, nI 0, []),
  (25, 1, .isub, 0, 0, 0, nI 0, []),
  (26, 1, .iastore, 0, 0, 0, nI 0, []),
  (27, 1, .aload_n 0, 0, 0, 0, nI 0, []),
  (28, 3, .getfield 24, 1, 7, 134, nI 0, []),
  (31, 1, .iconst 1, 0, 0, 0, nI 1, []),
  (32, 1, .dup2, 0, 0, 0, nI 0, []),
  (33, 1, .iaload, 0, 0, 0, nI 0, []),
  (34, 1, .iload_n 3, 0, 0, 0, nI 0, []),
  (35, 1, .iadd, 0, 0, 0, nI 0, []),
  (36, 1, .iastore, 0, 0, 0, nI 0, []),
  (37, 1, .iload_n 3, 0, 0, 0, nI 0, []),
  (38, 1, .ireturn, 0, 0, 0, nI 0, [])]
/- 30: LiningLog$Lining.layRing(I)I -/
def mj_c30 : List mj_E := [(0, 1, .iconst 0, 0, 0, 0, nI 0, []),
  (1, 1, .istore_n 2, 0, 0, 0, nI 0, []),
  (2, 1, .iload_n 1, 0, 0, 0, nI 0, []),
  (3, 1, .iconst 1, 0, 0, 0, nI 1, []),
  (4, 1, .iadd, 0, 0, 0, nI 0, []),
  (5, 1, .aload_n 0, 0, 0, 0, nI 0, []),
  (6, 3, .getfield 38, 1, 1, 120, nI 0, []),
  (9, 1, .imul, 0, 0, 0, nI 0, []),
  (10, 1, .istore_n 3, 0, 0, 0, nI 0, []),
  (11, 1, .iload_n 1, 0, 0, 0, nI 0, []),
  (12, 1, .aload_n 0, 0, 0, 0, nI 0, []),
  (13, 3, .getfield 38, 1, 1, 120, nI 0, []),
  (16, 1, .imul, 0, 0, 0, nI 0, []),
  (17, 2, .istore 4, 0, 0, 0, nI 0, []),
  (19, 2, .iload 4, 0, 0, 0, nI 0, []),
  (21, 1, .iload_n 3, 0, 0, 0, nI 0, []),
  (22, 3, .if_icmp .ge 36, 35, 0, 0, nI 0, []),
  (25, 1, .iload_n 2, 0, 0, 0, nI 0, []),
  (26, 1, .aload_n 0, 0, 0, 0, nI 0, []),
  (27, 2, .iload 4, 0, 0, 0, nI 0, []),
  (29, 3, .invokevirtual 86, 13, 2, 350, nI 0, [1]),
  (32, 1, .iadd, 0, 0, 0, nI 0, []),
  (33, 1, .istore_n 2, 0, 0, 0, nI 0, []),
  (34, 1, .aload_n 0, 0, 0, 0, nI 0, []),
  (35, 3, .getfield 9, 1, 3, 125, nI 0, []),
  (38, 2, .iload 4, 0, 0, 0, nI 0, []),
  (40, 3, .sipush 3000, 0, 0, 0, nI 3000, []),
  (43, 1, .iastore, 0, 0, 0, nI 0, []),
  (44, 1, .aload_n 0, 0, 0, 0, nI 0, []),
  (45, 3, .getfield 15, 1, 4, 127, nI 0, []),
  (48, 2, .iload 4, 0, 0, 0, nI 0, []),
  (50, 1, .iconst 0, 0, 0, 0, nI 0, []),
  (51, 1, .iastore, 0, 0, 0, nI 0, []),
  (52, 3, .iinc 4 1, 0, 0, 0, nI 1, []),
  (55, 3, .goto (-36), 14, 0, 0, nI 0, []),
  (58, 1, .aload_n 0, 0, 0, 0, nI 0, []),
  (59, 3, .getfield 24, 1, 7, 134, nI 0, []),
  (62, 1, .iconst 3, 0, 0, 0, nI 3, []),
  (63, 1, .dup2, 0, 0, 0, nI 0, []),
  (64, 1, .iaload, 0, 0, 0, nI 0, []),
  (65, 1, .iload_n 2, 0, 0, 0, nI 0, []),
  (66, 1, .iadd, 0, 0, 0, nI 0, []),
  (67, 1, .iastore, 0, 0, 0, nI 0, []),
  (68, 1, .aload_n 0, 0, 0, 0, nI 0, []),
  (69, 3, .getfield 24, 1, 7, 134, nI 0, []),
  (72, 1, .iconst 0, 0, 0, 0, nI 0, []),
  (73, 1, .dup2, 0, 0, 0, nI 0, []),
  (74, 1, .iaload, 0, 0, 0, nI 0, []),
  (75, 1, .aload_n 0, 0, 0, 0, nI 0, []),
  (76, 3, .getfield 38, 1, 1, 120, nI 0, []),
  (79, 3, .sipush 3000, 0, 0, 0, nI 3000, []),
  (82, 1, .imul, 0, 0, 0, nI 0, []),
  (83, 1, .iadd, 0, 0, 0, nI 0, []),
  (84, 1, .iastore, 0, 0, 0, nI 0, []),
  (85, 1, .iload_n 2, 0, 0, 0, nI 0, []),
  (86, 1, .ireturn, 0, 0, 0, nI 0, [])]
/- 31: LiningLog$Lining.layAllRings()I -/
def mj_c31 : List mj_E := [(0, 1, .iconst 0, 0, 0, 0, nI 0, []),
  (1, 1, .istore_n 1, 0, 0, 0, nI 0, []),
  (2, 1, .iconst 0, 0, 0, 0, nI 0, []),
  (3, 1, .istore_n 2, 0, 0, 0, nI 0, []),
  (4, 1, .iload_n 2, 0, 0, 0, nI 0, []),
  (5, 1, .aload_n 0, 0, 0, 0, nI 0, []),
  (6, 3, .getfield 34, 1, 0, 118, nI 0, []),
  (9, 3, .if_icmp .ge 17, 16, 0, 0, nI 0, []),
  (12, 1, .iload_n 1, 0, 0, 0, nI 0, []),
  (13, 1, .aload_n 0, 0, 0, 0, nI 0, []),
  (14, 1, .iload_n 2, 0, 0, 0, nI 0, []),
  (15, 3, .invokevirtual 118, 30, 2, 426, nI 0, [1]),
  (18, 1, .iadd, 0, 0, 0, nI 0, []),
  (19, 1, .istore_n 1, 0, 0, 0, nI 0, []),
  (20, 3, .iinc 2 1, 0, 0, 0, nI 1, []),
  (23, 3, .goto (-19), 4, 0, 0, nI 0, []),
  (26, 1, .aload_n 0, 0, 0, 0, nI 0, []),
  (27, 1, .dup, 0, 0, 0, nI 0, []),
  (28, 3, .getfield 53, 1, 10, 141, nI 0, []),
  (31, 1, .iconst 1, 0, 0, 0, nI 1, []),
  (32, 1, .iadd, 0, 0, 0, nI 0, []),
  (33, 3, .putfield 53, 1, 10, 141, nI 0, []),
  (36, 1, .aload_n 0, 0, 0, 0, nI 0, []),
  (37, 1, .iconst 0, 0, 0, 0, nI 0, []),
  (38, 3, .putfield 50, 1, 9, 139, nI 0, []),
  (41, 1, .aload_n 0, 0, 0, 0, nI 0, []),
  (42, 1, .iconst 0, 0, 0, 0, nI 0, []),
  (43, 3, .putfield 56, 1, 11, 143, nI 0, []),
  (46, 1, .iload_n 1, 0, 0, 0, nI 0, []),
  (47, 1, .ireturn, 0, 0, 0, nI 0, [])]
/- 32: LiningLog$Lining.heatsUntilOver(I)I -/
def mj_c32 : List mj_E := [(0, 1, .iconst 0, 0, 0, 0, nI 0, []),
  (1, 1, .istore_n 2, 0, 0, 0, nI 0, []),
  (2, 1, .iload_n 2, 0, 0, 0, nI 0, []),
  (3, 3, .sipush 300, 0, 0, 0, nI 300, []),
  (6, 3, .if_icmp .ge 24, 16, 0, 0, nI 0, []),
  (9, 1, .aload_n 0, 0, 0, 0, nI 0, []),
  (10, 3, .getfield 56, 1, 11, 143, nI 0, []),
  (13, 3, .ifCond .eq 5, 10, 0, 0, nI 0, []),
  (16, 1, .iload_n 2, 0, 0, 0, nI 0, []),
  (17, 1, .ireturn, 0, 0, 0, nI 0, []),
  (18, 1, .aload_n 0, 0, 0, 0, nI 0, []),
  (19, 1, .iload_n 1, 0, 0, 0, nI 0, []),
  (20, 3, .invokevirtual 121, 24, 2, 567, nI 0, [1]),
  (23, 1, .pop, 0, 0, 0, nI 0, []),
  (24, 3, .iinc 2 1, 0, 0, 0, nI 1, []),
  (27, 3, .goto (-25), 2, 0, 0, nI 0, []),
  (30, 1, .aload_n 0, 0, 0, 0, nI 0, []),
  (31, 3, .getfield 56, 1, 11, 143, nI 0, []),
  (34, 3, .ifCond .eq 9, 21, 0, 0, nI 0, []),
  (37, 3, .sipush 300, 0, 0, 0, nI 300, []),
  (40, 3, .goto 6, 22, 0, 0, nI 0, []),
  (43, 3, .sipush 301, 0, 0, 0, nI 301, []),
  (46, 1, .ireturn, 0, 0, 0, nI 0, [])]
/- 33: LiningLog$LogText.<init>()V -/
def mj_c33 : List mj_E := [(0, 1, .aload_n 0, 0, 0, 0, nI 0, []),
  (1, 3, .invokespecial 3, 999, 1, 236, nI 0, []),
  (4, 1, .aload_n 0, 0, 0, 0, nI 0, []),
  (5, 2, .bipush 100, 0, 0, 0, nI 100, []),
  (7, 2, .newarray .char, 14, 0, 0, nI 0, []),
  (9, 3, .putfield 9, 2, 0, 237, nI 0, []),
  (12, 1, .return_, 0, 0, 0, nI 0, [])]
/- 34: LiningLog$LogText.append(C)V -/
def mj_c34 : List mj_E := [(0, 1, .aload_n 0, 0, 0, 0, nI 0, []),
  (1, 3, .getfield 9, 2, 0, 237, nI 0, []),
  (4, 1, .aload_n 0, 0, 0, 0, nI 0, []),
  (5, 3, .getfield 15, 2, 1, 238, nI 0, []),
  (8, 1, .iload_n 1, 0, 0, 0, nI 0, []),
  (9, 1, .castore, 0, 0, 0, nI 0, []),
  (10, 1, .aload_n 0, 0, 0, 0, nI 0, []),
  (11, 1, .dup, 0, 0, 0, nI 0, []),
  (12, 3, .getfield 15, 2, 1, 238, nI 0, []),
  (15, 1, .iconst 1, 0, 0, 0, nI 1, []),
  (16, 1, .iadd, 0, 0, 0, nI 0, []),
  (17, 3, .putfield 15, 2, 1, 238, nI 0, []),
  (20, 1, .return_, 0, 0, 0, nI 0, [])]
/- 35: LiningLog$LogText.isAt(IC)Z -/
def mj_c35 : List mj_E := [(0, 1, .iload_n 1, 0, 0, 0, nI 0, []),
  (1, 1, .aload_n 0, 0, 0, 0, nI 0, []),
  (2, 3, .getfield 15, 2, 1, 238, nI 0, []),
  (5, 3, .if_icmp .ge 17, 12, 0, 0, nI 0, []),
  (8, 1, .aload_n 0, 0, 0, 0, nI 0, []),
  (9, 3, .getfield 9, 2, 0, 237, nI 0, []),
  (12, 1, .iload_n 1, 0, 0, 0, nI 0, []),
  (13, 1, .caload, 0, 0, 0, nI 0, []),
  (14, 1, .iload_n 2, 0, 0, 0, nI 0, []),
  (15, 3, .if_icmp .ne 7, 12, 0, 0, nI 0, []),
  (18, 1, .iconst 1, 0, 0, 0, nI 1, []),
  (19, 3, .goto 4, 13, 0, 0, nI 0, []),
  (22, 1, .iconst 0, 0, 0, 0, nI 0, []),
  (23, 1, .ireturn, 0, 1, 0, nI 0, [])]
/- 36: LiningLog$LogText.firstFault(LLiningLog$Lining;)I -/
def mj_c36 : List mj_E := [(0, 1, .iconst 0, 0, 0, 0, nI 0, []),
  (1, 1, .istore_n 2, 0, 0, 0, nI 0, []),
  (2, 1, .iconst 0, 0, 0, 0, nI 0, []),
  (3, 1, .istore_n 3, 0, 0, 0, nI 0, []),
  (4, 1, .iload_n 3, 0, 0, 0, nI 0, []),
  (5, 2, .bipush 100, 0, 0, 0, nI 100, []),
  (7, 3, .if_icmp .ge 40, 26, 0, 0, nI 0, []),
  (10, 1, .iload_n 2, 0, 0, 0, nI 0, []),
  (11, 1, .aload_n 0, 0, 0, 0, nI 0, []),
  (12, 3, .getfield 15, 2, 1, 238, nI 0, []),
  (15, 3, .if_icmp .ge 32, 26, 0, 0, nI 0, []),
  (18, 1, .aload_n 0, 0, 0, 0, nI 0, []),
  (19, 1, .iload_n 2, 0, 0, 0, nI 0, []),
  (20, 3, .invokevirtual 19, 37, 2, 605, nI 0, [2]),
  (23, 3, .ifCond .eq 11, 19, 0, 0, nI 0, []),
  (26, 1, .aload_n 0, 0, 0, 0, nI 0, []),
  (27, 1, .aload_n 1, 0, 0, 0, nI 0, []),
  (28, 3, .invokevirtual 23, 42, 2, 630, nI 0, [2]),
  (31, 3, .ifCond .ne 5, 21, 0, 0, nI 0, []),
  (34, 1, .iload_n 2, 0, 0, 0, nI 0, []),
  (35, 1, .ireturn, 0, 0, 0, nI 0, []),
  (36, 1, .aload_n 0, 0, 0, 0, nI 0, []),
  (37, 3, .getfield 27, 2, 5, 246, nI 0, []),
  (40, 1, .istore_n 2, 0, 0, 0, nI 0, []),
  (41, 3, .iinc 3 1, 0, 0, 0, nI 1, []),
  (44, 3, .goto (-40), 4, 0, 0, nI 0, []),
  (47, 2, .ldc 30, 0, 0, 638, (-1000004), []),
  (49, 1, .ireturn, 0, 0, 0, nI 0, [])]
/- 37: LiningLog$LogText.readLine(I)Z -/
def mj_c37 : List mj_E := [(0, 1, .aload_n 0, 0, 0, 0, nI 0, []),
  (1, 1, .aload_n 0, 0, 0, 0, nI 0, []),
  (2, 3, .getfield 9, 2, 0, 237, nI 0, []),
  (5, 1, .iload_n 1, 0, 0, 0, nI 0, []),
  (6, 1, .caload, 0, 0, 0, nI 0, []),
  (7, 3, .putfield 31, 2, 2, 240, nI 0, []),
  (10, 1, .aload_n 0, 0, 0, 0, nI 0, []),
  (11, 1, .iload_n 1, 0, 0, 0, nI 0, []),
  (12, 1, .iconst 1, 0, 0, 0, nI 1, []),
  (13, 1, .iadd, 0, 0, 0, nI 0, []),
  (14, 3, .putfield 27, 2, 5, 246, nI 0, []),
  (17, 1, .aload_n 0, 0, 0, 0, nI 0, []),
  (18, 3, .getfield 31, 2, 2, 240, nI 0, []),
  (21, 43, .lookupswitch 88 #[(103, 43), (104, 43), (114, 75), (115, 83)], 36, 0, 0, nI 0, [14, 14, 29, 33]),
  (64, 1, .aload_n 0, 0, 0, 0, nI 0, []),
  (65, 3, .invokevirtual 35, 39, 1, 609, nI 0, [2]),
  (68, 3, .ifCond .eq 23, 26, 0, 0, nI 0, []),
  (71, 1, .aload_n 0, 0, 0, 0, nI 0, []),
  (72, 2, .bipush 44, 0, 0, 0, nI 44, []),
  (74, 3, .invokevirtual 39, 38, 2, 618, nI 0, [2]),
  (77, 3, .ifCond .eq 14, 26, 0, 0, nI 0, []),
  (80, 1, .aload_n 0, 0, 0, 0, nI 0, []),
  (81, 3, .invokevirtual 43, 40, 1, 626, nI 0, [2]),
  (84, 3, .ifCond .eq 7, 26, 0, 0, nI 0, []),
  (87, 1, .iconst 1, 0, 0, 0, nI 1, []),
  (88, 3, .goto 4, 27, 0, 0, nI 0, []),
  (91, 1, .iconst 0, 0, 0, 0, nI 0, []),
  (92, 1, .istore_n 2, 0, 0, 0, nI 0, []),
  (93, 3, .goto 18, 38, 0, 0, nI 0, []),
  (96, 1, .aload_n 0, 0, 0, 0, nI 0, []),
  (97, 3, .invokevirtual 35, 39, 1, 609, nI 0, [2]),
  (100, 1, .istore_n 2, 0, 0, 0, nI 0, []),
  (101, 3, .goto 10, 38, 0, 0, nI 0, []),
  (104, 1, .iconst 1, 0, 0, 0, nI 1, []),
  (105, 1, .istore_n 2, 0, 0, 0, nI 0, []),
  (106, 3, .goto 5, 38, 0, 0, nI 0, []),
  (109, 1, .iconst 0, 0, 0, 0, nI 0, []),
  (110, 1, .istore_n 2, 0, 0, 0, nI 0, []),
  (111, 1, .iload_n 2, 0, 0, 0, nI 0, []),
  (112, 3, .ifCond .eq 16, 46, 0, 0, nI 0, []),
  (115, 1, .aload_n 0, 0, 0, 0, nI 0, []),
  (116, 2, .bipush 59, 0, 0, 0, nI 59, []),
  (118, 3, .invokevirtual 39, 38, 2, 618, nI 0, [2]),
  (121, 3, .ifCond .eq 7, 46, 0, 0, nI 0, []),
  (124, 1, .iconst 1, 0, 0, 0, nI 1, []),
  (125, 3, .goto 4, 47, 0, 0, nI 0, []),
  (128, 1, .iconst 0, 0, 0, 0, nI 0, []),
  (129, 1, .ireturn, 0, 1, 0, nI 0, [])]
/- 38: LiningLog$LogText.readSign(C)Z -/
def mj_c38 : List mj_E := [(0, 1, .aload_n 0, 0, 0, 0, nI 0, []),
  (1, 1, .aload_n 0, 0, 0, 0, nI 0, []),
  (2, 3, .getfield 27, 2, 5, 246, nI 0, []),
  (5, 1, .iload_n 1, 0, 0, 0, nI 0, []),
  (6, 3, .invokevirtual 46, 35, 3, 622, nI 0, [2]),
  (9, 3, .ifCond .ne 5, 8, 0, 0, nI 0, []),
  (12, 1, .iconst 0, 0, 0, 0, nI 0, []),
  (13, 1, .ireturn, 0, 1, 0, nI 0, []),
  (14, 1, .aload_n 0, 0, 0, 0, nI 0, []),
  (15, 1, .dup, 0, 0, 0, nI 0, []),
  (16, 3, .getfield 27, 2, 5, 246, nI 0, []),
  (19, 1, .iconst 1, 0, 0, 0, nI 1, []),
  (20, 1, .iadd, 0, 0, 0, nI 0, []),
  (21, 3, .putfield 27, 2, 5, 246, nI 0, []),
  (24, 1, .iconst 1, 0, 0, 0, nI 1, []),
  (25, 1, .ireturn, 0, 1, 0, nI 0, [])]
/- 39: LiningLog$LogText.readFirst()Z -/
def mj_c39 : List mj_E := [(0, 1, .aload_n 0, 0, 0, 0, nI 0, []),
  (1, 3, .getfield 27, 2, 5, 246, nI 0, []),
  (4, 1, .istore_n 1, 0, 0, 0, nI 0, []),
  (5, 1, .aload_n 0, 0, 0, 0, nI 0, []),
  (6, 1, .aload_n 0, 0, 0, 0, nI 0, []),
  (7, 3, .invokevirtual 50, 41, 1, 613, nI 0, [2]),
  (10, 3, .putfield 54, 2, 3, 242, nI 0, []),
  (13, 1, .aload_n 0, 0, 0, 0, nI 0, []),
  (14, 3, .getfield 27, 2, 5, 246, nI 0, []),
  (17, 1, .iload_n 1, 0, 0, 0, nI 0, []),
  (18, 3, .if_icmp .le 7, 13, 0, 0, nI 0, []),
  (21, 1, .iconst 1, 0, 0, 0, nI 1, []),
  (22, 3, .goto 4, 14, 0, 0, nI 0, []),
  (25, 1, .iconst 0, 0, 0, 0, nI 0, []),
  (26, 1, .ireturn, 0, 1, 0, nI 0, [])]
/- 40: LiningLog$LogText.readSecond()Z -/
def mj_c40 : List mj_E := [(0, 1, .aload_n 0, 0, 0, 0, nI 0, []),
  (1, 3, .getfield 27, 2, 5, 246, nI 0, []),
  (4, 1, .istore_n 1, 0, 0, 0, nI 0, []),
  (5, 1, .aload_n 0, 0, 0, 0, nI 0, []),
  (6, 1, .aload_n 0, 0, 0, 0, nI 0, []),
  (7, 3, .invokevirtual 50, 41, 1, 613, nI 0, [2]),
  (10, 3, .putfield 57, 2, 4, 244, nI 0, []),
  (13, 1, .aload_n 0, 0, 0, 0, nI 0, []),
  (14, 3, .getfield 27, 2, 5, 246, nI 0, []),
  (17, 1, .iload_n 1, 0, 0, 0, nI 0, []),
  (18, 3, .if_icmp .le 7, 13, 0, 0, nI 0, []),
  (21, 1, .iconst 1, 0, 0, 0, nI 1, []),
  (22, 3, .goto 4, 14, 0, 0, nI 0, []),
  (25, 1, .iconst 0, 0, 0, 0, nI 0, []),
  (26, 1, .ireturn, 0, 1, 0, nI 0, [])]
/- 41: LiningLog$LogText.readDigits()I -/
def mj_c41 : List mj_E := [(0, 1, .aload_n 0, 0, 0, 0, nI 0, []),
  (1, 3, .getfield 15, 2, 1, 238, nI 0, []),
  (4, 1, .aload_n 0, 0, 0, 0, nI 0, []),
  (5, 3, .getfield 27, 2, 5, 246, nI 0, []),
  (8, 1, .iconst 4, 0, 0, 0, nI 4, []),
  (9, 1, .iadd, 0, 0, 0, nI 0, []),
  (10, 3, .invokestatic 60, 149, 2, 617, nI 0, []),
  (13, 1, .istore_n 1, 0, 0, 0, nI 0, []),
  (14, 1, .iconst 0, 0, 0, 0, nI 0, []),
  (15, 1, .istore_n 2, 0, 0, 0, nI 0, []),
  (16, 1, .aload_n 0, 0, 0, 0, nI 0, []),
  (17, 3, .getfield 27, 2, 5, 246, nI 0, []),
  (20, 1, .iload_n 1, 0, 0, 0, nI 0, []),
  (21, 3, .if_icmp .ge 62, 47, 0, 0, nI 0, []),
  (24, 1, .aload_n 0, 0, 0, 0, nI 0, []),
  (25, 3, .getfield 9, 2, 0, 237, nI 0, []),
  (28, 1, .aload_n 0, 0, 0, 0, nI 0, []),
  (29, 3, .getfield 27, 2, 5, 246, nI 0, []),
  (32, 1, .caload, 0, 0, 0, nI 0, []),
  (33, 2, .bipush 48, 0, 0, 0, nI 48, []),
  (35, 3, .if_icmp .lt 48, 47, 0, 0, nI 0, []),
  (38, 1, .aload_n 0, 0, 0, 0, nI 0, []),
  (39, 3, .getfield 9, 2, 0, 237, nI 0, []),
  (42, 1, .aload_n 0, 0, 0, 0, nI 0, []),
  (43, 3, .getfield 27, 2, 5, 246, nI 0, []),
  (46, 1, .caload, 0, 0, 0, nI 0, []),
  (47, 2, .bipush 57, 0, 0, 0, nI 57, []),
  (49, 3, .if_icmp .gt 34, 47, 0, 0, nI 0, []),
  (52, 1, .iload_n 2, 0, 0, 0, nI 0, []),
  (53, 2, .bipush 10, 0, 0, 0, nI 10, []),
  (55, 1, .imul, 0, 0, 0, nI 0, []),
  (56, 1, .aload_n 0, 0, 0, 0, nI 0, []),
  (57, 3, .getfield 9, 2, 0, 237, nI 0, []),
  (60, 1, .aload_n 0, 0, 0, 0, nI 0, []),
  (61, 3, .getfield 27, 2, 5, 246, nI 0, []),
  (64, 1, .caload, 0, 0, 0, nI 0, []),
  (65, 2, .bipush 48, 0, 0, 0, nI 48, []),
  (67, 1, .isub, 0, 0, 0, nI 0, []),
  (68, 1, .iadd, 0, 0, 0, nI 0, []),
  (69, 1, .istore_n 2, 0, 0, 0, nI 0, []),
  (70, 1, .aload_n 0, 0, 0, 0, nI 0, []),
  (71, 1, .dup, 0, 0, 0, nI 0, []),
  (72, 3, .getfield 27, 2, 5, 246, nI 0, []),
  (75, 1, .iconst 1, 0, 0, 0, nI 1, []),
  (76, 1, .iadd, 0, 0, 0, nI 0, []),
  (77, 3, .putfield 27, 2, 5, 246, nI 0, []),
  (80, 3, .goto (-64), 10, 0, 0, nI 0, []),
  (83, 1, .iload_n 2, 0, 0, 0, nI 0, []),
  (84, 1, .ireturn, 0, 0, 0, nI 0, [])]
/- 42: LiningLog$LogText.isInRange(LLiningLog$Lining;)Z -/
def mj_c42 : List mj_E := [(0, 1, .aload_n 0, 0, 0, 0, nI 0, []),
  (1, 3, .getfield 31, 2, 2, 240, nI 0, []),
  (4, 36, .lookupswitch 84 #[(103, 48), (104, 36), (114, 75)], 27, 0, 0, nI 0, [9, 3, 22]),
  (40, 1, .aload_n 0, 0, 0, 0, nI 0, []),
  (41, 3, .getfield 54, 2, 3, 242, nI 0, []),
  (44, 1, .aload_n 0, 0, 0, 0, nI 0, []),
  (45, 3, .getfield 57, 2, 4, 244, nI 0, []),
  (48, 3, .invokestatic 66, 87, 2, 634, nI 0, []),
  (51, 1, .ireturn, 0, 1, 0, nI 0, []),
  (52, 1, .aload_n 1, 0, 0, 0, nI 0, []),
  (53, 1, .aload_n 0, 0, 0, 0, nI 0, []),
  (54, 3, .getfield 54, 2, 3, 242, nI 0, []),
  (57, 3, .invokevirtual 70, 7, 2, 635, nI 0, [1]),
  (60, 3, .ifCond .eq 17, 20, 0, 0, nI 0, []),
  (63, 1, .aload_n 0, 0, 0, 0, nI 0, []),
  (64, 3, .getfield 57, 2, 4, 244, nI 0, []),
  (67, 3, .invokestatic 75, 88, 1, 636, nI 0, []),
  (70, 3, .ifCond .eq 7, 20, 0, 0, nI 0, []),
  (73, 1, .iconst 1, 0, 0, 0, nI 1, []),
  (74, 3, .goto 4, 21, 0, 0, nI 0, []),
  (77, 1, .iconst 0, 0, 0, 0, nI 0, []),
  (78, 1, .ireturn, 0, 1, 0, nI 0, []),
  (79, 1, .aload_n 1, 0, 0, 0, nI 0, []),
  (80, 1, .aload_n 0, 0, 0, 0, nI 0, []),
  (81, 3, .getfield 54, 2, 3, 242, nI 0, []),
  (84, 3, .invokevirtual 78, 6, 2, 637, nI 0, [1]),
  (87, 1, .ireturn, 0, 1, 0, nI 0, []),
  (88, 1, .iconst 1, 0, 0, 0, nI 1, []),
  (89, 1, .ireturn, 0, 1, 0, nI 0, [])]
/- 43: LiningLog$Scan.<init>()V -/
def mj_c43 : List mj_E := [(0, 1, .aload_n 0, 0, 0, 0, nI 0, []),
  (1, 3, .invokespecial 3, 999, 1, 180, nI 0, []),
  (4, 1, .aload_n 0, 0, 0, 0, nI 0, []),
  (5, 2, .bipush 60, 0, 0, 0, nI 60, []),
  (7, 2, .newarray .int, 15, 0, 0, nI 0, []),
  (9, 3, .putfield 9, 3, 0, 181, nI 0, []),
  (12, 1, .aload_n 0, 0, 0, 0, nI 0, []),
  (13, 2, .bipush 60, 0, 0, 0, nI 60, []),
  (15, 2, .newarray .int, 16, 0, 0, nI 0, []),
  (17, 3, .putfield 15, 3, 1, 183, nI 0, []),
  (20, 1, .return_, 0, 0, 0, nI 0, [])]
/- 44: LiningLog$Scan.take(LLiningLog$Lining;)V -/
def mj_c44 : List mj_E := [(0, 1, .iconst 0, 0, 0, 0, nI 0, []),
  (1, 1, .istore_n 2, 0, 0, 0, nI 0, []),
  (2, 1, .iload_n 2, 0, 0, 0, nI 0, []),
  (3, 1, .aload_n 1, 0, 0, 0, nI 0, []),
  (4, 3, .getfield 18, 1, 2, 122, nI 0, []),
  (7, 3, .if_icmp .ge 31, 22, 0, 0, nI 0, []),
  (10, 1, .aload_n 0, 0, 0, 0, nI 0, []),
  (11, 3, .getfield 9, 3, 0, 181, nI 0, []),
  (14, 1, .iload_n 2, 0, 0, 0, nI 0, []),
  (15, 1, .aload_n 1, 0, 0, 0, nI 0, []),
  (16, 1, .iload_n 2, 0, 0, 0, nI 0, []),
  (17, 3, .invokevirtual 24, 18, 2, 447, nI 0, [1]),
  (20, 1, .iastore, 0, 0, 0, nI 0, []),
  (21, 1, .aload_n 0, 0, 0, 0, nI 0, []),
  (22, 3, .getfield 15, 3, 1, 183, nI 0, []),
  (25, 1, .iload_n 2, 0, 0, 0, nI 0, []),
  (26, 1, .aload_n 1, 0, 0, 0, nI 0, []),
  (27, 1, .iload_n 2, 0, 0, 0, nI 0, []),
  (28, 3, .invokevirtual 28, 13, 2, 448, nI 0, [1]),
  (31, 1, .iastore, 0, 0, 0, nI 0, []),
  (32, 3, .iinc 2 1, 0, 0, 0, nI 1, []),
  (35, 3, .goto (-33), 2, 0, 0, nI 0, []),
  (38, 1, .aload_n 0, 0, 0, 0, nI 0, []),
  (39, 1, .aload_n 1, 0, 0, 0, nI 0, []),
  (40, 3, .getfield 31, 1, 8, 136, nI 0, []),
  (43, 3, .putfield 34, 3, 2, 186, nI 0, []),
  (46, 1, .return_, 0, 0, 0, nI 0, [])]
/- 45: LiningLog$Scan.copyFrom(LLiningLog$Scan;)V -/
def mj_c45 : List mj_E := [(0, 1, .aload_n 1, 0, 0, 0, nI 0, []),
  (1, 3, .getfield 9, 3, 0, 181, nI 0, []),
  (4, 1, .iconst 0, 0, 0, 0, nI 0, []),
  (5, 1, .aload_n 0, 0, 0, 0, nI 0, []),
  (6, 3, .getfield 9, 3, 0, 181, nI 0, []),
  (9, 1, .iconst 0, 0, 0, 0, nI 0, []),
  (10, 2, .bipush 60, 0, 0, 0, nI 60, []),
  (12, 3, .invokestatic 35, 998, 5, 305, nI 0, []),
  (15, 1, .aload_n 1, 0, 0, 0, nI 0, []),
  (16, 3, .getfield 15, 3, 1, 183, nI 0, []),
  (19, 1, .iconst 0, 0, 0, 0, nI 0, []),
  (20, 1, .aload_n 0, 0, 0, 0, nI 0, []),
  (21, 3, .getfield 15, 3, 1, 183, nI 0, []),
  (24, 1, .iconst 0, 0, 0, 0, nI 0, []),
  (25, 2, .bipush 60, 0, 0, 0, nI 60, []),
  (27, 3, .invokestatic 35, 998, 5, 305, nI 0, []),
  (30, 1, .aload_n 0, 0, 0, 0, nI 0, []),
  (31, 1, .aload_n 1, 0, 0, 0, nI 0, []),
  (32, 3, .getfield 34, 3, 2, 186, nI 0, []),
  (35, 3, .putfield 34, 3, 2, 186, nI 0, []),
  (38, 1, .return_, 0, 0, 0, nI 0, [])]
/- 46: LiningLog$Scan.isHot(ILLiningLog$Lining;)Z -/
def mj_c46 : List mj_E := [(0, 1, .aload_n 0, 0, 0, 0, nI 0, []),
  (1, 3, .getfield 9, 3, 0, 181, nI 0, []),
  (4, 1, .iload_n 1, 0, 0, 0, nI 0, []),
  (5, 1, .iaload, 0, 0, 0, nI 0, []),
  (6, 1, .aload_n 2, 0, 0, 0, nI 0, []),
  (7, 3, .getfield 41, 1, 6, 132, nI 0, []),
  (10, 1, .iconst 3, 0, 0, 0, nI 3, []),
  (11, 1, .iaload, 0, 0, 0, nI 0, []),
  (12, 3, .if_icmp .lt 7, 11, 0, 0, nI 0, []),
  (15, 1, .iconst 1, 0, 0, 0, nI 1, []),
  (16, 3, .goto 4, 12, 0, 0, nI 0, []),
  (19, 1, .iconst 0, 0, 0, 0, nI 0, []),
  (20, 1, .ireturn, 0, 1, 0, nI 0, [])]
/- 47: LiningLog$Scan.isPeak(ILLiningLog$Lining;)Z -/
def mj_c47 : List mj_E := [(0, 1, .aload_n 0, 0, 0, 0, nI 0, []),
  (1, 1, .iload_n 1, 0, 0, 0, nI 0, []),
  (2, 1, .aload_n 2, 0, 0, 0, nI 0, []),
  (3, 3, .invokevirtual 44, 46, 3, 453, nI 0, [3]),
  (6, 3, .ifCond .ne 5, 7, 0, 0, nI 0, []),
  (9, 1, .iconst 0, 0, 0, 0, nI 0, []),
  (10, 1, .ireturn, 0, 1, 0, nI 0, []),
  (11, 1, .aload_n 2, 0, 0, 0, nI 0, []),
  (12, 1, .iload_n 1, 0, 0, 0, nI 0, []),
  (13, 3, .invokevirtual 48, 9, 2, 526, nI 0, [1]),
  (16, 1, .istore_n 3, 0, 0, 0, nI 0, []),
  (17, 1, .iconst 0, 0, 0, 0, nI 0, []),
  (18, 2, .istore 4, 0, 0, 0, nI 0, []),
  (20, 2, .iload 4, 0, 0, 0, nI 0, []),
  (22, 1, .iload_n 3, 0, 0, 0, nI 0, []),
  (23, 3, .if_icmp .ge 52, 42, 0, 0, nI 0, []),
  (26, 1, .aload_n 2, 0, 0, 0, nI 0, []),
  (27, 1, .iload_n 1, 0, 0, 0, nI 0, []),
  (28, 2, .iload 4, 0, 0, 0, nI 0, []),
  (30, 3, .invokevirtual 51, 10, 3, 527, nI 0, [1]),
  (33, 2, .istore 5, 0, 0, 0, nI 0, []),
  (35, 1, .aload_n 0, 0, 0, 0, nI 0, []),
  (36, 3, .getfield 9, 3, 0, 181, nI 0, []),
  (39, 2, .iload 5, 0, 0, 0, nI 0, []),
  (41, 1, .iaload, 0, 0, 0, nI 0, []),
  (42, 1, .aload_n 0, 0, 0, 0, nI 0, []),
  (43, 3, .getfield 9, 3, 0, 181, nI 0, []),
  (46, 1, .iload_n 1, 0, 0, 0, nI 0, []),
  (47, 1, .iaload, 0, 0, 0, nI 0, []),
  (48, 1, .isub, 0, 0, 0, nI 0, []),
  (49, 2, .istore 6, 0, 0, 0, nI 0, []),
  (51, 2, .iload 6, 0, 0, 0, nI 0, []),
  (53, 3, .ifCond .gt 14, 38, 0, 0, nI 0, []),
  (56, 2, .iload 6, 0, 0, 0, nI 0, []),
  (58, 3, .ifCond .ne 11, 40, 0, 0, nI 0, []),
  (61, 2, .iload 5, 0, 0, 0, nI 0, []),
  (63, 1, .iload_n 1, 0, 0, 0, nI 0, []),
  (64, 3, .if_icmp .ge 5, 40, 0, 0, nI 0, []),
  (67, 1, .iconst 0, 0, 0, 0, nI 0, []),
  (68, 1, .ireturn, 0, 1, 0, nI 0, []),
  (69, 3, .iinc 4 1, 0, 0, 0, nI 1, []),
  (72, 3, .goto (-52), 13, 0, 0, nI 0, []),
  (75, 1, .iconst 1, 0, 0, 0, nI 1, []),
  (76, 1, .ireturn, 0, 1, 0, nI 0, [])]
/- 48: LiningLog$Scan.hotSpots(LLiningLog$Lining;)I -/
def mj_c48 : List mj_E := [(0, 1, .iconst 0, 0, 0, 0, nI 0, []),
  (1, 1, .istore_n 2, 0, 0, 0, nI 0, []),
  (2, 1, .iconst 0, 0, 0, 0, nI 0, []),
  (3, 1, .istore_n 3, 0, 0, 0, nI 0, []),
  (4, 1, .iload_n 3, 0, 0, 0, nI 0, []),
  (5, 1, .aload_n 1, 0, 0, 0, nI 0, []),
  (6, 3, .getfield 18, 1, 2, 122, nI 0, []),
  (9, 3, .if_icmp .ge 21, 16, 0, 0, nI 0, []),
  (12, 1, .aload_n 0, 0, 0, 0, nI 0, []),
  (13, 1, .iload_n 3, 0, 0, 0, nI 0, []),
  (14, 1, .aload_n 1, 0, 0, 0, nI 0, []),
  (15, 3, .invokevirtual 44, 46, 3, 453, nI 0, [3]),
  (18, 3, .ifCond .eq 6, 14, 0, 0, nI 0, []),
  (21, 3, .iinc 2 1, 0, 0, 0, nI 1, []),
  (24, 3, .iinc 3 1, 0, 0, 0, nI 1, []),
  (27, 3, .goto (-23), 4, 0, 0, nI 0, []),
  (30, 1, .iload_n 2, 0, 0, 0, nI 0, []),
  (31, 1, .ireturn, 0, 0, 0, nI 0, [])]
/- 49: LiningLog$Scan.peakSpots(LLiningLog$Lining;)I -/
def mj_c49 : List mj_E := [(0, 1, .iconst 0, 0, 0, 0, nI 0, []),
  (1, 1, .istore_n 2, 0, 0, 0, nI 0, []),
  (2, 1, .iconst 0, 0, 0, 0, nI 0, []),
  (3, 1, .istore_n 3, 0, 0, 0, nI 0, []),
  (4, 1, .iload_n 3, 0, 0, 0, nI 0, []),
  (5, 1, .aload_n 1, 0, 0, 0, nI 0, []),
  (6, 3, .getfield 18, 1, 2, 122, nI 0, []),
  (9, 3, .if_icmp .ge 21, 16, 0, 0, nI 0, []),
  (12, 1, .aload_n 0, 0, 0, 0, nI 0, []),
  (13, 1, .iload_n 3, 0, 0, 0, nI 0, []),
  (14, 1, .aload_n 1, 0, 0, 0, nI 0, []),
  (15, 3, .invokevirtual 55, 47, 3, 536, nI 0, [3]),
  (18, 3, .ifCond .eq 6, 14, 0, 0, nI 0, []),
  (21, 3, .iinc 2 1, 0, 0, 0, nI 1, []),
  (24, 3, .iinc 3 1, 0, 0, 0, nI 1, []),
  (27, 3, .goto (-23), 4, 0, 0, nI 0, []),
  (30, 1, .iload_n 2, 0, 0, 0, nI 0, []),
  (31, 1, .ireturn, 0, 0, 0, nI 0, [])]
/- 50: LiningLog$State.<init>()V -/
def mj_c50 : List mj_E := [(0, 1, .aload_n 0, 0, 0, 0, nI 0, []),
  (1, 3, .invokespecial 3, 999, 1, 105, nI 0, []),
  (4, 1, .aload_n 0, 0, 0, 0, nI 0, []),
  (5, 3, .new 9, 1, 0, 106, nI 0, []),
  (8, 1, .dup, 0, 0, 0, nI 0, []),
  (9, 3, .invokespecial 11, 3, 1, 108, nI 0, [1]),
  (12, 3, .putfield 12, 4, 0, 196, nI 0, []),
  (15, 1, .aload_n 0, 0, 0, 0, nI 0, []),
  (16, 1, .iconst 4, 0, 0, 0, nI 4, []),
  (17, 3, .anewarray 18, 17, 0, 174, nI 0, []),
  (20, 3, .putfield 20, 4, 1, 198, nI 0, []),
  (23, 1, .iconst 0, 0, 0, 0, nI 0, []),
  (24, 1, .istore_n 1, 0, 0, 0, nI 0, []),
  (25, 1, .iload_n 1, 0, 0, 0, nI 0, []),
  (26, 1, .iconst 4, 0, 0, 0, nI 4, []),
  (27, 3, .if_icmp .ge 22, 25, 0, 0, nI 0, []),
  (30, 1, .aload_n 0, 0, 0, 0, nI 0, []),
  (31, 3, .getfield 20, 4, 1, 198, nI 0, []),
  (34, 1, .iload_n 1, 0, 0, 0, nI 0, []),
  (35, 3, .new 18, 3, 0, 174, nI 0, []),
  (38, 1, .dup, 0, 0, 0, nI 0, []),
  (39, 3, .invokespecial 24, 43, 1, 177, nI 0, [3]),
  (42, 1, .aastore, 0, 0, 0, nI 0, []),
  (43, 3, .iinc 1 1, 0, 0, 0, nI 1, []),
  (46, 3, .goto (-21), 13, 0, 0, nI 0, []),
  (49, 1, .return_, 0, 0, 0, nI 0, [])]
/- 51: LiningLog$State.startAnew(II)V -/
def mj_c51 : List mj_E := [(0, 1, .aload_n 0, 0, 0, 0, nI 0, []),
  (1, 3, .getfield 12, 4, 0, 196, nI 0, []),
  (4, 1, .iload_n 1, 0, 0, 0, nI 0, []),
  (5, 1, .iload_n 2, 0, 0, 0, nI 0, []),
  (6, 3, .invokevirtual 25, 4, 3, 310, nI 0, [1]),
  (9, 1, .aload_n 0, 0, 0, 0, nI 0, []),
  (10, 1, .iconst 0, 0, 0, 0, nI 0, []),
  (11, 3, .putfield 29, 4, 2, 200, nI 0, []),
  (14, 1, .return_, 0, 0, 0, nI 0, [])]
/- 52: LiningLog$State.copyFrom(LLiningLog$State;)V -/
def mj_c52 : List mj_E := [(0, 1, .aload_n 0, 0, 0, 0, nI 0, []),
  (1, 3, .getfield 12, 4, 0, 196, nI 0, []),
  (4, 1, .aload_n 1, 0, 0, 0, nI 0, []),
  (5, 3, .getfield 12, 4, 0, 196, nI 0, []),
  (8, 3, .invokevirtual 33, 5, 2, 294, nI 0, [1]),
  (11, 1, .aload_n 0, 0, 0, 0, nI 0, []),
  (12, 1, .aload_n 1, 0, 0, 0, nI 0, []),
  (13, 3, .getfield 29, 4, 2, 200, nI 0, []),
  (16, 3, .putfield 29, 4, 2, 200, nI 0, []),
  (19, 1, .iconst 0, 0, 0, 0, nI 0, []),
  (20, 1, .istore_n 2, 0, 0, 0, nI 0, []),
  (21, 1, .iload_n 2, 0, 0, 0, nI 0, []),
  (22, 1, .aload_n 0, 0, 0, 0, nI 0, []),
  (23, 3, .getfield 29, 4, 2, 200, nI 0, []),
  (26, 3, .if_icmp .ge 24, 26, 0, 0, nI 0, []),
  (29, 1, .aload_n 0, 0, 0, 0, nI 0, []),
  (30, 3, .getfield 20, 4, 1, 198, nI 0, []),
  (33, 1, .iload_n 2, 0, 0, 0, nI 0, []),
  (34, 1, .aaload, 0, 0, 0, nI 0, []),
  (35, 1, .aload_n 1, 0, 0, 0, nI 0, []),
  (36, 3, .getfield 20, 4, 1, 198, nI 0, []),
  (39, 1, .iload_n 2, 0, 0, 0, nI 0, []),
  (40, 1, .aaload, 0, 0, 0, nI 0, []),
  (41, 3, .invokevirtual 37, 45, 2, 301, nI 0, [3]),
  (44, 3, .iinc 2 1, 0, 0, 0, nI 1, []),
  (47, 3, .goto (-26), 11, 0, 0, nI 0, []),
  (50, 1, .return_, 0, 0, 0, nI 0, [])]
/- 53: LiningLog$State.hasScan(I)Z -/
def mj_c53 : List mj_E := [(0, 1, .iload_n 1, 0, 0, 0, nI 0, []),
  (1, 1, .iconst 0, 0, 0, 0, nI 0, []),
  (2, 1, .aload_n 0, 0, 0, 0, nI 0, []),
  (3, 3, .getfield 29, 4, 2, 200, nI 0, []),
  (6, 1, .iconst 1, 0, 0, 0, nI 1, []),
  (7, 1, .isub, 0, 0, 0, nI 0, []),
  (8, 3, .invokestatic 40, 86, 3, 520, nI 0, []),
  (11, 1, .ireturn, 0, 1, 0, nI 0, [])]
/- 54: LiningLog$State.takeScan()LLiningLog$Scan; -/
def mj_c54 : List mj_E := [(0, 1, .aload_n 0, 0, 0, 0, nI 0, []),
  (1, 3, .getfield 29, 4, 2, 200, nI 0, []),
  (4, 1, .iconst 4, 0, 0, 0, nI 4, []),
  (5, 3, .if_icmp .ne 7, 6, 0, 0, nI 0, []),
  (8, 1, .aload_n 0, 0, 0, 0, nI 0, []),
  (9, 3, .invokevirtual 44, 55, 1, 439, nI 0, [4]),
  (12, 1, .aload_n 0, 0, 0, 0, nI 0, []),
  (13, 3, .getfield 20, 4, 1, 198, nI 0, []),
  (16, 1, .aload_n 0, 0, 0, 0, nI 0, []),
  (17, 3, .getfield 29, 4, 2, 200, nI 0, []),
  (20, 1, .aaload, 0, 0, 0, nI 0, []),
  (21, 1, .astore_n 1, 0, 0, 0, nI 0, []),
  (22, 1, .aload_n 1, 0, 0, 0, nI 0, []),
  (23, 1, .aload_n 0, 0, 0, 0, nI 0, []),
  (24, 3, .getfield 12, 4, 0, 196, nI 0, []),
  (27, 3, .invokevirtual 47, 44, 2, 443, nI 0, [3]),
  (30, 1, .aload_n 0, 0, 0, 0, nI 0, []),
  (31, 1, .dup, 0, 0, 0, nI 0, []),
  (32, 3, .getfield 29, 4, 2, 200, nI 0, []),
  (35, 1, .iconst 1, 0, 0, 0, nI 1, []),
  (36, 1, .iadd, 0, 0, 0, nI 0, []),
  (37, 3, .putfield 29, 4, 2, 200, nI 0, []),
  (40, 1, .aload_n 1, 0, 0, 0, nI 0, []),
  (41, 1, .areturn, 0, 0, 0, nI 0, [])]
/- 55: LiningLog$State.dropOldestScan()V -/
def mj_c55 : List mj_E := [(0, 1, .aload_n 0, 0, 0, 0, nI 0, []),
  (1, 3, .getfield 20, 4, 1, 198, nI 0, []),
  (4, 1, .iconst 0, 0, 0, 0, nI 0, []),
  (5, 1, .aaload, 0, 0, 0, nI 0, []),
  (6, 1, .astore_n 1, 0, 0, 0, nI 0, []),
  (7, 1, .iconst 1, 0, 0, 0, nI 1, []),
  (8, 1, .istore_n 2, 0, 0, 0, nI 0, []),
  (9, 1, .iload_n 2, 0, 0, 0, nI 0, []),
  (10, 1, .iconst 4, 0, 0, 0, nI 4, []),
  (11, 3, .if_icmp .ge 23, 22, 0, 0, nI 0, []),
  (14, 1, .aload_n 0, 0, 0, 0, nI 0, []),
  (15, 3, .getfield 20, 4, 1, 198, nI 0, []),
  (18, 1, .iload_n 2, 0, 0, 0, nI 0, []),
  (19, 1, .iconst 1, 0, 0, 0, nI 1, []),
  (20, 1, .isub, 0, 0, 0, nI 0, []),
  (21, 1, .aload_n 0, 0, 0, 0, nI 0, []),
  (22, 3, .getfield 20, 4, 1, 198, nI 0, []),
  (25, 1, .iload_n 2, 0, 0, 0, nI 0, []),
  (26, 1, .aaload, 0, 0, 0, nI 0, []),
  (27, 1, .aastore, 0, 0, 0, nI 0, []),
  (28, 3, .iinc 2 1, 0, 0, 0, nI 1, []),
  (31, 3, .goto (-22), 7, 0, 0, nI 0, []),
  (34, 1, .aload_n 0, 0, 0, 0, nI 0, []),
  (35, 3, .getfield 20, 4, 1, 198, nI 0, []),
  (38, 1, .iconst 3, 0, 0, 0, nI 3, []),
  (39, 1, .aload_n 1, 0, 0, 0, nI 0, []),
  (40, 1, .aastore, 0, 0, 0, nI 0, []),
  (41, 1, .aload_n 0, 0, 0, 0, nI 0, []),
  (42, 1, .dup, 0, 0, 0, nI 0, []),
  (43, 3, .getfield 29, 4, 2, 200, nI 0, []),
  (46, 1, .iconst 1, 0, 0, 0, nI 1, []),
  (47, 1, .isub, 0, 0, 0, nI 0, []),
  (48, 3, .putfield 29, 4, 2, 200, nI 0, []),
  (51, 1, .return_, 0, 0, 0, nI 0, [])]
/- 56: LiningLog$State.heatsBetweenLatestScans()I -/
def mj_c56 : List mj_E := [(0, 1, .aload_n 0, 0, 0, 0, nI 0, []),
  (1, 3, .getfield 20, 4, 1, 198, nI 0, []),
  (4, 1, .aload_n 0, 0, 0, 0, nI 0, []),
  (5, 3, .getfield 29, 4, 2, 200, nI 0, []),
  (8, 1, .iconst 1, 0, 0, 0, nI 1, []),
  (9, 1, .isub, 0, 0, 0, nI 0, []),
  (10, 1, .aaload, 0, 0, 0, nI 0, []),
  (11, 3, .getfield 50, 3, 2, 187, nI 0, []),
  (14, 1, .aload_n 0, 0, 0, 0, nI 0, []),
  (15, 3, .getfield 20, 4, 1, 198, nI 0, []),
  (18, 1, .aload_n 0, 0, 0, 0, nI 0, []),
  (19, 3, .getfield 29, 4, 2, 200, nI 0, []),
  (22, 1, .iconst 2, 0, 0, 0, nI 2, []),
  (23, 1, .isub, 0, 0, 0, nI 0, []),
  (24, 1, .aaload, 0, 0, 0, nI 0, []),
  (25, 3, .getfield 50, 3, 2, 187, nI 0, []),
  (28, 1, .isub, 0, 0, 0, nI 0, []),
  (29, 1, .ireturn, 0, 0, 0, nI 0, [])]
/- 57: LiningLog$State.trendIsKnown()Z -/
def mj_c57 : List mj_E := [(0, 1, .aload_n 0, 0, 0, 0, nI 0, []),
  (1, 3, .getfield 29, 4, 2, 200, nI 0, []),
  (4, 1, .iconst 2, 0, 0, 0, nI 2, []),
  (5, 3, .if_icmp .lt 14, 9, 0, 0, nI 0, []),
  (8, 1, .aload_n 0, 0, 0, 0, nI 0, []),
  (9, 3, .invokevirtual 53, 56, 1, 545, nI 0, [4]),
  (12, 3, .ifCond .eq 7, 9, 0, 0, nI 0, []),
  (15, 1, .iconst 1, 0, 0, 0, nI 1, []),
  (16, 3, .goto 4, 10, 0, 0, nI 0, []),
  (19, 1, .iconst 0, 0, 0, 0, nI 0, []),
  (20, 1, .ireturn, 0, 1, 0, nI 0, [])]
/- 58: LiningLog$State.trendOf(I)I -/
def mj_c58 : List mj_E := [(0, 1, .aload_n 0, 0, 0, 0, nI 0, []),
  (1, 3, .getfield 20, 4, 1, 198, nI 0, []),
  (4, 1, .aload_n 0, 0, 0, 0, nI 0, []),
  (5, 3, .getfield 29, 4, 2, 200, nI 0, []),
  (8, 1, .iconst 2, 0, 0, 0, nI 2, []),
  (9, 1, .isub, 0, 0, 0, nI 0, []),
  (10, 1, .aaload, 0, 0, 0, nI 0, []),
  (11, 3, .getfield 57, 3, 1, 184, nI 0, []),
  (14, 1, .iload_n 1, 0, 0, 0, nI 0, []),
  (15, 1, .iaload, 0, 0, 0, nI 0, []),
  (16, 1, .istore_n 2, 0, 0, 0, nI 0, []),
  (17, 1, .aload_n 0, 0, 0, 0, nI 0, []),
  (18, 3, .getfield 20, 4, 1, 198, nI 0, []),
  (21, 1, .aload_n 0, 0, 0, 0, nI 0, []),
  (22, 3, .getfield 29, 4, 2, 200, nI 0, []),
  (25, 1, .iconst 1, 0, 0, 0, nI 1, []),
  (26, 1, .isub, 0, 0, 0, nI 0, []),
  (27, 1, .aaload, 0, 0, 0, nI 0, []),
  (28, 3, .getfield 57, 3, 1, 184, nI 0, []),
  (31, 1, .iload_n 1, 0, 0, 0, nI 0, []),
  (32, 1, .iaload, 0, 0, 0, nI 0, []),
  (33, 1, .istore_n 3, 0, 0, 0, nI 0, []),
  (34, 1, .iload_n 2, 0, 0, 0, nI 0, []),
  (35, 1, .iload_n 3, 0, 0, 0, nI 0, []),
  (36, 1, .isub, 0, 0, 0, nI 0, []),
  (37, 2, .bipush 100, 0, 0, 0, nI 100, []),
  (39, 1, .imul, 0, 0, 0, nI 0, []),
  (40, 1, .aload_n 0, 0, 0, 0, nI 0, []),
  (41, 3, .invokevirtual 53, 56, 1, 545, nI 0, [4]),
  (44, 3, .invokestatic 61, 147, 2, 553, nI 0, []),
  (47, 1, .ireturn, 0, 0, 0, nI 0, [])]
/- 59: LiningLog.<init>()V -/
def mj_c59 : List mj_E := [(0, 1, .aload_n 0, 0, 0, 0, nI 0, []),
  (1, 3, .invokespecial 3, 999, 1, 97, nI 0, []),
  (4, 1, .aload_n 0, 0, 0, 0, nI 0, []),
  (5, 3, .new 9, 4, 0, 100, nI 0, []),
  (8, 1, .dup, 0, 0, 0, nI 0, []),
  (9, 3, .invokespecial 11, 50, 1, 102, nI 0, [4]),
  (12, 3, .putfield 12, 5, 0, 262, nI 0, []),
  (15, 1, .aload_n 0, 0, 0, 0, nI 0, []),
  (16, 3, .new 16, 1, 0, 209, nI 0, []),
  (19, 1, .dup, 0, 0, 0, nI 0, []),
  (20, 3, .invokespecial 18, 3, 1, 210, nI 0, [1]),
  (23, 3, .putfield 19, 5, 1, 263, nI 0, []),
  (26, 1, .aload_n 0, 0, 0, 0, nI 0, []),
  (27, 3, .new 23, 0, 0, 211, nI 0, []),
  (30, 1, .dup, 0, 0, 0, nI 0, []),
  (31, 3, .invokespecial 25, 0, 1, 213, nI 0, [0]),
  (34, 3, .putfield 26, 5, 2, 264, nI 0, []),
  (37, 1, .aload_n 0, 0, 0, 0, nI 0, []),
  (38, 3, .new 30, 2, 0, 231, nI 0, []),
  (41, 1, .dup, 0, 0, 0, nI 0, []),
  (42, 3, .invokespecial 32, 33, 1, 233, nI 0, [2]),
  (45, 3, .putfield 33, 5, 3, 265, nI 0, []),
  (48, 1, .aload_n 0, 0, 0, 0, nI 0, []),
  (49, 1, .iconst 0, 0, 0, 0, nI 0, []),
  (50, 3, .putfield 37, 5, 4, 266, nI 0, []),
  (53, 1, .return_, 0, 0, 0, nI 0, [])]
/- 60: LiningLog.begin(II)I -/
def mj_c60 : List mj_E := [(0, 1, .iload_n 1, 0, 0, 0, nI 0, []),
  (1, 1, .iconst 1, 0, 0, 0, nI 1, []),
  (2, 2, .bipush 6, 0, 0, 0, nI 6, []),
  (4, 3, .invokestatic 41, 86, 3, 282, nI 0, []),
  (7, 3, .ifCond .eq 13, 10, 0, 0, nI 0, []),
  (10, 1, .iload_n 2, 0, 0, 0, nI 0, []),
  (11, 1, .iconst 3, 0, 0, 0, nI 3, []),
  (12, 2, .bipush 10, 0, 0, 0, nI 10, []),
  (14, 3, .invokestatic 41, 86, 3, 282, nI 0, []),
  (17, 3, .ifCond .ne 6, 12, 0, 0, nI 0, []),
  (20, 2, .ldc 45, 0, 0, 285, (-1000001), []),
  (22, 1, .ireturn, 0, 0, 0, nI 0, []),
  (23, 1, .aload_n 0, 0, 0, 0, nI 0, []),
  (24, 3, .getfield 26, 5, 2, 264, nI 0, []),
  (27, 1, .aload_n 0, 0, 0, 0, nI 0, []),
  (28, 3, .getfield 12, 5, 0, 262, nI 0, []),
  (31, 3, .invokevirtual 46, 1, 2, 286, nI 0, [0]),
  (34, 1, .aload_n 0, 0, 0, 0, nI 0, []),
  (35, 3, .getfield 12, 5, 0, 262, nI 0, []),
  (38, 1, .iload_n 1, 0, 0, 0, nI 0, []),
  (39, 1, .iload_n 2, 0, 0, 0, nI 0, []),
  (40, 3, .invokevirtual 50, 51, 3, 306, nI 0, [4]),
  (43, 1, .aload_n 0, 0, 0, 0, nI 0, []),
  (44, 3, .getfield 12, 5, 0, 262, nI 0, []),
  (47, 3, .getfield 54, 4, 0, 197, nI 0, []),
  (50, 3, .getfield 57, 1, 2, 124, nI 0, []),
  (53, 1, .ireturn, 0, 0, 0, nI 0, [])]
/- 61: LiningLog.rate(II)I -/
def mj_c61 : List mj_E := [(0, 1, .aload_n 0, 0, 0, 0, nI 0, []),
  (1, 3, .getfield 12, 5, 0, 262, nI 0, []),
  (4, 3, .getfield 54, 4, 0, 197, nI 0, []),
  (7, 1, .astore_n 3, 0, 0, 0, nI 0, []),
  (8, 1, .aload_n 3, 0, 0, 0, nI 0, []),
  (9, 1, .iload_n 1, 0, 0, 0, nI 0, []),
  (10, 3, .invokevirtual 60, 6, 2, 315, nI 0, [1]),
  (13, 3, .ifCond .eq 13, 13, 0, 0, nI 0, []),
  (16, 1, .iload_n 2, 0, 0, 0, nI 0, []),
  (17, 1, .iconst 0, 0, 0, 0, nI 0, []),
  (18, 2, .bipush 50, 0, 0, 0, nI 50, []),
  (20, 3, .invokestatic 41, 86, 3, 282, nI 0, []),
  (23, 3, .ifCond .ne 6, 15, 0, 0, nI 0, []),
  (26, 2, .ldc 45, 0, 0, 285, (-1000001), []),
  (28, 1, .ireturn, 0, 0, 0, nI 0, []),
  (29, 1, .aload_n 0, 0, 0, 0, nI 0, []),
  (30, 3, .getfield 26, 5, 2, 264, nI 0, []),
  (33, 1, .aload_n 0, 0, 0, 0, nI 0, []),
  (34, 3, .getfield 12, 5, 0, 262, nI 0, []),
  (37, 3, .invokevirtual 46, 1, 2, 286, nI 0, [0]),
  (40, 1, .aload_n 3, 0, 0, 0, nI 0, []),
  (41, 3, .getfield 64, 1, 5, 130, nI 0, []),
  (44, 1, .iload_n 1, 0, 0, 0, nI 0, []),
  (45, 1, .iaload, 0, 0, 0, nI 0, []),
  (46, 2, .istore 4, 0, 0, 0, nI 0, []),
  (48, 1, .aload_n 3, 0, 0, 0, nI 0, []),
  (49, 3, .getfield 64, 1, 5, 130, nI 0, []),
  (52, 1, .iload_n 1, 0, 0, 0, nI 0, []),
  (53, 1, .iload_n 2, 0, 0, 0, nI 0, []),
  (54, 1, .iastore, 0, 0, 0, nI 0, []),
  (55, 2, .iload 4, 0, 0, 0, nI 0, []),
  (57, 1, .ireturn, 0, 0, 0, nI 0, [])]
/- 62: LiningLog.set(II)I -/
def mj_c62 : List mj_E := [(0, 1, .iload_n 1, 0, 0, 0, nI 0, []),
  (1, 1, .iconst 0, 0, 0, 0, nI 0, []),
  (2, 1, .iconst 5, 0, 0, 0, nI 5, []),
  (3, 3, .invokestatic 41, 86, 3, 282, nI 0, []),
  (6, 3, .ifCond .eq 20, 14, 0, 0, nI 0, []),
  (9, 1, .iload_n 2, 0, 0, 0, nI 0, []),
  (10, 3, .getstatic 68, 25, 0, 324, nI 0, []),
  (13, 1, .iload_n 1, 0, 0, 0, nI 0, []),
  (14, 1, .iaload, 0, 0, 0, nI 0, []),
  (15, 3, .getstatic 71, 26, 0, 326, nI 0, []),
  (18, 1, .iload_n 1, 0, 0, 0, nI 0, []),
  (19, 1, .iaload, 0, 0, 0, nI 0, []),
  (20, 3, .invokestatic 41, 86, 3, 282, nI 0, []),
  (23, 3, .ifCond .ne 6, 16, 0, 0, nI 0, []),
  (26, 2, .ldc 45, 0, 0, 285, (-1000001), []),
  (28, 1, .ireturn, 0, 0, 0, nI 0, []),
  (29, 1, .aload_n 0, 0, 0, 0, nI 0, []),
  (30, 3, .getfield 26, 5, 2, 264, nI 0, []),
  (33, 1, .aload_n 0, 0, 0, 0, nI 0, []),
  (34, 3, .getfield 12, 5, 0, 262, nI 0, []),
  (37, 3, .invokevirtual 46, 1, 2, 286, nI 0, [0]),
  (40, 1, .aload_n 0, 0, 0, 0, nI 0, []),
  (41, 3, .getfield 12, 5, 0, 262, nI 0, []),
  (44, 3, .getfield 54, 4, 0, 197, nI 0, []),
  (47, 3, .getfield 74, 1, 6, 133, nI 0, []),
  (50, 1, .astore_n 3, 0, 0, 0, nI 0, []),
  (51, 1, .aload_n 3, 0, 0, 0, nI 0, []),
  (52, 1, .iload_n 1, 0, 0, 0, nI 0, []),
  (53, 1, .iaload, 0, 0, 0, nI 0, []),
  (54, 2, .istore 4, 0, 0, 0, nI 0, []),
  (56, 1, .aload_n 3, 0, 0, 0, nI 0, []),
  (57, 1, .iload_n 1, 0, 0, 0, nI 0, []),
  (58, 1, .iload_n 2, 0, 0, 0, nI 0, []),
  (59, 1, .iastore, 0, 0, 0, nI 0, []),
  (60, 2, .iload 4, 0, 0, 0, nI 0, []),
  (62, 1, .ireturn, 0, 0, 0, nI 0, [])]
/- 63: LiningLog.heat(II)I -/
def mj_c63 : List mj_E := [(0, 1, .iload_n 1, 0, 0, 0, nI 0, []),
  (1, 1, .iload_n 2, 0, 0, 0, nI 0, []),
  (2, 3, .invokestatic 77, 87, 2, 332, nI 0, []),
  (5, 3, .ifCond .ne 6, 6, 0, 0, nI 0, []),
  (8, 2, .ldc 45, 0, 0, 285, (-1000001), []),
  (10, 1, .ireturn, 0, 0, 0, nI 0, []),
  (11, 1, .aload_n 0, 0, 0, 0, nI 0, []),
  (12, 3, .getfield 12, 5, 0, 262, nI 0, []),
  (15, 3, .getfield 54, 4, 0, 197, nI 0, []),
  (18, 3, .getfield 81, 1, 11, 144, nI 0, []),
  (21, 3, .ifCond .eq 6, 13, 0, 0, nI 0, []),
  (24, 2, .ldc 85, 0, 0, 335, (-1000002), []),
  (26, 1, .ireturn, 0, 0, 0, nI 0, []),
  (27, 1, .aload_n 0, 0, 0, 0, nI 0, []),
  (28, 3, .getfield 26, 5, 2, 264, nI 0, []),
  (31, 1, .aload_n 0, 0, 0, 0, nI 0, []),
  (32, 3, .getfield 12, 5, 0, 262, nI 0, []),
  (35, 3, .invokevirtual 46, 1, 2, 286, nI 0, [0]),
  (38, 1, .aload_n 0, 0, 0, 0, nI 0, []),
  (39, 3, .getfield 12, 5, 0, 262, nI 0, []),
  (42, 3, .getfield 54, 4, 0, 197, nI 0, []),
  (45, 1, .iload_n 1, 0, 0, 0, nI 0, []),
  (46, 1, .iload_n 2, 0, 0, 0, nI 0, []),
  (47, 3, .invokestatic 86, 89, 2, 336, nI 0, []),
  (50, 3, .invokevirtual 90, 24, 2, 342, nI 0, [1]),
  (53, 1, .ireturn, 0, 0, 0, nI 0, [])]
/- 64: LiningLog.gun(II)I -/
def mj_c64 : List mj_E := [(0, 1, .aload_n 0, 0, 0, 0, nI 0, []),
  (1, 3, .getfield 12, 5, 0, 262, nI 0, []),
  (4, 3, .getfield 54, 4, 0, 197, nI 0, []),
  (7, 1, .astore_n 3, 0, 0, 0, nI 0, []),
  (8, 1, .aload_n 3, 0, 0, 0, nI 0, []),
  (9, 1, .iload_n 1, 0, 0, 0, nI 0, []),
  (10, 3, .invokevirtual 94, 7, 2, 394, nI 0, [1]),
  (13, 3, .ifCond .eq 10, 11, 0, 0, nI 0, []),
  (16, 1, .iload_n 2, 0, 0, 0, nI 0, []),
  (17, 3, .invokestatic 97, 88, 1, 398, nI 0, []),
  (20, 3, .ifCond .ne 6, 13, 0, 0, nI 0, []),
  (23, 2, .ldc 45, 0, 0, 285, (-1000001), []),
  (25, 1, .ireturn, 0, 0, 0, nI 0, []),
  (26, 1, .aload_n 3, 0, 0, 0, nI 0, []),
  (27, 1, .iload_n 1, 0, 0, 0, nI 0, []),
  (28, 1, .iload_n 2, 0, 0, 0, nI 0, []),
  (29, 3, .invokevirtual 100, 28, 3, 401, nI 0, [1]),
  (32, 2, .istore 4, 0, 0, 0, nI 0, []),
  (34, 2, .iload 4, 0, 0, 0, nI 0, []),
  (36, 1, .iconst 3, 0, 0, 0, nI 3, []),
  (37, 3, .if_icmp .ne 6, 23, 0, 0, nI 0, []),
  (40, 2, .ldc 103, 0, 0, 413, (-1000003), []),
  (42, 1, .ireturn, 0, 0, 0, nI 0, []),
  (43, 2, .iload 4, 0, 0, 0, nI 0, []),
  (45, 3, .ifCond .eq 6, 27, 0, 0, nI 0, []),
  (48, 2, .ldc 85, 0, 0, 335, (-1000002), []),
  (50, 1, .ireturn, 0, 0, 0, nI 0, []),
  (51, 1, .aload_n 0, 0, 0, 0, nI 0, []),
  (52, 3, .getfield 26, 5, 2, 264, nI 0, []),
  (55, 1, .aload_n 0, 0, 0, 0, nI 0, []),
  (56, 3, .getfield 12, 5, 0, 262, nI 0, []),
  (59, 3, .invokevirtual 46, 1, 2, 286, nI 0, [0]),
  (62, 1, .aload_n 3, 0, 0, 0, nI 0, []),
  (63, 1, .iload_n 1, 0, 0, 0, nI 0, []),
  (64, 1, .iload_n 2, 0, 0, 0, nI 0, []),
  (65, 3, .invokevirtual 104, 29, 3, 414, nI 0, [1]),
  (68, 1, .ireturn, 0, 0, 0, nI 0, [])]
/- 65: LiningLog.reline(I)I -/
def mj_c65 : List mj_E := [(0, 1, .iload_n 1, 0, 0, 0, nI 0, []),
  (1, 1, .iconst (-1), 0, 0, 0, (-1), []),
  (2, 3, .if_icmp .eq 20, 11, 0, 0, nI 0, []),
  (5, 1, .aload_n 0, 0, 0, 0, nI 0, []),
  (6, 3, .getfield 12, 5, 0, 262, nI 0, []),
  (9, 3, .getfield 54, 4, 0, 197, nI 0, []),
  (12, 1, .iload_n 1, 0, 0, 0, nI 0, []),
  (13, 3, .invokevirtual 60, 6, 2, 315, nI 0, [1]),
  (16, 3, .ifCond .ne 6, 11, 0, 0, nI 0, []),
  (19, 2, .ldc 45, 0, 0, 285, (-1000001), []),
  (21, 1, .ireturn, 0, 0, 0, nI 0, []),
  (22, 1, .aload_n 0, 0, 0, 0, nI 0, []),
  (23, 3, .getfield 26, 5, 2, 264, nI 0, []),
  (26, 1, .aload_n 0, 0, 0, 0, nI 0, []),
  (27, 3, .getfield 12, 5, 0, 262, nI 0, []),
  (30, 3, .invokevirtual 46, 1, 2, 286, nI 0, [0]),
  (33, 1, .iload_n 1, 0, 0, 0, nI 0, []),
  (34, 1, .iconst (-1), 0, 0, 0, (-1), []),
  (35, 3, .if_icmp .ne 16, 24, 0, 0, nI 0, []),
  (38, 1, .aload_n 0, 0, 0, 0, nI 0, []),
  (39, 3, .getfield 12, 5, 0, 262, nI 0, []),
  (42, 3, .getfield 54, 4, 0, 197, nI 0, []),
  (45, 3, .invokevirtual 107, 31, 1, 422, nI 0, [1]),
  (48, 3, .goto 14, 29, 0, 0, nI 0, []),
  (51, 1, .aload_n 0, 0, 0, 0, nI 0, []),
  (52, 3, .getfield 12, 5, 0, 262, nI 0, []),
  (55, 3, .getfield 54, 4, 0, 197, nI 0, []),
  (58, 1, .iload_n 1, 0, 0, 0, nI 0, []),
  (59, 3, .invokevirtual 111, 30, 2, 430, nI 0, [1]),
  (62, 1, .ireturn, 0, 0, 0, nI 0, [])]
/- 66: LiningLog.scan()I -/
def mj_c66 : List mj_E := [(0, 1, .aload_n 0, 0, 0, 0, nI 0, []),
  (1, 3, .getfield 26, 5, 2, 264, nI 0, []),
  (4, 1, .aload_n 0, 0, 0, 0, nI 0, []),
  (5, 3, .getfield 12, 5, 0, 262, nI 0, []),
  (8, 3, .invokevirtual 46, 1, 2, 286, nI 0, [0]),
  (11, 1, .aload_n 0, 0, 0, 0, nI 0, []),
  (12, 3, .getfield 12, 5, 0, 262, nI 0, []),
  (15, 3, .invokevirtual 114, 54, 1, 435, nI 0, [4]),
  (18, 1, .astore_n 1, 0, 0, 0, nI 0, []),
  (19, 1, .aload_n 1, 0, 0, 0, nI 0, []),
  (20, 1, .aload_n 0, 0, 0, 0, nI 0, []),
  (21, 3, .getfield 12, 5, 0, 262, nI 0, []),
  (24, 3, .getfield 54, 4, 0, 197, nI 0, []),
  (27, 3, .invokevirtual 118, 48, 2, 449, nI 0, [3]),
  (30, 1, .ireturn, 0, 0, 0, nI 0, [])]
/- 67: LiningLog.undo()I -/
def mj_c67 : List mj_E := [(0, 1, .aload_n 0, 0, 0, 0, nI 0, []),
  (1, 3, .getfield 26, 5, 2, 264, nI 0, []),
  (4, 3, .getfield 124, 0, 2, 223, nI 0, []),
  (7, 3, .ifCond .ne 6, 6, 0, 0, nI 0, []),
  (10, 2, .ldc 85, 0, 0, 335, (-1000002), []),
  (12, 1, .ireturn, 0, 0, 0, nI 0, []),
  (13, 1, .aload_n 0, 0, 0, 0, nI 0, []),
  (14, 3, .getfield 26, 5, 2, 264, nI 0, []),
  (17, 1, .aload_n 0, 0, 0, 0, nI 0, []),
  (18, 3, .getfield 12, 5, 0, 262, nI 0, []),
  (21, 3, .invokevirtual 127, 2, 2, 461, nI 0, [0]),
  (24, 1, .aload_n 0, 0, 0, 0, nI 0, []),
  (25, 3, .getfield 26, 5, 2, 264, nI 0, []),
  (28, 3, .getfield 124, 0, 2, 223, nI 0, []),
  (31, 1, .ireturn, 0, 0, 0, nI 0, [])]
/- 68: LiningLog.count(I)I -/
def mj_c68 : List mj_E := [(0, 1, .aload_n 0, 0, 0, 0, nI 0, []),
  (1, 3, .getfield 12, 5, 0, 262, nI 0, []),
  (4, 3, .getfield 54, 4, 0, 197, nI 0, []),
  (7, 1, .astore_n 2, 0, 0, 0, nI 0, []),
  (8, 1, .iload_n 1, 0, 0, 0, nI 0, []),
  (9, 2, .bipush 20, 0, 0, 0, nI 20, []),
  (11, 2, .bipush 25, 0, 0, 0, nI 25, []),
  (13, 3, .invokestatic 41, 86, 3, 282, nI 0, []),
  (16, 3, .ifCond .eq 13, 16, 0, 0, nI 0, []),
  (19, 1, .aload_n 2, 0, 0, 0, nI 0, []),
  (20, 3, .getfield 74, 1, 6, 133, nI 0, []),
  (23, 1, .iload_n 1, 0, 0, 0, nI 0, []),
  (24, 2, .bipush 20, 0, 0, 0, nI 20, []),
  (26, 1, .isub, 0, 0, 0, nI 0, []),
  (27, 1, .iaload, 0, 0, 0, nI 0, []),
  (28, 1, .ireturn, 0, 0, 0, nI 0, []),
  (29, 1, .iload_n 1, 0, 0, 0, nI 0, []),
  (30, 58, .tableswitch 130 0 10 #[58, 63, 68, 73, 78, 83, 96, 104, 112, 120, 125], 58, 0, 0, nI 0, [18, 21, 24, 27, 30, 33, 40, 44, 48, 52, 55]),
  (88, 1, .aload_n 2, 0, 0, 0, nI 0, []),
  (89, 3, .getfield 130, 1, 0, 119, nI 0, []),
  (92, 1, .ireturn, 0, 0, 0, nI 0, []),
  (93, 1, .aload_n 2, 0, 0, 0, nI 0, []),
  (94, 3, .getfield 133, 1, 1, 121, nI 0, []),
  (97, 1, .ireturn, 0, 0, 0, nI 0, []),
  (98, 1, .aload_n 2, 0, 0, 0, nI 0, []),
  (99, 3, .getfield 136, 1, 8, 138, nI 0, []),
  (102, 1, .ireturn, 0, 0, 0, nI 0, []),
  (103, 1, .aload_n 2, 0, 0, 0, nI 0, []),
  (104, 3, .getfield 139, 1, 9, 140, nI 0, []),
  (107, 1, .ireturn, 0, 0, 0, nI 0, []),
  (108, 1, .aload_n 2, 0, 0, 0, nI 0, []),
  (109, 3, .getfield 142, 1, 10, 142, nI 0, []),
  (112, 1, .ireturn, 0, 0, 0, nI 0, []),
  (113, 1, .aload_n 2, 0, 0, 0, nI 0, []),
  (114, 3, .getfield 81, 1, 11, 144, nI 0, []),
  (117, 3, .ifCond .eq 7, 38, 0, 0, nI 0, []),
  (120, 1, .iconst 1, 0, 0, 0, nI 1, []),
  (121, 3, .goto 4, 39, 0, 0, nI 0, []),
  (124, 1, .iconst 0, 0, 0, 0, nI 0, []),
  (125, 1, .ireturn, 0, 0, 0, nI 0, []),
  (126, 1, .aload_n 0, 0, 0, 0, nI 0, []),
  (127, 3, .getfield 12, 5, 0, 262, nI 0, []),
  (130, 3, .getfield 145, 4, 2, 201, nI 0, []),
  (133, 1, .ireturn, 0, 0, 0, nI 0, []),
  (134, 1, .aload_n 0, 0, 0, 0, nI 0, []),
  (135, 3, .getfield 26, 5, 2, 264, nI 0, []),
  (138, 3, .getfield 124, 0, 2, 223, nI 0, []),
  (141, 1, .ireturn, 0, 0, 0, nI 0, []),
  (142, 1, .aload_n 0, 0, 0, 0, nI 0, []),
  (143, 3, .getfield 33, 5, 3, 265, nI 0, []),
  (146, 3, .getfield 148, 2, 1, 239, nI 0, []),
  (149, 1, .ireturn, 0, 0, 0, nI 0, []),
  (150, 1, .aload_n 2, 0, 0, 0, nI 0, []),
  (151, 3, .invokevirtual 151, 16, 1, 469, nI 0, [1]),
  (154, 1, .ireturn, 0, 0, 0, nI 0, []),
  (155, 1, .aload_n 2, 0, 0, 0, nI 0, []),
  (156, 3, .invokevirtual 154, 14, 1, 473, nI 0, [1]),
  (159, 1, .ireturn, 0, 0, 0, nI 0, []),
  (160, 2, .ldc 45, 0, 0, 285, (-1000001), []),
  (162, 1, .ireturn, 0, 0, 0, nI 0, [])]
/- 69: LiningLog.spot(II)I -/
def mj_c69 : List mj_E := [(0, 1, .aload_n 0, 0, 0, 0, nI 0, []),
  (1, 3, .getfield 12, 5, 0, 262, nI 0, []),
  (4, 3, .getfield 54, 4, 0, 197, nI 0, []),
  (7, 1, .astore_n 3, 0, 0, 0, nI 0, []),
  (8, 1, .aload_n 3, 0, 0, 0, nI 0, []),
  (9, 1, .iload_n 1, 0, 0, 0, nI 0, []),
  (10, 3, .invokevirtual 94, 7, 2, 394, nI 0, [1]),
  (13, 3, .ifCond .ne 6, 10, 0, 0, nI 0, []),
  (16, 2, .ldc 45, 0, 0, 285, (-1000001), []),
  (18, 1, .ireturn, 0, 0, 0, nI 0, []),
  (19, 1, .iload_n 2, 0, 0, 0, nI 0, []),
  (20, 48, .tableswitch 103 0 7 #[48, 55, 62, 68, 74, 80, 86, 92], 49, 0, 0, nI 0, [12, 17, 22, 26, 30, 34, 38, 42]),
  (68, 1, .aload_n 3, 0, 0, 0, nI 0, []),
  (69, 3, .getfield 157, 1, 3, 126, nI 0, []),
  (72, 1, .iload_n 1, 0, 0, 0, nI 0, []),
  (73, 1, .iaload, 0, 0, 0, nI 0, []),
  (74, 1, .ireturn, 0, 0, 0, nI 0, []),
  (75, 1, .aload_n 3, 0, 0, 0, nI 0, []),
  (76, 3, .getfield 160, 1, 4, 128, nI 0, []),
  (79, 1, .iload_n 1, 0, 0, 0, nI 0, []),
  (80, 1, .iaload, 0, 0, 0, nI 0, []),
  (81, 1, .ireturn, 0, 0, 0, nI 0, []),
  (82, 1, .aload_n 3, 0, 0, 0, nI 0, []),
  (83, 1, .iload_n 1, 0, 0, 0, nI 0, []),
  (84, 3, .invokevirtual 163, 13, 2, 481, nI 0, [1]),
  (87, 1, .ireturn, 0, 0, 0, nI 0, []),
  (88, 1, .aload_n 3, 0, 0, 0, nI 0, []),
  (89, 1, .iload_n 1, 0, 0, 0, nI 0, []),
  (90, 3, .invokevirtual 166, 18, 2, 482, nI 0, [1]),
  (93, 1, .ireturn, 0, 0, 0, nI 0, []),
  (94, 1, .aload_n 3, 0, 0, 0, nI 0, []),
  (95, 1, .iload_n 1, 0, 0, 0, nI 0, []),
  (96, 3, .invokevirtual 169, 20, 2, 483, nI 0, [1]),
  (99, 1, .ireturn, 0, 0, 0, nI 0, []),
  (100, 1, .aload_n 3, 0, 0, 0, nI 0, []),
  (101, 1, .iload_n 1, 0, 0, 0, nI 0, []),
  (102, 3, .invokevirtual 172, 9, 2, 487, nI 0, [1]),
  (105, 1, .ireturn, 0, 0, 0, nI 0, []),
  (106, 1, .aload_n 3, 0, 0, 0, nI 0, []),
  (107, 1, .iload_n 1, 0, 0, 0, nI 0, []),
  (108, 3, .invokevirtual 175, 8, 2, 491, nI 0, [1]),
  (111, 1, .ireturn, 0, 0, 0, nI 0, []),
  (112, 1, .aload_n 3, 0, 0, 0, nI 0, []),
  (113, 3, .getfield 64, 1, 5, 130, nI 0, []),
  (116, 1, .aload_n 3, 0, 0, 0, nI 0, []),
  (117, 1, .iload_n 1, 0, 0, 0, nI 0, []),
  (118, 3, .invokevirtual 175, 8, 2, 491, nI 0, [1]),
  (121, 1, .iaload, 0, 0, 0, nI 0, []),
  (122, 1, .ireturn, 0, 0, 0, nI 0, []),
  (123, 2, .ldc 45, 0, 0, 285, (-1000001), []),
  (125, 1, .ireturn, 0, 0, 0, nI 0, [])]
/- 70: LiningLog.neighbour(II)I -/
def mj_c70 : List mj_E := [(0, 1, .aload_n 0, 0, 0, 0, nI 0, []),
  (1, 3, .getfield 12, 5, 0, 262, nI 0, []),
  (4, 3, .getfield 54, 4, 0, 197, nI 0, []),
  (7, 1, .iload_n 1, 0, 0, 0, nI 0, []),
  (8, 3, .invokevirtual 94, 7, 2, 394, nI 0, [1]),
  (11, 3, .ifCond .eq 7, 8, 0, 0, nI 0, []),
  (14, 1, .iload_n 2, 0, 0, 0, nI 0, []),
  (15, 3, .ifCond .ge 6, 10, 0, 0, nI 0, []),
  (18, 2, .ldc 45, 0, 0, 285, (-1000001), []),
  (20, 1, .ireturn, 0, 0, 0, nI 0, []),
  (21, 1, .iload_n 2, 0, 0, 0, nI 0, []),
  (22, 1, .aload_n 0, 0, 0, 0, nI 0, []),
  (23, 3, .getfield 12, 5, 0, 262, nI 0, []),
  (26, 3, .getfield 54, 4, 0, 197, nI 0, []),
  (29, 1, .iload_n 1, 0, 0, 0, nI 0, []),
  (30, 3, .invokevirtual 172, 9, 2, 487, nI 0, [1]),
  (33, 3, .if_icmp .lt 6, 19, 0, 0, nI 0, []),
  (36, 2, .ldc 178, 0, 0, 496, (-1000004), []),
  (38, 1, .ireturn, 0, 0, 0, nI 0, []),
  (39, 1, .aload_n 0, 0, 0, 0, nI 0, []),
  (40, 3, .getfield 12, 5, 0, 262, nI 0, []),
  (43, 3, .getfield 54, 4, 0, 197, nI 0, []),
  (46, 1, .iload_n 1, 0, 0, 0, nI 0, []),
  (47, 1, .iload_n 2, 0, 0, 0, nI 0, []),
  (48, 3, .invokevirtual 179, 10, 3, 497, nI 0, [1]),
  (51, 1, .ireturn, 0, 0, 0, nI 0, [])]
/- 71: LiningLog.account(I)I -/
def mj_c71 : List mj_E := [(0, 1, .iload_n 1, 0, 0, 0, nI 0, []),
  (1, 1, .iconst 4, 0, 0, 0, nI 4, []),
  (2, 3, .if_icmp .ne 14, 8, 0, 0, nI 0, []),
  (5, 1, .aload_n 0, 0, 0, 0, nI 0, []),
  (6, 3, .getfield 12, 5, 0, 262, nI 0, []),
  (9, 3, .getfield 54, 4, 0, 197, nI 0, []),
  (12, 3, .invokevirtual 182, 15, 1, 508, nI 0, [1]),
  (15, 1, .ireturn, 0, 0, 0, nI 0, []),
  (16, 1, .iload_n 1, 0, 0, 0, nI 0, []),
  (17, 1, .iconst 0, 0, 0, 0, nI 0, []),
  (18, 1, .iconst 3, 0, 0, 0, nI 3, []),
  (19, 3, .invokestatic 41, 86, 3, 282, nI 0, []),
  (22, 3, .ifCond .eq 18, 20, 0, 0, nI 0, []),
  (25, 1, .aload_n 0, 0, 0, 0, nI 0, []),
  (26, 3, .getfield 12, 5, 0, 262, nI 0, []),
  (29, 3, .getfield 54, 4, 0, 197, nI 0, []),
  (32, 3, .getfield 185, 1, 7, 135, nI 0, []),
  (35, 1, .iload_n 1, 0, 0, 0, nI 0, []),
  (36, 1, .iaload, 0, 0, 0, nI 0, []),
  (37, 3, .goto 5, 21, 0, 0, nI 0, []),
  (40, 2, .ldc 45, 0, 0, 285, (-1000001), []),
  (42, 1, .ireturn, 0, 0, 0, nI 0, [])]
/- 72: LiningLog.scanned(III)I -/
def mj_c72 : List mj_E := [(0, 1, .aload_n 0, 0, 0, 0, nI 0, []),
  (1, 3, .getfield 12, 5, 0, 262, nI 0, []),
  (4, 3, .getfield 54, 4, 0, 197, nI 0, []),
  (7, 2, .astore 4, 0, 0, 0, nI 0, []),
  (9, 1, .aload_n 0, 0, 0, 0, nI 0, []),
  (10, 3, .getfield 12, 5, 0, 262, nI 0, []),
  (13, 1, .iload_n 1, 0, 0, 0, nI 0, []),
  (14, 3, .invokevirtual 188, 53, 2, 516, nI 0, [4]),
  (17, 3, .ifCond .eq 12, 13, 0, 0, nI 0, []),
  (20, 2, .aload 4, 0, 0, 0, nI 0, []),
  (22, 1, .iload_n 2, 0, 0, 0, nI 0, []),
  (23, 3, .invokevirtual 94, 7, 2, 394, nI 0, [1]),
  (26, 3, .ifCond .ne 6, 15, 0, 0, nI 0, []),
  (29, 2, .ldc 45, 0, 0, 285, (-1000001), []),
  (31, 1, .ireturn, 0, 0, 0, nI 0, []),
  (32, 1, .aload_n 0, 0, 0, 0, nI 0, []),
  (33, 3, .getfield 12, 5, 0, 262, nI 0, []),
  (36, 3, .getfield 191, 4, 1, 199, nI 0, []),
  (39, 1, .iload_n 1, 0, 0, 0, nI 0, []),
  (40, 1, .aaload, 0, 0, 0, nI 0, []),
  (41, 2, .astore 5, 0, 0, 0, nI 0, []),
  (43, 1, .iload_n 3, 0, 0, 0, nI 0, []),
  (44, 36, .tableswitch 92 0 4 #[36, 44, 52, 69, 86], 54, 0, 0, nI 0, [23, 28, 33, 42, 51]),
  (80, 2, .aload 5, 0, 0, 0, nI 0, []),
  (82, 3, .getfield 195, 3, 0, 182, nI 0, []),
  (85, 1, .iload_n 2, 0, 0, 0, nI 0, []),
  (86, 1, .iaload, 0, 0, 0, nI 0, []),
  (87, 1, .ireturn, 0, 0, 0, nI 0, []),
  (88, 2, .aload 5, 0, 0, 0, nI 0, []),
  (90, 3, .getfield 198, 3, 1, 185, nI 0, []),
  (93, 1, .iload_n 2, 0, 0, 0, nI 0, []),
  (94, 1, .iaload, 0, 0, 0, nI 0, []),
  (95, 1, .ireturn, 0, 0, 0, nI 0, []),
  (96, 2, .aload 5, 0, 0, 0, nI 0, []),
  (98, 1, .iload_n 2, 0, 0, 0, nI 0, []),
  (99, 2, .aload 4, 0, 0, 0, nI 0, []),
  (101, 3, .invokevirtual 201, 46, 3, 521, nI 0, [3]),
  (104, 3, .ifCond .eq 7, 40, 0, 0, nI 0, []),
  (107, 1, .iconst 1, 0, 0, 0, nI 1, []),
  (108, 3, .goto 4, 41, 0, 0, nI 0, []),
  (111, 1, .iconst 0, 0, 0, 0, nI 0, []),
  (112, 1, .ireturn, 0, 0, 0, nI 0, []),
  (113, 2, .aload 5, 0, 0, 0, nI 0, []),
  (115, 1, .iload_n 2, 0, 0, 0, nI 0, []),
  (116, 2, .aload 4, 0, 0, 0, nI 0, []),
  (118, 3, .invokevirtual 205, 47, 3, 522, nI 0, [3]),
  (121, 3, .ifCond .eq 7, 49, 0, 0, nI 0, []),
  (124, 1, .iconst 1, 0, 0, 0, nI 1, []),
  (125, 3, .goto 4, 50, 0, 0, nI 0, []),
  (128, 1, .iconst 0, 0, 0, 0, nI 0, []),
  (129, 1, .ireturn, 0, 0, 0, nI 0, []),
  (130, 2, .aload 5, 0, 0, 0, nI 0, []),
  (132, 3, .getfield 208, 3, 2, 188, nI 0, []),
  (135, 1, .ireturn, 0, 0, 0, nI 0, []),
  (136, 2, .ldc 45, 0, 0, 285, (-1000001), []),
  (138, 1, .ireturn, 0, 0, 0, nI 0, [])]
/- 73: LiningLog.peaks(I)I -/
def mj_c73 : List mj_E := [(0, 1, .aload_n 0, 0, 0, 0, nI 0, []),
  (1, 3, .getfield 12, 5, 0, 262, nI 0, []),
  (4, 1, .iload_n 1, 0, 0, 0, nI 0, []),
  (5, 3, .invokevirtual 188, 53, 2, 516, nI 0, [4]),
  (8, 3, .ifCond .ne 6, 7, 0, 0, nI 0, []),
  (11, 2, .ldc 45, 0, 0, 285, (-1000001), []),
  (13, 1, .ireturn, 0, 0, 0, nI 0, []),
  (14, 1, .aload_n 0, 0, 0, 0, nI 0, []),
  (15, 3, .getfield 12, 5, 0, 262, nI 0, []),
  (18, 3, .getfield 191, 4, 1, 199, nI 0, []),
  (21, 1, .iload_n 1, 0, 0, 0, nI 0, []),
  (22, 1, .aaload, 0, 0, 0, nI 0, []),
  (23, 1, .aload_n 0, 0, 0, 0, nI 0, []),
  (24, 3, .getfield 12, 5, 0, 262, nI 0, []),
  (27, 3, .getfield 54, 4, 0, 197, nI 0, []),
  (30, 3, .invokevirtual 209, 49, 2, 532, nI 0, [3]),
  (33, 1, .ireturn, 0, 0, 0, nI 0, [])]
/- 74: LiningLog.trend(I)I -/
def mj_c74 : List mj_E := [(0, 1, .aload_n 0, 0, 0, 0, nI 0, []),
  (1, 3, .getfield 12, 5, 0, 262, nI 0, []),
  (4, 3, .getfield 54, 4, 0, 197, nI 0, []),
  (7, 1, .iload_n 1, 0, 0, 0, nI 0, []),
  (8, 3, .invokevirtual 94, 7, 2, 394, nI 0, [1]),
  (11, 3, .ifCond .ne 6, 8, 0, 0, nI 0, []),
  (14, 2, .ldc 45, 0, 0, 285, (-1000001), []),
  (16, 1, .ireturn, 0, 0, 0, nI 0, []),
  (17, 1, .aload_n 0, 0, 0, 0, nI 0, []),
  (18, 3, .getfield 12, 5, 0, 262, nI 0, []),
  (21, 3, .invokevirtual 212, 57, 1, 541, nI 0, [4]),
  (24, 3, .ifCond .eq 14, 17, 0, 0, nI 0, []),
  (27, 1, .aload_n 0, 0, 0, 0, nI 0, []),
  (28, 3, .getfield 12, 5, 0, 262, nI 0, []),
  (31, 1, .iload_n 1, 0, 0, 0, nI 0, []),
  (32, 3, .invokevirtual 216, 58, 2, 549, nI 0, [4]),
  (35, 3, .goto 5, 18, 0, 0, nI 0, []),
  (38, 2, .ldc 178, 0, 0, 496, (-1000004), []),
  (40, 1, .ireturn, 0, 0, 0, nI 0, [])]
/- 75: LiningLog.heatsByTrend(I)I -/
def mj_c75 : List mj_E := [(0, 1, .aload_n 0, 0, 0, 0, nI 0, []),
  (1, 3, .getfield 12, 5, 0, 262, nI 0, []),
  (4, 3, .getfield 54, 4, 0, 197, nI 0, []),
  (7, 1, .astore_n 2, 0, 0, 0, nI 0, []),
  (8, 1, .aload_n 2, 0, 0, 0, nI 0, []),
  (9, 1, .iload_n 1, 0, 0, 0, nI 0, []),
  (10, 3, .invokevirtual 94, 7, 2, 394, nI 0, [1]),
  (13, 3, .ifCond .ne 6, 10, 0, 0, nI 0, []),
  (16, 2, .ldc 45, 0, 0, 285, (-1000001), []),
  (18, 1, .ireturn, 0, 0, 0, nI 0, []),
  (19, 1, .aload_n 0, 0, 0, 0, nI 0, []),
  (20, 3, .getfield 12, 5, 0, 262, nI 0, []),
  (23, 3, .invokevirtual 212, 57, 1, 541, nI 0, [4]),
  (26, 3, .ifCond .ne 6, 16, 0, 0, nI 0, []),
  (29, 2, .ldc 178, 0, 0, 496, (-1000004), []),
  (31, 1, .ireturn, 0, 0, 0, nI 0, []),
  (32, 1, .aload_n 0, 0, 0, 0, nI 0, []),
  (33, 3, .getfield 12, 5, 0, 262, nI 0, []),
  (36, 1, .iload_n 1, 0, 0, 0, nI 0, []),
  (37, 3, .invokevirtual 216, 58, 2, 549, nI 0, [4]),
  (40, 1, .istore_n 3, 0, 0, 0, nI 0, []),
  (41, 1, .aload_n 2, 0, 0, 0, nI 0, []),
  (42, 1, .iload_n 1, 0, 0, 0, nI 0, []),
  (43, 3, .invokevirtual 163, 13, 2, 481, nI 0, [1]),
  (46, 1, .aload_n 2, 0, 0, 0, nI 0, []),
  (47, 3, .getfield 74, 1, 6, 133, nI 0, []),
  (50, 1, .iconst 0, 0, 0, 0, nI 0, []),
  (51, 1, .iaload, 0, 0, 0, nI 0, []),
  (52, 1, .isub, 0, 0, 0, nI 0, []),
  (53, 2, .istore 4, 0, 0, 0, nI 0, []),
  (55, 1, .iload_n 3, 0, 0, 0, nI 0, []),
  (56, 3, .ifCond .le 8, 34, 0, 0, nI 0, []),
  (59, 2, .iload 4, 0, 0, 0, nI 0, []),
  (61, 3, .ifCond .ge 6, 36, 0, 0, nI 0, []),
  (64, 2, .ldc 178, 0, 0, 496, (-1000004), []),
  (66, 1, .ireturn, 0, 0, 0, nI 0, []),
  (67, 2, .bipush 100, 0, 0, 0, nI 100, []),
  (69, 2, .iload 4, 0, 0, 0, nI 0, []),
  (71, 1, .imul, 0, 0, 0, nI 0, []),
  (72, 1, .iload_n 3, 0, 0, 0, nI 0, []),
  (73, 1, .idiv, 0, 0, 0, nI 0, []),
  (74, 1, .ireturn, 0, 0, 0, nI 0, [])]
/- 76: LiningLog.heatsLeft(II)I -/
def mj_c76 : List mj_E := [(0, 1, .iload_n 1, 0, 0, 0, nI 0, []),
  (1, 1, .iload_n 2, 0, 0, 0, nI 0, []),
  (2, 3, .invokestatic 77, 87, 2, 332, nI 0, []),
  (5, 3, .ifCond .ne 6, 6, 0, 0, nI 0, []),
  (8, 2, .ldc 45, 0, 0, 285, (-1000001), []),
  (10, 1, .ireturn, 0, 0, 0, nI 0, []),
  (11, 1, .aload_n 0, 0, 0, 0, nI 0, []),
  (12, 3, .getfield 19, 5, 1, 263, nI 0, []),
  (15, 1, .aload_n 0, 0, 0, 0, nI 0, []),
  (16, 3, .getfield 12, 5, 0, 262, nI 0, []),
  (19, 3, .getfield 54, 4, 0, 197, nI 0, []),
  (22, 3, .invokevirtual 219, 5, 2, 562, nI 0, [1]),
  (25, 1, .aload_n 0, 0, 0, 0, nI 0, []),
  (26, 3, .getfield 19, 5, 1, 263, nI 0, []),
  (29, 1, .iload_n 1, 0, 0, 0, nI 0, []),
  (30, 1, .iload_n 2, 0, 0, 0, nI 0, []),
  (31, 3, .invokestatic 86, 89, 2, 336, nI 0, []),
  (34, 3, .invokevirtual 223, 32, 2, 563, nI 0, [1]),
  (37, 1, .istore_n 3, 0, 0, 0, nI 0, []),
  (38, 1, .iload_n 3, 0, 0, 0, nI 0, []),
  (39, 3, .sipush 300, 0, 0, 0, nI 300, []),
  (42, 3, .if_icmp .le 8, 24, 0, 0, nI 0, []),
  (45, 2, .ldc 178, 0, 0, 496, (-1000004), []),
  (47, 3, .goto 4, 25, 0, 0, nI 0, []),
  (50, 1, .iload_n 3, 0, 0, 0, nI 0, []),
  (51, 1, .ireturn, 0, 0, 0, nI 0, [])]
/- 77: LiningLog.firstThrough(II)I -/
def mj_c77 : List mj_E := [(0, 1, .iload_n 1, 0, 0, 0, nI 0, []),
  (1, 1, .iload_n 2, 0, 0, 0, nI 0, []),
  (2, 3, .invokestatic 77, 87, 2, 332, nI 0, []),
  (5, 3, .ifCond .ne 6, 6, 0, 0, nI 0, []),
  (8, 2, .ldc 45, 0, 0, 285, (-1000001), []),
  (10, 1, .ireturn, 0, 0, 0, nI 0, []),
  (11, 1, .aload_n 0, 0, 0, 0, nI 0, []),
  (12, 3, .getfield 12, 5, 0, 262, nI 0, []),
  (15, 3, .getfield 54, 4, 0, 197, nI 0, []),
  (18, 3, .getfield 81, 1, 11, 144, nI 0, []),
  (21, 3, .ifCond .eq 6, 13, 0, 0, nI 0, []),
  (24, 2, .ldc 85, 0, 0, 335, (-1000002), []),
  (26, 1, .ireturn, 0, 0, 0, nI 0, []),
  (27, 1, .aload_n 0, 0, 0, 0, nI 0, []),
  (28, 3, .getfield 19, 5, 1, 263, nI 0, []),
  (31, 1, .aload_n 0, 0, 0, 0, nI 0, []),
  (32, 3, .getfield 12, 5, 0, 262, nI 0, []),
  (35, 3, .getfield 54, 4, 0, 197, nI 0, []),
  (38, 3, .invokevirtual 219, 5, 2, 562, nI 0, [1]),
  (41, 1, .aload_n 0, 0, 0, 0, nI 0, []),
  (42, 3, .getfield 19, 5, 1, 263, nI 0, []),
  (45, 1, .iload_n 1, 0, 0, 0, nI 0, []),
  (46, 1, .iload_n 2, 0, 0, 0, nI 0, []),
  (47, 3, .invokestatic 86, 89, 2, 336, nI 0, []),
  (50, 3, .invokevirtual 223, 32, 2, 563, nI 0, [1]),
  (53, 1, .istore_n 3, 0, 0, 0, nI 0, []),
  (54, 1, .iload_n 3, 0, 0, 0, nI 0, []),
  (55, 3, .sipush 300, 0, 0, 0, nI 300, []),
  (58, 3, .if_icmp .le 8, 31, 0, 0, nI 0, []),
  (61, 2, .ldc 178, 0, 0, 496, (-1000004), []),
  (63, 3, .goto 10, 34, 0, 0, nI 0, []),
  (66, 1, .aload_n 0, 0, 0, 0, nI 0, []),
  (67, 3, .getfield 19, 5, 1, 263, nI 0, []),
  (70, 3, .invokevirtual 226, 17, 1, 572, nI 0, [1]),
  (73, 1, .ireturn, 0, 0, 0, nI 0, [])]
/- 78: LiningLog.bestSpot(III)I -/
def mj_c78 : List mj_E := [(0, 1, .iload_n 1, 0, 0, 0, nI 0, []),
  (1, 3, .invokestatic 97, 88, 1, 398, nI 0, []),
  (4, 3, .ifCond .eq 11, 7, 0, 0, nI 0, []),
  (7, 1, .iload_n 2, 0, 0, 0, nI 0, []),
  (8, 1, .iload_n 3, 0, 0, 0, nI 0, []),
  (9, 3, .invokestatic 77, 87, 2, 332, nI 0, []),
  (12, 3, .ifCond .ne 6, 9, 0, 0, nI 0, []),
  (15, 2, .ldc 45, 0, 0, 285, (-1000001), []),
  (17, 1, .ireturn, 0, 0, 0, nI 0, []),
  (18, 1, .aload_n 0, 0, 0, 0, nI 0, []),
  (19, 3, .getfield 12, 5, 0, 262, nI 0, []),
  (22, 3, .getfield 54, 4, 0, 197, nI 0, []),
  (25, 2, .astore 4, 0, 0, 0, nI 0, []),
  (27, 2, .ldc 85, 0, 0, 335, (-1000002), []),
  (29, 2, .istore 5, 0, 0, 0, nI 0, []),
  (31, 1, .iconst (-1), 0, 0, 0, (-1), []),
  (32, 2, .istore 6, 0, 0, 0, nI 0, []),
  (34, 1, .iconst 0, 0, 0, 0, nI 0, []),
  (35, 2, .istore 7, 0, 0, 0, nI 0, []),
  (37, 2, .iload 7, 0, 0, 0, nI 0, []),
  (39, 2, .aload 4, 0, 0, 0, nI 0, []),
  (41, 3, .getfield 57, 1, 2, 124, nI 0, []),
  (44, 3, .if_icmp .ge 77, 57, 0, 0, nI 0, []),
  (47, 2, .iload 6, 0, 0, 0, nI 0, []),
  (49, 3, .sipush 300, 0, 0, 0, nI 300, []),
  (52, 3, .if_icmp .gt 69, 57, 0, 0, nI 0, []),
  (55, 2, .aload 4, 0, 0, 0, nI 0, []),
  (57, 2, .iload 7, 0, 0, 0, nI 0, []),
  (59, 1, .iload_n 1, 0, 0, 0, nI 0, []),
  (60, 3, .invokevirtual 100, 28, 3, 401, nI 0, [1]),
  (63, 3, .ifCond .ne 52, 55, 0, 0, nI 0, []),
  (66, 1, .aload_n 0, 0, 0, 0, nI 0, []),
  (67, 3, .getfield 19, 5, 1, 263, nI 0, []),
  (70, 2, .aload 4, 0, 0, 0, nI 0, []),
  (72, 3, .invokevirtual 219, 5, 2, 562, nI 0, [1]),
  (75, 1, .aload_n 0, 0, 0, 0, nI 0, []),
  (76, 3, .getfield 19, 5, 1, 263, nI 0, []),
  (79, 2, .iload 7, 0, 0, 0, nI 0, []),
  (81, 1, .iload_n 1, 0, 0, 0, nI 0, []),
  (82, 3, .invokevirtual 104, 29, 3, 414, nI 0, [1]),
  (85, 1, .pop, 0, 0, 0, nI 0, []),
  (86, 1, .aload_n 0, 0, 0, 0, nI 0, []),
  (87, 3, .getfield 19, 5, 1, 263, nI 0, []),
  (90, 1, .iload_n 2, 0, 0, 0, nI 0, []),
  (91, 1, .iload_n 3, 0, 0, 0, nI 0, []),
  (92, 3, .invokestatic 86, 89, 2, 336, nI 0, []),
  (95, 3, .invokevirtual 223, 32, 2, 563, nI 0, [1]),
  (98, 2, .istore 8, 0, 0, 0, nI 0, []),
  (100, 2, .iload 8, 0, 0, 0, nI 0, []),
  (102, 2, .iload 6, 0, 0, 0, nI 0, []),
  (104, 3, .if_icmp .le 11, 55, 0, 0, nI 0, []),
  (107, 2, .iload 8, 0, 0, 0, nI 0, []),
  (109, 2, .istore 6, 0, 0, 0, nI 0, []),
  (111, 2, .iload 7, 0, 0, 0, nI 0, []),
  (113, 2, .istore 5, 0, 0, 0, nI 0, []),
  (115, 3, .iinc 7 1, 0, 0, 0, nI 1, []),
  (118, 3, .goto (-81), 19, 0, 0, nI 0, []),
  (121, 2, .iload 5, 0, 0, 0, nI 0, []),
  (123, 1, .ireturn, 0, 0, 0, nI 0, [])]
/- 79: LiningLog.wear(III)I -/
def mj_c79 : List mj_E := [(0, 1, .aload_n 0, 0, 0, 0, nI 0, []),
  (1, 3, .getfield 12, 5, 0, 262, nI 0, []),
  (4, 3, .getfield 54, 4, 0, 197, nI 0, []),
  (7, 1, .iload_n 1, 0, 0, 0, nI 0, []),
  (8, 3, .invokevirtual 94, 7, 2, 394, nI 0, [1]),
  (11, 3, .ifCond .eq 11, 10, 0, 0, nI 0, []),
  (14, 1, .iload_n 2, 0, 0, 0, nI 0, []),
  (15, 1, .iload_n 3, 0, 0, 0, nI 0, []),
  (16, 3, .invokestatic 77, 87, 2, 332, nI 0, []),
  (19, 3, .ifCond .ne 6, 12, 0, 0, nI 0, []),
  (22, 2, .ldc 45, 0, 0, 285, (-1000001), []),
  (24, 1, .ireturn, 0, 0, 0, nI 0, []),
  (25, 1, .aload_n 0, 0, 0, 0, nI 0, []),
  (26, 3, .getfield 12, 5, 0, 262, nI 0, []),
  (29, 3, .getfield 54, 4, 0, 197, nI 0, []),
  (32, 1, .iload_n 1, 0, 0, 0, nI 0, []),
  (33, 1, .iload_n 2, 0, 0, 0, nI 0, []),
  (34, 1, .iload_n 3, 0, 0, 0, nI 0, []),
  (35, 3, .invokestatic 86, 89, 2, 336, nI 0, []),
  (38, 3, .invokevirtual 229, 22, 3, 581, nI 0, [1]),
  (41, 1, .ireturn, 0, 0, 0, nI 0, [])]
/- 80: LiningLog.type(I)I -/
def mj_c80 : List mj_E := [(0, 1, .iload_n 1, 0, 0, 0, nI 0, []),
  (1, 2, .bipush 32, 0, 0, 0, nI 32, []),
  (3, 2, .bipush 126, 0, 0, 0, nI 126, []),
  (5, 3, .invokestatic 41, 86, 3, 282, nI 0, []),
  (8, 3, .ifCond .ne 6, 7, 0, 0, nI 0, []),
  (11, 2, .ldc 45, 0, 0, 285, (-1000001), []),
  (13, 1, .ireturn, 0, 0, 0, nI 0, []),
  (14, 1, .aload_n 0, 0, 0, 0, nI 0, []),
  (15, 3, .getfield 33, 5, 3, 265, nI 0, []),
  (18, 3, .getfield 148, 2, 1, 239, nI 0, []),
  (21, 2, .bipush 100, 0, 0, 0, nI 100, []),
  (23, 3, .if_icmp .lt 6, 14, 0, 0, nI 0, []),
  (26, 2, .ldc 103, 0, 0, 413, (-1000003), []),
  (28, 1, .ireturn, 0, 0, 0, nI 0, []),
  (29, 1, .aload_n 0, 0, 0, 0, nI 0, []),
  (30, 3, .getfield 33, 5, 3, 265, nI 0, []),
  (33, 1, .iload_n 1, 0, 0, 0, nI 0, []),
  (34, 1, .i2c, 0, 0, 0, nI 0, []),
  (35, 3, .invokevirtual 232, 34, 2, 589, nI 0, [2]),
  (38, 1, .aload_n 0, 0, 0, 0, nI 0, []),
  (39, 3, .getfield 33, 5, 3, 265, nI 0, []),
  (42, 3, .getfield 148, 2, 1, 239, nI 0, []),
  (45, 1, .ireturn, 0, 0, 0, nI 0, [])]
/- 81: LiningLog.clearText()I -/
def mj_c81 : List mj_E := [(0, 1, .aload_n 0, 0, 0, 0, nI 0, []),
  (1, 3, .getfield 33, 5, 3, 265, nI 0, []),
  (4, 3, .getfield 148, 2, 1, 239, nI 0, []),
  (7, 1, .istore_n 1, 0, 0, 0, nI 0, []),
  (8, 1, .aload_n 0, 0, 0, 0, nI 0, []),
  (9, 3, .getfield 33, 5, 3, 265, nI 0, []),
  (12, 1, .iconst 0, 0, 0, 0, nI 0, []),
  (13, 3, .putfield 148, 2, 1, 239, nI 0, []),
  (16, 1, .iload_n 1, 0, 0, 0, nI 0, []),
  (17, 1, .ireturn, 0, 0, 0, nI 0, [])]
/- 82: LiningLog.fault()I -/
def mj_c82 : List mj_E := [(0, 1, .aload_n 0, 0, 0, 0, nI 0, []),
  (1, 3, .getfield 33, 5, 3, 265, nI 0, []),
  (4, 1, .aload_n 0, 0, 0, 0, nI 0, []),
  (5, 3, .getfield 12, 5, 0, 262, nI 0, []),
  (8, 3, .getfield 54, 4, 0, 197, nI 0, []),
  (11, 3, .invokevirtual 236, 36, 2, 601, nI 0, [2]),
  (14, 1, .ireturn, 0, 0, 0, nI 0, [])]
/- 83: LiningLog.run()I -/
def mj_c83 : List mj_E := [(0, 1, .aload_n 0, 0, 0, 0, nI 0, []),
  (1, 3, .getfield 33, 5, 3, 265, nI 0, []),
  (4, 1, .aload_n 0, 0, 0, 0, nI 0, []),
  (5, 3, .getfield 12, 5, 0, 262, nI 0, []),
  (8, 3, .getfield 54, 4, 0, 197, nI 0, []),
  (11, 3, .invokevirtual 236, 36, 2, 601, nI 0, [2]),
  (14, 2, .ldc 178, 0, 0, 496, (-1000004), []),
  (16, 3, .if_icmp .eq 6, 10, 0, 0, nI 0, []),
  (19, 2, .ldc 85, 0, 0, 335, (-1000002), []),
  (21, 1, .ireturn, 0, 0, 0, nI 0, []),
  (22, 1, .aload_n 0, 0, 0, 0, nI 0, []),
  (23, 3, .getfield 26, 5, 2, 264, nI 0, []),
  (26, 1, .aload_n 0, 0, 0, 0, nI 0, []),
  (27, 3, .getfield 12, 5, 0, 262, nI 0, []),
  (30, 3, .invokevirtual 46, 1, 2, 286, nI 0, [0]),
  (33, 1, .iconst 0, 0, 0, 0, nI 0, []),
  (34, 1, .istore_n 1, 0, 0, 0, nI 0, []),
  (35, 1, .iconst 0, 0, 0, 0, nI 0, []),
  (36, 1, .istore_n 2, 0, 0, 0, nI 0, []),
  (37, 1, .iconst 0, 0, 0, 0, nI 0, []),
  (38, 1, .istore_n 3, 0, 0, 0, nI 0, []),
  (39, 1, .iload_n 3, 0, 0, 0, nI 0, []),
  (40, 2, .bipush 100, 0, 0, 0, nI 100, []),
  (42, 3, .if_icmp .ge 59, 51, 0, 0, nI 0, []),
  (45, 1, .iload_n 2, 0, 0, 0, nI 0, []),
  (46, 1, .aload_n 0, 0, 0, 0, nI 0, []),
  (47, 3, .getfield 33, 5, 3, 265, nI 0, []),
  (50, 3, .getfield 148, 2, 1, 239, nI 0, []),
  (53, 3, .if_icmp .ge 48, 51, 0, 0, nI 0, []),
  (56, 1, .aload_n 0, 0, 0, 0, nI 0, []),
  (57, 3, .getfield 33, 5, 3, 265, nI 0, []),
  (60, 1, .iload_n 2, 0, 0, 0, nI 0, []),
  (61, 3, .invokevirtual 239, 37, 2, 643, nI 0, [2]),
  (64, 1, .pop, 0, 0, 0, nI 0, []),
  (65, 1, .aload_n 0, 0, 0, 0, nI 0, []),
  (66, 3, .invokevirtual 242, 85, 1, 644, nI 0, [5]),
  (69, 2, .istore 4, 0, 0, 0, nI 0, []),
  (71, 2, .iload 4, 0, 0, 0, nI 0, []),
  (73, 3, .ifCond .eq 11, 44, 0, 0, nI 0, []),
  (76, 1, .aload_n 0, 0, 0, 0, nI 0, []),
  (77, 2, .iload 4, 0, 0, 0, nI 0, []),
  (79, 3, .putfield 37, 5, 4, 266, nI 0, []),
  (82, 1, .iload_n 1, 0, 0, 0, nI 0, []),
  (83, 1, .ireturn, 0, 0, 0, nI 0, []),
  (84, 3, .iinc 1 1, 0, 0, 0, nI 1, []),
  (87, 1, .aload_n 0, 0, 0, 0, nI 0, []),
  (88, 3, .getfield 33, 5, 3, 265, nI 0, []),
  (91, 3, .getfield 245, 2, 5, 247, nI 0, []),
  (94, 1, .istore_n 2, 0, 0, 0, nI 0, []),
  (95, 3, .iinc 3 1, 0, 0, 0, nI 1, []),
  (98, 3, .goto (-59), 21, 0, 0, nI 0, []),
  (101, 1, .iload_n 1, 0, 0, 0, nI 0, []),
  (102, 1, .ireturn, 0, 0, 0, nI 0, [])]
/- 84: LiningLog.reason()I -/
def mj_c84 : List mj_E := [(0, 1, .aload_n 0, 0, 0, 0, nI 0, []),
  (1, 3, .getfield 37, 5, 4, 266, nI 0, []),
  (4, 1, .ireturn, 0, 0, 0, nI 0, [])]
/- 85: LiningLog.carryOutLine()I -/
def mj_c85 : List mj_E := [(0, 1, .aload_n 0, 0, 0, 0, nI 0, []),
  (1, 3, .getfield 12, 5, 0, 262, nI 0, []),
  (4, 3, .getfield 54, 4, 0, 197, nI 0, []),
  (7, 1, .astore_n 1, 0, 0, 0, nI 0, []),
  (8, 1, .aload_n 0, 0, 0, 0, nI 0, []),
  (9, 3, .getfield 33, 5, 3, 265, nI 0, []),
  (12, 3, .getfield 248, 2, 2, 241, nI 0, []),
  (15, 33, .lookupswitch 124 #[(103, 66), (104, 33), (114, 110)], 55, 0, 0, nI 0, [25, 8, 47]),
  (48, 1, .aload_n 1, 0, 0, 0, nI 0, []),
  (49, 3, .getfield 81, 1, 11, 144, nI 0, []),
  (52, 3, .ifCond .eq 5, 13, 0, 0, nI 0, []),
  (55, 1, .iconst 1, 0, 0, 0, nI 1, []),
  (56, 1, .ireturn, 0, 0, 0, nI 0, []),
  (57, 1, .aload_n 1, 0, 0, 0, nI 0, []),
  (58, 1, .aload_n 0, 0, 0, 0, nI 0, []),
  (59, 3, .getfield 33, 5, 3, 265, nI 0, []),
  (62, 3, .getfield 252, 2, 3, 243, nI 0, []),
  (65, 1, .aload_n 0, 0, 0, 0, nI 0, []),
  (66, 3, .getfield 33, 5, 3, 265, nI 0, []),
  (69, 3, .getfield 255, 2, 4, 245, nI 0, []),
  (72, 3, .invokestatic 86, 89, 2, 336, nI 0, []),
  (75, 3, .invokevirtual 90, 24, 2, 342, nI 0, [1]),
  (78, 1, .pop, 0, 0, 0, nI 0, []),
  (79, 1, .iconst 0, 0, 0, 0, nI 0, []),
  (80, 1, .ireturn, 0, 0, 0, nI 0, []),
  (81, 1, .aload_n 1, 0, 0, 0, nI 0, []),
  (82, 1, .aload_n 0, 0, 0, 0, nI 0, []),
  (83, 3, .getfield 33, 5, 3, 265, nI 0, []),
  (86, 3, .getfield 252, 2, 3, 243, nI 0, []),
  (89, 1, .aload_n 0, 0, 0, 0, nI 0, []),
  (90, 3, .getfield 33, 5, 3, 265, nI 0, []),
  (93, 3, .getfield 255, 2, 4, 245, nI 0, []),
  (96, 3, .invokevirtual 100, 28, 3, 401, nI 0, [1]),
  (99, 1, .istore_n 2, 0, 0, 0, nI 0, []),
  (100, 1, .iload_n 2, 0, 0, 0, nI 0, []),
  (101, 3, .ifCond .ne 22, 45, 0, 0, nI 0, []),
  (104, 1, .aload_n 1, 0, 0, 0, nI 0, []),
  (105, 1, .aload_n 0, 0, 0, 0, nI 0, []),
  (106, 3, .getfield 33, 5, 3, 265, nI 0, []),
  (109, 3, .getfield 252, 2, 3, 243, nI 0, []),
  (112, 1, .aload_n 0, 0, 0, 0, nI 0, []),
  (113, 3, .getfield 33, 5, 3, 265, nI 0, []),
  (116, 3, .getfield 255, 2, 4, 245, nI 0, []),
  (119, 3, .invokevirtual 104, 29, 3, 414, nI 0, [1]),
  (122, 1, .pop, 0, 0, 0, nI 0, []),
  (123, 1, .iload_n 2, 0, 0, 0, nI 0, []),
  (124, 1, .ireturn, 0, 0, 0, nI 0, []),
  (125, 1, .aload_n 1, 0, 0, 0, nI 0, []),
  (126, 1, .aload_n 0, 0, 0, 0, nI 0, []),
  (127, 3, .getfield 33, 5, 3, 265, nI 0, []),
  (130, 3, .getfield 252, 2, 3, 243, nI 0, []),
  (133, 3, .invokevirtual 111, 30, 2, 430, nI 0, [1]),
  (136, 1, .pop, 0, 0, 0, nI 0, []),
  (137, 1, .iconst 0, 0, 0, 0, nI 0, []),
  (138, 1, .ireturn, 0, 0, 0, nI 0, []),
  (139, 1, .aload_n 0, 0, 0, 0, nI 0, []),
  (140, 3, .getfield 12, 5, 0, 262, nI 0, []),
  (143, 3, .invokevirtual 114, 54, 1, 435, nI 0, [4]),
  (146, 1, .pop, 0, 0, 0, nI 0, []),
  (147, 1, .iconst 0, 0, 0, 0, nI 0, []),
  (148, 1, .ireturn, 0, 0, 0, nI 0, [])]
/- 86: LiningLog.within(III)Z -/
def mj_c86 : List mj_E := [(0, 1, .iload_n 0, 0, 0, 0, nI 0, []),
  (1, 1, .iload_n 1, 0, 0, 0, nI 0, []),
  (2, 3, .if_icmp .lt 12, 8, 0, 0, nI 0, []),
  (5, 1, .iload_n 0, 0, 0, 0, nI 0, []),
  (6, 1, .iload_n 2, 0, 0, 0, nI 0, []),
  (7, 3, .if_icmp .gt 7, 8, 0, 0, nI 0, []),
  (10, 1, .iconst 1, 0, 0, 0, nI 1, []),
  (11, 3, .goto 4, 9, 0, 0, nI 0, []),
  (14, 1, .iconst 0, 0, 0, 0, nI 0, []),
  (15, 1, .ireturn, 0, 1, 0, nI 0, [])]
/- 87: LiningLog.isHeat(II)Z -/
def mj_c87 : List mj_E := [(0, 1, .iload_n 0, 0, 0, 0, nI 0, []),
  (1, 3, .sipush 1400, 0, 0, 0, nI 1400, []),
  (4, 3, .sipush 1800, 0, 0, 0, nI 1800, []),
  (7, 3, .invokestatic 41, 86, 3, 282, nI 0, []),
  (10, 3, .ifCond .eq 17, 12, 0, 0, nI 0, []),
  (13, 1, .iload_n 1, 0, 0, 0, nI 0, []),
  (14, 1, .iconst 0, 0, 0, 0, nI 0, []),
  (15, 2, .bipush 100, 0, 0, 0, nI 100, []),
  (17, 3, .invokestatic 41, 86, 3, 282, nI 0, []),
  (20, 3, .ifCond .eq 7, 12, 0, 0, nI 0, []),
  (23, 1, .iconst 1, 0, 0, 0, nI 1, []),
  (24, 3, .goto 4, 13, 0, 0, nI 0, []),
  (27, 1, .iconst 0, 0, 0, 0, nI 0, []),
  (28, 1, .ireturn, 0, 1, 0, nI 0, [])]
/- 88: LiningLog.isAmount(I)Z -/
def mj_c88 : List mj_E := [(0, 1, .iload_n 0, 0, 0, 0, nI 0, []),
  (1, 1, .iconst 1, 0, 0, 0, nI 1, []),
  (2, 3, .sipush 500, 0, 0, 0, nI 500, []),
  (5, 3, .invokestatic 41, 86, 3, 282, nI 0, []),
  (8, 1, .ireturn, 0, 1, 0, nI 0, [])]
/- 89: LiningLog.factorOf(II)I -/
def mj_c89 : List mj_E := [(0, 2, .bipush 100, 0, 0, 0, nI 100, []),
  (2, 1, .iload_n 0, 0, 0, 0, nI 0, []),
  (3, 3, .sipush 1600, 0, 0, 0, nI 1600, []),
  (6, 1, .isub, 0, 0, 0, nI 0, []),
  (7, 1, .iconst 4, 0, 0, 0, nI 4, []),
  (8, 3, .invokestatic 258, 147, 2, 339, nI 0, []),
  (11, 1, .iadd, 0, 0, 0, nI 0, []),
  (12, 1, .iload_n 1, 0, 0, 0, nI 0, []),
  (13, 1, .iconst 2, 0, 0, 0, nI 2, []),
  (14, 1, .idiv, 0, 0, 0, nI 0, []),
  (15, 1, .iadd, 0, 0, 0, nI 0, []),
  (16, 1, .ireturn, 0, 0, 0, nI 0, [])]
/- 90: LiningLogModel.<init>()V -/
def mj_c90 : List mj_E := [(0, 1, .aload_n 0, 0, 0, 0, nI 0, []),
  (1, 3, .invokespecial 1, 999, 1, 657, nI 0, []),
  (4, 1, .aload_n 0, 0, 0, 0, nI 0, []),
  (5, 3, .sipush 627, 0, 0, 0, nI 627, []),
  (8, 2, .newarray .int, 18, 0, 0, nI 0, []),
  (10, 3, .putfield 7, 6, 0, 666, nI 0, []),
  (13, 1, .aload_n 0, 0, 0, 0, nI 0, []),
  (14, 3, .sipush 2508, 0, 0, 0, nI 2508, []),
  (17, 2, .newarray .int, 19, 0, 0, nI 0, []),
  (19, 3, .putfield 13, 6, 1, 667, nI 0, []),
  (22, 1, .aload_n 0, 0, 0, 0, nI 0, []),
  (23, 3, .sipush 627, 0, 0, 0, nI 627, []),
  (26, 2, .newarray .int, 20, 0, 0, nI 0, []),
  (28, 3, .putfield 16, 6, 4, 670, nI 0, []),
  (31, 1, .aload_n 0, 0, 0, 0, nI 0, []),
  (32, 2, .bipush 60, 0, 0, 0, nI 60, []),
  (34, 2, .newarray .int, 21, 0, 0, nI 0, []),
  (36, 3, .putfield 19, 6, 5, 671, nI 0, []),
  (39, 1, .aload_n 0, 0, 0, 0, nI 0, []),
  (40, 2, .bipush 100, 0, 0, 0, nI 100, []),
  (42, 2, .newarray .char, 22, 0, 0, nI 0, []),
  (44, 3, .putfield 22, 6, 6, 672, nI 0, []),
  (47, 1, .aload_n 0, 0, 0, 0, nI 0, []),
  (48, 1, .iconst 3, 0, 0, 0, nI 3, []),
  (49, 2, .bipush 6, 0, 0, 0, nI 6, []),
  (51, 3, .invokevirtual 26, 95, 3, 658, nI 0, [6]),
  (54, 1, .return_, 0, 0, 0, nI 0, [])]
/- 91: LiningLogModel.in(III)Z -/
def mj_c91 : List mj_E := [(0, 1, .iload_n 0, 0, 0, 0, nI 0, []),
  (1, 1, .iload_n 1, 0, 0, 0, nI 0, []),
  (2, 3, .if_icmp .lt 12, 8, 0, 0, nI 0, []),
  (5, 1, .iload_n 0, 0, 0, 0, nI 0, []),
  (6, 1, .iload_n 2, 0, 0, 0, nI 0, []),
  (7, 3, .if_icmp .gt 7, 8, 0, 0, nI 0, []),
  (10, 1, .iconst 1, 0, 0, 0, nI 1, []),
  (11, 3, .goto 4, 9, 0, 0, nI 0, []),
  (14, 1, .iconst 0, 0, 0, 0, nI 0, []),
  (15, 1, .ireturn, 0, 1, 0, nI 0, [])]
/- 92: LiningLogModel.down(II)I -/
def mj_c92 : List mj_E := [(0, 1, .iload_n 0, 0, 0, 0, nI 0, []),
  (1, 1, .iload_n 1, 0, 0, 0, nI 0, []),
  (2, 1, .idiv, 0, 0, 0, nI 0, []),
  (3, 1, .istore_n 2, 0, 0, 0, nI 0, []),
  (4, 1, .iload_n 2, 0, 0, 0, nI 0, []),
  (5, 1, .iload_n 1, 0, 0, 0, nI 0, []),
  (6, 1, .imul, 0, 0, 0, nI 0, []),
  (7, 1, .iload_n 0, 0, 0, 0, nI 0, []),
  (8, 3, .if_icmp .le 9, 13, 0, 0, nI 0, []),
  (11, 1, .iload_n 2, 0, 0, 0, nI 0, []),
  (12, 1, .iconst 1, 0, 0, 0, nI 1, []),
  (13, 1, .isub, 0, 0, 0, nI 0, []),
  (14, 3, .goto 4, 14, 0, 0, nI 0, []),
  (17, 1, .iload_n 2, 0, 0, 0, nI 0, []),
  (18, 1, .ireturn, 0, 0, 0, nI 0, [])]
/- 93: LiningLogModel.spots()I -/
def mj_c93 : List mj_E := [(0, 1, .aload_n 0, 0, 0, 0, nI 0, []),
  (1, 3, .getfield 7, 6, 0, 666, nI 0, []),
  (4, 1, .iconst 0, 0, 0, 0, nI 0, []),
  (5, 1, .iaload, 0, 0, 0, nI 0, []),
  (6, 1, .aload_n 0, 0, 0, 0, nI 0, []),
  (7, 3, .getfield 7, 6, 0, 666, nI 0, []),
  (10, 1, .iconst 1, 0, 0, 0, nI 1, []),
  (11, 1, .iaload, 0, 0, 0, nI 0, []),
  (12, 1, .imul, 0, 0, 0, nI 0, []),
  (13, 1, .ireturn, 0, 0, 0, nI 0, [])]
/- 94: LiningLogModel.records()V -/
def mj_c94 : List mj_E := [(0, 1, .aload_n 0, 0, 0, 0, nI 0, []),
  (1, 3, .getfield 30, 6, 2, 668, nI 0, []),
  (4, 1, .iconst 4, 0, 0, 0, nI 4, []),
  (5, 3, .if_icmp .ne 44, 27, 0, 0, nI 0, []),
  (8, 1, .iconst 0, 0, 0, 0, nI 0, []),
  (9, 1, .istore_n 1, 0, 0, 0, nI 0, []),
  (10, 1, .iload_n 1, 0, 0, 0, nI 0, []),
  (11, 3, .sipush 1881, 0, 0, 0, nI 1881, []),
  (14, 3, .if_icmp .ge 25, 21, 0, 0, nI 0, []),
  (17, 1, .aload_n 0, 0, 0, 0, nI 0, []),
  (18, 3, .getfield 13, 6, 1, 667, nI 0, []),
  (21, 1, .iload_n 1, 0, 0, 0, nI 0, []),
  (22, 1, .aload_n 0, 0, 0, 0, nI 0, []),
  (23, 3, .getfield 13, 6, 1, 667, nI 0, []),
  (26, 1, .iload_n 1, 0, 0, 0, nI 0, []),
  (27, 3, .sipush 627, 0, 0, 0, nI 627, []),
  (30, 1, .iadd, 0, 0, 0, nI 0, []),
  (31, 1, .iaload, 0, 0, 0, nI 0, []),
  (32, 1, .iastore, 0, 0, 0, nI 0, []),
  (33, 3, .iinc 1 1, 0, 0, 0, nI 1, []),
  (36, 3, .goto (-26), 6, 0, 0, nI 0, []),
  (39, 1, .aload_n 0, 0, 0, 0, nI 0, []),
  (40, 1, .dup, 0, 0, 0, nI 0, []),
  (41, 3, .getfield 30, 6, 2, 668, nI 0, []),
  (44, 1, .iconst 1, 0, 0, 0, nI 1, []),
  (45, 1, .isub, 0, 0, 0, nI 0, []),
  (46, 3, .putfield 30, 6, 2, 668, nI 0, []),
  (49, 1, .iconst 0, 0, 0, 0, nI 0, []),
  (50, 1, .istore_n 1, 0, 0, 0, nI 0, []),
  (51, 1, .iload_n 1, 0, 0, 0, nI 0, []),
  (52, 3, .sipush 627, 0, 0, 0, nI 627, []),
  (55, 3, .if_icmp .ge 30, 47, 0, 0, nI 0, []),
  (58, 1, .aload_n 0, 0, 0, 0, nI 0, []),
  (59, 3, .getfield 13, 6, 1, 667, nI 0, []),
  (62, 3, .sipush 627, 0, 0, 0, nI 627, []),
  (65, 1, .aload_n 0, 0, 0, 0, nI 0, []),
  (66, 3, .getfield 30, 6, 2, 668, nI 0, []),
  (69, 1, .imul, 0, 0, 0, nI 0, []),
  (70, 1, .iload_n 1, 0, 0, 0, nI 0, []),
  (71, 1, .iadd, 0, 0, 0, nI 0, []),
  (72, 1, .aload_n 0, 0, 0, 0, nI 0, []),
  (73, 3, .getfield 7, 6, 0, 666, nI 0, []),
  (76, 1, .iload_n 1, 0, 0, 0, nI 0, []),
  (77, 1, .iaload, 0, 0, 0, nI 0, []),
  (78, 1, .iastore, 0, 0, 0, nI 0, []),
  (79, 3, .iinc 1 1, 0, 0, 0, nI 1, []),
  (82, 3, .goto (-31), 29, 0, 0, nI 0, []),
  (85, 1, .aload_n 0, 0, 0, 0, nI 0, []),
  (86, 1, .dup, 0, 0, 0, nI 0, []),
  (87, 3, .getfield 30, 6, 2, 668, nI 0, []),
  (90, 1, .iconst 1, 0, 0, 0, nI 1, []),
  (91, 1, .iadd, 0, 0, 0, nI 0, []),
  (92, 3, .putfield 30, 6, 2, 668, nI 0, []),
  (95, 1, .return_, 0, 0, 0, nI 0, [])]
/- 95: LiningLogModel.begins(II)V -/
def mj_c95 : List mj_E := [(0, 1, .iconst 0, 0, 0, 0, nI 0, []),
  (1, 1, .istore_n 3, 0, 0, 0, nI 0, []),
  (2, 1, .iload_n 3, 0, 0, 0, nI 0, []),
  (3, 3, .sipush 627, 0, 0, 0, nI 627, []),
  (6, 3, .if_icmp .ge 16, 12, 0, 0, nI 0, []),
  (9, 1, .aload_n 0, 0, 0, 0, nI 0, []),
  (10, 3, .getfield 7, 6, 0, 666, nI 0, []),
  (13, 1, .iload_n 3, 0, 0, 0, nI 0, []),
  (14, 1, .iconst 0, 0, 0, 0, nI 0, []),
  (15, 1, .iastore, 0, 0, 0, nI 0, []),
  (16, 3, .iinc 3 1, 0, 0, 0, nI 1, []),
  (19, 3, .goto (-17), 2, 0, 0, nI 0, []),
  (22, 1, .aload_n 0, 0, 0, 0, nI 0, []),
  (23, 3, .getfield 7, 6, 0, 666, nI 0, []),
  (26, 1, .iconst 0, 0, 0, 0, nI 0, []),
  (27, 1, .iload_n 1, 0, 0, 0, nI 0, []),
  (28, 1, .iastore, 0, 0, 0, nI 0, []),
  (29, 1, .aload_n 0, 0, 0, 0, nI 0, []),
  (30, 3, .getfield 7, 6, 0, 666, nI 0, []),
  (33, 1, .iconst 1, 0, 0, 0, nI 1, []),
  (34, 1, .iload_n 2, 0, 0, 0, nI 0, []),
  (35, 1, .iastore, 0, 0, 0, nI 0, []),
  (36, 1, .aload_n 0, 0, 0, 0, nI 0, []),
  (37, 3, .getfield 7, 6, 0, 666, nI 0, []),
  (40, 1, .iconst 4, 0, 0, 0, nI 4, []),
  (41, 1, .iconst 1, 0, 0, 0, nI 1, []),
  (42, 1, .iastore, 0, 0, 0, nI 0, []),
  (43, 1, .iconst 0, 0, 0, 0, nI 0, []),
  (44, 1, .istore_n 3, 0, 0, 0, nI 0, []),
  (45, 1, .iload_n 3, 0, 0, 0, nI 0, []),
  (46, 2, .bipush 6, 0, 0, 0, nI 6, []),
  (48, 3, .if_icmp .ge 20, 41, 0, 0, nI 0, []),
  (51, 1, .aload_n 0, 0, 0, 0, nI 0, []),
  (52, 3, .getfield 7, 6, 0, 666, nI 0, []),
  (55, 2, .bipush 6, 0, 0, 0, nI 6, []),
  (57, 1, .iload_n 3, 0, 0, 0, nI 0, []),
  (58, 1, .iadd, 0, 0, 0, nI 0, []),
  (59, 2, .bipush 10, 0, 0, 0, nI 10, []),
  (61, 1, .iastore, 0, 0, 0, nI 0, []),
  (62, 3, .iinc 3 1, 0, 0, 0, nI 1, []),
  (65, 3, .goto (-20), 29, 0, 0, nI 0, []),
  (68, 1, .aload_n 0, 0, 0, 0, nI 0, []),
  (69, 3, .getfield 7, 6, 0, 666, nI 0, []),
  (72, 2, .bipush 12, 0, 0, 0, nI 12, []),
  (74, 3, .sipush 800, 0, 0, 0, nI 800, []),
  (77, 1, .iastore, 0, 0, 0, nI 0, []),
  (78, 1, .aload_n 0, 0, 0, 0, nI 0, []),
  (79, 3, .getfield 7, 6, 0, 666, nI 0, []),
  (82, 2, .bipush 13, 0, 0, 0, nI 13, []),
  (84, 2, .bipush 50, 0, 0, 0, nI 50, []),
  (86, 1, .iastore, 0, 0, 0, nI 0, []),
  (87, 1, .aload_n 0, 0, 0, 0, nI 0, []),
  (88, 3, .getfield 7, 6, 0, 666, nI 0, []),
  (91, 2, .bipush 14, 0, 0, 0, nI 14, []),
  (93, 3, .sipush 30000, 0, 0, 0, nI 30000, []),
  (96, 1, .iastore, 0, 0, 0, nI 0, []),
  (97, 1, .aload_n 0, 0, 0, 0, nI 0, []),
  (98, 3, .getfield 7, 6, 0, 666, nI 0, []),
  (101, 2, .bipush 15, 0, 0, 0, nI 15, []),
  (103, 2, .bipush 60, 0, 0, 0, nI 60, []),
  (105, 1, .iastore, 0, 0, 0, nI 0, []),
  (106, 1, .aload_n 0, 0, 0, 0, nI 0, []),
  (107, 3, .getfield 7, 6, 0, 666, nI 0, []),
  (110, 2, .bipush 16, 0, 0, 0, nI 16, []),
  (112, 3, .sipush 20000, 0, 0, 0, nI 20000, []),
  (115, 1, .iastore, 0, 0, 0, nI 0, []),
  (116, 1, .aload_n 0, 0, 0, 0, nI 0, []),
  (117, 3, .getfield 7, 6, 0, 666, nI 0, []),
  (120, 2, .bipush 17, 0, 0, 0, nI 17, []),
  (122, 2, .bipush 20, 0, 0, 0, nI 20, []),
  (124, 1, .iastore, 0, 0, 0, nI 0, []),
  (125, 1, .iconst 0, 0, 0, 0, nI 0, []),
  (126, 1, .istore_n 3, 0, 0, 0, nI 0, []),
  (127, 1, .iload_n 3, 0, 0, 0, nI 0, []),
  (128, 1, .aload_n 0, 0, 0, 0, nI 0, []),
  (129, 3, .invokevirtual 34, 93, 1, 662, nI 0, [6]),
  (132, 3, .if_icmp .ge 21, 86, 0, 0, nI 0, []),
  (135, 1, .aload_n 0, 0, 0, 0, nI 0, []),
  (136, 3, .getfield 7, 6, 0, 666, nI 0, []),
  (139, 2, .bipush 22, 0, 0, 0, nI 22, []),
  (141, 1, .iload_n 3, 0, 0, 0, nI 0, []),
  (142, 1, .iadd, 0, 0, 0, nI 0, []),
  (143, 3, .sipush 3000, 0, 0, 0, nI 3000, []),
  (146, 1, .iastore, 0, 0, 0, nI 0, []),
  (147, 3, .iinc 3 1, 0, 0, 0, nI 1, []),
  (150, 3, .goto (-23), 73, 0, 0, nI 0, []),
  (153, 1, .aload_n 0, 0, 0, 0, nI 0, []),
  (154, 3, .getfield 7, 6, 0, 666, nI 0, []),
  (157, 2, .bipush 18, 0, 0, 0, nI 18, []),
  (159, 3, .sipush 3000, 0, 0, 0, nI 3000, []),
  (162, 1, .aload_n 0, 0, 0, 0, nI 0, []),
  (163, 3, .invokevirtual 34, 93, 1, 662, nI 0, [6]),
  (166, 1, .imul, 0, 0, 0, nI 0, []),
  (167, 1, .iastore, 0, 0, 0, nI 0, []),
  (168, 1, .return_, 0, 0, 0, nI 0, [])]
/- 96: LiningLogModel.thick(I)I -/
def mj_c96 : List mj_E := [(0, 1, .aload_n 0, 0, 0, 0, nI 0, []),
  (1, 3, .getfield 7, 6, 0, 666, nI 0, []),
  (4, 2, .bipush 22, 0, 0, 0, nI 22, []),
  (6, 1, .iload_n 1, 0, 0, 0, nI 0, []),
  (7, 1, .iadd, 0, 0, 0, nI 0, []),
  (8, 1, .iaload, 0, 0, 0, nI 0, []),
  (9, 1, .aload_n 0, 0, 0, 0, nI 0, []),
  (10, 3, .getfield 7, 6, 0, 666, nI 0, []),
  (13, 2, .bipush 82, 0, 0, 0, nI 82, []),
  (15, 1, .iload_n 1, 0, 0, 0, nI 0, []),
  (16, 1, .iadd, 0, 0, 0, nI 0, []),
  (17, 1, .iaload, 0, 0, 0, nI 0, []),
  (18, 1, .iadd, 0, 0, 0, nI 0, []),
  (19, 1, .ireturn, 0, 0, 0, nI 0, [])]
/- 97: LiningLogModel.beside(II)I -/
def mj_c97 : List mj_E := [(0, 1, .iload_n 1, 0, 0, 0, nI 0, []),
  (1, 1, .aload_n 0, 0, 0, 0, nI 0, []),
  (2, 3, .getfield 7, 6, 0, 666, nI 0, []),
  (5, 1, .iconst 1, 0, 0, 0, nI 1, []),
  (6, 1, .iaload, 0, 0, 0, nI 0, []),
  (7, 1, .idiv, 0, 0, 0, nI 0, []),
  (8, 1, .istore_n 3, 0, 0, 0, nI 0, []),
  (9, 1, .iload_n 1, 0, 0, 0, nI 0, []),
  (10, 1, .aload_n 0, 0, 0, 0, nI 0, []),
  (11, 3, .getfield 7, 6, 0, 666, nI 0, []),
  (14, 1, .iconst 1, 0, 0, 0, nI 1, []),
  (15, 1, .iaload, 0, 0, 0, nI 0, []),
  (16, 1, .irem, 0, 0, 0, nI 0, []),
  (17, 2, .istore 4, 0, 0, 0, nI 0, []),
  (19, 1, .iload_n 2, 0, 0, 0, nI 0, []),
  (20, 2, .istore 5, 0, 0, 0, nI 0, []),
  (22, 1, .iconst 0, 0, 0, 0, nI 0, []),
  (23, 2, .istore 6, 0, 0, 0, nI 0, []),
  (25, 2, .iload 6, 0, 0, 0, nI 0, []),
  (27, 1, .aload_n 0, 0, 0, 0, nI 0, []),
  (28, 3, .invokevirtual 34, 93, 1, 662, nI 0, [6]),
  (31, 3, .if_icmp .ge 127, 92, 0, 0, nI 0, []),
  (34, 2, .iload 6, 0, 0, 0, nI 0, []),
  (36, 1, .aload_n 0, 0, 0, 0, nI 0, []),
  (37, 3, .getfield 7, 6, 0, 666, nI 0, []),
  (40, 1, .iconst 1, 0, 0, 0, nI 1, []),
  (41, 1, .iaload, 0, 0, 0, nI 0, []),
  (42, 1, .idiv, 0, 0, 0, nI 0, []),
  (43, 2, .istore 7, 0, 0, 0, nI 0, []),
  (45, 2, .iload 6, 0, 0, 0, nI 0, []),
  (47, 1, .aload_n 0, 0, 0, 0, nI 0, []),
  (48, 3, .getfield 7, 6, 0, 666, nI 0, []),
  (51, 1, .iconst 1, 0, 0, 0, nI 1, []),
  (52, 1, .iaload, 0, 0, 0, nI 0, []),
  (53, 1, .irem, 0, 0, 0, nI 0, []),
  (54, 2, .istore 8, 0, 0, 0, nI 0, []),
  (56, 2, .iload 7, 0, 0, 0, nI 0, []),
  (58, 1, .iload_n 3, 0, 0, 0, nI 0, []),
  (59, 3, .if_icmp .ne 35, 59, 0, 0, nI 0, []),
  (62, 2, .iload 8, 0, 0, 0, nI 0, []),
  (64, 2, .iload 4, 0, 0, 0, nI 0, []),
  (66, 1, .iconst 1, 0, 0, 0, nI 1, []),
  (67, 1, .iadd, 0, 0, 0, nI 0, []),
  (68, 1, .aload_n 0, 0, 0, 0, nI 0, []),
  (69, 3, .getfield 7, 6, 0, 666, nI 0, []),
  (72, 1, .iconst 1, 0, 0, 0, nI 1, []),
  (73, 1, .iaload, 0, 0, 0, nI 0, []),
  (74, 1, .irem, 0, 0, 0, nI 0, []),
  (75, 3, .if_icmp .eq 42, 72, 0, 0, nI 0, []),
  (78, 2, .iload 4, 0, 0, 0, nI 0, []),
  (80, 2, .iload 8, 0, 0, 0, nI 0, []),
  (82, 1, .iconst 1, 0, 0, 0, nI 1, []),
  (83, 1, .iadd, 0, 0, 0, nI 0, []),
  (84, 1, .aload_n 0, 0, 0, 0, nI 0, []),
  (85, 3, .getfield 7, 6, 0, 666, nI 0, []),
  (88, 1, .iconst 1, 0, 0, 0, nI 1, []),
  (89, 1, .iaload, 0, 0, 0, nI 0, []),
  (90, 1, .irem, 0, 0, 0, nI 0, []),
  (91, 3, .if_icmp .eq 26, 72, 0, 0, nI 0, []),
  (94, 2, .iload 8, 0, 0, 0, nI 0, []),
  (96, 2, .iload 4, 0, 0, 0, nI 0, []),
  (98, 3, .if_icmp .ne 23, 74, 0, 0, nI 0, []),
  (101, 2, .iload 7, 0, 0, 0, nI 0, []),
  (103, 1, .iload_n 3, 0, 0, 0, nI 0, []),
  (104, 1, .iconst 1, 0, 0, 0, nI 1, []),
  (105, 1, .iadd, 0, 0, 0, nI 0, []),
  (106, 3, .if_icmp .eq 11, 72, 0, 0, nI 0, []),
  (109, 2, .iload 7, 0, 0, 0, nI 0, []),
  (111, 1, .iload_n 3, 0, 0, 0, nI 0, []),
  (112, 1, .iconst 1, 0, 0, 0, nI 1, []),
  (113, 1, .isub, 0, 0, 0, nI 0, []),
  (114, 3, .if_icmp .ne 7, 74, 0, 0, nI 0, []),
  (117, 1, .iconst 1, 0, 0, 0, nI 1, []),
  (118, 3, .goto 4, 75, 0, 0, nI 0, []),
  (121, 1, .iconst 0, 0, 0, 0, nI 0, []),
  (122, 2, .istore 9, 0, 0, 0, nI 0, []),
  (124, 2, .iload 9, 0, 0, 0, nI 0, []),
  (126, 3, .ifCond .eq 11, 82, 0, 0, nI 0, []),
  (129, 2, .iload 5, 0, 0, 0, nI 0, []),
  (131, 3, .ifCond .ne 6, 82, 0, 0, nI 0, []),
  (134, 2, .iload 6, 0, 0, 0, nI 0, []),
  (136, 1, .ireturn, 0, 0, 0, nI 0, []),
  (137, 2, .iload 5, 0, 0, 0, nI 0, []),
  (139, 2, .iload 9, 0, 0, 0, nI 0, []),
  (141, 3, .ifCond .eq 7, 87, 0, 0, nI 0, []),
  (144, 1, .iconst 1, 0, 0, 0, nI 1, []),
  (145, 3, .goto 4, 88, 0, 0, nI 0, []),
  (148, 1, .iconst 0, 0, 0, 0, nI 0, []),
  (149, 1, .isub, 0, 0, 0, nI 0, []),
  (150, 2, .istore 5, 0, 0, 0, nI 0, []),
  (152, 3, .iinc 6 1, 0, 0, 0, nI 1, []),
  (155, 3, .goto (-130), 18, 0, 0, nI 0, []),
  (158, 1, .iconst (-1), 0, 0, 0, (-1), []),
  (159, 1, .ireturn, 0, 0, 0, nI 0, [])]
/- 98: LiningLogModel.besides(I)I -/
def mj_c98 : List mj_E := [(0, 1, .iload_n 1, 0, 0, 0, nI 0, []),
  (1, 1, .aload_n 0, 0, 0, 0, nI 0, []),
  (2, 3, .getfield 7, 6, 0, 666, nI 0, []),
  (5, 1, .iconst 1, 0, 0, 0, nI 1, []),
  (6, 1, .iaload, 0, 0, 0, nI 0, []),
  (7, 1, .idiv, 0, 0, 0, nI 0, []),
  (8, 1, .istore_n 2, 0, 0, 0, nI 0, []),
  (9, 1, .iconst 2, 0, 0, 0, nI 2, []),
  (10, 1, .iload_n 2, 0, 0, 0, nI 0, []),
  (11, 3, .ifCond .le 7, 12, 0, 0, nI 0, []),
  (14, 1, .iconst 1, 0, 0, 0, nI 1, []),
  (15, 3, .goto 4, 13, 0, 0, nI 0, []),
  (18, 1, .iconst 0, 0, 0, 0, nI 0, []),
  (19, 1, .iadd, 0, 0, 0, nI 0, []),
  (20, 1, .iload_n 2, 0, 0, 0, nI 0, []),
  (21, 1, .iconst 1, 0, 0, 0, nI 1, []),
  (22, 1, .iadd, 0, 0, 0, nI 0, []),
  (23, 1, .aload_n 0, 0, 0, 0, nI 0, []),
  (24, 3, .getfield 7, 6, 0, 666, nI 0, []),
  (27, 1, .iconst 0, 0, 0, 0, nI 0, []),
  (28, 1, .iaload, 0, 0, 0, nI 0, []),
  (29, 3, .if_icmp .ge 7, 24, 0, 0, nI 0, []),
  (32, 1, .iconst 1, 0, 0, 0, nI 1, []),
  (33, 3, .goto 4, 25, 0, 0, nI 0, []),
  (36, 1, .iconst 0, 0, 0, 0, nI 0, []),
  (37, 1, .iadd, 0, 0, 0, nI 0, []),
  (38, 1, .ireturn, 0, 0, 0, nI 0, [])]
/- 99: LiningLogModel.leastBeside(I)I -/
def mj_c99 : List mj_E := [(0, 1, .iload_n 1, 0, 0, 0, nI 0, []),
  (1, 1, .iload_n 1, 0, 0, 0, nI 0, []),
  (2, 1, .aload_n 0, 0, 0, 0, nI 0, []),
  (3, 3, .getfield 7, 6, 0, 666, nI 0, []),
  (6, 1, .iconst 1, 0, 0, 0, nI 1, []),
  (7, 1, .iaload, 0, 0, 0, nI 0, []),
  (8, 1, .irem, 0, 0, 0, nI 0, []),
  (9, 1, .isub, 0, 0, 0, nI 0, []),
  (10, 1, .istore_n 2, 0, 0, 0, nI 0, []),
  (11, 1, .aload_n 0, 0, 0, 0, nI 0, []),
  (12, 1, .iload_n 2, 0, 0, 0, nI 0, []),
  (13, 1, .iload_n 1, 0, 0, 0, nI 0, []),
  (14, 1, .iload_n 2, 0, 0, 0, nI 0, []),
  (15, 1, .isub, 0, 0, 0, nI 0, []),
  (16, 1, .aload_n 0, 0, 0, 0, nI 0, []),
  (17, 3, .getfield 7, 6, 0, 666, nI 0, []),
  (20, 1, .iconst 1, 0, 0, 0, nI 1, []),
  (21, 1, .iaload, 0, 0, 0, nI 0, []),
  (22, 1, .iadd, 0, 0, 0, nI 0, []),
  (23, 1, .iconst 1, 0, 0, 0, nI 1, []),
  (24, 1, .isub, 0, 0, 0, nI 0, []),
  (25, 1, .aload_n 0, 0, 0, 0, nI 0, []),
  (26, 3, .getfield 7, 6, 0, 666, nI 0, []),
  (29, 1, .iconst 1, 0, 0, 0, nI 1, []),
  (30, 1, .iaload, 0, 0, 0, nI 0, []),
  (31, 1, .irem, 0, 0, 0, nI 0, []),
  (32, 1, .iadd, 0, 0, 0, nI 0, []),
  (33, 3, .invokevirtual 38, 96, 2, 746, nI 0, [6]),
  (36, 1, .istore_n 3, 0, 0, 0, nI 0, []),
  (37, 1, .aload_n 0, 0, 0, 0, nI 0, []),
  (38, 1, .iload_n 2, 0, 0, 0, nI 0, []),
  (39, 1, .iload_n 1, 0, 0, 0, nI 0, []),
  (40, 1, .iload_n 2, 0, 0, 0, nI 0, []),
  (41, 1, .isub, 0, 0, 0, nI 0, []),
  (42, 1, .iconst 1, 0, 0, 0, nI 1, []),
  (43, 1, .iadd, 0, 0, 0, nI 0, []),
  (44, 1, .aload_n 0, 0, 0, 0, nI 0, []),
  (45, 3, .getfield 7, 6, 0, 666, nI 0, []),
  (48, 1, .iconst 1, 0, 0, 0, nI 1, []),
  (49, 1, .iaload, 0, 0, 0, nI 0, []),
  (50, 1, .irem, 0, 0, 0, nI 0, []),
  (51, 1, .iadd, 0, 0, 0, nI 0, []),
  (52, 3, .invokevirtual 38, 96, 2, 746, nI 0, [6]),
  (55, 2, .istore 4, 0, 0, 0, nI 0, []),
  (57, 1, .iload_n 3, 0, 0, 0, nI 0, []),
  (58, 2, .iload 4, 0, 0, 0, nI 0, []),
  (60, 3, .if_icmp .ge 7, 49, 0, 0, nI 0, []),
  (63, 1, .iload_n 3, 0, 0, 0, nI 0, []),
  (64, 3, .goto 5, 50, 0, 0, nI 0, []),
  (67, 2, .iload 4, 0, 0, 0, nI 0, []),
  (69, 2, .istore 5, 0, 0, 0, nI 0, []),
  (71, 1, .iload_n 1, 0, 0, 0, nI 0, []),
  (72, 1, .aload_n 0, 0, 0, 0, nI 0, []),
  (73, 3, .getfield 7, 6, 0, 666, nI 0, []),
  (76, 1, .iconst 1, 0, 0, 0, nI 1, []),
  (77, 1, .iaload, 0, 0, 0, nI 0, []),
  (78, 3, .if_icmp .lt 39, 78, 0, 0, nI 0, []),
  (81, 1, .aload_n 0, 0, 0, 0, nI 0, []),
  (82, 1, .iload_n 1, 0, 0, 0, nI 0, []),
  (83, 1, .aload_n 0, 0, 0, 0, nI 0, []),
  (84, 3, .getfield 7, 6, 0, 666, nI 0, []),
  (87, 1, .iconst 1, 0, 0, 0, nI 1, []),
  (88, 1, .iaload, 0, 0, 0, nI 0, []),
  (89, 1, .isub, 0, 0, 0, nI 0, []),
  (90, 3, .invokevirtual 38, 96, 2, 746, nI 0, [6]),
  (93, 2, .iload 5, 0, 0, 0, nI 0, []),
  (95, 3, .if_icmp .ge 18, 76, 0, 0, nI 0, []),
  (98, 1, .aload_n 0, 0, 0, 0, nI 0, []),
  (99, 1, .iload_n 1, 0, 0, 0, nI 0, []),
  (100, 1, .aload_n 0, 0, 0, 0, nI 0, []),
  (101, 3, .getfield 7, 6, 0, 666, nI 0, []),
  (104, 1, .iconst 1, 0, 0, 0, nI 1, []),
  (105, 1, .iaload, 0, 0, 0, nI 0, []),
  (106, 1, .isub, 0, 0, 0, nI 0, []),
  (107, 3, .invokevirtual 38, 96, 2, 746, nI 0, [6]),
  (110, 3, .goto 5, 77, 0, 0, nI 0, []),
  (113, 2, .iload 5, 0, 0, 0, nI 0, []),
  (115, 2, .istore 5, 0, 0, 0, nI 0, []),
  (117, 1, .iload_n 1, 0, 0, 0, nI 0, []),
  (118, 1, .aload_n 0, 0, 0, 0, nI 0, []),
  (119, 3, .getfield 7, 6, 0, 666, nI 0, []),
  (122, 1, .iconst 1, 0, 0, 0, nI 1, []),
  (123, 1, .iaload, 0, 0, 0, nI 0, []),
  (124, 1, .iadd, 0, 0, 0, nI 0, []),
  (125, 1, .aload_n 0, 0, 0, 0, nI 0, []),
  (126, 3, .invokevirtual 34, 93, 1, 662, nI 0, [6]),
  (129, 3, .if_icmp .ge 39, 108, 0, 0, nI 0, []),
  (132, 1, .aload_n 0, 0, 0, 0, nI 0, []),
  (133, 1, .iload_n 1, 0, 0, 0, nI 0, []),
  (134, 1, .aload_n 0, 0, 0, 0, nI 0, []),
  (135, 3, .getfield 7, 6, 0, 666, nI 0, []),
  (138, 1, .iconst 1, 0, 0, 0, nI 1, []),
  (139, 1, .iaload, 0, 0, 0, nI 0, []),
  (140, 1, .iadd, 0, 0, 0, nI 0, []),
  (141, 3, .invokevirtual 38, 96, 2, 746, nI 0, [6]),
  (144, 2, .iload 5, 0, 0, 0, nI 0, []),
  (146, 3, .if_icmp .ge 18, 106, 0, 0, nI 0, []),
  (149, 1, .aload_n 0, 0, 0, 0, nI 0, []),
  (150, 1, .iload_n 1, 0, 0, 0, nI 0, []),
  (151, 1, .aload_n 0, 0, 0, 0, nI 0, []),
  (152, 3, .getfield 7, 6, 0, 666, nI 0, []),
  (155, 1, .iconst 1, 0, 0, 0, nI 1, []),
  (156, 1, .iaload, 0, 0, 0, nI 0, []),
  (157, 1, .iadd, 0, 0, 0, nI 0, []),
  (158, 3, .invokevirtual 38, 96, 2, 746, nI 0, [6]),
  (161, 3, .goto 5, 107, 0, 0, nI 0, []),
  (164, 2, .iload 5, 0, 0, 0, nI 0, []),
  (166, 2, .istore 5, 0, 0, 0, nI 0, []),
  (168, 2, .iload 5, 0, 0, 0, nI 0, []),
  (170, 1, .ireturn, 0, 0, 0, nI 0, [])]
/- 100: LiningLogModel.warmth(I)I -/
def mj_c100 : List mj_E := [(0, 2, .bipush 40, 0, 0, 0, nI 40, []),
  (2, 1, .aload_n 0, 0, 0, 0, nI 0, []),
  (3, 3, .getfield 7, 6, 0, 666, nI 0, []),
  (6, 2, .bipush 14, 0, 0, 0, nI 14, []),
  (8, 1, .iaload, 0, 0, 0, nI 0, []),
  (9, 1, .aload_n 0, 0, 0, 0, nI 0, []),
  (10, 1, .iload_n 1, 0, 0, 0, nI 0, []),
  (11, 3, .invokevirtual 38, 96, 2, 746, nI 0, [6]),
  (14, 2, .bipush 100, 0, 0, 0, nI 100, []),
  (16, 1, .iadd, 0, 0, 0, nI 0, []),
  (17, 1, .idiv, 0, 0, 0, nI 0, []),
  (18, 1, .iadd, 0, 0, 0, nI 0, []),
  (19, 1, .ireturn, 0, 0, 0, nI 0, [])]
/- 101: LiningLogModel.wearOf(III)I -/
def mj_c101 : List mj_E := [(0, 2, .bipush 100, 0, 0, 0, nI 100, []),
  (2, 1, .iload_n 2, 0, 0, 0, nI 0, []),
  (3, 3, .sipush 1600, 0, 0, 0, nI 1600, []),
  (6, 1, .isub, 0, 0, 0, nI 0, []),
  (7, 1, .iconst 4, 0, 0, 0, nI 4, []),
  (8, 3, .invokestatic 42, 92, 2, 743, nI 0, []),
  (11, 1, .iadd, 0, 0, 0, nI 0, []),
  (12, 1, .iload_n 3, 0, 0, 0, nI 0, []),
  (13, 1, .iconst 2, 0, 0, 0, nI 2, []),
  (14, 1, .idiv, 0, 0, 0, nI 0, []),
  (15, 1, .iadd, 0, 0, 0, nI 0, []),
  (16, 2, .istore 4, 0, 0, 0, nI 0, []),
  (18, 1, .aload_n 0, 0, 0, 0, nI 0, []),
  (19, 1, .iload_n 1, 0, 0, 0, nI 0, []),
  (20, 3, .invokevirtual 38, 96, 2, 746, nI 0, [6]),
  (23, 1, .aload_n 0, 0, 0, 0, nI 0, []),
  (24, 1, .iload_n 1, 0, 0, 0, nI 0, []),
  (25, 3, .invokevirtual 46, 99, 2, 750, nI 0, [6]),
  (28, 1, .isub, 0, 0, 0, nI 0, []),
  (29, 2, .istore 5, 0, 0, 0, nI 0, []),
  (31, 1, .aload_n 0, 0, 0, 0, nI 0, []),
  (32, 3, .getfield 7, 6, 0, 666, nI 0, []),
  (35, 2, .bipush 6, 0, 0, 0, nI 6, []),
  (37, 1, .iload_n 1, 0, 0, 0, nI 0, []),
  (38, 1, .aload_n 0, 0, 0, 0, nI 0, []),
  (39, 3, .getfield 7, 6, 0, 666, nI 0, []),
  (42, 1, .iconst 1, 0, 0, 0, nI 1, []),
  (43, 1, .iaload, 0, 0, 0, nI 0, []),
  (44, 1, .idiv, 0, 0, 0, nI 0, []),
  (45, 1, .iadd, 0, 0, 0, nI 0, []),
  (46, 1, .iaload, 0, 0, 0, nI 0, []),
  (47, 2, .iload 4, 0, 0, 0, nI 0, []),
  (49, 1, .imul, 0, 0, 0, nI 0, []),
  (50, 2, .bipush 100, 0, 0, 0, nI 100, []),
  (52, 1, .idiv, 0, 0, 0, nI 0, []),
  (53, 2, .iload 5, 0, 0, 0, nI 0, []),
  (55, 1, .aload_n 0, 0, 0, 0, nI 0, []),
  (56, 3, .getfield 7, 6, 0, 666, nI 0, []),
  (59, 2, .bipush 13, 0, 0, 0, nI 13, []),
  (61, 1, .iaload, 0, 0, 0, nI 0, []),
  (62, 3, .if_icmp .lt 16, 48, 0, 0, nI 0, []),
  (65, 2, .iload 5, 0, 0, 0, nI 0, []),
  (67, 1, .aload_n 0, 0, 0, 0, nI 0, []),
  (68, 3, .getfield 7, 6, 0, 666, nI 0, []),
  (71, 2, .bipush 13, 0, 0, 0, nI 13, []),
  (73, 1, .iaload, 0, 0, 0, nI 0, []),
  (74, 1, .idiv, 0, 0, 0, nI 0, []),
  (75, 3, .goto 4, 49, 0, 0, nI 0, []),
  (78, 1, .iconst 0, 0, 0, 0, nI 0, []),
  (79, 1, .iadd, 0, 0, 0, nI 0, []),
  (80, 2, .istore 6, 0, 0, 0, nI 0, []),
  (82, 2, .iload 6, 0, 0, 0, nI 0, []),
  (84, 3, .ifCond .ge 7, 55, 0, 0, nI 0, []),
  (87, 1, .iconst 0, 0, 0, 0, nI 0, []),
  (88, 3, .goto 5, 56, 0, 0, nI 0, []),
  (91, 2, .iload 6, 0, 0, 0, nI 0, []),
  (93, 1, .ireturn, 0, 0, 0, nI 0, [])]
/- 102: LiningLogModel.wears(II)I -/
def mj_c102 : List mj_E := [(0, 1, .aload_n 0, 0, 0, 0, nI 0, []),
  (1, 3, .getfield 7, 6, 0, 666, nI 0, []),
  (4, 2, .bipush 82, 0, 0, 0, nI 82, []),
  (6, 1, .iload_n 1, 0, 0, 0, nI 0, []),
  (7, 1, .iadd, 0, 0, 0, nI 0, []),
  (8, 1, .iaload, 0, 0, 0, nI 0, []),
  (9, 1, .istore_n 3, 0, 0, 0, nI 0, []),
  (10, 1, .iload_n 3, 0, 0, 0, nI 0, []),
  (11, 1, .iconst 2, 0, 0, 0, nI 2, []),
  (12, 1, .iload_n 2, 0, 0, 0, nI 0, []),
  (13, 1, .imul, 0, 0, 0, nI 0, []),
  (14, 3, .if_icmp .lt 22, 28, 0, 0, nI 0, []),
  (17, 1, .aload_n 0, 0, 0, 0, nI 0, []),
  (18, 3, .getfield 7, 6, 0, 666, nI 0, []),
  (21, 2, .bipush 82, 0, 0, 0, nI 82, []),
  (23, 1, .iload_n 1, 0, 0, 0, nI 0, []),
  (24, 1, .iadd, 0, 0, 0, nI 0, []),
  (25, 1, .dup2, 0, 0, 0, nI 0, []),
  (26, 1, .iaload, 0, 0, 0, nI 0, []),
  (27, 1, .iconst 2, 0, 0, 0, nI 2, []),
  (28, 1, .iload_n 2, 0, 0, 0, nI 0, []),
  (29, 1, .imul, 0, 0, 0, nI 0, []),
  (30, 1, .isub, 0, 0, 0, nI 0, []),
  (31, 1, .iastore, 0, 0, 0, nI 0, []),
  (32, 1, .iconst 2, 0, 0, 0, nI 2, []),
  (33, 1, .iload_n 2, 0, 0, 0, nI 0, []),
  (34, 1, .imul, 0, 0, 0, nI 0, []),
  (35, 1, .ireturn, 0, 0, 0, nI 0, []),
  (36, 1, .iload_n 2, 0, 0, 0, nI 0, []),
  (37, 1, .iload_n 3, 0, 0, 0, nI 0, []),
  (38, 1, .iconst 2, 0, 0, 0, nI 2, []),
  (39, 1, .idiv, 0, 0, 0, nI 0, []),
  (40, 1, .isub, 0, 0, 0, nI 0, []),
  (41, 2, .istore 4, 0, 0, 0, nI 0, []),
  (43, 2, .iload 4, 0, 0, 0, nI 0, []),
  (45, 1, .aload_n 0, 0, 0, 0, nI 0, []),
  (46, 3, .getfield 7, 6, 0, 666, nI 0, []),
  (49, 2, .bipush 22, 0, 0, 0, nI 22, []),
  (51, 1, .iload_n 1, 0, 0, 0, nI 0, []),
  (52, 1, .iadd, 0, 0, 0, nI 0, []),
  (53, 1, .iaload, 0, 0, 0, nI 0, []),
  (54, 3, .if_icmp .le 15, 49, 0, 0, nI 0, []),
  (57, 1, .aload_n 0, 0, 0, 0, nI 0, []),
  (58, 3, .getfield 7, 6, 0, 666, nI 0, []),
  (61, 2, .bipush 22, 0, 0, 0, nI 22, []),
  (63, 1, .iload_n 1, 0, 0, 0, nI 0, []),
  (64, 1, .iadd, 0, 0, 0, nI 0, []),
  (65, 1, .iaload, 0, 0, 0, nI 0, []),
  (66, 3, .goto 5, 50, 0, 0, nI 0, []),
  (69, 2, .iload 4, 0, 0, 0, nI 0, []),
  (71, 2, .istore 4, 0, 0, 0, nI 0, []),
  (73, 1, .aload_n 0, 0, 0, 0, nI 0, []),
  (74, 3, .getfield 7, 6, 0, 666, nI 0, []),
  (77, 2, .bipush 82, 0, 0, 0, nI 82, []),
  (79, 1, .iload_n 1, 0, 0, 0, nI 0, []),
  (80, 1, .iadd, 0, 0, 0, nI 0, []),
  (81, 1, .iconst 0, 0, 0, 0, nI 0, []),
  (82, 1, .iastore, 0, 0, 0, nI 0, []),
  (83, 1, .aload_n 0, 0, 0, 0, nI 0, []),
  (84, 3, .getfield 7, 6, 0, 666, nI 0, []),
  (87, 2, .bipush 22, 0, 0, 0, nI 22, []),
  (89, 1, .iload_n 1, 0, 0, 0, nI 0, []),
  (90, 1, .iadd, 0, 0, 0, nI 0, []),
  (91, 1, .dup2, 0, 0, 0, nI 0, []),
  (92, 1, .iaload, 0, 0, 0, nI 0, []),
  (93, 2, .iload 4, 0, 0, 0, nI 0, []),
  (95, 1, .isub, 0, 0, 0, nI 0, []),
  (96, 1, .iastore, 0, 0, 0, nI 0, []),
  (97, 1, .iload_n 3, 0, 0, 0, nI 0, []),
  (98, 2, .iload 4, 0, 0, 0, nI 0, []),
  (100, 1, .iadd, 0, 0, 0, nI 0, []),
  (101, 1, .ireturn, 0, 0, 0, nI 0, [])]
/- 103: LiningLogModel.heats(II)I -/
def mj_c103 : List mj_E := [(0, 1, .iconst 0, 0, 0, 0, nI 0, []),
  (1, 1, .istore_n 3, 0, 0, 0, nI 0, []),
  (2, 1, .iload_n 3, 0, 0, 0, nI 0, []),
  (3, 1, .aload_n 0, 0, 0, 0, nI 0, []),
  (4, 3, .invokevirtual 34, 93, 1, 662, nI 0, [6]),
  (7, 3, .if_icmp .ge 22, 17, 0, 0, nI 0, []),
  (10, 1, .aload_n 0, 0, 0, 0, nI 0, []),
  (11, 3, .getfield 19, 6, 5, 671, nI 0, []),
  (14, 1, .iload_n 3, 0, 0, 0, nI 0, []),
  (15, 1, .aload_n 0, 0, 0, 0, nI 0, []),
  (16, 1, .iload_n 3, 0, 0, 0, nI 0, []),
  (17, 1, .iload_n 1, 0, 0, 0, nI 0, []),
  (18, 1, .iload_n 2, 0, 0, 0, nI 0, []),
  (19, 3, .invokevirtual 49, 101, 4, 739, nI 0, [6]),
  (22, 1, .iastore, 0, 0, 0, nI 0, []),
  (23, 3, .iinc 3 1, 0, 0, 0, nI 1, []),
  (26, 3, .goto (-24), 2, 0, 0, nI 0, []),
  (29, 1, .iconst 0, 0, 0, 0, nI 0, []),
  (30, 1, .istore_n 3, 0, 0, 0, nI 0, []),
  (31, 1, .iconst 0, 0, 0, 0, nI 0, []),
  (32, 2, .istore 4, 0, 0, 0, nI 0, []),
  (34, 2, .iload 4, 0, 0, 0, nI 0, []),
  (36, 1, .aload_n 0, 0, 0, 0, nI 0, []),
  (37, 3, .invokevirtual 34, 93, 1, 662, nI 0, [6]),
  (40, 3, .if_icmp .ge 25, 37, 0, 0, nI 0, []),
  (43, 1, .iload_n 3, 0, 0, 0, nI 0, []),
  (44, 1, .aload_n 0, 0, 0, 0, nI 0, []),
  (45, 2, .iload 4, 0, 0, 0, nI 0, []),
  (47, 1, .aload_n 0, 0, 0, 0, nI 0, []),
  (48, 3, .getfield 19, 6, 5, 671, nI 0, []),
  (51, 2, .iload 4, 0, 0, 0, nI 0, []),
  (53, 1, .iaload, 0, 0, 0, nI 0, []),
  (54, 3, .invokevirtual 53, 102, 3, 754, nI 0, [6]),
  (57, 1, .iadd, 0, 0, 0, nI 0, []),
  (58, 1, .istore_n 3, 0, 0, 0, nI 0, []),
  (59, 3, .iinc 4 1, 0, 0, 0, nI 1, []),
  (62, 3, .goto (-28), 21, 0, 0, nI 0, []),
  (65, 1, .aload_n 0, 0, 0, 0, nI 0, []),
  (66, 3, .getfield 7, 6, 0, 666, nI 0, []),
  (69, 2, .bipush 20, 0, 0, 0, nI 20, []),
  (71, 1, .dup2, 0, 0, 0, nI 0, []),
  (72, 1, .iaload, 0, 0, 0, nI 0, []),
  (73, 1, .iload_n 3, 0, 0, 0, nI 0, []),
  (74, 1, .iadd, 0, 0, 0, nI 0, []),
  (75, 1, .iastore, 0, 0, 0, nI 0, []),
  (76, 1, .aload_n 0, 0, 0, 0, nI 0, []),
  (77, 3, .getfield 7, 6, 0, 666, nI 0, []),
  (80, 1, .iconst 2, 0, 0, 0, nI 2, []),
  (81, 1, .dup2, 0, 0, 0, nI 0, []),
  (82, 1, .iaload, 0, 0, 0, nI 0, []),
  (83, 1, .iconst 1, 0, 0, 0, nI 1, []),
  (84, 1, .iadd, 0, 0, 0, nI 0, []),
  (85, 1, .iastore, 0, 0, 0, nI 0, []),
  (86, 1, .aload_n 0, 0, 0, 0, nI 0, []),
  (87, 3, .getfield 7, 6, 0, 666, nI 0, []),
  (90, 1, .iconst 3, 0, 0, 0, nI 3, []),
  (91, 1, .dup2, 0, 0, 0, nI 0, []),
  (92, 1, .iaload, 0, 0, 0, nI 0, []),
  (93, 1, .iconst 1, 0, 0, 0, nI 1, []),
  (94, 1, .iadd, 0, 0, 0, nI 0, []),
  (95, 1, .iastore, 0, 0, 0, nI 0, []),
  (96, 1, .iconst 0, 0, 0, 0, nI 0, []),
  (97, 2, .istore 4, 0, 0, 0, nI 0, []),
  (99, 2, .iload 4, 0, 0, 0, nI 0, []),
  (101, 1, .aload_n 0, 0, 0, 0, nI 0, []),
  (102, 3, .invokevirtual 34, 93, 1, 662, nI 0, [6]),
  (105, 3, .if_icmp .ge 73, 111, 0, 0, nI 0, []),
  (108, 1, .aload_n 0, 0, 0, 0, nI 0, []),
  (109, 3, .getfield 7, 6, 0, 666, nI 0, []),
  (112, 1, .iconst 3, 0, 0, 0, nI 3, []),
  (113, 1, .iaload, 0, 0, 0, nI 0, []),
  (114, 1, .aload_n 0, 0, 0, 0, nI 0, []),
  (115, 3, .getfield 7, 6, 0, 666, nI 0, []),
  (118, 2, .bipush 17, 0, 0, 0, nI 17, []),
  (120, 1, .iaload, 0, 0, 0, nI 0, []),
  (121, 1, .irem, 0, 0, 0, nI 0, []),
  (122, 3, .ifCond .ne 56, 111, 0, 0, nI 0, []),
  (125, 1, .aload_n 0, 0, 0, 0, nI 0, []),
  (126, 3, .getfield 7, 6, 0, 666, nI 0, []),
  (129, 2, .bipush 21, 0, 0, 0, nI 21, []),
  (131, 1, .dup2, 0, 0, 0, nI 0, []),
  (132, 1, .iaload, 0, 0, 0, nI 0, []),
  (133, 1, .aload_n 0, 0, 0, 0, nI 0, []),
  (134, 3, .getfield 7, 6, 0, 666, nI 0, []),
  (137, 2, .bipush 82, 0, 0, 0, nI 82, []),
  (139, 2, .iload 4, 0, 0, 0, nI 0, []),
  (141, 1, .iadd, 0, 0, 0, nI 0, []),
  (142, 1, .iaload, 0, 0, 0, nI 0, []),
  (143, 1, .iconst 2, 0, 0, 0, nI 2, []),
  (144, 1, .idiv, 0, 0, 0, nI 0, []),
  (145, 1, .iadd, 0, 0, 0, nI 0, []),
  (146, 1, .iastore, 0, 0, 0, nI 0, []),
  (147, 1, .aload_n 0, 0, 0, 0, nI 0, []),
  (148, 3, .getfield 7, 6, 0, 666, nI 0, []),
  (151, 2, .bipush 82, 0, 0, 0, nI 82, []),
  (153, 2, .iload 4, 0, 0, 0, nI 0, []),
  (155, 1, .iadd, 0, 0, 0, nI 0, []),
  (156, 1, .dup2, 0, 0, 0, nI 0, []),
  (157, 1, .iaload, 0, 0, 0, nI 0, []),
  (158, 1, .aload_n 0, 0, 0, 0, nI 0, []),
  (159, 3, .getfield 7, 6, 0, 666, nI 0, []),
  (162, 2, .bipush 82, 0, 0, 0, nI 82, []),
  (164, 2, .iload 4, 0, 0, 0, nI 0, []),
  (166, 1, .iadd, 0, 0, 0, nI 0, []),
  (167, 1, .iaload, 0, 0, 0, nI 0, []),
  (168, 1, .iconst 2, 0, 0, 0, nI 2, []),
  (169, 1, .idiv, 0, 0, 0, nI 0, []),
  (170, 1, .isub, 0, 0, 0, nI 0, []),
  (171, 1, .iastore, 0, 0, 0, nI 0, []),
  (172, 3, .iinc 4 1, 0, 0, 0, nI 1, []),
  (175, 3, .goto (-76), 63, 0, 0, nI 0, []),
  (178, 1, .iconst 0, 0, 0, 0, nI 0, []),
  (179, 2, .istore 4, 0, 0, 0, nI 0, []),
  (181, 2, .iload 4, 0, 0, 0, nI 0, []),
  (183, 1, .aload_n 0, 0, 0, 0, nI 0, []),
  (184, 3, .invokevirtual 34, 93, 1, 662, nI 0, [6]),
  (187, 3, .if_icmp .ge 41, 137, 0, 0, nI 0, []),
  (190, 1, .aload_n 0, 0, 0, 0, nI 0, []),
  (191, 3, .getfield 7, 6, 0, 666, nI 0, []),
  (194, 1, .iconst 5, 0, 0, 0, nI 5, []),
  (195, 1, .aload_n 0, 0, 0, 0, nI 0, []),
  (196, 2, .iload 4, 0, 0, 0, nI 0, []),
  (198, 3, .invokevirtual 38, 96, 2, 746, nI 0, [6]),
  (201, 1, .aload_n 0, 0, 0, 0, nI 0, []),
  (202, 3, .getfield 7, 6, 0, 666, nI 0, []),
  (205, 2, .bipush 12, 0, 0, 0, nI 12, []),
  (207, 1, .iaload, 0, 0, 0, nI 0, []),
  (208, 3, .if_icmp .ge 7, 130, 0, 0, nI 0, []),
  (211, 1, .iconst 1, 0, 0, 0, nI 1, []),
  (212, 3, .goto 9, 134, 0, 0, nI 0, []),
  (215, 1, .aload_n 0, 0, 0, 0, nI 0, []),
  (216, 3, .getfield 7, 6, 0, 666, nI 0, []),
  (219, 1, .iconst 5, 0, 0, 0, nI 5, []),
  (220, 1, .iaload, 0, 0, 0, nI 0, []),
  (221, 1, .iastore, 0, 0, 0, nI 0, []),
  (222, 3, .iinc 4 1, 0, 0, 0, nI 1, []),
  (225, 3, .goto (-44), 113, 0, 0, nI 0, []),
  (228, 1, .iload_n 3, 0, 0, 0, nI 0, []),
  (229, 1, .ireturn, 0, 0, 0, nI 0, [])]
/- 104: LiningLogModel.stays(II)I -/
def mj_c104 : List mj_E := [(0, 1, .iload_n 2, 0, 0, 0, nI 0, []),
  (1, 1, .aload_n 0, 0, 0, 0, nI 0, []),
  (2, 1, .iload_n 1, 0, 0, 0, nI 0, []),
  (3, 3, .invokevirtual 56, 100, 2, 774, nI 0, [6]),
  (6, 1, .aload_n 0, 0, 0, 0, nI 0, []),
  (7, 3, .getfield 7, 6, 0, 666, nI 0, []),
  (10, 2, .bipush 15, 0, 0, 0, nI 15, []),
  (12, 1, .iaload, 0, 0, 0, nI 0, []),
  (13, 3, .if_icmp .lt 7, 11, 0, 0, nI 0, []),
  (16, 1, .iconst 4, 0, 0, 0, nI 4, []),
  (17, 3, .goto 4, 12, 0, 0, nI 0, []),
  (20, 1, .iconst 3, 0, 0, 0, nI 3, []),
  (21, 1, .imul, 0, 0, 0, nI 0, []),
  (22, 1, .iconst 5, 0, 0, 0, nI 5, []),
  (23, 1, .idiv, 0, 0, 0, nI 0, []),
  (24, 1, .ireturn, 0, 0, 0, nI 0, [])]
/- 105: LiningLogModel.refusal(II)I -/
def mj_c105 : List mj_E := [(0, 1, .aload_n 0, 0, 0, 0, nI 0, []),
  (1, 3, .getfield 7, 6, 0, 666, nI 0, []),
  (4, 1, .iconst 5, 0, 0, 0, nI 5, []),
  (5, 1, .iaload, 0, 0, 0, nI 0, []),
  (6, 1, .iconst 1, 0, 0, 0, nI 1, []),
  (7, 3, .if_icmp .ne 5, 8, 0, 0, nI 0, []),
  (10, 1, .iconst 1, 0, 0, 0, nI 1, []),
  (11, 1, .ireturn, 0, 0, 0, nI 0, []),
  (12, 1, .aload_n 0, 0, 0, 0, nI 0, []),
  (13, 1, .iload_n 1, 0, 0, 0, nI 0, []),
  (14, 3, .invokevirtual 38, 96, 2, 746, nI 0, [6]),
  (17, 1, .aload_n 0, 0, 0, 0, nI 0, []),
  (18, 1, .iload_n 1, 0, 0, 0, nI 0, []),
  (19, 1, .iload_n 2, 0, 0, 0, nI 0, []),
  (20, 3, .invokevirtual 59, 104, 3, 770, nI 0, [6]),
  (23, 1, .iadd, 0, 0, 0, nI 0, []),
  (24, 3, .sipush 3500, 0, 0, 0, nI 3500, []),
  (27, 3, .if_icmp .le 5, 20, 0, 0, nI 0, []),
  (30, 1, .iconst 2, 0, 0, 0, nI 2, []),
  (31, 1, .ireturn, 0, 0, 0, nI 0, []),
  (32, 1, .aload_n 0, 0, 0, 0, nI 0, []),
  (33, 3, .getfield 7, 6, 0, 666, nI 0, []),
  (36, 2, .bipush 16, 0, 0, 0, nI 16, []),
  (38, 1, .iaload, 0, 0, 0, nI 0, []),
  (39, 1, .iload_n 2, 0, 0, 0, nI 0, []),
  (40, 3, .if_icmp .ge 7, 28, 0, 0, nI 0, []),
  (43, 1, .iconst 3, 0, 0, 0, nI 3, []),
  (44, 3, .goto 4, 29, 0, 0, nI 0, []),
  (47, 1, .iconst 0, 0, 0, 0, nI 0, []),
  (48, 1, .ireturn, 0, 0, 0, nI 0, [])]
/- 106: LiningLogModel.guns(II)I -/
def mj_c106 : List mj_E := [(0, 1, .aload_n 0, 0, 0, 0, nI 0, []),
  (1, 1, .iload_n 1, 0, 0, 0, nI 0, []),
  (2, 1, .iload_n 2, 0, 0, 0, nI 0, []),
  (3, 3, .invokevirtual 59, 104, 3, 770, nI 0, [6]),
  (6, 1, .istore_n 3, 0, 0, 0, nI 0, []),
  (7, 1, .aload_n 0, 0, 0, 0, nI 0, []),
  (8, 3, .getfield 7, 6, 0, 666, nI 0, []),
  (11, 2, .bipush 82, 0, 0, 0, nI 82, []),
  (13, 1, .iload_n 1, 0, 0, 0, nI 0, []),
  (14, 1, .iadd, 0, 0, 0, nI 0, []),
  (15, 1, .dup2, 0, 0, 0, nI 0, []),
  (16, 1, .iaload, 0, 0, 0, nI 0, []),
  (17, 1, .iload_n 3, 0, 0, 0, nI 0, []),
  (18, 1, .iadd, 0, 0, 0, nI 0, []),
  (19, 1, .iastore, 0, 0, 0, nI 0, []),
  (20, 1, .aload_n 0, 0, 0, 0, nI 0, []),
  (21, 3, .getfield 7, 6, 0, 666, nI 0, []),
  (24, 2, .bipush 19, 0, 0, 0, nI 19, []),
  (26, 1, .dup2, 0, 0, 0, nI 0, []),
  (27, 1, .iaload, 0, 0, 0, nI 0, []),
  (28, 1, .iload_n 3, 0, 0, 0, nI 0, []),
  (29, 1, .iadd, 0, 0, 0, nI 0, []),
  (30, 1, .iastore, 0, 0, 0, nI 0, []),
  (31, 1, .aload_n 0, 0, 0, 0, nI 0, []),
  (32, 3, .getfield 7, 6, 0, 666, nI 0, []),
  (35, 2, .bipush 16, 0, 0, 0, nI 16, []),
  (37, 1, .dup2, 0, 0, 0, nI 0, []),
  (38, 1, .iaload, 0, 0, 0, nI 0, []),
  (39, 1, .iload_n 2, 0, 0, 0, nI 0, []),
  (40, 1, .isub, 0, 0, 0, nI 0, []),
  (41, 1, .iastore, 0, 0, 0, nI 0, []),
  (42, 1, .iload_n 3, 0, 0, 0, nI 0, []),
  (43, 1, .ireturn, 0, 0, 0, nI 0, [])]
/- 107: LiningLogModel.relines(II)I -/
def mj_c107 : List mj_E := [(0, 1, .iconst 0, 0, 0, 0, nI 0, []),
  (1, 1, .istore_n 3, 0, 0, 0, nI 0, []),
  (2, 1, .iload_n 1, 0, 0, 0, nI 0, []),
  (3, 2, .istore 4, 0, 0, 0, nI 0, []),
  (5, 2, .iload 4, 0, 0, 0, nI 0, []),
  (7, 1, .iload_n 2, 0, 0, 0, nI 0, []),
  (8, 3, .if_icmp .ge 55, 37, 0, 0, nI 0, []),
  (11, 1, .iload_n 3, 0, 0, 0, nI 0, []),
  (12, 1, .aload_n 0, 0, 0, 0, nI 0, []),
  (13, 2, .iload 4, 0, 0, 0, nI 0, []),
  (15, 3, .invokevirtual 38, 96, 2, 746, nI 0, [6]),
  (18, 1, .iadd, 0, 0, 0, nI 0, []),
  (19, 1, .istore_n 3, 0, 0, 0, nI 0, []),
  (20, 1, .aload_n 0, 0, 0, 0, nI 0, []),
  (21, 3, .getfield 7, 6, 0, 666, nI 0, []),
  (24, 2, .bipush 22, 0, 0, 0, nI 22, []),
  (26, 2, .iload 4, 0, 0, 0, nI 0, []),
  (28, 1, .iadd, 0, 0, 0, nI 0, []),
  (29, 3, .sipush 3000, 0, 0, 0, nI 3000, []),
  (32, 1, .iastore, 0, 0, 0, nI 0, []),
  (33, 1, .aload_n 0, 0, 0, 0, nI 0, []),
  (34, 3, .getfield 7, 6, 0, 666, nI 0, []),
  (37, 2, .bipush 82, 0, 0, 0, nI 82, []),
  (39, 2, .iload 4, 0, 0, 0, nI 0, []),
  (41, 1, .iadd, 0, 0, 0, nI 0, []),
  (42, 1, .iconst 0, 0, 0, 0, nI 0, []),
  (43, 1, .iastore, 0, 0, 0, nI 0, []),
  (44, 1, .aload_n 0, 0, 0, 0, nI 0, []),
  (45, 3, .getfield 7, 6, 0, 666, nI 0, []),
  (48, 2, .bipush 18, 0, 0, 0, nI 18, []),
  (50, 1, .dup2, 0, 0, 0, nI 0, []),
  (51, 1, .iaload, 0, 0, 0, nI 0, []),
  (52, 3, .sipush 3000, 0, 0, 0, nI 3000, []),
  (55, 1, .iadd, 0, 0, 0, nI 0, []),
  (56, 1, .iastore, 0, 0, 0, nI 0, []),
  (57, 3, .iinc 4 1, 0, 0, 0, nI 1, []),
  (60, 3, .goto (-55), 4, 0, 0, nI 0, []),
  (63, 1, .aload_n 0, 0, 0, 0, nI 0, []),
  (64, 3, .getfield 7, 6, 0, 666, nI 0, []),
  (67, 2, .bipush 21, 0, 0, 0, nI 21, []),
  (69, 1, .dup2, 0, 0, 0, nI 0, []),
  (70, 1, .iaload, 0, 0, 0, nI 0, []),
  (71, 1, .iload_n 3, 0, 0, 0, nI 0, []),
  (72, 1, .iadd, 0, 0, 0, nI 0, []),
  (73, 1, .iastore, 0, 0, 0, nI 0, []),
  (74, 1, .iload_n 3, 0, 0, 0, nI 0, []),
  (75, 1, .ireturn, 0, 0, 0, nI 0, [])]
/- 108: LiningLogModel.scans()V -/
def mj_c108 : List mj_E := [(0, 1, .aload_n 0, 0, 0, 0, nI 0, []),
  (1, 3, .getfield 7, 6, 0, 666, nI 0, []),
  (4, 3, .sipush 142, 0, 0, 0, nI 142, []),
  (7, 1, .iaload, 0, 0, 0, nI 0, []),
  (8, 1, .iconst 4, 0, 0, 0, nI 4, []),
  (9, 3, .if_icmp .ne 130, 86, 0, 0, nI 0, []),
  (12, 1, .iconst 0, 0, 0, 0, nI 0, []),
  (13, 1, .istore_n 1, 0, 0, 0, nI 0, []),
  (14, 1, .iload_n 1, 0, 0, 0, nI 0, []),
  (15, 1, .iconst 3, 0, 0, 0, nI 3, []),
  (16, 3, .if_icmp .ge 111, 78, 0, 0, nI 0, []),
  (19, 1, .aload_n 0, 0, 0, 0, nI 0, []),
  (20, 3, .getfield 7, 6, 0, 666, nI 0, []),
  (23, 3, .sipush 143, 0, 0, 0, nI 143, []),
  (26, 1, .iload_n 1, 0, 0, 0, nI 0, []),
  (27, 1, .iadd, 0, 0, 0, nI 0, []),
  (28, 1, .aload_n 0, 0, 0, 0, nI 0, []),
  (29, 3, .getfield 7, 6, 0, 666, nI 0, []),
  (32, 3, .sipush 143, 0, 0, 0, nI 143, []),
  (35, 1, .iload_n 1, 0, 0, 0, nI 0, []),
  (36, 1, .iadd, 0, 0, 0, nI 0, []),
  (37, 1, .iconst 1, 0, 0, 0, nI 1, []),
  (38, 1, .iadd, 0, 0, 0, nI 0, []),
  (39, 1, .iaload, 0, 0, 0, nI 0, []),
  (40, 1, .iastore, 0, 0, 0, nI 0, []),
  (41, 1, .iconst 0, 0, 0, 0, nI 0, []),
  (42, 1, .istore_n 2, 0, 0, 0, nI 0, []),
  (43, 1, .iload_n 2, 0, 0, 0, nI 0, []),
  (44, 2, .bipush 60, 0, 0, 0, nI 60, []),
  (46, 3, .if_icmp .ge 75, 76, 0, 0, nI 0, []),
  (49, 1, .aload_n 0, 0, 0, 0, nI 0, []),
  (50, 3, .getfield 7, 6, 0, 666, nI 0, []),
  (53, 3, .sipush 147, 0, 0, 0, nI 147, []),
  (56, 2, .bipush 60, 0, 0, 0, nI 60, []),
  (58, 1, .iload_n 1, 0, 0, 0, nI 0, []),
  (59, 1, .imul, 0, 0, 0, nI 0, []),
  (60, 1, .iadd, 0, 0, 0, nI 0, []),
  (61, 1, .iload_n 2, 0, 0, 0, nI 0, []),
  (62, 1, .iadd, 0, 0, 0, nI 0, []),
  (63, 1, .aload_n 0, 0, 0, 0, nI 0, []),
  (64, 3, .getfield 7, 6, 0, 666, nI 0, []),
  (67, 3, .sipush 147, 0, 0, 0, nI 147, []),
  (70, 2, .bipush 60, 0, 0, 0, nI 60, []),
  (72, 1, .iload_n 1, 0, 0, 0, nI 0, []),
  (73, 1, .imul, 0, 0, 0, nI 0, []),
  (74, 1, .iadd, 0, 0, 0, nI 0, []),
  (75, 2, .bipush 60, 0, 0, 0, nI 60, []),
  (77, 1, .iadd, 0, 0, 0, nI 0, []),
  (78, 1, .iload_n 2, 0, 0, 0, nI 0, []),
  (79, 1, .iadd, 0, 0, 0, nI 0, []),
  (80, 1, .iaload, 0, 0, 0, nI 0, []),
  (81, 1, .iastore, 0, 0, 0, nI 0, []),
  (82, 1, .aload_n 0, 0, 0, 0, nI 0, []),
  (83, 3, .getfield 7, 6, 0, 666, nI 0, []),
  (86, 3, .sipush 387, 0, 0, 0, nI 387, []),
  (89, 2, .bipush 60, 0, 0, 0, nI 60, []),
  (91, 1, .iload_n 1, 0, 0, 0, nI 0, []),
  (92, 1, .imul, 0, 0, 0, nI 0, []),
  (93, 1, .iadd, 0, 0, 0, nI 0, []),
  (94, 1, .iload_n 2, 0, 0, 0, nI 0, []),
  (95, 1, .iadd, 0, 0, 0, nI 0, []),
  (96, 1, .aload_n 0, 0, 0, 0, nI 0, []),
  (97, 3, .getfield 7, 6, 0, 666, nI 0, []),
  (100, 3, .sipush 387, 0, 0, 0, nI 387, []),
  (103, 2, .bipush 60, 0, 0, 0, nI 60, []),
  (105, 1, .iload_n 1, 0, 0, 0, nI 0, []),
  (106, 1, .imul, 0, 0, 0, nI 0, []),
  (107, 1, .iadd, 0, 0, 0, nI 0, []),
  (108, 2, .bipush 60, 0, 0, 0, nI 60, []),
  (110, 1, .iadd, 0, 0, 0, nI 0, []),
  (111, 1, .iload_n 2, 0, 0, 0, nI 0, []),
  (112, 1, .iadd, 0, 0, 0, nI 0, []),
  (113, 1, .iaload, 0, 0, 0, nI 0, []),
  (114, 1, .iastore, 0, 0, 0, nI 0, []),
  (115, 3, .iinc 2 1, 0, 0, 0, nI 1, []),
  (118, 3, .goto (-75), 27, 0, 0, nI 0, []),
  (121, 3, .iinc 1 1, 0, 0, 0, nI 1, []),
  (124, 3, .goto (-110), 8, 0, 0, nI 0, []),
  (127, 1, .aload_n 0, 0, 0, 0, nI 0, []),
  (128, 3, .getfield 7, 6, 0, 666, nI 0, []),
  (131, 3, .sipush 142, 0, 0, 0, nI 142, []),
  (134, 1, .dup2, 0, 0, 0, nI 0, []),
  (135, 1, .iaload, 0, 0, 0, nI 0, []),
  (136, 1, .iconst 1, 0, 0, 0, nI 1, []),
  (137, 1, .isub, 0, 0, 0, nI 0, []),
  (138, 1, .iastore, 0, 0, 0, nI 0, []),
  (139, 1, .aload_n 0, 0, 0, 0, nI 0, []),
  (140, 3, .getfield 7, 6, 0, 666, nI 0, []),
  (143, 3, .sipush 142, 0, 0, 0, nI 142, []),
  (146, 1, .iaload, 0, 0, 0, nI 0, []),
  (147, 1, .istore_n 1, 0, 0, 0, nI 0, []),
  (148, 1, .aload_n 0, 0, 0, 0, nI 0, []),
  (149, 3, .getfield 7, 6, 0, 666, nI 0, []),
  (152, 3, .sipush 143, 0, 0, 0, nI 143, []),
  (155, 1, .iload_n 1, 0, 0, 0, nI 0, []),
  (156, 1, .iadd, 0, 0, 0, nI 0, []),
  (157, 1, .aload_n 0, 0, 0, 0, nI 0, []),
  (158, 3, .getfield 7, 6, 0, 666, nI 0, []),
  (161, 1, .iconst 2, 0, 0, 0, nI 2, []),
  (162, 1, .iaload, 0, 0, 0, nI 0, []),
  (163, 1, .iastore, 0, 0, 0, nI 0, []),
  (164, 1, .iconst 0, 0, 0, 0, nI 0, []),
  (165, 1, .istore_n 2, 0, 0, 0, nI 0, []),
  (166, 1, .iload_n 2, 0, 0, 0, nI 0, []),
  (167, 1, .aload_n 0, 0, 0, 0, nI 0, []),
  (168, 3, .invokevirtual 34, 93, 1, 662, nI 0, [6]),
  (171, 3, .if_icmp .ge 49, 135, 0, 0, nI 0, []),
  (174, 1, .aload_n 0, 0, 0, 0, nI 0, []),
  (175, 3, .getfield 7, 6, 0, 666, nI 0, []),
  (178, 3, .sipush 147, 0, 0, 0, nI 147, []),
  (181, 2, .bipush 60, 0, 0, 0, nI 60, []),
  (183, 1, .iload_n 1, 0, 0, 0, nI 0, []),
  (184, 1, .imul, 0, 0, 0, nI 0, []),
  (185, 1, .iadd, 0, 0, 0, nI 0, []),
  (186, 1, .iload_n 2, 0, 0, 0, nI 0, []),
  (187, 1, .iadd, 0, 0, 0, nI 0, []),
  (188, 1, .aload_n 0, 0, 0, 0, nI 0, []),
  (189, 1, .iload_n 2, 0, 0, 0, nI 0, []),
  (190, 3, .invokevirtual 56, 100, 2, 774, nI 0, [6]),
  (193, 1, .iastore, 0, 0, 0, nI 0, []),
  (194, 1, .aload_n 0, 0, 0, 0, nI 0, []),
  (195, 3, .getfield 7, 6, 0, 666, nI 0, []),
  (198, 3, .sipush 387, 0, 0, 0, nI 387, []),
  (201, 2, .bipush 60, 0, 0, 0, nI 60, []),
  (203, 1, .iload_n 1, 0, 0, 0, nI 0, []),
  (204, 1, .imul, 0, 0, 0, nI 0, []),
  (205, 1, .iadd, 0, 0, 0, nI 0, []),
  (206, 1, .iload_n 2, 0, 0, 0, nI 0, []),
  (207, 1, .iadd, 0, 0, 0, nI 0, []),
  (208, 1, .aload_n 0, 0, 0, 0, nI 0, []),
  (209, 1, .iload_n 2, 0, 0, 0, nI 0, []),
  (210, 3, .invokevirtual 38, 96, 2, 746, nI 0, [6]),
  (213, 1, .iastore, 0, 0, 0, nI 0, []),
  (214, 3, .iinc 2 1, 0, 0, 0, nI 1, []),
  (217, 3, .goto (-51), 103, 0, 0, nI 0, []),
  (220, 1, .aload_n 0, 0, 0, 0, nI 0, []),
  (221, 3, .getfield 7, 6, 0, 666, nI 0, []),
  (224, 3, .sipush 142, 0, 0, 0, nI 142, []),
  (227, 1, .dup2, 0, 0, 0, nI 0, []),
  (228, 1, .iaload, 0, 0, 0, nI 0, []),
  (229, 1, .iconst 1, 0, 0, 0, nI 1, []),
  (230, 1, .iadd, 0, 0, 0, nI 0, []),
  (231, 1, .iastore, 0, 0, 0, nI 0, []),
  (232, 1, .return_, 0, 0, 0, nI 0, [])]
/- 109: LiningLogModel.begin(II)I -/
def mj_c109 : List mj_E := [(0, 1, .iload_n 1, 0, 0, 0, nI 0, []),
  (1, 1, .iconst 1, 0, 0, 0, nI 1, []),
  (2, 2, .bipush 6, 0, 0, 0, nI 6, []),
  (4, 3, .invokestatic 62, 91, 3, 707, nI 0, []),
  (7, 3, .ifCond .eq 13, 10, 0, 0, nI 0, []),
  (10, 1, .iload_n 2, 0, 0, 0, nI 0, []),
  (11, 1, .iconst 3, 0, 0, 0, nI 3, []),
  (12, 2, .bipush 10, 0, 0, 0, nI 10, []),
  (14, 3, .invokestatic 62, 91, 3, 707, nI 0, []),
  (17, 3, .ifCond .ne 6, 12, 0, 0, nI 0, []),
  (20, 2, .ldc 66, 0, 0, 710, (-1000001), []),
  (22, 1, .ireturn, 0, 0, 0, nI 0, []),
  (23, 1, .aload_n 0, 0, 0, 0, nI 0, []),
  (24, 3, .invokevirtual 67, 94, 1, 711, nI 0, [6]),
  (27, 1, .aload_n 0, 0, 0, 0, nI 0, []),
  (28, 1, .iload_n 1, 0, 0, 0, nI 0, []),
  (29, 1, .iload_n 2, 0, 0, 0, nI 0, []),
  (30, 3, .invokevirtual 26, 95, 3, 658, nI 0, [6]),
  (33, 1, .aload_n 0, 0, 0, 0, nI 0, []),
  (34, 3, .invokevirtual 34, 93, 1, 662, nI 0, [6]),
  (37, 1, .ireturn, 0, 0, 0, nI 0, [])]
/- 110: LiningLogModel.rate(II)I -/
def mj_c110 : List mj_E := [(0, 1, .iload_n 1, 0, 0, 0, nI 0, []),
  (1, 1, .iconst 0, 0, 0, 0, nI 0, []),
  (2, 1, .aload_n 0, 0, 0, 0, nI 0, []),
  (3, 3, .getfield 7, 6, 0, 666, nI 0, []),
  (6, 1, .iconst 0, 0, 0, 0, nI 0, []),
  (7, 1, .iaload, 0, 0, 0, nI 0, []),
  (8, 1, .iconst 1, 0, 0, 0, nI 1, []),
  (9, 1, .isub, 0, 0, 0, nI 0, []),
  (10, 3, .invokestatic 62, 91, 3, 707, nI 0, []),
  (13, 3, .ifCond .eq 13, 15, 0, 0, nI 0, []),
  (16, 1, .iload_n 2, 0, 0, 0, nI 0, []),
  (17, 1, .iconst 0, 0, 0, 0, nI 0, []),
  (18, 2, .bipush 50, 0, 0, 0, nI 50, []),
  (20, 3, .invokestatic 62, 91, 3, 707, nI 0, []),
  (23, 3, .ifCond .ne 6, 17, 0, 0, nI 0, []),
  (26, 2, .ldc 66, 0, 0, 710, (-1000001), []),
  (28, 1, .ireturn, 0, 0, 0, nI 0, []),
  (29, 1, .aload_n 0, 0, 0, 0, nI 0, []),
  (30, 3, .invokevirtual 67, 94, 1, 711, nI 0, [6]),
  (33, 1, .aload_n 0, 0, 0, 0, nI 0, []),
  (34, 3, .getfield 7, 6, 0, 666, nI 0, []),
  (37, 2, .bipush 6, 0, 0, 0, nI 6, []),
  (39, 1, .iload_n 1, 0, 0, 0, nI 0, []),
  (40, 1, .iadd, 0, 0, 0, nI 0, []),
  (41, 1, .iaload, 0, 0, 0, nI 0, []),
  (42, 1, .istore_n 3, 0, 0, 0, nI 0, []),
  (43, 1, .aload_n 0, 0, 0, 0, nI 0, []),
  (44, 3, .getfield 7, 6, 0, 666, nI 0, []),
  (47, 2, .bipush 6, 0, 0, 0, nI 6, []),
  (49, 1, .iload_n 1, 0, 0, 0, nI 0, []),
  (50, 1, .iadd, 0, 0, 0, nI 0, []),
  (51, 1, .iload_n 2, 0, 0, 0, nI 0, []),
  (52, 1, .iastore, 0, 0, 0, nI 0, []),
  (53, 1, .iload_n 3, 0, 0, 0, nI 0, []),
  (54, 1, .ireturn, 0, 0, 0, nI 0, [])]
/- 111: LiningLogModel.isSetting(II)Z -/
def mj_c111 : List mj_E := [(0, 1, .iload_n 0, 0, 0, 0, nI 0, []),
  (1, 39, .tableswitch 93 0 5 #[39, 48, 57, 67, 77, 85], 32, 0, 0, nI 0, [2, 7, 12, 17, 22, 27]),
  (40, 1, .iload_n 1, 0, 0, 0, nI 0, []),
  (41, 1, .iconst 0, 0, 0, 0, nI 0, []),
  (42, 3, .sipush 2000, 0, 0, 0, nI 2000, []),
  (45, 3, .invokestatic 62, 91, 3, 707, nI 0, []),
  (48, 1, .ireturn, 0, 1, 0, nI 0, []),
  (49, 1, .iload_n 1, 0, 0, 0, nI 0, []),
  (50, 1, .iconst 1, 0, 0, 0, nI 1, []),
  (51, 3, .sipush 500, 0, 0, 0, nI 500, []),
  (54, 3, .invokestatic 62, 91, 3, 707, nI 0, []),
  (57, 1, .ireturn, 0, 1, 0, nI 0, []),
  (58, 1, .iload_n 1, 0, 0, 0, nI 0, []),
  (59, 3, .sipush 1000, 0, 0, 0, nI 1000, []),
  (62, 2, .ldc 70, 0, 0, 726, nI 100000, []),
  (64, 3, .invokestatic 62, 91, 3, 707, nI 0, []),
  (67, 1, .ireturn, 0, 1, 0, nI 0, []),
  (68, 1, .iload_n 1, 0, 0, 0, nI 0, []),
  (69, 2, .bipush 50, 0, 0, 0, nI 50, []),
  (71, 3, .sipush 1000, 0, 0, 0, nI 1000, []),
  (74, 3, .invokestatic 62, 91, 3, 707, nI 0, []),
  (77, 1, .ireturn, 0, 1, 0, nI 0, []),
  (78, 1, .iload_n 1, 0, 0, 0, nI 0, []),
  (79, 1, .iconst 0, 0, 0, 0, nI 0, []),
  (80, 2, .ldc 70, 0, 0, 726, nI 100000, []),
  (82, 3, .invokestatic 62, 91, 3, 707, nI 0, []),
  (85, 1, .ireturn, 0, 1, 0, nI 0, []),
  (86, 1, .iload_n 1, 0, 0, 0, nI 0, []),
  (87, 1, .iconst 1, 0, 0, 0, nI 1, []),
  (88, 2, .bipush 100, 0, 0, 0, nI 100, []),
  (90, 3, .invokestatic 62, 91, 3, 707, nI 0, []),
  (93, 1, .ireturn, 0, 1, 0, nI 0, []),
  (94, 1, .iconst 0, 0, 0, 0, nI 0, []),
  (95, 1, .ireturn, 0, 1, 0, nI 0, [])]
/- 112: LiningLogModel.set(II)I -/
def mj_c112 : List mj_E := [(0, 1, .iload_n 1, 0, 0, 0, nI 0, []),
  (1, 1, .iload_n 2, 0, 0, 0, nI 0, []),
  (2, 3, .invokestatic 71, 111, 2, 723, nI 0, []),
  (5, 3, .ifCond .ne 6, 6, 0, 0, nI 0, []),
  (8, 2, .ldc 66, 0, 0, 710, (-1000001), []),
  (10, 1, .ireturn, 0, 0, 0, nI 0, []),
  (11, 1, .aload_n 0, 0, 0, 0, nI 0, []),
  (12, 3, .invokevirtual 67, 94, 1, 711, nI 0, [6]),
  (15, 1, .aload_n 0, 0, 0, 0, nI 0, []),
  (16, 3, .getfield 7, 6, 0, 666, nI 0, []),
  (19, 2, .bipush 12, 0, 0, 0, nI 12, []),
  (21, 1, .iload_n 1, 0, 0, 0, nI 0, []),
  (22, 1, .iadd, 0, 0, 0, nI 0, []),
  (23, 1, .iaload, 0, 0, 0, nI 0, []),
  (24, 1, .istore_n 3, 0, 0, 0, nI 0, []),
  (25, 1, .aload_n 0, 0, 0, 0, nI 0, []),
  (26, 3, .getfield 7, 6, 0, 666, nI 0, []),
  (29, 2, .bipush 12, 0, 0, 0, nI 12, []),
  (31, 1, .iload_n 1, 0, 0, 0, nI 0, []),
  (32, 1, .iadd, 0, 0, 0, nI 0, []),
  (33, 1, .iload_n 2, 0, 0, 0, nI 0, []),
  (34, 1, .iastore, 0, 0, 0, nI 0, []),
  (35, 1, .iload_n 3, 0, 0, 0, nI 0, []),
  (36, 1, .ireturn, 0, 0, 0, nI 0, [])]
/- 113: LiningLogModel.isHeat(II)Z -/
def mj_c113 : List mj_E := [(0, 1, .iload_n 0, 0, 0, 0, nI 0, []),
  (1, 3, .sipush 1400, 0, 0, 0, nI 1400, []),
  (4, 3, .sipush 1800, 0, 0, 0, nI 1800, []),
  (7, 3, .invokestatic 62, 91, 3, 707, nI 0, []),
  (10, 3, .ifCond .eq 17, 12, 0, 0, nI 0, []),
  (13, 1, .iload_n 1, 0, 0, 0, nI 0, []),
  (14, 1, .iconst 0, 0, 0, 0, nI 0, []),
  (15, 2, .bipush 100, 0, 0, 0, nI 100, []),
  (17, 3, .invokestatic 62, 91, 3, 707, nI 0, []),
  (20, 3, .ifCond .eq 7, 12, 0, 0, nI 0, []),
  (23, 1, .iconst 1, 0, 0, 0, nI 1, []),
  (24, 3, .goto 4, 13, 0, 0, nI 0, []),
  (27, 1, .iconst 0, 0, 0, 0, nI 0, []),
  (28, 1, .ireturn, 0, 1, 0, nI 0, [])]
/- 114: LiningLogModel.isSpot(I)Z -/
def mj_c114 : List mj_E := [(0, 1, .iload_n 1, 0, 0, 0, nI 0, []),
  (1, 1, .iconst 0, 0, 0, 0, nI 0, []),
  (2, 1, .aload_n 0, 0, 0, 0, nI 0, []),
  (3, 3, .invokevirtual 34, 93, 1, 662, nI 0, [6]),
  (6, 1, .iconst 1, 0, 0, 0, nI 1, []),
  (7, 1, .isub, 0, 0, 0, nI 0, []),
  (8, 3, .invokestatic 62, 91, 3, 707, nI 0, []),
  (11, 1, .ireturn, 0, 1, 0, nI 0, [])]
/- 115: LiningLogModel.heat(II)I -/
def mj_c115 : List mj_E := [(0, 1, .iload_n 1, 0, 0, 0, nI 0, []),
  (1, 1, .iload_n 2, 0, 0, 0, nI 0, []),
  (2, 3, .invokestatic 75, 113, 2, 731, nI 0, []),
  (5, 3, .ifCond .ne 6, 6, 0, 0, nI 0, []),
  (8, 2, .ldc 66, 0, 0, 710, (-1000001), []),
  (10, 1, .ireturn, 0, 0, 0, nI 0, []),
  (11, 1, .aload_n 0, 0, 0, 0, nI 0, []),
  (12, 3, .getfield 7, 6, 0, 666, nI 0, []),
  (15, 1, .iconst 5, 0, 0, 0, nI 5, []),
  (16, 1, .iaload, 0, 0, 0, nI 0, []),
  (17, 1, .iconst 1, 0, 0, 0, nI 1, []),
  (18, 3, .if_icmp .ne 6, 14, 0, 0, nI 0, []),
  (21, 2, .ldc 78, 0, 0, 734, (-1000002), []),
  (23, 1, .ireturn, 0, 0, 0, nI 0, []),
  (24, 1, .aload_n 0, 0, 0, 0, nI 0, []),
  (25, 3, .invokevirtual 67, 94, 1, 711, nI 0, [6]),
  (28, 1, .aload_n 0, 0, 0, 0, nI 0, []),
  (29, 1, .iload_n 1, 0, 0, 0, nI 0, []),
  (30, 1, .iload_n 2, 0, 0, 0, nI 0, []),
  (31, 3, .invokevirtual 79, 103, 3, 735, nI 0, [6]),
  (34, 1, .ireturn, 0, 0, 0, nI 0, [])]
/- 116: LiningLogModel.gun(II)I -/
def mj_c116 : List mj_E := [(0, 1, .aload_n 0, 0, 0, 0, nI 0, []),
  (1, 1, .iload_n 1, 0, 0, 0, nI 0, []),
  (2, 3, .invokevirtual 82, 114, 2, 762, nI 0, [6]),
  (5, 3, .ifCond .eq 14, 9, 0, 0, nI 0, []),
  (8, 1, .iload_n 2, 0, 0, 0, nI 0, []),
  (9, 1, .iconst 1, 0, 0, 0, nI 1, []),
  (10, 3, .sipush 500, 0, 0, 0, nI 500, []),
  (13, 3, .invokestatic 62, 91, 3, 707, nI 0, []),
  (16, 3, .ifCond .ne 6, 11, 0, 0, nI 0, []),
  (19, 2, .ldc 66, 0, 0, 710, (-1000001), []),
  (21, 1, .ireturn, 0, 0, 0, nI 0, []),
  (22, 1, .aload_n 0, 0, 0, 0, nI 0, []),
  (23, 1, .iload_n 1, 0, 0, 0, nI 0, []),
  (24, 1, .iload_n 2, 0, 0, 0, nI 0, []),
  (25, 3, .invokevirtual 86, 105, 3, 766, nI 0, [6]),
  (28, 1, .istore_n 3, 0, 0, 0, nI 0, []),
  (29, 1, .iload_n 3, 0, 0, 0, nI 0, []),
  (30, 3, .ifCond .le 16, 25, 0, 0, nI 0, []),
  (33, 1, .iload_n 3, 0, 0, 0, nI 0, []),
  (34, 1, .iconst 3, 0, 0, 0, nI 3, []),
  (35, 3, .if_icmp .ne 8, 23, 0, 0, nI 0, []),
  (38, 2, .ldc 89, 0, 0, 778, (-1000003), []),
  (40, 3, .goto 5, 24, 0, 0, nI 0, []),
  (43, 2, .ldc 78, 0, 0, 734, (-1000002), []),
  (45, 1, .ireturn, 0, 0, 0, nI 0, []),
  (46, 1, .aload_n 0, 0, 0, 0, nI 0, []),
  (47, 3, .invokevirtual 67, 94, 1, 711, nI 0, [6]),
  (50, 1, .aload_n 0, 0, 0, 0, nI 0, []),
  (51, 1, .iload_n 1, 0, 0, 0, nI 0, []),
  (52, 1, .iload_n 2, 0, 0, 0, nI 0, []),
  (53, 3, .invokevirtual 90, 106, 3, 779, nI 0, [6]),
  (56, 1, .ireturn, 0, 0, 0, nI 0, [])]
/- 117: LiningLogModel.reline(I)I -/
def mj_c117 : List mj_E := [(0, 1, .iload_n 1, 0, 0, 0, nI 0, []),
  (1, 1, .iconst (-1), 0, 0, 0, (-1), []),
  (2, 1, .aload_n 0, 0, 0, 0, nI 0, []),
  (3, 3, .getfield 7, 6, 0, 666, nI 0, []),
  (6, 1, .iconst 0, 0, 0, 0, nI 0, []),
  (7, 1, .iaload, 0, 0, 0, nI 0, []),
  (8, 1, .iconst 1, 0, 0, 0, nI 1, []),
  (9, 1, .isub, 0, 0, 0, nI 0, []),
  (10, 3, .invokestatic 62, 91, 3, 707, nI 0, []),
  (13, 3, .ifCond .ne 6, 12, 0, 0, nI 0, []),
  (16, 2, .ldc 66, 0, 0, 710, (-1000001), []),
  (18, 1, .ireturn, 0, 0, 0, nI 0, []),
  (19, 1, .aload_n 0, 0, 0, 0, nI 0, []),
  (20, 3, .invokevirtual 67, 94, 1, 711, nI 0, [6]),
  (23, 1, .iload_n 1, 0, 0, 0, nI 0, []),
  (24, 3, .ifCond .lt 31, 36, 0, 0, nI 0, []),
  (27, 1, .aload_n 0, 0, 0, 0, nI 0, []),
  (28, 1, .aload_n 0, 0, 0, 0, nI 0, []),
  (29, 3, .getfield 7, 6, 0, 666, nI 0, []),
  (32, 1, .iconst 1, 0, 0, 0, nI 1, []),
  (33, 1, .iaload, 0, 0, 0, nI 0, []),
  (34, 1, .iload_n 1, 0, 0, 0, nI 0, []),
  (35, 1, .imul, 0, 0, 0, nI 0, []),
  (36, 1, .aload_n 0, 0, 0, 0, nI 0, []),
  (37, 3, .getfield 7, 6, 0, 666, nI 0, []),
  (40, 1, .iconst 1, 0, 0, 0, nI 1, []),
  (41, 1, .iaload, 0, 0, 0, nI 0, []),
  (42, 1, .iload_n 1, 0, 0, 0, nI 0, []),
  (43, 1, .imul, 0, 0, 0, nI 0, []),
  (44, 1, .aload_n 0, 0, 0, 0, nI 0, []),
  (45, 3, .getfield 7, 6, 0, 666, nI 0, []),
  (48, 1, .iconst 1, 0, 0, 0, nI 1, []),
  (49, 1, .iaload, 0, 0, 0, nI 0, []),
  (50, 1, .iadd, 0, 0, 0, nI 0, []),
  (51, 3, .invokevirtual 93, 107, 3, 787, nI 0, [6]),
  (54, 1, .ireturn, 0, 0, 0, nI 0, []),
  (55, 1, .aload_n 0, 0, 0, 0, nI 0, []),
  (56, 3, .getfield 7, 6, 0, 666, nI 0, []),
  (59, 1, .iconst 4, 0, 0, 0, nI 4, []),
  (60, 1, .dup2, 0, 0, 0, nI 0, []),
  (61, 1, .iaload, 0, 0, 0, nI 0, []),
  (62, 1, .iconst 1, 0, 0, 0, nI 1, []),
  (63, 1, .iadd, 0, 0, 0, nI 0, []),
  (64, 1, .iastore, 0, 0, 0, nI 0, []),
  (65, 1, .aload_n 0, 0, 0, 0, nI 0, []),
  (66, 3, .getfield 7, 6, 0, 666, nI 0, []),
  (69, 1, .iconst 3, 0, 0, 0, nI 3, []),
  (70, 1, .iconst 0, 0, 0, 0, nI 0, []),
  (71, 1, .iastore, 0, 0, 0, nI 0, []),
  (72, 1, .aload_n 0, 0, 0, 0, nI 0, []),
  (73, 3, .getfield 7, 6, 0, 666, nI 0, []),
  (76, 1, .iconst 5, 0, 0, 0, nI 5, []),
  (77, 1, .iconst 0, 0, 0, 0, nI 0, []),
  (78, 1, .iastore, 0, 0, 0, nI 0, []),
  (79, 1, .aload_n 0, 0, 0, 0, nI 0, []),
  (80, 1, .iconst 0, 0, 0, 0, nI 0, []),
  (81, 1, .aload_n 0, 0, 0, 0, nI 0, []),
  (82, 3, .invokevirtual 34, 93, 1, 662, nI 0, [6]),
  (85, 3, .invokevirtual 93, 107, 3, 787, nI 0, [6]),
  (88, 1, .ireturn, 0, 0, 0, nI 0, [])]
/- 118: LiningLogModel.scan()I -/
def mj_c118 : List mj_E := [(0, 1, .aload_n 0, 0, 0, 0, nI 0, []),
  (1, 3, .invokevirtual 67, 94, 1, 711, nI 0, [6]),
  (4, 1, .aload_n 0, 0, 0, 0, nI 0, []),
  (5, 3, .invokevirtual 96, 108, 1, 795, nI 0, [6]),
  (8, 1, .iconst 0, 0, 0, 0, nI 0, []),
  (9, 1, .istore_n 1, 0, 0, 0, nI 0, []),
  (10, 1, .iconst 0, 0, 0, 0, nI 0, []),
  (11, 1, .istore_n 2, 0, 0, 0, nI 0, []),
  (12, 1, .iload_n 2, 0, 0, 0, nI 0, []),
  (13, 1, .aload_n 0, 0, 0, 0, nI 0, []),
  (14, 3, .invokevirtual 34, 93, 1, 662, nI 0, [6]),
  (17, 3, .if_icmp .ge 35, 30, 0, 0, nI 0, []),
  (20, 1, .iload_n 1, 0, 0, 0, nI 0, []),
  (21, 1, .aload_n 0, 0, 0, 0, nI 0, []),
  (22, 1, .aload_n 0, 0, 0, 0, nI 0, []),
  (23, 3, .getfield 7, 6, 0, 666, nI 0, []),
  (26, 3, .sipush 142, 0, 0, 0, nI 142, []),
  (29, 1, .iaload, 0, 0, 0, nI 0, []),
  (30, 1, .iconst 1, 0, 0, 0, nI 1, []),
  (31, 1, .isub, 0, 0, 0, nI 0, []),
  (32, 1, .iload_n 2, 0, 0, 0, nI 0, []),
  (33, 3, .invokevirtual 99, 124, 3, 799, nI 0, [6]),
  (36, 3, .ifCond .eq 7, 25, 0, 0, nI 0, []),
  (39, 1, .iconst 1, 0, 0, 0, nI 1, []),
  (40, 3, .goto 4, 26, 0, 0, nI 0, []),
  (43, 1, .iconst 0, 0, 0, 0, nI 0, []),
  (44, 1, .iadd, 0, 0, 0, nI 0, []),
  (45, 1, .istore_n 1, 0, 0, 0, nI 0, []),
  (46, 3, .iinc 2 1, 0, 0, 0, nI 1, []),
  (49, 3, .goto (-37), 8, 0, 0, nI 0, []),
  (52, 1, .iload_n 1, 0, 0, 0, nI 0, []),
  (53, 1, .ireturn, 0, 0, 0, nI 0, [])]
/- 119: LiningLogModel.undo()I -/
def mj_c119 : List mj_E := [(0, 1, .aload_n 0, 0, 0, 0, nI 0, []),
  (1, 3, .getfield 30, 6, 2, 668, nI 0, []),
  (4, 3, .ifCond .ne 6, 5, 0, 0, nI 0, []),
  (7, 2, .ldc 78, 0, 0, 734, (-1000002), []),
  (9, 1, .ireturn, 0, 0, 0, nI 0, []),
  (10, 1, .aload_n 0, 0, 0, 0, nI 0, []),
  (11, 1, .dup, 0, 0, 0, nI 0, []),
  (12, 3, .getfield 30, 6, 2, 668, nI 0, []),
  (15, 1, .iconst 1, 0, 0, 0, nI 1, []),
  (16, 1, .isub, 0, 0, 0, nI 0, []),
  (17, 3, .putfield 30, 6, 2, 668, nI 0, []),
  (20, 1, .iconst 0, 0, 0, 0, nI 0, []),
  (21, 1, .istore_n 1, 0, 0, 0, nI 0, []),
  (22, 1, .iload_n 1, 0, 0, 0, nI 0, []),
  (23, 3, .sipush 627, 0, 0, 0, nI 627, []),
  (26, 3, .if_icmp .ge 30, 31, 0, 0, nI 0, []),
  (29, 1, .aload_n 0, 0, 0, 0, nI 0, []),
  (30, 3, .getfield 7, 6, 0, 666, nI 0, []),
  (33, 1, .iload_n 1, 0, 0, 0, nI 0, []),
  (34, 1, .aload_n 0, 0, 0, 0, nI 0, []),
  (35, 3, .getfield 13, 6, 1, 667, nI 0, []),
  (38, 3, .sipush 627, 0, 0, 0, nI 627, []),
  (41, 1, .aload_n 0, 0, 0, 0, nI 0, []),
  (42, 3, .getfield 30, 6, 2, 668, nI 0, []),
  (45, 1, .imul, 0, 0, 0, nI 0, []),
  (46, 1, .iload_n 1, 0, 0, 0, nI 0, []),
  (47, 1, .iadd, 0, 0, 0, nI 0, []),
  (48, 1, .iaload, 0, 0, 0, nI 0, []),
  (49, 1, .iastore, 0, 0, 0, nI 0, []),
  (50, 3, .iinc 1 1, 0, 0, 0, nI 1, []),
  (53, 3, .goto (-31), 13, 0, 0, nI 0, []),
  (56, 1, .aload_n 0, 0, 0, 0, nI 0, []),
  (57, 3, .getfield 30, 6, 2, 668, nI 0, []),
  (60, 1, .ireturn, 0, 0, 0, nI 0, [])]
/- 120: LiningLogModel.count(I)I -/
def mj_c120 : List mj_E := [(0, 1, .iload_n 1, 0, 0, 0, nI 0, []),
  (1, 2, .bipush 20, 0, 0, 0, nI 20, []),
  (3, 2, .bipush 25, 0, 0, 0, nI 25, []),
  (5, 3, .invokestatic 62, 91, 3, 707, nI 0, []),
  (8, 3, .ifCond .eq 16, 14, 0, 0, nI 0, []),
  (11, 1, .aload_n 0, 0, 0, 0, nI 0, []),
  (12, 3, .getfield 7, 6, 0, 666, nI 0, []),
  (15, 2, .bipush 12, 0, 0, 0, nI 12, []),
  (17, 1, .iload_n 1, 0, 0, 0, nI 0, []),
  (18, 1, .iadd, 0, 0, 0, nI 0, []),
  (19, 2, .bipush 20, 0, 0, 0, nI 20, []),
  (21, 1, .isub, 0, 0, 0, nI 0, []),
  (22, 1, .iaload, 0, 0, 0, nI 0, []),
  (23, 1, .ireturn, 0, 0, 0, nI 0, []),
  (24, 1, .iconst 0, 0, 0, 0, nI 0, []),
  (25, 1, .istore_n 2, 0, 0, 0, nI 0, []),
  (26, 1, .aload_n 0, 0, 0, 0, nI 0, []),
  (27, 1, .iconst 0, 0, 0, 0, nI 0, []),
  (28, 3, .invokevirtual 38, 96, 2, 746, nI 0, [6]),
  (31, 1, .istore_n 3, 0, 0, 0, nI 0, []),
  (32, 1, .iconst 0, 0, 0, 0, nI 0, []),
  (33, 2, .istore 4, 0, 0, 0, nI 0, []),
  (35, 2, .iload 4, 0, 0, 0, nI 0, []),
  (37, 1, .aload_n 0, 0, 0, 0, nI 0, []),
  (38, 3, .invokevirtual 34, 93, 1, 662, nI 0, [6]),
  (41, 3, .if_icmp .ge 51, 52, 0, 0, nI 0, []),
  (44, 1, .iload_n 2, 0, 0, 0, nI 0, []),
  (45, 1, .aload_n 0, 0, 0, 0, nI 0, []),
  (46, 3, .getfield 7, 6, 0, 666, nI 0, []),
  (49, 2, .bipush 82, 0, 0, 0, nI 82, []),
  (51, 2, .iload 4, 0, 0, 0, nI 0, []),
  (53, 1, .iadd, 0, 0, 0, nI 0, []),
  (54, 1, .iaload, 0, 0, 0, nI 0, []),
  (55, 3, .ifCond .le 7, 36, 0, 0, nI 0, []),
  (58, 1, .iconst 1, 0, 0, 0, nI 1, []),
  (59, 3, .goto 4, 37, 0, 0, nI 0, []),
  (62, 1, .iconst 0, 0, 0, 0, nI 0, []),
  (63, 1, .iadd, 0, 0, 0, nI 0, []),
  (64, 1, .istore_n 2, 0, 0, 0, nI 0, []),
  (65, 1, .aload_n 0, 0, 0, 0, nI 0, []),
  (66, 2, .iload 4, 0, 0, 0, nI 0, []),
  (68, 3, .invokevirtual 38, 96, 2, 746, nI 0, [6]),
  (71, 1, .iload_n 3, 0, 0, 0, nI 0, []),
  (72, 3, .if_icmp .ge 12, 48, 0, 0, nI 0, []),
  (75, 1, .aload_n 0, 0, 0, 0, nI 0, []),
  (76, 2, .iload 4, 0, 0, 0, nI 0, []),
  (78, 3, .invokevirtual 38, 96, 2, 746, nI 0, [6]),
  (81, 3, .goto 4, 49, 0, 0, nI 0, []),
  (84, 1, .iload_n 3, 0, 0, 0, nI 0, []),
  (85, 1, .istore_n 3, 0, 0, 0, nI 0, []),
  (86, 3, .iinc 4 1, 0, 0, 0, nI 1, []),
  (89, 3, .goto (-54), 22, 0, 0, nI 0, []),
  (92, 1, .iload_n 1, 0, 0, 0, nI 0, []),
  (93, 59, .tableswitch 89 0 10 #[59, 59, 59, 59, 59, 59, 66, 75, 80, 85, 87], 74, 0, 0, nI 0, [54, 54, 54, 54, 54, 54, 59, 64, 67, 70, 72]),
  (152, 1, .aload_n 0, 0, 0, 0, nI 0, []),
  (153, 3, .getfield 7, 6, 0, 666, nI 0, []),
  (156, 1, .iload_n 1, 0, 0, 0, nI 0, []),
  (157, 1, .iaload, 0, 0, 0, nI 0, []),
  (158, 1, .ireturn, 0, 0, 0, nI 0, []),
  (159, 1, .aload_n 0, 0, 0, 0, nI 0, []),
  (160, 3, .getfield 7, 6, 0, 666, nI 0, []),
  (163, 3, .sipush 142, 0, 0, 0, nI 142, []),
  (166, 1, .iaload, 0, 0, 0, nI 0, []),
  (167, 1, .ireturn, 0, 0, 0, nI 0, []),
  (168, 1, .aload_n 0, 0, 0, 0, nI 0, []),
  (169, 3, .getfield 30, 6, 2, 668, nI 0, []),
  (172, 1, .ireturn, 0, 0, 0, nI 0, []),
  (173, 1, .aload_n 0, 0, 0, 0, nI 0, []),
  (174, 3, .getfield 102, 6, 7, 673, nI 0, []),
  (177, 1, .ireturn, 0, 0, 0, nI 0, []),
  (178, 1, .iload_n 2, 0, 0, 0, nI 0, []),
  (179, 1, .ireturn, 0, 0, 0, nI 0, []),
  (180, 1, .iload_n 3, 0, 0, 0, nI 0, []),
  (181, 1, .ireturn, 0, 0, 0, nI 0, []),
  (182, 2, .ldc 66, 0, 0, 710, (-1000001), []),
  (184, 1, .ireturn, 0, 0, 0, nI 0, [])]
/- 121: LiningLogModel.spot(II)I -/
def mj_c121 : List mj_E := [(0, 1, .aload_n 0, 0, 0, 0, nI 0, []),
  (1, 1, .iload_n 1, 0, 0, 0, nI 0, []),
  (2, 3, .invokevirtual 82, 114, 2, 762, nI 0, [6]),
  (5, 3, .ifCond .ne 6, 6, 0, 0, nI 0, []),
  (8, 2, .ldc 66, 0, 0, 710, (-1000001), []),
  (10, 1, .ireturn, 0, 0, 0, nI 0, []),
  (11, 1, .iload_n 2, 0, 0, 0, nI 0, []),
  (12, 48, .tableswitch 124 0 7 #[48, 58, 68, 74, 80, 92, 98, 107], 61, 0, 0, nI 0, [8, 15, 22, 26, 30, 38, 42, 49]),
  (60, 1, .aload_n 0, 0, 0, 0, nI 0, []),
  (61, 3, .getfield 7, 6, 0, 666, nI 0, []),
  (64, 2, .bipush 22, 0, 0, 0, nI 22, []),
  (66, 1, .iload_n 1, 0, 0, 0, nI 0, []),
  (67, 1, .iadd, 0, 0, 0, nI 0, []),
  (68, 1, .iaload, 0, 0, 0, nI 0, []),
  (69, 1, .ireturn, 0, 0, 0, nI 0, []),
  (70, 1, .aload_n 0, 0, 0, 0, nI 0, []),
  (71, 3, .getfield 7, 6, 0, 666, nI 0, []),
  (74, 2, .bipush 82, 0, 0, 0, nI 82, []),
  (76, 1, .iload_n 1, 0, 0, 0, nI 0, []),
  (77, 1, .iadd, 0, 0, 0, nI 0, []),
  (78, 1, .iaload, 0, 0, 0, nI 0, []),
  (79, 1, .ireturn, 0, 0, 0, nI 0, []),
  (80, 1, .aload_n 0, 0, 0, 0, nI 0, []),
  (81, 1, .iload_n 1, 0, 0, 0, nI 0, []),
  (82, 3, .invokevirtual 38, 96, 2, 746, nI 0, [6]),
  (85, 1, .ireturn, 0, 0, 0, nI 0, []),
  (86, 1, .aload_n 0, 0, 0, 0, nI 0, []),
  (87, 1, .iload_n 1, 0, 0, 0, nI 0, []),
  (88, 3, .invokevirtual 56, 100, 2, 774, nI 0, [6]),
  (91, 1, .ireturn, 0, 0, 0, nI 0, []),
  (92, 1, .aload_n 0, 0, 0, 0, nI 0, []),
  (93, 1, .iload_n 1, 0, 0, 0, nI 0, []),
  (94, 3, .invokevirtual 38, 96, 2, 746, nI 0, [6]),
  (97, 1, .aload_n 0, 0, 0, 0, nI 0, []),
  (98, 1, .iload_n 1, 0, 0, 0, nI 0, []),
  (99, 3, .invokevirtual 46, 99, 2, 750, nI 0, [6]),
  (102, 1, .isub, 0, 0, 0, nI 0, []),
  (103, 1, .ireturn, 0, 0, 0, nI 0, []),
  (104, 1, .aload_n 0, 0, 0, 0, nI 0, []),
  (105, 1, .iload_n 1, 0, 0, 0, nI 0, []),
  (106, 3, .invokevirtual 105, 98, 2, 815, nI 0, [6]),
  (109, 1, .ireturn, 0, 0, 0, nI 0, []),
  (110, 1, .iload_n 1, 0, 0, 0, nI 0, []),
  (111, 1, .aload_n 0, 0, 0, 0, nI 0, []),
  (112, 3, .getfield 7, 6, 0, 666, nI 0, []),
  (115, 1, .iconst 1, 0, 0, 0, nI 1, []),
  (116, 1, .iaload, 0, 0, 0, nI 0, []),
  (117, 1, .idiv, 0, 0, 0, nI 0, []),
  (118, 1, .ireturn, 0, 0, 0, nI 0, []),
  (119, 1, .aload_n 0, 0, 0, 0, nI 0, []),
  (120, 3, .getfield 7, 6, 0, 666, nI 0, []),
  (123, 2, .bipush 6, 0, 0, 0, nI 6, []),
  (125, 1, .iload_n 1, 0, 0, 0, nI 0, []),
  (126, 1, .aload_n 0, 0, 0, 0, nI 0, []),
  (127, 3, .getfield 7, 6, 0, 666, nI 0, []),
  (130, 1, .iconst 1, 0, 0, 0, nI 1, []),
  (131, 1, .iaload, 0, 0, 0, nI 0, []),
  (132, 1, .idiv, 0, 0, 0, nI 0, []),
  (133, 1, .iadd, 0, 0, 0, nI 0, []),
  (134, 1, .iaload, 0, 0, 0, nI 0, []),
  (135, 1, .ireturn, 0, 0, 0, nI 0, []),
  (136, 2, .ldc 66, 0, 0, 710, (-1000001), []),
  (138, 1, .ireturn, 0, 0, 0, nI 0, [])]
/- 122: LiningLogModel.neighbour(II)I -/
def mj_c122 : List mj_E := [(0, 1, .aload_n 0, 0, 0, 0, nI 0, []),
  (1, 1, .iload_n 1, 0, 0, 0, nI 0, []),
  (2, 3, .invokevirtual 82, 114, 2, 762, nI 0, [6]),
  (5, 3, .ifCond .eq 7, 6, 0, 0, nI 0, []),
  (8, 1, .iload_n 2, 0, 0, 0, nI 0, []),
  (9, 3, .ifCond .ge 6, 8, 0, 0, nI 0, []),
  (12, 2, .ldc 66, 0, 0, 710, (-1000001), []),
  (14, 1, .ireturn, 0, 0, 0, nI 0, []),
  (15, 1, .aload_n 0, 0, 0, 0, nI 0, []),
  (16, 1, .iload_n 1, 0, 0, 0, nI 0, []),
  (17, 1, .iload_n 2, 0, 0, 0, nI 0, []),
  (18, 3, .invokevirtual 108, 97, 3, 823, nI 0, [6]),
  (21, 1, .istore_n 3, 0, 0, 0, nI 0, []),
  (22, 1, .iload_n 3, 0, 0, 0, nI 0, []),
  (23, 3, .ifCond .ge 8, 17, 0, 0, nI 0, []),
  (26, 2, .ldc 111, 0, 0, 827, (-1000004), []),
  (28, 3, .goto 4, 18, 0, 0, nI 0, []),
  (31, 1, .iload_n 3, 0, 0, 0, nI 0, []),
  (32, 1, .ireturn, 0, 0, 0, nI 0, [])]
/- 123: LiningLogModel.account(I)I -/
def mj_c123 : List mj_E := [(0, 1, .iload_n 1, 0, 0, 0, nI 0, []),
  (1, 1, .iconst 0, 0, 0, 0, nI 0, []),
  (2, 1, .iconst 4, 0, 0, 0, nI 4, []),
  (3, 3, .invokestatic 62, 91, 3, 707, nI 0, []),
  (6, 3, .ifCond .ne 6, 7, 0, 0, nI 0, []),
  (9, 2, .ldc 66, 0, 0, 710, (-1000001), []),
  (11, 1, .ireturn, 0, 0, 0, nI 0, []),
  (12, 1, .iconst 0, 0, 0, 0, nI 0, []),
  (13, 1, .istore_n 2, 0, 0, 0, nI 0, []),
  (14, 1, .iconst 0, 0, 0, 0, nI 0, []),
  (15, 1, .istore_n 3, 0, 0, 0, nI 0, []),
  (16, 1, .iload_n 3, 0, 0, 0, nI 0, []),
  (17, 1, .aload_n 0, 0, 0, 0, nI 0, []),
  (18, 3, .invokevirtual 34, 93, 1, 662, nI 0, [6]),
  (21, 3, .if_icmp .ge 17, 23, 0, 0, nI 0, []),
  (24, 1, .iload_n 2, 0, 0, 0, nI 0, []),
  (25, 1, .aload_n 0, 0, 0, 0, nI 0, []),
  (26, 1, .iload_n 3, 0, 0, 0, nI 0, []),
  (27, 3, .invokevirtual 38, 96, 2, 746, nI 0, [6]),
  (30, 1, .iadd, 0, 0, 0, nI 0, []),
  (31, 1, .istore_n 2, 0, 0, 0, nI 0, []),
  (32, 3, .iinc 3 1, 0, 0, 0, nI 1, []),
  (35, 3, .goto (-19), 11, 0, 0, nI 0, []),
  (38, 1, .iload_n 1, 0, 0, 0, nI 0, []),
  (39, 1, .iconst 4, 0, 0, 0, nI 4, []),
  (40, 3, .if_icmp .ge 15, 33, 0, 0, nI 0, []),
  (43, 1, .aload_n 0, 0, 0, 0, nI 0, []),
  (44, 3, .getfield 7, 6, 0, 666, nI 0, []),
  (47, 2, .bipush 18, 0, 0, 0, nI 18, []),
  (49, 1, .iload_n 1, 0, 0, 0, nI 0, []),
  (50, 1, .iadd, 0, 0, 0, nI 0, []),
  (51, 1, .iaload, 0, 0, 0, nI 0, []),
  (52, 3, .goto 4, 34, 0, 0, nI 0, []),
  (55, 1, .iload_n 2, 0, 0, 0, nI 0, []),
  (56, 1, .ireturn, 0, 0, 0, nI 0, [])]
/- 124: LiningLogModel.isHot(II)Z -/
def mj_c124 : List mj_E := [(0, 1, .aload_n 0, 0, 0, 0, nI 0, []),
  (1, 3, .getfield 7, 6, 0, 666, nI 0, []),
  (4, 3, .sipush 147, 0, 0, 0, nI 147, []),
  (7, 2, .bipush 60, 0, 0, 0, nI 60, []),
  (9, 1, .iload_n 1, 0, 0, 0, nI 0, []),
  (10, 1, .imul, 0, 0, 0, nI 0, []),
  (11, 1, .iadd, 0, 0, 0, nI 0, []),
  (12, 1, .iload_n 2, 0, 0, 0, nI 0, []),
  (13, 1, .iadd, 0, 0, 0, nI 0, []),
  (14, 1, .iaload, 0, 0, 0, nI 0, []),
  (15, 1, .aload_n 0, 0, 0, 0, nI 0, []),
  (16, 3, .getfield 7, 6, 0, 666, nI 0, []),
  (19, 2, .bipush 15, 0, 0, 0, nI 15, []),
  (21, 1, .iaload, 0, 0, 0, nI 0, []),
  (22, 3, .if_icmp .lt 7, 17, 0, 0, nI 0, []),
  (25, 1, .iconst 1, 0, 0, 0, nI 1, []),
  (26, 3, .goto 4, 18, 0, 0, nI 0, []),
  (29, 1, .iconst 0, 0, 0, 0, nI 0, []),
  (30, 1, .ireturn, 0, 1, 0, nI 0, [])]
/- 125: LiningLogModel.isPeak(II)Z -/
def mj_c125 : List mj_E := [(0, 1, .aload_n 0, 0, 0, 0, nI 0, []),
  (1, 1, .iload_n 1, 0, 0, 0, nI 0, []),
  (2, 1, .iload_n 2, 0, 0, 0, nI 0, []),
  (3, 3, .invokevirtual 99, 124, 3, 799, nI 0, [6]),
  (6, 1, .istore_n 3, 0, 0, 0, nI 0, []),
  (7, 1, .aload_n 0, 0, 0, 0, nI 0, []),
  (8, 3, .getfield 7, 6, 0, 666, nI 0, []),
  (11, 3, .sipush 147, 0, 0, 0, nI 147, []),
  (14, 2, .bipush 60, 0, 0, 0, nI 60, []),
  (16, 1, .iload_n 1, 0, 0, 0, nI 0, []),
  (17, 1, .imul, 0, 0, 0, nI 0, []),
  (18, 1, .iadd, 0, 0, 0, nI 0, []),
  (19, 1, .iload_n 2, 0, 0, 0, nI 0, []),
  (20, 1, .iadd, 0, 0, 0, nI 0, []),
  (21, 1, .iaload, 0, 0, 0, nI 0, []),
  (22, 2, .istore 4, 0, 0, 0, nI 0, []),
  (24, 1, .iconst 0, 0, 0, 0, nI 0, []),
  (25, 2, .istore 5, 0, 0, 0, nI 0, []),
  (27, 2, .iload 5, 0, 0, 0, nI 0, []),
  (29, 1, .aload_n 0, 0, 0, 0, nI 0, []),
  (30, 1, .iload_n 2, 0, 0, 0, nI 0, []),
  (31, 3, .invokevirtual 105, 98, 2, 815, nI 0, [6]),
  (34, 3, .if_icmp .ge 66, 56, 0, 0, nI 0, []),
  (37, 1, .iload_n 3, 0, 0, 0, nI 0, []),
  (38, 3, .ifCond .eq 62, 56, 0, 0, nI 0, []),
  (41, 1, .aload_n 0, 0, 0, 0, nI 0, []),
  (42, 1, .iload_n 2, 0, 0, 0, nI 0, []),
  (43, 2, .iload 5, 0, 0, 0, nI 0, []),
  (45, 3, .invokevirtual 108, 97, 3, 823, nI 0, [6]),
  (48, 2, .istore 6, 0, 0, 0, nI 0, []),
  (50, 1, .aload_n 0, 0, 0, 0, nI 0, []),
  (51, 3, .getfield 7, 6, 0, 666, nI 0, []),
  (54, 3, .sipush 147, 0, 0, 0, nI 147, []),
  (57, 2, .bipush 60, 0, 0, 0, nI 60, []),
  (59, 1, .iload_n 1, 0, 0, 0, nI 0, []),
  (60, 1, .imul, 0, 0, 0, nI 0, []),
  (61, 1, .iadd, 0, 0, 0, nI 0, []),
  (62, 2, .iload 6, 0, 0, 0, nI 0, []),
  (64, 1, .iadd, 0, 0, 0, nI 0, []),
  (65, 1, .iaload, 0, 0, 0, nI 0, []),
  (66, 2, .istore 7, 0, 0, 0, nI 0, []),
  (68, 2, .iload 7, 0, 0, 0, nI 0, []),
  (70, 2, .iload 4, 0, 0, 0, nI 0, []),
  (72, 3, .if_icmp .lt 16, 50, 0, 0, nI 0, []),
  (75, 2, .iload 7, 0, 0, 0, nI 0, []),
  (77, 2, .iload 4, 0, 0, 0, nI 0, []),
  (79, 3, .if_icmp .ne 13, 52, 0, 0, nI 0, []),
  (82, 2, .iload 6, 0, 0, 0, nI 0, []),
  (84, 1, .iload_n 2, 0, 0, 0, nI 0, []),
  (85, 3, .if_icmp .le 7, 52, 0, 0, nI 0, []),
  (88, 1, .iconst 1, 0, 0, 0, nI 1, []),
  (89, 3, .goto 4, 53, 0, 0, nI 0, []),
  (92, 1, .iconst 0, 0, 0, 0, nI 0, []),
  (93, 1, .istore_n 3, 0, 0, 0, nI 0, []),
  (94, 3, .iinc 5 1, 0, 0, 0, nI 1, []),
  (97, 3, .goto (-70), 18, 0, 0, nI 0, []),
  (100, 1, .iload_n 3, 0, 0, 0, nI 0, []),
  (101, 1, .ireturn, 0, 1, 0, nI 0, [])]
/- 126: LiningLogModel.isScan(I)Z -/
def mj_c126 : List mj_E := [(0, 1, .iload_n 1, 0, 0, 0, nI 0, []),
  (1, 1, .iconst 0, 0, 0, 0, nI 0, []),
  (2, 1, .aload_n 0, 0, 0, 0, nI 0, []),
  (3, 3, .getfield 7, 6, 0, 666, nI 0, []),
  (6, 3, .sipush 142, 0, 0, 0, nI 142, []),
  (9, 1, .iaload, 0, 0, 0, nI 0, []),
  (10, 1, .iconst 1, 0, 0, 0, nI 1, []),
  (11, 1, .isub, 0, 0, 0, nI 0, []),
  (12, 3, .invokestatic 62, 91, 3, 707, nI 0, []),
  (15, 1, .ireturn, 0, 1, 0, nI 0, [])]
/- 127: LiningLogModel.scanned(III)I -/
def mj_c127 : List mj_E := [(0, 1, .aload_n 0, 0, 0, 0, nI 0, []),
  (1, 1, .iload_n 1, 0, 0, 0, nI 0, []),
  (2, 3, .invokevirtual 112, 126, 2, 836, nI 0, [6]),
  (5, 3, .ifCond .eq 11, 8, 0, 0, nI 0, []),
  (8, 1, .aload_n 0, 0, 0, 0, nI 0, []),
  (9, 1, .iload_n 2, 0, 0, 0, nI 0, []),
  (10, 3, .invokevirtual 82, 114, 2, 762, nI 0, [6]),
  (13, 3, .ifCond .ne 6, 10, 0, 0, nI 0, []),
  (16, 2, .ldc 66, 0, 0, 710, (-1000001), []),
  (18, 1, .ireturn, 0, 0, 0, nI 0, []),
  (19, 1, .iload_n 3, 0, 0, 0, nI 0, []),
  (20, 36, .tableswitch 109 0 4 #[36, 52, 68, 83, 98], 59, 0, 0, nI 0, [12, 23, 34, 43, 52]),
  (56, 1, .aload_n 0, 0, 0, 0, nI 0, []),
  (57, 3, .getfield 7, 6, 0, 666, nI 0, []),
  (60, 3, .sipush 147, 0, 0, 0, nI 147, []),
  (63, 2, .bipush 60, 0, 0, 0, nI 60, []),
  (65, 1, .iload_n 1, 0, 0, 0, nI 0, []),
  (66, 1, .imul, 0, 0, 0, nI 0, []),
  (67, 1, .iadd, 0, 0, 0, nI 0, []),
  (68, 1, .iload_n 2, 0, 0, 0, nI 0, []),
  (69, 1, .iadd, 0, 0, 0, nI 0, []),
  (70, 1, .iaload, 0, 0, 0, nI 0, []),
  (71, 1, .ireturn, 0, 0, 0, nI 0, []),
  (72, 1, .aload_n 0, 0, 0, 0, nI 0, []),
  (73, 3, .getfield 7, 6, 0, 666, nI 0, []),
  (76, 3, .sipush 387, 0, 0, 0, nI 387, []),
  (79, 2, .bipush 60, 0, 0, 0, nI 60, []),
  (81, 1, .iload_n 1, 0, 0, 0, nI 0, []),
  (82, 1, .imul, 0, 0, 0, nI 0, []),
  (83, 1, .iadd, 0, 0, 0, nI 0, []),
  (84, 1, .iload_n 2, 0, 0, 0, nI 0, []),
  (85, 1, .iadd, 0, 0, 0, nI 0, []),
  (86, 1, .iaload, 0, 0, 0, nI 0, []),
  (87, 1, .ireturn, 0, 0, 0, nI 0, []),
  (88, 1, .aload_n 0, 0, 0, 0, nI 0, []),
  (89, 1, .iload_n 1, 0, 0, 0, nI 0, []),
  (90, 1, .iload_n 2, 0, 0, 0, nI 0, []),
  (91, 3, .invokevirtual 99, 124, 3, 799, nI 0, [6]),
  (94, 3, .ifCond .eq 7, 41, 0, 0, nI 0, []),
  (97, 1, .iconst 1, 0, 0, 0, nI 1, []),
  (98, 3, .goto 4, 42, 0, 0, nI 0, []),
  (101, 1, .iconst 0, 0, 0, 0, nI 0, []),
  (102, 1, .ireturn, 0, 0, 0, nI 0, []),
  (103, 1, .aload_n 0, 0, 0, 0, nI 0, []),
  (104, 1, .iload_n 1, 0, 0, 0, nI 0, []),
  (105, 1, .iload_n 2, 0, 0, 0, nI 0, []),
  (106, 3, .invokevirtual 115, 125, 3, 840, nI 0, [6]),
  (109, 3, .ifCond .eq 7, 50, 0, 0, nI 0, []),
  (112, 1, .iconst 1, 0, 0, 0, nI 1, []),
  (113, 3, .goto 4, 51, 0, 0, nI 0, []),
  (116, 1, .iconst 0, 0, 0, 0, nI 0, []),
  (117, 1, .ireturn, 0, 0, 0, nI 0, []),
  (118, 1, .aload_n 0, 0, 0, 0, nI 0, []),
  (119, 3, .getfield 7, 6, 0, 666, nI 0, []),
  (122, 3, .sipush 143, 0, 0, 0, nI 143, []),
  (125, 1, .iload_n 1, 0, 0, 0, nI 0, []),
  (126, 1, .iadd, 0, 0, 0, nI 0, []),
  (127, 1, .iaload, 0, 0, 0, nI 0, []),
  (128, 1, .ireturn, 0, 0, 0, nI 0, []),
  (129, 2, .ldc 66, 0, 0, 710, (-1000001), []),
  (131, 1, .ireturn, 0, 0, 0, nI 0, [])]
/- 128: LiningLogModel.peaks(I)I -/
def mj_c128 : List mj_E := [(0, 1, .aload_n 0, 0, 0, 0, nI 0, []),
  (1, 1, .iload_n 1, 0, 0, 0, nI 0, []),
  (2, 3, .invokevirtual 112, 126, 2, 836, nI 0, [6]),
  (5, 3, .ifCond .ne 6, 6, 0, 0, nI 0, []),
  (8, 2, .ldc 66, 0, 0, 710, (-1000001), []),
  (10, 1, .ireturn, 0, 0, 0, nI 0, []),
  (11, 1, .iconst 0, 0, 0, 0, nI 0, []),
  (12, 1, .istore_n 2, 0, 0, 0, nI 0, []),
  (13, 1, .iconst 0, 0, 0, 0, nI 0, []),
  (14, 1, .istore_n 3, 0, 0, 0, nI 0, []),
  (15, 1, .iload_n 3, 0, 0, 0, nI 0, []),
  (16, 1, .aload_n 0, 0, 0, 0, nI 0, []),
  (17, 3, .invokevirtual 34, 93, 1, 662, nI 0, [6]),
  (20, 3, .if_icmp .ge 26, 27, 0, 0, nI 0, []),
  (23, 1, .iload_n 2, 0, 0, 0, nI 0, []),
  (24, 1, .aload_n 0, 0, 0, 0, nI 0, []),
  (25, 1, .iload_n 1, 0, 0, 0, nI 0, []),
  (26, 1, .iload_n 3, 0, 0, 0, nI 0, []),
  (27, 3, .invokevirtual 115, 125, 3, 840, nI 0, [6]),
  (30, 3, .ifCond .eq 7, 22, 0, 0, nI 0, []),
  (33, 1, .iconst 1, 0, 0, 0, nI 1, []),
  (34, 3, .goto 4, 23, 0, 0, nI 0, []),
  (37, 1, .iconst 0, 0, 0, 0, nI 0, []),
  (38, 1, .iadd, 0, 0, 0, nI 0, []),
  (39, 1, .istore_n 2, 0, 0, 0, nI 0, []),
  (40, 3, .iinc 3 1, 0, 0, 0, nI 1, []),
  (43, 3, .goto (-28), 10, 0, 0, nI 0, []),
  (46, 1, .iload_n 2, 0, 0, 0, nI 0, []),
  (47, 1, .ireturn, 0, 0, 0, nI 0, [])]
/- 129: LiningLogModel.trend(I)I -/
def mj_c129 : List mj_E := [(0, 1, .aload_n 0, 0, 0, 0, nI 0, []),
  (1, 1, .iload_n 1, 0, 0, 0, nI 0, []),
  (2, 3, .invokevirtual 82, 114, 2, 762, nI 0, [6]),
  (5, 3, .ifCond .ne 6, 6, 0, 0, nI 0, []),
  (8, 2, .ldc 66, 0, 0, 710, (-1000001), []),
  (10, 1, .ireturn, 0, 0, 0, nI 0, []),
  (11, 1, .aload_n 0, 0, 0, 0, nI 0, []),
  (12, 3, .getfield 7, 6, 0, 666, nI 0, []),
  (15, 3, .sipush 142, 0, 0, 0, nI 142, []),
  (18, 1, .iaload, 0, 0, 0, nI 0, []),
  (19, 1, .iconst 1, 0, 0, 0, nI 1, []),
  (20, 1, .isub, 0, 0, 0, nI 0, []),
  (21, 1, .istore_n 2, 0, 0, 0, nI 0, []),
  (22, 1, .iload_n 2, 0, 0, 0, nI 0, []),
  (23, 1, .iconst 1, 0, 0, 0, nI 1, []),
  (24, 3, .if_icmp .lt 28, 31, 0, 0, nI 0, []),
  (27, 1, .aload_n 0, 0, 0, 0, nI 0, []),
  (28, 3, .getfield 7, 6, 0, 666, nI 0, []),
  (31, 3, .sipush 143, 0, 0, 0, nI 143, []),
  (34, 1, .iload_n 2, 0, 0, 0, nI 0, []),
  (35, 1, .iadd, 0, 0, 0, nI 0, []),
  (36, 1, .iaload, 0, 0, 0, nI 0, []),
  (37, 1, .aload_n 0, 0, 0, 0, nI 0, []),
  (38, 3, .getfield 7, 6, 0, 666, nI 0, []),
  (41, 3, .sipush 143, 0, 0, 0, nI 143, []),
  (44, 1, .iload_n 2, 0, 0, 0, nI 0, []),
  (45, 1, .iadd, 0, 0, 0, nI 0, []),
  (46, 1, .iconst 1, 0, 0, 0, nI 1, []),
  (47, 1, .isub, 0, 0, 0, nI 0, []),
  (48, 1, .iaload, 0, 0, 0, nI 0, []),
  (49, 3, .if_icmp .ne 6, 33, 0, 0, nI 0, []),
  (52, 2, .ldc 111, 0, 0, 827, (-1000004), []),
  (54, 1, .ireturn, 0, 0, 0, nI 0, []),
  (55, 2, .bipush 100, 0, 0, 0, nI 100, []),
  (57, 1, .aload_n 0, 0, 0, 0, nI 0, []),
  (58, 3, .getfield 7, 6, 0, 666, nI 0, []),
  (61, 3, .sipush 387, 0, 0, 0, nI 387, []),
  (64, 2, .bipush 60, 0, 0, 0, nI 60, []),
  (66, 1, .iload_n 2, 0, 0, 0, nI 0, []),
  (67, 1, .imul, 0, 0, 0, nI 0, []),
  (68, 1, .iadd, 0, 0, 0, nI 0, []),
  (69, 2, .bipush 60, 0, 0, 0, nI 60, []),
  (71, 1, .isub, 0, 0, 0, nI 0, []),
  (72, 1, .iload_n 1, 0, 0, 0, nI 0, []),
  (73, 1, .iadd, 0, 0, 0, nI 0, []),
  (74, 1, .iaload, 0, 0, 0, nI 0, []),
  (75, 1, .aload_n 0, 0, 0, 0, nI 0, []),
  (76, 3, .getfield 7, 6, 0, 666, nI 0, []),
  (79, 3, .sipush 387, 0, 0, 0, nI 387, []),
  (82, 2, .bipush 60, 0, 0, 0, nI 60, []),
  (84, 1, .iload_n 2, 0, 0, 0, nI 0, []),
  (85, 1, .imul, 0, 0, 0, nI 0, []),
  (86, 1, .iadd, 0, 0, 0, nI 0, []),
  (87, 1, .iload_n 1, 0, 0, 0, nI 0, []),
  (88, 1, .iadd, 0, 0, 0, nI 0, []),
  (89, 1, .iaload, 0, 0, 0, nI 0, []),
  (90, 1, .isub, 0, 0, 0, nI 0, []),
  (91, 1, .imul, 0, 0, 0, nI 0, []),
  (92, 1, .aload_n 0, 0, 0, 0, nI 0, []),
  (93, 3, .getfield 7, 6, 0, 666, nI 0, []),
  (96, 3, .sipush 143, 0, 0, 0, nI 143, []),
  (99, 1, .iload_n 2, 0, 0, 0, nI 0, []),
  (100, 1, .iadd, 0, 0, 0, nI 0, []),
  (101, 1, .iaload, 0, 0, 0, nI 0, []),
  (102, 1, .aload_n 0, 0, 0, 0, nI 0, []),
  (103, 3, .getfield 7, 6, 0, 666, nI 0, []),
  (106, 3, .sipush 143, 0, 0, 0, nI 143, []),
  (109, 1, .iload_n 2, 0, 0, 0, nI 0, []),
  (110, 1, .iadd, 0, 0, 0, nI 0, []),
  (111, 1, .iconst 1, 0, 0, 0, nI 1, []),
  (112, 1, .isub, 0, 0, 0, nI 0, []),
  (113, 1, .iaload, 0, 0, 0, nI 0, []),
  (114, 1, .isub, 0, 0, 0, nI 0, []),
  (115, 3, .invokestatic 42, 92, 2, 743, nI 0, []),
  (118, 1, .ireturn, 0, 0, 0, nI 0, [])]
/- 130: LiningLogModel.heatsByTrend(I)I -/
def mj_c130 : List mj_E := [(0, 1, .aload_n 0, 0, 0, 0, nI 0, []),
  (1, 1, .iload_n 1, 0, 0, 0, nI 0, []),
  (2, 3, .invokevirtual 118, 129, 2, 856, nI 0, [6]),
  (5, 1, .istore_n 2, 0, 0, 0, nI 0, []),
  (6, 1, .iload_n 2, 0, 0, 0, nI 0, []),
  (7, 2, .ldc 66, 0, 0, 710, (-1000001), []),
  (9, 3, .if_icmp .ne 6, 9, 0, 0, nI 0, []),
  (12, 2, .ldc 66, 0, 0, 710, (-1000001), []),
  (14, 1, .ireturn, 0, 0, 0, nI 0, []),
  (15, 1, .aload_n 0, 0, 0, 0, nI 0, []),
  (16, 1, .iload_n 1, 0, 0, 0, nI 0, []),
  (17, 3, .invokevirtual 38, 96, 2, 746, nI 0, [6]),
  (20, 1, .aload_n 0, 0, 0, 0, nI 0, []),
  (21, 3, .getfield 7, 6, 0, 666, nI 0, []),
  (24, 2, .bipush 12, 0, 0, 0, nI 12, []),
  (26, 1, .iaload, 0, 0, 0, nI 0, []),
  (27, 1, .isub, 0, 0, 0, nI 0, []),
  (28, 1, .istore_n 3, 0, 0, 0, nI 0, []),
  (29, 1, .iload_n 2, 0, 0, 0, nI 0, []),
  (30, 3, .ifCond .le 7, 22, 0, 0, nI 0, []),
  (33, 1, .iload_n 3, 0, 0, 0, nI 0, []),
  (34, 3, .ifCond .ge 8, 24, 0, 0, nI 0, []),
  (37, 2, .ldc 111, 0, 0, 827, (-1000004), []),
  (39, 3, .goto 9, 29, 0, 0, nI 0, []),
  (42, 2, .bipush 100, 0, 0, 0, nI 100, []),
  (44, 1, .iload_n 3, 0, 0, 0, nI 0, []),
  (45, 1, .imul, 0, 0, 0, nI 0, []),
  (46, 1, .iload_n 2, 0, 0, 0, nI 0, []),
  (47, 1, .idiv, 0, 0, 0, nI 0, []),
  (48, 1, .ireturn, 0, 0, 0, nI 0, [])]
/- 131: LiningLogModel.lasts(II)I -/
def mj_c131 : List mj_E := [(0, 1, .iconst 0, 0, 0, 0, nI 0, []),
  (1, 1, .istore_n 3, 0, 0, 0, nI 0, []),
  (2, 1, .iload_n 3, 0, 0, 0, nI 0, []),
  (3, 3, .sipush 301, 0, 0, 0, nI 301, []),
  (6, 3, .if_icmp .ge 32, 20, 0, 0, nI 0, []),
  (9, 1, .aload_n 0, 0, 0, 0, nI 0, []),
  (10, 3, .getfield 7, 6, 0, 666, nI 0, []),
  (13, 1, .iconst 5, 0, 0, 0, nI 5, []),
  (14, 1, .iaload, 0, 0, 0, nI 0, []),
  (15, 3, .ifCond .ne 23, 20, 0, 0, nI 0, []),
  (18, 3, .iinc 3 1, 0, 0, 0, nI 1, []),
  (21, 1, .iload_n 3, 0, 0, 0, nI 0, []),
  (22, 3, .sipush 301, 0, 0, 0, nI 301, []),
  (25, 3, .if_icmp .ge (-23), 2, 0, 0, nI 0, []),
  (28, 1, .aload_n 0, 0, 0, 0, nI 0, []),
  (29, 1, .iload_n 1, 0, 0, 0, nI 0, []),
  (30, 1, .iload_n 2, 0, 0, 0, nI 0, []),
  (31, 3, .invokevirtual 79, 103, 3, 735, nI 0, [6]),
  (34, 1, .pop, 0, 0, 0, nI 0, []),
  (35, 3, .goto (-33), 2, 0, 0, nI 0, []),
  (38, 1, .iload_n 3, 0, 0, 0, nI 0, []),
  (39, 1, .ireturn, 0, 0, 0, nI 0, [])]
/- 132: LiningLogModel.keeps()V -/
def mj_c132 : List mj_E := [(0, 1, .iconst 0, 0, 0, 0, nI 0, []),
  (1, 1, .istore_n 1, 0, 0, 0, nI 0, []),
  (2, 1, .iload_n 1, 0, 0, 0, nI 0, []),
  (3, 3, .sipush 627, 0, 0, 0, nI 627, []),
  (6, 3, .if_icmp .ge 21, 15, 0, 0, nI 0, []),
  (9, 1, .aload_n 0, 0, 0, 0, nI 0, []),
  (10, 3, .getfield 16, 6, 4, 670, nI 0, []),
  (13, 1, .iload_n 1, 0, 0, 0, nI 0, []),
  (14, 1, .aload_n 0, 0, 0, 0, nI 0, []),
  (15, 3, .getfield 7, 6, 0, 666, nI 0, []),
  (18, 1, .iload_n 1, 0, 0, 0, nI 0, []),
  (19, 1, .iaload, 0, 0, 0, nI 0, []),
  (20, 1, .iastore, 0, 0, 0, nI 0, []),
  (21, 3, .iinc 1 1, 0, 0, 0, nI 1, []),
  (24, 3, .goto (-22), 2, 0, 0, nI 0, []),
  (27, 1, .return_, 0, 0, 0, nI 0, [])]
/- 133: LiningLogModel.restores()V -/
def mj_c133 : List mj_E := [(0, 1, .iconst 0, 0, 0, 0, nI 0, []),
  (1, 1, .istore_n 1, 0, 0, 0, nI 0, []),
  (2, 1, .iload_n 1, 0, 0, 0, nI 0, []),
  (3, 3, .sipush 627, 0, 0, 0, nI 627, []),
  (6, 3, .if_icmp .ge 21, 15, 0, 0, nI 0, []),
  (9, 1, .aload_n 0, 0, 0, 0, nI 0, []),
  (10, 3, .getfield 7, 6, 0, 666, nI 0, []),
  (13, 1, .iload_n 1, 0, 0, 0, nI 0, []),
  (14, 1, .aload_n 0, 0, 0, 0, nI 0, []),
  (15, 3, .getfield 16, 6, 4, 670, nI 0, []),
  (18, 1, .iload_n 1, 0, 0, 0, nI 0, []),
  (19, 1, .iaload, 0, 0, 0, nI 0, []),
  (20, 1, .iastore, 0, 0, 0, nI 0, []),
  (21, 3, .iinc 1 1, 0, 0, 0, nI 1, []),
  (24, 3, .goto (-22), 2, 0, 0, nI 0, []),
  (27, 1, .return_, 0, 0, 0, nI 0, [])]
/- 134: LiningLogModel.heatsLeft(II)I -/
def mj_c134 : List mj_E := [(0, 1, .iload_n 1, 0, 0, 0, nI 0, []),
  (1, 1, .iload_n 2, 0, 0, 0, nI 0, []),
  (2, 3, .invokestatic 75, 113, 2, 731, nI 0, []),
  (5, 3, .ifCond .ne 6, 6, 0, 0, nI 0, []),
  (8, 2, .ldc 66, 0, 0, 710, (-1000001), []),
  (10, 1, .ireturn, 0, 0, 0, nI 0, []),
  (11, 1, .aload_n 0, 0, 0, 0, nI 0, []),
  (12, 3, .invokevirtual 121, 132, 1, 861, nI 0, [6]),
  (15, 1, .aload_n 0, 0, 0, 0, nI 0, []),
  (16, 1, .iload_n 1, 0, 0, 0, nI 0, []),
  (17, 1, .iload_n 2, 0, 0, 0, nI 0, []),
  (18, 3, .invokevirtual 124, 131, 3, 865, nI 0, [6]),
  (21, 1, .istore_n 3, 0, 0, 0, nI 0, []),
  (22, 1, .aload_n 0, 0, 0, 0, nI 0, []),
  (23, 3, .invokevirtual 127, 133, 1, 869, nI 0, [6]),
  (26, 1, .iload_n 3, 0, 0, 0, nI 0, []),
  (27, 3, .sipush 300, 0, 0, 0, nI 300, []),
  (30, 3, .if_icmp .le 8, 20, 0, 0, nI 0, []),
  (33, 2, .ldc 111, 0, 0, 827, (-1000004), []),
  (35, 3, .goto 4, 21, 0, 0, nI 0, []),
  (38, 1, .iload_n 3, 0, 0, 0, nI 0, []),
  (39, 1, .ireturn, 0, 0, 0, nI 0, [])]
/- 135: LiningLogModel.firstThrough(II)I -/
def mj_c135 : List mj_E := [(0, 1, .iload_n 1, 0, 0, 0, nI 0, []),
  (1, 1, .iload_n 2, 0, 0, 0, nI 0, []),
  (2, 3, .invokestatic 75, 113, 2, 731, nI 0, []),
  (5, 3, .ifCond .ne 6, 6, 0, 0, nI 0, []),
  (8, 2, .ldc 66, 0, 0, 710, (-1000001), []),
  (10, 1, .ireturn, 0, 0, 0, nI 0, []),
  (11, 1, .aload_n 0, 0, 0, 0, nI 0, []),
  (12, 3, .getfield 7, 6, 0, 666, nI 0, []),
  (15, 1, .iconst 5, 0, 0, 0, nI 5, []),
  (16, 1, .iaload, 0, 0, 0, nI 0, []),
  (17, 1, .iconst 1, 0, 0, 0, nI 1, []),
  (18, 3, .if_icmp .ne 6, 14, 0, 0, nI 0, []),
  (21, 2, .ldc 78, 0, 0, 734, (-1000002), []),
  (23, 1, .ireturn, 0, 0, 0, nI 0, []),
  (24, 1, .aload_n 0, 0, 0, 0, nI 0, []),
  (25, 3, .invokevirtual 121, 132, 1, 861, nI 0, [6]),
  (28, 1, .aload_n 0, 0, 0, 0, nI 0, []),
  (29, 1, .iload_n 1, 0, 0, 0, nI 0, []),
  (30, 1, .iload_n 2, 0, 0, 0, nI 0, []),
  (31, 3, .invokevirtual 124, 131, 3, 865, nI 0, [6]),
  (34, 1, .pop, 0, 0, 0, nI 0, []),
  (35, 2, .ldc 111, 0, 0, 827, (-1000004), []),
  (37, 1, .istore_n 3, 0, 0, 0, nI 0, []),
  (38, 1, .aload_n 0, 0, 0, 0, nI 0, []),
  (39, 3, .invokevirtual 34, 93, 1, 662, nI 0, [6]),
  (42, 1, .iconst 1, 0, 0, 0, nI 1, []),
  (43, 1, .isub, 0, 0, 0, nI 0, []),
  (44, 2, .istore 4, 0, 0, 0, nI 0, []),
  (46, 2, .iload 4, 0, 0, 0, nI 0, []),
  (48, 3, .ifCond .lt 42, 50, 0, 0, nI 0, []),
  (51, 1, .aload_n 0, 0, 0, 0, nI 0, []),
  (52, 3, .getfield 7, 6, 0, 666, nI 0, []),
  (55, 1, .iconst 5, 0, 0, 0, nI 5, []),
  (56, 1, .iaload, 0, 0, 0, nI 0, []),
  (57, 1, .iconst 1, 0, 0, 0, nI 1, []),
  (58, 3, .if_icmp .ne 32, 50, 0, 0, nI 0, []),
  (61, 1, .aload_n 0, 0, 0, 0, nI 0, []),
  (62, 2, .iload 4, 0, 0, 0, nI 0, []),
  (64, 3, .invokevirtual 38, 96, 2, 746, nI 0, [6]),
  (67, 1, .aload_n 0, 0, 0, 0, nI 0, []),
  (68, 3, .getfield 7, 6, 0, 666, nI 0, []),
  (71, 2, .bipush 12, 0, 0, 0, nI 12, []),
  (73, 1, .iaload, 0, 0, 0, nI 0, []),
  (74, 3, .if_icmp .ge 8, 46, 0, 0, nI 0, []),
  (77, 2, .iload 4, 0, 0, 0, nI 0, []),
  (79, 3, .goto 4, 47, 0, 0, nI 0, []),
  (82, 1, .iload_n 3, 0, 0, 0, nI 0, []),
  (83, 1, .istore_n 3, 0, 0, 0, nI 0, []),
  (84, 3, .iinc 4 (-1), 0, 0, 0, (-1), []),
  (87, 3, .goto (-41), 28, 0, 0, nI 0, []),
  (90, 1, .aload_n 0, 0, 0, 0, nI 0, []),
  (91, 3, .invokevirtual 127, 133, 1, 869, nI 0, [6]),
  (94, 1, .iload_n 3, 0, 0, 0, nI 0, []),
  (95, 1, .ireturn, 0, 0, 0, nI 0, [])]
/- 136: LiningLogModel.bestSpot(III)I -/
def mj_c136 : List mj_E := [(0, 1, .iload_n 1, 0, 0, 0, nI 0, []),
  (1, 1, .iconst 1, 0, 0, 0, nI 1, []),
  (2, 3, .sipush 500, 0, 0, 0, nI 500, []),
  (5, 3, .invokestatic 62, 91, 3, 707, nI 0, []),
  (8, 3, .ifCond .eq 11, 9, 0, 0, nI 0, []),
  (11, 1, .iload_n 2, 0, 0, 0, nI 0, []),
  (12, 1, .iload_n 3, 0, 0, 0, nI 0, []),
  (13, 3, .invokestatic 75, 113, 2, 731, nI 0, []),
  (16, 3, .ifCond .ne 6, 11, 0, 0, nI 0, []),
  (19, 2, .ldc 66, 0, 0, 710, (-1000001), []),
  (21, 1, .ireturn, 0, 0, 0, nI 0, []),
  (22, 2, .ldc 78, 0, 0, 734, (-1000002), []),
  (24, 2, .istore 4, 0, 0, 0, nI 0, []),
  (26, 1, .iconst (-1), 0, 0, 0, (-1), []),
  (27, 2, .istore 5, 0, 0, 0, nI 0, []),
  (29, 1, .aload_n 0, 0, 0, 0, nI 0, []),
  (30, 3, .invokevirtual 121, 132, 1, 861, nI 0, [6]),
  (33, 1, .iconst 0, 0, 0, 0, nI 0, []),
  (34, 2, .istore 6, 0, 0, 0, nI 0, []),
  (36, 2, .iload 6, 0, 0, 0, nI 0, []),
  (38, 1, .aload_n 0, 0, 0, 0, nI 0, []),
  (39, 3, .invokevirtual 34, 93, 1, 662, nI 0, [6]),
  (42, 3, .if_icmp .ge 71, 56, 0, 0, nI 0, []),
  (45, 1, .aload_n 0, 0, 0, 0, nI 0, []),
  (46, 2, .iload 6, 0, 0, 0, nI 0, []),
  (48, 1, .iload_n 1, 0, 0, 0, nI 0, []),
  (49, 3, .invokevirtual 86, 105, 3, 766, nI 0, [6]),
  (52, 3, .ifCond .ne 55, 54, 0, 0, nI 0, []),
  (55, 1, .aload_n 0, 0, 0, 0, nI 0, []),
  (56, 2, .iload 6, 0, 0, 0, nI 0, []),
  (58, 1, .iload_n 1, 0, 0, 0, nI 0, []),
  (59, 3, .invokevirtual 90, 106, 3, 779, nI 0, [6]),
  (62, 1, .pop, 0, 0, 0, nI 0, []),
  (63, 1, .aload_n 0, 0, 0, 0, nI 0, []),
  (64, 1, .iload_n 2, 0, 0, 0, nI 0, []),
  (65, 1, .iload_n 3, 0, 0, 0, nI 0, []),
  (66, 3, .invokevirtual 124, 131, 3, 865, nI 0, [6]),
  (69, 2, .istore 7, 0, 0, 0, nI 0, []),
  (71, 2, .iload 7, 0, 0, 0, nI 0, []),
  (73, 2, .iload 5, 0, 0, 0, nI 0, []),
  (75, 3, .if_icmp .le 8, 43, 0, 0, nI 0, []),
  (78, 2, .iload 6, 0, 0, 0, nI 0, []),
  (80, 3, .goto 5, 44, 0, 0, nI 0, []),
  (83, 2, .iload 4, 0, 0, 0, nI 0, []),
  (85, 2, .istore 4, 0, 0, 0, nI 0, []),
  (87, 2, .iload 7, 0, 0, 0, nI 0, []),
  (89, 2, .iload 5, 0, 0, 0, nI 0, []),
  (91, 3, .if_icmp .le 8, 50, 0, 0, nI 0, []),
  (94, 2, .iload 7, 0, 0, 0, nI 0, []),
  (96, 3, .goto 5, 51, 0, 0, nI 0, []),
  (99, 2, .iload 5, 0, 0, 0, nI 0, []),
  (101, 2, .istore 5, 0, 0, 0, nI 0, []),
  (103, 1, .aload_n 0, 0, 0, 0, nI 0, []),
  (104, 3, .invokevirtual 127, 133, 1, 869, nI 0, [6]),
  (107, 3, .iinc 6 1, 0, 0, 0, nI 1, []),
  (110, 3, .goto (-74), 19, 0, 0, nI 0, []),
  (113, 2, .iload 4, 0, 0, 0, nI 0, []),
  (115, 1, .ireturn, 0, 0, 0, nI 0, [])]
/- 137: LiningLogModel.wear(III)I -/
def mj_c137 : List mj_E := [(0, 1, .aload_n 0, 0, 0, 0, nI 0, []),
  (1, 1, .iload_n 1, 0, 0, 0, nI 0, []),
  (2, 3, .invokevirtual 82, 114, 2, 762, nI 0, [6]),
  (5, 3, .ifCond .eq 21, 14, 0, 0, nI 0, []),
  (8, 1, .iload_n 2, 0, 0, 0, nI 0, []),
  (9, 1, .iload_n 3, 0, 0, 0, nI 0, []),
  (10, 3, .invokestatic 75, 113, 2, 731, nI 0, []),
  (13, 3, .ifCond .eq 13, 14, 0, 0, nI 0, []),
  (16, 1, .aload_n 0, 0, 0, 0, nI 0, []),
  (17, 1, .iload_n 1, 0, 0, 0, nI 0, []),
  (18, 1, .iload_n 2, 0, 0, 0, nI 0, []),
  (19, 1, .iload_n 3, 0, 0, 0, nI 0, []),
  (20, 3, .invokevirtual 49, 101, 4, 739, nI 0, [6]),
  (23, 3, .goto 5, 15, 0, 0, nI 0, []),
  (26, 2, .ldc 66, 0, 0, 710, (-1000001), []),
  (28, 1, .ireturn, 0, 0, 0, nI 0, [])]
/- 138: LiningLogModel.type(I)I -/
def mj_c138 : List mj_E := [(0, 1, .iload_n 1, 0, 0, 0, nI 0, []),
  (1, 2, .bipush 32, 0, 0, 0, nI 32, []),
  (3, 2, .bipush 126, 0, 0, 0, nI 126, []),
  (5, 3, .invokestatic 62, 91, 3, 707, nI 0, []),
  (8, 3, .ifCond .ne 6, 7, 0, 0, nI 0, []),
  (11, 2, .ldc 66, 0, 0, 710, (-1000001), []),
  (13, 1, .ireturn, 0, 0, 0, nI 0, []),
  (14, 1, .aload_n 0, 0, 0, 0, nI 0, []),
  (15, 3, .getfield 102, 6, 7, 673, nI 0, []),
  (18, 2, .bipush 100, 0, 0, 0, nI 100, []),
  (20, 3, .if_icmp .ne 6, 13, 0, 0, nI 0, []),
  (23, 2, .ldc 89, 0, 0, 778, (-1000003), []),
  (25, 1, .ireturn, 0, 0, 0, nI 0, []),
  (26, 1, .aload_n 0, 0, 0, 0, nI 0, []),
  (27, 3, .getfield 22, 6, 6, 672, nI 0, []),
  (30, 1, .aload_n 0, 0, 0, 0, nI 0, []),
  (31, 3, .getfield 102, 6, 7, 673, nI 0, []),
  (34, 1, .iload_n 1, 0, 0, 0, nI 0, []),
  (35, 1, .i2c, 0, 0, 0, nI 0, []),
  (36, 1, .castore, 0, 0, 0, nI 0, []),
  (37, 1, .aload_n 0, 0, 0, 0, nI 0, []),
  (38, 1, .dup, 0, 0, 0, nI 0, []),
  (39, 3, .getfield 102, 6, 7, 673, nI 0, []),
  (42, 1, .iconst 1, 0, 0, 0, nI 1, []),
  (43, 1, .iadd, 0, 0, 0, nI 0, []),
  (44, 3, .putfield 102, 6, 7, 673, nI 0, []),
  (47, 1, .aload_n 0, 0, 0, 0, nI 0, []),
  (48, 3, .getfield 102, 6, 7, 673, nI 0, []),
  (51, 1, .ireturn, 0, 0, 0, nI 0, [])]
/- 139: LiningLogModel.clearText()I -/
def mj_c139 : List mj_E := [(0, 1, .aload_n 0, 0, 0, 0, nI 0, []),
  (1, 3, .getfield 102, 6, 7, 673, nI 0, []),
  (4, 1, .istore_n 1, 0, 0, 0, nI 0, []),
  (5, 1, .aload_n 0, 0, 0, 0, nI 0, []),
  (6, 1, .iconst 0, 0, 0, 0, nI 0, []),
  (7, 3, .putfield 102, 6, 7, 673, nI 0, []),
  (10, 1, .iload_n 1, 0, 0, 0, nI 0, []),
  (11, 1, .ireturn, 0, 0, 0, nI 0, [])]
/- 140: LiningLogModel.passes(C)Z -/
def mj_c140 : List mj_E := [(0, 1, .aload_n 0, 0, 0, 0, nI 0, []),
  (1, 3, .getfield 130, 6, 8, 674, nI 0, []),
  (4, 1, .aload_n 0, 0, 0, 0, nI 0, []),
  (5, 3, .getfield 102, 6, 7, 673, nI 0, []),
  (8, 3, .if_icmp .ge 20, 14, 0, 0, nI 0, []),
  (11, 1, .aload_n 0, 0, 0, 0, nI 0, []),
  (12, 3, .getfield 22, 6, 6, 672, nI 0, []),
  (15, 1, .aload_n 0, 0, 0, 0, nI 0, []),
  (16, 3, .getfield 130, 6, 8, 674, nI 0, []),
  (19, 1, .caload, 0, 0, 0, nI 0, []),
  (20, 1, .iload_n 1, 0, 0, 0, nI 0, []),
  (21, 3, .if_icmp .ne 7, 14, 0, 0, nI 0, []),
  (24, 1, .iconst 1, 0, 0, 0, nI 1, []),
  (25, 3, .goto 4, 15, 0, 0, nI 0, []),
  (28, 1, .iconst 0, 0, 0, 0, nI 0, []),
  (29, 1, .istore_n 2, 0, 0, 0, nI 0, []),
  (30, 1, .aload_n 0, 0, 0, 0, nI 0, []),
  (31, 1, .dup, 0, 0, 0, nI 0, []),
  (32, 3, .getfield 130, 6, 8, 674, nI 0, []),
  (35, 1, .iload_n 2, 0, 0, 0, nI 0, []),
  (36, 3, .ifCond .eq 7, 23, 0, 0, nI 0, []),
  (39, 1, .iconst 1, 0, 0, 0, nI 1, []),
  (40, 3, .goto 4, 24, 0, 0, nI 0, []),
  (43, 1, .iconst 0, 0, 0, 0, nI 0, []),
  (44, 1, .iadd, 0, 0, 0, nI 0, []),
  (45, 3, .putfield 130, 6, 8, 674, nI 0, []),
  (48, 1, .iload_n 2, 0, 0, 0, nI 0, []),
  (49, 1, .ireturn, 0, 1, 0, nI 0, [])]
/- 141: LiningLogModel.number()I -/
def mj_c141 : List mj_E := [(0, 1, .aload_n 0, 0, 0, 0, nI 0, []),
  (1, 3, .getfield 130, 6, 8, 674, nI 0, []),
  (4, 1, .istore_n 1, 0, 0, 0, nI 0, []),
  (5, 1, .iconst 0, 0, 0, 0, nI 0, []),
  (6, 1, .istore_n 2, 0, 0, 0, nI 0, []),
  (7, 1, .aload_n 0, 0, 0, 0, nI 0, []),
  (8, 3, .getfield 130, 6, 8, 674, nI 0, []),
  (11, 1, .aload_n 0, 0, 0, 0, nI 0, []),
  (12, 3, .getfield 102, 6, 7, 673, nI 0, []),
  (15, 3, .if_icmp .ge 63, 44, 0, 0, nI 0, []),
  (18, 1, .aload_n 0, 0, 0, 0, nI 0, []),
  (19, 3, .getfield 130, 6, 8, 674, nI 0, []),
  (22, 1, .iload_n 1, 0, 0, 0, nI 0, []),
  (23, 1, .iconst 4, 0, 0, 0, nI 4, []),
  (24, 1, .iadd, 0, 0, 0, nI 0, []),
  (25, 3, .if_icmp .ge 53, 44, 0, 0, nI 0, []),
  (28, 1, .aload_n 0, 0, 0, 0, nI 0, []),
  (29, 3, .getfield 22, 6, 6, 672, nI 0, []),
  (32, 1, .aload_n 0, 0, 0, 0, nI 0, []),
  (33, 3, .getfield 130, 6, 8, 674, nI 0, []),
  (36, 1, .caload, 0, 0, 0, nI 0, []),
  (37, 2, .bipush 48, 0, 0, 0, nI 48, []),
  (39, 2, .bipush 57, 0, 0, 0, nI 57, []),
  (41, 3, .invokestatic 62, 91, 3, 707, nI 0, []),
  (44, 3, .ifCond .eq 34, 44, 0, 0, nI 0, []),
  (47, 2, .bipush 10, 0, 0, 0, nI 10, []),
  (49, 1, .iload_n 2, 0, 0, 0, nI 0, []),
  (50, 1, .imul, 0, 0, 0, nI 0, []),
  (51, 1, .aload_n 0, 0, 0, 0, nI 0, []),
  (52, 3, .getfield 22, 6, 6, 672, nI 0, []),
  (55, 1, .aload_n 0, 0, 0, 0, nI 0, []),
  (56, 3, .getfield 130, 6, 8, 674, nI 0, []),
  (59, 1, .caload, 0, 0, 0, nI 0, []),
  (60, 1, .iadd, 0, 0, 0, nI 0, []),
  (61, 2, .bipush 48, 0, 0, 0, nI 48, []),
  (63, 1, .isub, 0, 0, 0, nI 0, []),
  (64, 1, .istore_n 2, 0, 0, 0, nI 0, []),
  (65, 1, .aload_n 0, 0, 0, 0, nI 0, []),
  (66, 1, .dup, 0, 0, 0, nI 0, []),
  (67, 3, .getfield 130, 6, 8, 674, nI 0, []),
  (70, 1, .iconst 1, 0, 0, 0, nI 1, []),
  (71, 1, .iadd, 0, 0, 0, nI 0, []),
  (72, 3, .putfield 130, 6, 8, 674, nI 0, []),
  (75, 3, .goto (-68), 5, 0, 0, nI 0, []),
  (78, 1, .aload_n 0, 0, 0, 0, nI 0, []),
  (79, 3, .getfield 130, 6, 8, 674, nI 0, []),
  (82, 1, .iload_n 1, 0, 0, 0, nI 0, []),
  (83, 3, .if_icmp .ne 7, 50, 0, 0, nI 0, []),
  (86, 1, .iconst (-1), 0, 0, 0, (-1), []),
  (87, 3, .goto 4, 51, 0, 0, nI 0, []),
  (90, 1, .iload_n 2, 0, 0, 0, nI 0, []),
  (91, 1, .ireturn, 0, 0, 0, nI 0, [])]
/- 142: LiningLogModel.readsLine()Z -/
def mj_c142 : List mj_E := [(0, 1, .aload_n 0, 0, 0, 0, nI 0, []),
  (1, 1, .aload_n 0, 0, 0, 0, nI 0, []),
  (2, 3, .getfield 22, 6, 6, 672, nI 0, []),
  (5, 1, .aload_n 0, 0, 0, 0, nI 0, []),
  (6, 3, .getfield 130, 6, 8, 674, nI 0, []),
  (9, 1, .caload, 0, 0, 0, nI 0, []),
  (10, 3, .putfield 133, 6, 9, 675, nI 0, []),
  (13, 1, .aload_n 0, 0, 0, 0, nI 0, []),
  (14, 1, .dup, 0, 0, 0, nI 0, []),
  (15, 3, .getfield 130, 6, 8, 674, nI 0, []),
  (18, 1, .iconst 1, 0, 0, 0, nI 1, []),
  (19, 1, .iadd, 0, 0, 0, nI 0, []),
  (20, 3, .putfield 130, 6, 8, 674, nI 0, []),
  (23, 1, .iconst 1, 0, 0, 0, nI 1, []),
  (24, 1, .istore_n 1, 0, 0, 0, nI 0, []),
  (25, 1, .aload_n 0, 0, 0, 0, nI 0, []),
  (26, 3, .getfield 133, 6, 9, 675, nI 0, []),
  (29, 2, .bipush 104, 0, 0, 0, nI 104, []),
  (31, 3, .if_icmp .eq 12, 23, 0, 0, nI 0, []),
  (34, 1, .aload_n 0, 0, 0, 0, nI 0, []),
  (35, 3, .getfield 133, 6, 9, 675, nI 0, []),
  (38, 2, .bipush 103, 0, 0, 0, nI 103, []),
  (40, 3, .if_icmp .ne 113, 75, 0, 0, nI 0, []),
  (43, 1, .aload_n 0, 0, 0, 0, nI 0, []),
  (44, 1, .aload_n 0, 0, 0, 0, nI 0, []),
  (45, 3, .invokevirtual 136, 141, 1, 901, nI 0, [6]),
  (48, 3, .putfield 139, 6, 10, 676, nI 0, []),
  (51, 1, .aload_n 0, 0, 0, 0, nI 0, []),
  (52, 3, .getfield 139, 6, 10, 676, nI 0, []),
  (55, 3, .ifCond .lt 16, 36, 0, 0, nI 0, []),
  (58, 1, .aload_n 0, 0, 0, 0, nI 0, []),
  (59, 2, .bipush 44, 0, 0, 0, nI 44, []),
  (61, 3, .invokevirtual 142, 140, 2, 905, nI 0, [6]),
  (64, 3, .ifCond .eq 7, 36, 0, 0, nI 0, []),
  (67, 1, .iconst 1, 0, 0, 0, nI 1, []),
  (68, 3, .goto 4, 37, 0, 0, nI 0, []),
  (71, 1, .iconst 0, 0, 0, 0, nI 0, []),
  (72, 1, .istore_n 1, 0, 0, 0, nI 0, []),
  (73, 1, .aload_n 0, 0, 0, 0, nI 0, []),
  (74, 1, .iload_n 1, 0, 0, 0, nI 0, []),
  (75, 3, .ifCond .eq 10, 44, 0, 0, nI 0, []),
  (78, 1, .aload_n 0, 0, 0, 0, nI 0, []),
  (79, 3, .invokevirtual 136, 141, 1, 901, nI 0, [6]),
  (82, 3, .goto 4, 45, 0, 0, nI 0, []),
  (85, 1, .iconst (-1), 0, 0, 0, (-1), []),
  (86, 3, .putfield 146, 6, 11, 677, nI 0, []),
  (89, 1, .iload_n 1, 0, 0, 0, nI 0, []),
  (90, 3, .ifCond .eq 58, 72, 0, 0, nI 0, []),
  (93, 1, .aload_n 0, 0, 0, 0, nI 0, []),
  (94, 3, .getfield 133, 6, 9, 675, nI 0, []),
  (97, 2, .bipush 104, 0, 0, 0, nI 104, []),
  (99, 3, .if_icmp .ne 20, 59, 0, 0, nI 0, []),
  (102, 1, .aload_n 0, 0, 0, 0, nI 0, []),
  (103, 3, .getfield 139, 6, 10, 676, nI 0, []),
  (106, 1, .aload_n 0, 0, 0, 0, nI 0, []),
  (107, 3, .getfield 146, 6, 11, 677, nI 0, []),
  (110, 3, .invokestatic 75, 113, 2, 731, nI 0, []),
  (113, 3, .ifCond .eq 35, 72, 0, 0, nI 0, []),
  (116, 3, .goto 28, 70, 0, 0, nI 0, []),
  (119, 1, .aload_n 0, 0, 0, 0, nI 0, []),
  (120, 1, .aload_n 0, 0, 0, 0, nI 0, []),
  (121, 3, .getfield 139, 6, 10, 676, nI 0, []),
  (124, 3, .invokevirtual 82, 114, 2, 762, nI 0, [6]),
  (127, 3, .ifCond .eq 21, 72, 0, 0, nI 0, []),
  (130, 1, .aload_n 0, 0, 0, 0, nI 0, []),
  (131, 3, .getfield 146, 6, 11, 677, nI 0, []),
  (134, 1, .iconst 1, 0, 0, 0, nI 1, []),
  (135, 3, .sipush 500, 0, 0, 0, nI 500, []),
  (138, 3, .invokestatic 62, 91, 3, 707, nI 0, []),
  (141, 3, .ifCond .eq 7, 72, 0, 0, nI 0, []),
  (144, 1, .iconst 1, 0, 0, 0, nI 1, []),
  (145, 3, .goto 4, 73, 0, 0, nI 0, []),
  (148, 1, .iconst 0, 0, 0, 0, nI 0, []),
  (149, 1, .istore_n 1, 0, 0, 0, nI 0, []),
  (150, 3, .goto 55, 103, 0, 0, nI 0, []),
  (153, 1, .aload_n 0, 0, 0, 0, nI 0, []),
  (154, 3, .getfield 133, 6, 9, 675, nI 0, []),
  (157, 2, .bipush 114, 0, 0, 0, nI 114, []),
  (159, 3, .if_icmp .ne 31, 95, 0, 0, nI 0, []),
  (162, 1, .aload_n 0, 0, 0, 0, nI 0, []),
  (163, 1, .aload_n 0, 0, 0, 0, nI 0, []),
  (164, 3, .invokevirtual 136, 141, 1, 901, nI 0, [6]),
  (167, 3, .putfield 139, 6, 10, 676, nI 0, []),
  (170, 1, .aload_n 0, 0, 0, 0, nI 0, []),
  (171, 3, .getfield 139, 6, 10, 676, nI 0, []),
  (174, 1, .iconst 0, 0, 0, 0, nI 0, []),
  (175, 1, .aload_n 0, 0, 0, 0, nI 0, []),
  (176, 3, .getfield 7, 6, 0, 666, nI 0, []),
  (179, 1, .iconst 0, 0, 0, 0, nI 0, []),
  (180, 1, .iaload, 0, 0, 0, nI 0, []),
  (181, 1, .iconst 1, 0, 0, 0, nI 1, []),
  (182, 1, .isub, 0, 0, 0, nI 0, []),
  (183, 3, .invokestatic 62, 91, 3, 707, nI 0, []),
  (186, 1, .istore_n 1, 0, 0, 0, nI 0, []),
  (187, 3, .goto 18, 103, 0, 0, nI 0, []),
  (190, 1, .aload_n 0, 0, 0, 0, nI 0, []),
  (191, 3, .getfield 133, 6, 9, 675, nI 0, []),
  (194, 2, .bipush 115, 0, 0, 0, nI 115, []),
  (196, 3, .if_icmp .ne 7, 101, 0, 0, nI 0, []),
  (199, 1, .iconst 1, 0, 0, 0, nI 1, []),
  (200, 3, .goto 4, 102, 0, 0, nI 0, []),
  (203, 1, .iconst 0, 0, 0, 0, nI 0, []),
  (204, 1, .istore_n 1, 0, 0, 0, nI 0, []),
  (205, 1, .iload_n 1, 0, 0, 0, nI 0, []),
  (206, 3, .ifCond .eq 16, 111, 0, 0, nI 0, []),
  (209, 1, .aload_n 0, 0, 0, 0, nI 0, []),
  (210, 2, .bipush 59, 0, 0, 0, nI 59, []),
  (212, 3, .invokevirtual 142, 140, 2, 905, nI 0, [6]),
  (215, 3, .ifCond .eq 7, 111, 0, 0, nI 0, []),
  (218, 1, .iconst 1, 0, 0, 0, nI 1, []),
  (219, 3, .goto 4, 112, 0, 0, nI 0, []),
  (222, 1, .iconst 0, 0, 0, 0, nI 0, []),
  (223, 1, .ireturn, 0, 1, 0, nI 0, [])]
/- 143: LiningLogModel.fault()I -/
def mj_c143 : List mj_E := [(0, 1, .aload_n 0, 0, 0, 0, nI 0, []),
  (1, 1, .iconst 0, 0, 0, 0, nI 0, []),
  (2, 3, .putfield 130, 6, 8, 674, nI 0, []),
  (5, 1, .aload_n 0, 0, 0, 0, nI 0, []),
  (6, 3, .getfield 130, 6, 8, 674, nI 0, []),
  (9, 1, .aload_n 0, 0, 0, 0, nI 0, []),
  (10, 3, .getfield 102, 6, 7, 673, nI 0, []),
  (13, 3, .if_icmp .ge 20, 17, 0, 0, nI 0, []),
  (16, 1, .aload_n 0, 0, 0, 0, nI 0, []),
  (17, 3, .getfield 130, 6, 8, 674, nI 0, []),
  (20, 1, .istore_n 1, 0, 0, 0, nI 0, []),
  (21, 1, .aload_n 0, 0, 0, 0, nI 0, []),
  (22, 3, .invokevirtual 149, 142, 1, 897, nI 0, [6]),
  (25, 3, .ifCond .ne 5, 16, 0, 0, nI 0, []),
  (28, 1, .iload_n 1, 0, 0, 0, nI 0, []),
  (29, 1, .ireturn, 0, 0, 0, nI 0, []),
  (30, 3, .goto (-25), 3, 0, 0, nI 0, []),
  (33, 2, .ldc 111, 0, 0, 827, (-1000004), []),
  (35, 1, .ireturn, 0, 0, 0, nI 0, [])]
/- 144: LiningLogModel.carries()I -/
def mj_c144 : List mj_E := [(0, 1, .aload_n 0, 0, 0, 0, nI 0, []),
  (1, 3, .getfield 133, 6, 9, 675, nI 0, []),
  (4, 2, .bipush 103, 0, 0, 0, nI 103, []),
  (6, 3, .if_icmp .ne 18, 11, 0, 0, nI 0, []),
  (9, 1, .aload_n 0, 0, 0, 0, nI 0, []),
  (10, 1, .aload_n 0, 0, 0, 0, nI 0, []),
  (11, 3, .getfield 139, 6, 10, 676, nI 0, []),
  (14, 1, .aload_n 0, 0, 0, 0, nI 0, []),
  (15, 3, .getfield 146, 6, 11, 677, nI 0, []),
  (18, 3, .invokevirtual 86, 105, 3, 766, nI 0, [6]),
  (21, 3, .goto 22, 21, 0, 0, nI 0, []),
  (24, 1, .aload_n 0, 0, 0, 0, nI 0, []),
  (25, 3, .getfield 133, 6, 9, 675, nI 0, []),
  (28, 2, .bipush 104, 0, 0, 0, nI 104, []),
  (30, 3, .if_icmp .ne 12, 20, 0, 0, nI 0, []),
  (33, 1, .aload_n 0, 0, 0, 0, nI 0, []),
  (34, 3, .getfield 7, 6, 0, 666, nI 0, []),
  (37, 1, .iconst 5, 0, 0, 0, nI 5, []),
  (38, 1, .iaload, 0, 0, 0, nI 0, []),
  (39, 3, .goto 4, 21, 0, 0, nI 0, []),
  (42, 1, .iconst 0, 0, 0, 0, nI 0, []),
  (43, 1, .istore_n 1, 0, 0, 0, nI 0, []),
  (44, 1, .iload_n 1, 0, 0, 0, nI 0, []),
  (45, 3, .ifCond .le 5, 26, 0, 0, nI 0, []),
  (48, 1, .iload_n 1, 0, 0, 0, nI 0, []),
  (49, 1, .ireturn, 0, 0, 0, nI 0, []),
  (50, 1, .aload_n 0, 0, 0, 0, nI 0, []),
  (51, 3, .getfield 133, 6, 9, 675, nI 0, []),
  (54, 2, .bipush 103, 0, 0, 0, nI 103, []),
  (56, 3, .if_icmp .ne 19, 38, 0, 0, nI 0, []),
  (59, 1, .aload_n 0, 0, 0, 0, nI 0, []),
  (60, 1, .aload_n 0, 0, 0, 0, nI 0, []),
  (61, 3, .getfield 139, 6, 10, 676, nI 0, []),
  (64, 1, .aload_n 0, 0, 0, 0, nI 0, []),
  (65, 3, .getfield 146, 6, 11, 677, nI 0, []),
  (68, 3, .invokevirtual 90, 106, 3, 779, nI 0, [6]),
  (71, 1, .pop, 0, 0, 0, nI 0, []),
  (72, 3, .goto 78, 79, 0, 0, nI 0, []),
  (75, 1, .aload_n 0, 0, 0, 0, nI 0, []),
  (76, 3, .getfield 133, 6, 9, 675, nI 0, []),
  (79, 2, .bipush 104, 0, 0, 0, nI 104, []),
  (81, 3, .if_icmp .ne 19, 50, 0, 0, nI 0, []),
  (84, 1, .aload_n 0, 0, 0, 0, nI 0, []),
  (85, 1, .aload_n 0, 0, 0, 0, nI 0, []),
  (86, 3, .getfield 139, 6, 10, 676, nI 0, []),
  (89, 1, .aload_n 0, 0, 0, 0, nI 0, []),
  (90, 3, .getfield 146, 6, 11, 677, nI 0, []),
  (93, 3, .invokevirtual 79, 103, 3, 735, nI 0, [6]),
  (96, 1, .pop, 0, 0, 0, nI 0, []),
  (97, 3, .goto 53, 79, 0, 0, nI 0, []),
  (100, 1, .aload_n 0, 0, 0, 0, nI 0, []),
  (101, 3, .getfield 133, 6, 9, 675, nI 0, []),
  (104, 2, .bipush 115, 0, 0, 0, nI 115, []),
  (106, 3, .if_icmp .ne 10, 57, 0, 0, nI 0, []),
  (109, 1, .aload_n 0, 0, 0, 0, nI 0, []),
  (110, 3, .invokevirtual 96, 108, 1, 795, nI 0, [6]),
  (113, 3, .goto 37, 79, 0, 0, nI 0, []),
  (116, 1, .aload_n 0, 0, 0, 0, nI 0, []),
  (117, 1, .aload_n 0, 0, 0, 0, nI 0, []),
  (118, 3, .getfield 7, 6, 0, 666, nI 0, []),
  (121, 1, .iconst 1, 0, 0, 0, nI 1, []),
  (122, 1, .iaload, 0, 0, 0, nI 0, []),
  (123, 1, .aload_n 0, 0, 0, 0, nI 0, []),
  (124, 3, .getfield 139, 6, 10, 676, nI 0, []),
  (127, 1, .imul, 0, 0, 0, nI 0, []),
  (128, 1, .aload_n 0, 0, 0, 0, nI 0, []),
  (129, 3, .getfield 7, 6, 0, 666, nI 0, []),
  (132, 1, .iconst 1, 0, 0, 0, nI 1, []),
  (133, 1, .iaload, 0, 0, 0, nI 0, []),
  (134, 1, .aload_n 0, 0, 0, 0, nI 0, []),
  (135, 3, .getfield 139, 6, 10, 676, nI 0, []),
  (138, 1, .imul, 0, 0, 0, nI 0, []),
  (139, 1, .aload_n 0, 0, 0, 0, nI 0, []),
  (140, 3, .getfield 7, 6, 0, 666, nI 0, []),
  (143, 1, .iconst 1, 0, 0, 0, nI 1, []),
  (144, 1, .iaload, 0, 0, 0, nI 0, []),
  (145, 1, .iadd, 0, 0, 0, nI 0, []),
  (146, 3, .invokevirtual 93, 107, 3, 787, nI 0, [6]),
  (149, 1, .pop, 0, 0, 0, nI 0, []),
  (150, 1, .iconst 0, 0, 0, 0, nI 0, []),
  (151, 1, .ireturn, 0, 0, 0, nI 0, [])]
/- 145: LiningLogModel.run()I -/
def mj_c145 : List mj_E := [(0, 1, .aload_n 0, 0, 0, 0, nI 0, []),
  (1, 3, .invokevirtual 153, 143, 1, 913, nI 0, [6]),
  (4, 2, .ldc 111, 0, 0, 827, (-1000004), []),
  (6, 3, .if_icmp .eq 6, 6, 0, 0, nI 0, []),
  (9, 2, .ldc 78, 0, 0, 734, (-1000002), []),
  (11, 1, .ireturn, 0, 0, 0, nI 0, []),
  (12, 1, .aload_n 0, 0, 0, 0, nI 0, []),
  (13, 3, .invokevirtual 67, 94, 1, 711, nI 0, [6]),
  (16, 1, .iconst 0, 0, 0, 0, nI 0, []),
  (17, 1, .istore_n 1, 0, 0, 0, nI 0, []),
  (18, 1, .iconst 0, 0, 0, 0, nI 0, []),
  (19, 1, .istore_n 2, 0, 0, 0, nI 0, []),
  (20, 1, .aload_n 0, 0, 0, 0, nI 0, []),
  (21, 1, .iconst 0, 0, 0, 0, nI 0, []),
  (22, 3, .putfield 130, 6, 8, 674, nI 0, []),
  (25, 1, .iload_n 2, 0, 0, 0, nI 0, []),
  (26, 3, .ifCond .ne 39, 37, 0, 0, nI 0, []),
  (29, 1, .aload_n 0, 0, 0, 0, nI 0, []),
  (30, 3, .getfield 130, 6, 8, 674, nI 0, []),
  (33, 1, .aload_n 0, 0, 0, 0, nI 0, []),
  (34, 3, .getfield 102, 6, 7, 673, nI 0, []),
  (37, 3, .if_icmp .ge 28, 37, 0, 0, nI 0, []),
  (40, 1, .aload_n 0, 0, 0, 0, nI 0, []),
  (41, 3, .invokevirtual 149, 142, 1, 897, nI 0, [6]),
  (44, 1, .pop, 0, 0, 0, nI 0, []),
  (45, 1, .aload_n 0, 0, 0, 0, nI 0, []),
  (46, 3, .invokevirtual 156, 144, 1, 914, nI 0, [6]),
  (49, 1, .istore_n 2, 0, 0, 0, nI 0, []),
  (50, 1, .iload_n 1, 0, 0, 0, nI 0, []),
  (51, 1, .iload_n 2, 0, 0, 0, nI 0, []),
  (52, 3, .ifCond .ne 7, 33, 0, 0, nI 0, []),
  (55, 1, .iconst 1, 0, 0, 0, nI 1, []),
  (56, 3, .goto 4, 34, 0, 0, nI 0, []),
  (59, 1, .iconst 0, 0, 0, 0, nI 0, []),
  (60, 1, .iadd, 0, 0, 0, nI 0, []),
  (61, 1, .istore_n 1, 0, 0, 0, nI 0, []),
  (62, 3, .goto (-37), 15, 0, 0, nI 0, []),
  (65, 1, .aload_n 0, 0, 0, 0, nI 0, []),
  (66, 1, .iload_n 2, 0, 0, 0, nI 0, []),
  (67, 3, .ifCond .le 7, 42, 0, 0, nI 0, []),
  (70, 1, .iload_n 2, 0, 0, 0, nI 0, []),
  (71, 3, .goto 7, 44, 0, 0, nI 0, []),
  (74, 1, .aload_n 0, 0, 0, 0, nI 0, []),
  (75, 3, .getfield 159, 6, 3, 669, nI 0, []),
  (78, 3, .putfield 159, 6, 3, 669, nI 0, []),
  (81, 1, .iload_n 1, 0, 0, 0, nI 0, []),
  (82, 1, .ireturn, 0, 0, 0, nI 0, [])]
/- 146: LiningLogModel.reason()I -/
def mj_c146 : List mj_E := [(0, 1, .aload_n 0, 0, 0, 0, nI 0, []),
  (1, 3, .getfield 159, 6, 3, 669, nI 0, []),
  (4, 1, .ireturn, 0, 0, 0, nI 0, [])]
/- 147: java/lang/Math.floorDiv(II)I -/
def mj_c147 : List mj_E := [(0, 1, .iload_n 0, 0, 0, 0, nI 0, []),
  (1, 1, .iload_n 1, 0, 0, 0, nI 0, []),
  (2, 1, .idiv, 0, 0, 0, nI 0, []),
  (3, 1, .istore_n 2, 0, 0, 0, nI 0, []),
  (4, 1, .iload_n 0, 0, 0, 0, nI 0, []),
  (5, 1, .iload_n 1, 0, 0, 0, nI 0, []),
  (6, 1, .ixor, 0, 0, 0, nI 0, []),
  (7, 3, .ifCond .ge 14, 17, 0, 0, nI 0, []),
  (10, 1, .iload_n 2, 0, 0, 0, nI 0, []),
  (11, 1, .iload_n 1, 0, 0, 0, nI 0, []),
  (12, 1, .imul, 0, 0, 0, nI 0, []),
  (13, 1, .iload_n 0, 0, 0, 0, nI 0, []),
  (14, 3, .if_icmp .eq 7, 17, 0, 0, nI 0, []),
  (17, 1, .iload_n 2, 0, 0, 0, nI 0, []),
  (18, 1, .iconst 1, 0, 0, 0, nI 1, []),
  (19, 1, .isub, 0, 0, 0, nI 0, []),
  (20, 1, .ireturn, 0, 0, 0, nI 0, []),
  (21, 1, .iload_n 2, 0, 0, 0, nI 0, []),
  (22, 1, .ireturn, 0, 0, 0, nI 0, [])]
/- 148: java/lang/Math.max(II)I -/
def mj_c148 : List mj_E := [(0, 1, .iload_n 0, 0, 0, 0, nI 0, []),
  (1, 1, .iload_n 1, 0, 0, 0, nI 0, []),
  (2, 3, .if_icmp .lt 7, 5, 0, 0, nI 0, []),
  (5, 1, .iload_n 0, 0, 0, 0, nI 0, []),
  (6, 3, .goto 4, 6, 0, 0, nI 0, []),
  (9, 1, .iload_n 1, 0, 0, 0, nI 0, []),
  (10, 1, .ireturn, 0, 0, 0, nI 0, [])]
/- 149: java/lang/Math.min(II)I -/
def mj_c149 : List mj_E := [(0, 1, .iload_n 0, 0, 0, 0, nI 0, []),
  (1, 1, .iload_n 1, 0, 0, 0, nI 0, []),
  (2, 3, .if_icmp .gt 7, 5, 0, 0, nI 0, []),
  (5, 1, .iload_n 0, 0, 0, 0, nI 0, []),
  (6, 3, .goto 4, 6, 0, 0, nI 0, []),
  (9, 1, .iload_n 1, 0, 0, 0, nI 0, []),
  (10, 1, .ireturn, 0, 0, 0, nI 0, [])]
/- 150: LiningLogLaw.law([I)Z -/
def mj_c150 : List mj_E := [(0, 3, .new 7, 5, 0, 92, nI 0, []),
  (3, 1, .dup, 0, 0, 0, nI 0, []),
  (4, 3, .invokespecial 9, 59, 1, 94, nI 0, [5]),
  (7, 1, .astore_n 1, 0, 0, 0, nI 0, []),
  (8, 3, .new 10, 6, 0, 652, nI 0, []),
  (11, 1, .dup, 0, 0, 0, nI 0, []),
  (12, 3, .invokespecial 12, 90, 1, 654, nI 0, [6]),
  (15, 1, .astore_n 2, 0, 0, 0, nI 0, []),
  (16, 1, .iconst 0, 0, 0, 0, nI 0, []),
  (17, 1, .istore_n 3, 0, 0, 0, nI 0, []),
  (18, 1, .iload_n 3, 0, 0, 0, nI 0, []),
  (19, 1, .aload_n 0, 0, 0, 0, nI 0, []),
  (20, 1, .arraylength, 0, 0, 0, nI 0, []),
  (21, 1, .iconst 4, 0, 0, 0, nI 4, []),
  (22, 1, .isub, 0, 0, 0, nI 0, []),
  (23, 3, .if_icmp .gt 796, 539, 0, 0, nI 0, []),
  (26, 1, .aload_n 0, 0, 0, 0, nI 0, []),
  (27, 1, .iload_n 3, 0, 0, 0, nI 0, []),
  (28, 1, .iaload, 0, 0, 0, nI 0, []),
  (29, 2, .bipush 31, 0, 0, 0, nI 31, []),
  (31, 1, .iand, 0, 0, 0, nI 0, []),
  (32, 116, .tableswitch 781 0 24 #[116, 149, 182, 215, 248, 281, 304, 317, 330, 353, 386, 419, 442, 485, 508, 531, 554, 587, 620, 663, 706, 729, 742, 755, 768], 537, 0, 0, nI 0, [22, 49, 76, 103, 130, 157, 174, 181, 188, 205, 232, 259, 276, 313, 330, 347, 364, 391, 418, 455, 492, 509, 516, 523, 530]),
  (148, 1, .aload_n 1, 0, 0, 0, nI 0, []),
  (149, 1, .aload_n 0, 0, 0, 0, nI 0, []),
  (150, 1, .iload_n 3, 0, 0, 0, nI 0, []),
  (151, 1, .iconst 1, 0, 0, 0, nI 1, []),
  (152, 1, .iadd, 0, 0, 0, nI 0, []),
  (153, 1, .iaload, 0, 0, 0, nI 0, []),
  (154, 1, .aload_n 0, 0, 0, 0, nI 0, []),
  (155, 1, .iload_n 3, 0, 0, 0, nI 0, []),
  (156, 1, .iconst 2, 0, 0, 0, nI 2, []),
  (157, 1, .iadd, 0, 0, 0, nI 0, []),
  (158, 1, .iaload, 0, 0, 0, nI 0, []),
  (159, 3, .invokevirtual 13, 60, 3, 278, nI 0, [5]),
  (162, 1, .aload_n 2, 0, 0, 0, nI 0, []),
  (163, 1, .aload_n 0, 0, 0, 0, nI 0, []),
  (164, 1, .iload_n 3, 0, 0, 0, nI 0, []),
  (165, 1, .iconst 1, 0, 0, 0, nI 1, []),
  (166, 1, .iadd, 0, 0, 0, nI 0, []),
  (167, 1, .iaload, 0, 0, 0, nI 0, []),
  (168, 1, .aload_n 0, 0, 0, 0, nI 0, []),
  (169, 1, .iload_n 3, 0, 0, 0, nI 0, []),
  (170, 1, .iconst 2, 0, 0, 0, nI 2, []),
  (171, 1, .iadd, 0, 0, 0, nI 0, []),
  (172, 1, .iaload, 0, 0, 0, nI 0, []),
  (173, 3, .invokevirtual 17, 109, 3, 703, nI 0, [6]),
  (176, 3, .if_icmp .eq 637, 537, 0, 0, nI 0, []),
  (179, 1, .iconst 0, 0, 0, 0, nI 0, []),
  (180, 1, .ireturn, 0, 1, 0, nI 0, []),
  (181, 1, .aload_n 1, 0, 0, 0, nI 0, []),
  (182, 1, .aload_n 0, 0, 0, 0, nI 0, []),
  (183, 1, .iload_n 3, 0, 0, 0, nI 0, []),
  (184, 1, .iconst 1, 0, 0, 0, nI 1, []),
  (185, 1, .iadd, 0, 0, 0, nI 0, []),
  (186, 1, .iaload, 0, 0, 0, nI 0, []),
  (187, 1, .aload_n 0, 0, 0, 0, nI 0, []),
  (188, 1, .iload_n 3, 0, 0, 0, nI 0, []),
  (189, 1, .iconst 2, 0, 0, 0, nI 2, []),
  (190, 1, .iadd, 0, 0, 0, nI 0, []),
  (191, 1, .iaload, 0, 0, 0, nI 0, []),
  (192, 3, .invokevirtual 18, 61, 3, 311, nI 0, [5]),
  (195, 1, .aload_n 2, 0, 0, 0, nI 0, []),
  (196, 1, .aload_n 0, 0, 0, 0, nI 0, []),
  (197, 1, .iload_n 3, 0, 0, 0, nI 0, []),
  (198, 1, .iconst 1, 0, 0, 0, nI 1, []),
  (199, 1, .iadd, 0, 0, 0, nI 0, []),
  (200, 1, .iaload, 0, 0, 0, nI 0, []),
  (201, 1, .aload_n 0, 0, 0, 0, nI 0, []),
  (202, 1, .iload_n 3, 0, 0, 0, nI 0, []),
  (203, 1, .iconst 2, 0, 0, 0, nI 2, []),
  (204, 1, .iadd, 0, 0, 0, nI 0, []),
  (205, 1, .iaload, 0, 0, 0, nI 0, []),
  (206, 3, .invokevirtual 21, 110, 3, 715, nI 0, [6]),
  (209, 3, .if_icmp .eq 604, 537, 0, 0, nI 0, []),
  (212, 1, .iconst 0, 0, 0, 0, nI 0, []),
  (213, 1, .ireturn, 0, 1, 0, nI 0, []),
  (214, 1, .aload_n 1, 0, 0, 0, nI 0, []),
  (215, 1, .aload_n 0, 0, 0, 0, nI 0, []),
  (216, 1, .iload_n 3, 0, 0, 0, nI 0, []),
  (217, 1, .iconst 1, 0, 0, 0, nI 1, []),
  (218, 1, .iadd, 0, 0, 0, nI 0, []),
  (219, 1, .iaload, 0, 0, 0, nI 0, []),
  (220, 1, .aload_n 0, 0, 0, 0, nI 0, []),
  (221, 1, .iload_n 3, 0, 0, 0, nI 0, []),
  (222, 1, .iconst 2, 0, 0, 0, nI 2, []),
  (223, 1, .iadd, 0, 0, 0, nI 0, []),
  (224, 1, .iaload, 0, 0, 0, nI 0, []),
  (225, 3, .invokevirtual 22, 62, 3, 320, nI 0, [5]),
  (228, 1, .aload_n 2, 0, 0, 0, nI 0, []),
  (229, 1, .aload_n 0, 0, 0, 0, nI 0, []),
  (230, 1, .iload_n 3, 0, 0, 0, nI 0, []),
  (231, 1, .iconst 1, 0, 0, 0, nI 1, []),
  (232, 1, .iadd, 0, 0, 0, nI 0, []),
  (233, 1, .iaload, 0, 0, 0, nI 0, []),
  (234, 1, .aload_n 0, 0, 0, 0, nI 0, []),
  (235, 1, .iload_n 3, 0, 0, 0, nI 0, []),
  (236, 1, .iconst 2, 0, 0, 0, nI 2, []),
  (237, 1, .iadd, 0, 0, 0, nI 0, []),
  (238, 1, .iaload, 0, 0, 0, nI 0, []),
  (239, 3, .invokevirtual 25, 112, 3, 719, nI 0, [6]),
  (242, 3, .if_icmp .eq 571, 537, 0, 0, nI 0, []),
  (245, 1, .iconst 0, 0, 0, 0, nI 0, []),
  (246, 1, .ireturn, 0, 1, 0, nI 0, []),
  (247, 1, .aload_n 1, 0, 0, 0, nI 0, []),
  (248, 1, .aload_n 0, 0, 0, 0, nI 0, []),
  (249, 1, .iload_n 3, 0, 0, 0, nI 0, []),
  (250, 1, .iconst 1, 0, 0, 0, nI 1, []),
  (251, 1, .iadd, 0, 0, 0, nI 0, []),
  (252, 1, .iaload, 0, 0, 0, nI 0, []),
  (253, 1, .aload_n 0, 0, 0, 0, nI 0, []),
  (254, 1, .iload_n 3, 0, 0, 0, nI 0, []),
  (255, 1, .iconst 2, 0, 0, 0, nI 2, []),
  (256, 1, .iadd, 0, 0, 0, nI 0, []),
  (257, 1, .iaload, 0, 0, 0, nI 0, []),
  (258, 3, .invokevirtual 26, 63, 3, 328, nI 0, [5]),
  (261, 1, .aload_n 2, 0, 0, 0, nI 0, []),
  (262, 1, .aload_n 0, 0, 0, 0, nI 0, []),
  (263, 1, .iload_n 3, 0, 0, 0, nI 0, []),
  (264, 1, .iconst 1, 0, 0, 0, nI 1, []),
  (265, 1, .iadd, 0, 0, 0, nI 0, []),
  (266, 1, .iaload, 0, 0, 0, nI 0, []),
  (267, 1, .aload_n 0, 0, 0, 0, nI 0, []),
  (268, 1, .iload_n 3, 0, 0, 0, nI 0, []),
  (269, 1, .iconst 2, 0, 0, 0, nI 2, []),
  (270, 1, .iadd, 0, 0, 0, nI 0, []),
  (271, 1, .iaload, 0, 0, 0, nI 0, []),
  (272, 3, .invokevirtual 29, 115, 3, 727, nI 0, [6]),
  (275, 3, .if_icmp .eq 538, 537, 0, 0, nI 0, []),
  (278, 1, .iconst 0, 0, 0, 0, nI 0, []),
  (279, 1, .ireturn, 0, 1, 0, nI 0, []),
  (280, 1, .aload_n 1, 0, 0, 0, nI 0, []),
  (281, 1, .aload_n 0, 0, 0, 0, nI 0, []),
  (282, 1, .iload_n 3, 0, 0, 0, nI 0, []),
  (283, 1, .iconst 1, 0, 0, 0, nI 1, []),
  (284, 1, .iadd, 0, 0, 0, nI 0, []),
  (285, 1, .iaload, 0, 0, 0, nI 0, []),
  (286, 1, .aload_n 0, 0, 0, 0, nI 0, []),
  (287, 1, .iload_n 3, 0, 0, 0, nI 0, []),
  (288, 1, .iconst 2, 0, 0, 0, nI 2, []),
  (289, 1, .iadd, 0, 0, 0, nI 0, []),
  (290, 1, .iaload, 0, 0, 0, nI 0, []),
  (291, 3, .invokevirtual 30, 64, 3, 390, nI 0, [5]),
  (294, 1, .aload_n 2, 0, 0, 0, nI 0, []),
  (295, 1, .aload_n 0, 0, 0, 0, nI 0, []),
  (296, 1, .iload_n 3, 0, 0, 0, nI 0, []),
  (297, 1, .iconst 1, 0, 0, 0, nI 1, []),
  (298, 1, .iadd, 0, 0, 0, nI 0, []),
  (299, 1, .iaload, 0, 0, 0, nI 0, []),
  (300, 1, .aload_n 0, 0, 0, 0, nI 0, []),
  (301, 1, .iload_n 3, 0, 0, 0, nI 0, []),
  (302, 1, .iconst 2, 0, 0, 0, nI 2, []),
  (303, 1, .iadd, 0, 0, 0, nI 0, []),
  (304, 1, .iaload, 0, 0, 0, nI 0, []),
  (305, 3, .invokevirtual 33, 116, 3, 758, nI 0, [6]),
  (308, 3, .if_icmp .eq 505, 537, 0, 0, nI 0, []),
  (311, 1, .iconst 0, 0, 0, 0, nI 0, []),
  (312, 1, .ireturn, 0, 1, 0, nI 0, []),
  (313, 1, .aload_n 1, 0, 0, 0, nI 0, []),
  (314, 1, .aload_n 0, 0, 0, 0, nI 0, []),
  (315, 1, .iload_n 3, 0, 0, 0, nI 0, []),
  (316, 1, .iconst 1, 0, 0, 0, nI 1, []),
  (317, 1, .iadd, 0, 0, 0, nI 0, []),
  (318, 1, .iaload, 0, 0, 0, nI 0, []),
  (319, 3, .invokevirtual 34, 65, 2, 418, nI 0, [5]),
  (322, 1, .aload_n 2, 0, 0, 0, nI 0, []),
  (323, 1, .aload_n 0, 0, 0, 0, nI 0, []),
  (324, 1, .iload_n 3, 0, 0, 0, nI 0, []),
  (325, 1, .iconst 1, 0, 0, 0, nI 1, []),
  (326, 1, .iadd, 0, 0, 0, nI 0, []),
  (327, 1, .iaload, 0, 0, 0, nI 0, []),
  (328, 3, .invokevirtual 38, 117, 2, 783, nI 0, [6]),
  (331, 3, .if_icmp .eq 482, 537, 0, 0, nI 0, []),
  (334, 1, .iconst 0, 0, 0, 0, nI 0, []),
  (335, 1, .ireturn, 0, 1, 0, nI 0, []),
  (336, 1, .aload_n 1, 0, 0, 0, nI 0, []),
  (337, 3, .invokevirtual 39, 66, 1, 431, nI 0, [5]),
  (340, 1, .aload_n 2, 0, 0, 0, nI 0, []),
  (341, 3, .invokevirtual 43, 118, 1, 791, nI 0, [6]),
  (344, 3, .if_icmp .eq 469, 537, 0, 0, nI 0, []),
  (347, 1, .iconst 0, 0, 0, 0, nI 0, []),
  (348, 1, .ireturn, 0, 1, 0, nI 0, []),
  (349, 1, .aload_n 1, 0, 0, 0, nI 0, []),
  (350, 3, .invokevirtual 44, 67, 1, 457, nI 0, [5]),
  (353, 1, .aload_n 2, 0, 0, 0, nI 0, []),
  (354, 3, .invokevirtual 47, 119, 1, 803, nI 0, [6]),
  (357, 3, .if_icmp .eq 456, 537, 0, 0, nI 0, []),
  (360, 1, .iconst 0, 0, 0, 0, nI 0, []),
  (361, 1, .ireturn, 0, 1, 0, nI 0, []),
  (362, 1, .aload_n 1, 0, 0, 0, nI 0, []),
  (363, 1, .aload_n 0, 0, 0, 0, nI 0, []),
  (364, 1, .iload_n 3, 0, 0, 0, nI 0, []),
  (365, 1, .iconst 1, 0, 0, 0, nI 1, []),
  (366, 1, .iadd, 0, 0, 0, nI 0, []),
  (367, 1, .iaload, 0, 0, 0, nI 0, []),
  (368, 3, .invokevirtual 48, 68, 2, 465, nI 0, [5]),
  (371, 1, .aload_n 2, 0, 0, 0, nI 0, []),
  (372, 1, .aload_n 0, 0, 0, 0, nI 0, []),
  (373, 1, .iload_n 3, 0, 0, 0, nI 0, []),
  (374, 1, .iconst 1, 0, 0, 0, nI 1, []),
  (375, 1, .iadd, 0, 0, 0, nI 0, []),
  (376, 1, .iaload, 0, 0, 0, nI 0, []),
  (377, 3, .invokevirtual 51, 120, 2, 807, nI 0, [6]),
  (380, 3, .if_icmp .eq 433, 537, 0, 0, nI 0, []),
  (383, 1, .iconst 0, 0, 0, 0, nI 0, []),
  (384, 1, .ireturn, 0, 1, 0, nI 0, []),
  (385, 1, .aload_n 1, 0, 0, 0, nI 0, []),
  (386, 1, .aload_n 0, 0, 0, 0, nI 0, []),
  (387, 1, .iload_n 3, 0, 0, 0, nI 0, []),
  (388, 1, .iconst 1, 0, 0, 0, nI 1, []),
  (389, 1, .iadd, 0, 0, 0, nI 0, []),
  (390, 1, .iaload, 0, 0, 0, nI 0, []),
  (391, 1, .aload_n 0, 0, 0, 0, nI 0, []),
  (392, 1, .iload_n 3, 0, 0, 0, nI 0, []),
  (393, 1, .iconst 2, 0, 0, 0, nI 2, []),
  (394, 1, .iadd, 0, 0, 0, nI 0, []),
  (395, 1, .iaload, 0, 0, 0, nI 0, []),
  (396, 3, .invokevirtual 52, 69, 3, 477, nI 0, [5]),
  (399, 1, .aload_n 2, 0, 0, 0, nI 0, []),
  (400, 1, .aload_n 0, 0, 0, 0, nI 0, []),
  (401, 1, .iload_n 3, 0, 0, 0, nI 0, []),
  (402, 1, .iconst 1, 0, 0, 0, nI 1, []),
  (403, 1, .iadd, 0, 0, 0, nI 0, []),
  (404, 1, .iaload, 0, 0, 0, nI 0, []),
  (405, 1, .aload_n 0, 0, 0, 0, nI 0, []),
  (406, 1, .iload_n 3, 0, 0, 0, nI 0, []),
  (407, 1, .iconst 2, 0, 0, 0, nI 2, []),
  (408, 1, .iadd, 0, 0, 0, nI 0, []),
  (409, 1, .iaload, 0, 0, 0, nI 0, []),
  (410, 3, .invokevirtual 55, 121, 3, 811, nI 0, [6]),
  (413, 3, .if_icmp .eq 400, 537, 0, 0, nI 0, []),
  (416, 1, .iconst 0, 0, 0, 0, nI 0, []),
  (417, 1, .ireturn, 0, 1, 0, nI 0, []),
  (418, 1, .aload_n 1, 0, 0, 0, nI 0, []),
  (419, 1, .aload_n 0, 0, 0, 0, nI 0, []),
  (420, 1, .iload_n 3, 0, 0, 0, nI 0, []),
  (421, 1, .iconst 1, 0, 0, 0, nI 1, []),
  (422, 1, .iadd, 0, 0, 0, nI 0, []),
  (423, 1, .iaload, 0, 0, 0, nI 0, []),
  (424, 1, .aload_n 0, 0, 0, 0, nI 0, []),
  (425, 1, .iload_n 3, 0, 0, 0, nI 0, []),
  (426, 1, .iconst 2, 0, 0, 0, nI 2, []),
  (427, 1, .iadd, 0, 0, 0, nI 0, []),
  (428, 1, .iaload, 0, 0, 0, nI 0, []),
  (429, 3, .invokevirtual 56, 70, 3, 492, nI 0, [5]),
  (432, 1, .aload_n 2, 0, 0, 0, nI 0, []),
  (433, 1, .aload_n 0, 0, 0, 0, nI 0, []),
  (434, 1, .iload_n 3, 0, 0, 0, nI 0, []),
  (435, 1, .iconst 1, 0, 0, 0, nI 1, []),
  (436, 1, .iadd, 0, 0, 0, nI 0, []),
  (437, 1, .iaload, 0, 0, 0, nI 0, []),
  (438, 1, .aload_n 0, 0, 0, 0, nI 0, []),
  (439, 1, .iload_n 3, 0, 0, 0, nI 0, []),
  (440, 1, .iconst 2, 0, 0, 0, nI 2, []),
  (441, 1, .iadd, 0, 0, 0, nI 0, []),
  (442, 1, .iaload, 0, 0, 0, nI 0, []),
  (443, 3, .invokevirtual 59, 122, 3, 819, nI 0, [6]),
  (446, 3, .if_icmp .eq 367, 537, 0, 0, nI 0, []),
  (449, 1, .iconst 0, 0, 0, 0, nI 0, []),
  (450, 1, .ireturn, 0, 1, 0, nI 0, []),
  (451, 1, .aload_n 1, 0, 0, 0, nI 0, []),
  (452, 1, .aload_n 0, 0, 0, 0, nI 0, []),
  (453, 1, .iload_n 3, 0, 0, 0, nI 0, []),
  (454, 1, .iconst 1, 0, 0, 0, nI 1, []),
  (455, 1, .iadd, 0, 0, 0, nI 0, []),
  (456, 1, .iaload, 0, 0, 0, nI 0, []),
  (457, 3, .invokevirtual 60, 71, 2, 504, nI 0, [5]),
  (460, 1, .aload_n 2, 0, 0, 0, nI 0, []),
  (461, 1, .aload_n 0, 0, 0, 0, nI 0, []),
  (462, 1, .iload_n 3, 0, 0, 0, nI 0, []),
  (463, 1, .iconst 1, 0, 0, 0, nI 1, []),
  (464, 1, .iadd, 0, 0, 0, nI 0, []),
  (465, 1, .iaload, 0, 0, 0, nI 0, []),
  (466, 3, .invokevirtual 63, 123, 2, 828, nI 0, [6]),
  (469, 3, .if_icmp .eq 344, 537, 0, 0, nI 0, []),
  (472, 1, .iconst 0, 0, 0, 0, nI 0, []),
  (473, 1, .ireturn, 0, 1, 0, nI 0, []),
  (474, 1, .aload_n 1, 0, 0, 0, nI 0, []),
  (475, 1, .aload_n 0, 0, 0, 0, nI 0, []),
  (476, 1, .iload_n 3, 0, 0, 0, nI 0, []),
  (477, 1, .iconst 1, 0, 0, 0, nI 1, []),
  (478, 1, .iadd, 0, 0, 0, nI 0, []),
  (479, 1, .iaload, 0, 0, 0, nI 0, []),
  (480, 1, .aload_n 0, 0, 0, 0, nI 0, []),
  (481, 1, .iload_n 3, 0, 0, 0, nI 0, []),
  (482, 1, .iconst 2, 0, 0, 0, nI 2, []),
  (483, 1, .iadd, 0, 0, 0, nI 0, []),
  (484, 1, .iaload, 0, 0, 0, nI 0, []),
  (485, 1, .aload_n 0, 0, 0, 0, nI 0, []),
  (486, 1, .iload_n 3, 0, 0, 0, nI 0, []),
  (487, 1, .iconst 3, 0, 0, 0, nI 3, []),
  (488, 1, .iadd, 0, 0, 0, nI 0, []),
  (489, 1, .iaload, 0, 0, 0, nI 0, []),
  (490, 3, .invokevirtual 64, 72, 4, 512, nI 0, [5]),
  (493, 1, .aload_n 2, 0, 0, 0, nI 0, []),
  (494, 1, .aload_n 0, 0, 0, 0, nI 0, []),
  (495, 1, .iload_n 3, 0, 0, 0, nI 0, []),
  (496, 1, .iconst 1, 0, 0, 0, nI 1, []),
  (497, 1, .iadd, 0, 0, 0, nI 0, []),
  (498, 1, .iaload, 0, 0, 0, nI 0, []),
  (499, 1, .aload_n 0, 0, 0, 0, nI 0, []),
  (500, 1, .iload_n 3, 0, 0, 0, nI 0, []),
  (501, 1, .iconst 2, 0, 0, 0, nI 2, []),
  (502, 1, .iadd, 0, 0, 0, nI 0, []),
  (503, 1, .iaload, 0, 0, 0, nI 0, []),
  (504, 1, .aload_n 0, 0, 0, 0, nI 0, []),
  (505, 1, .iload_n 3, 0, 0, 0, nI 0, []),
  (506, 1, .iconst 3, 0, 0, 0, nI 3, []),
  (507, 1, .iadd, 0, 0, 0, nI 0, []),
  (508, 1, .iaload, 0, 0, 0, nI 0, []),
  (509, 3, .invokevirtual 68, 127, 4, 832, nI 0, [6]),
  (512, 3, .if_icmp .eq 301, 537, 0, 0, nI 0, []),
  (515, 1, .iconst 0, 0, 0, 0, nI 0, []),
  (516, 1, .ireturn, 0, 1, 0, nI 0, []),
  (517, 1, .aload_n 1, 0, 0, 0, nI 0, []),
  (518, 1, .aload_n 0, 0, 0, 0, nI 0, []),
  (519, 1, .iload_n 3, 0, 0, 0, nI 0, []),
  (520, 1, .iconst 1, 0, 0, 0, nI 1, []),
  (521, 1, .iadd, 0, 0, 0, nI 0, []),
  (522, 1, .iaload, 0, 0, 0, nI 0, []),
  (523, 3, .invokevirtual 69, 73, 2, 528, nI 0, [5]),
  (526, 1, .aload_n 2, 0, 0, 0, nI 0, []),
  (527, 1, .aload_n 0, 0, 0, 0, nI 0, []),
  (528, 1, .iload_n 3, 0, 0, 0, nI 0, []),
  (529, 1, .iconst 1, 0, 0, 0, nI 1, []),
  (530, 1, .iadd, 0, 0, 0, nI 0, []),
  (531, 1, .iaload, 0, 0, 0, nI 0, []),
  (532, 3, .invokevirtual 72, 128, 2, 844, nI 0, [6]),
  (535, 3, .if_icmp .eq 278, 537, 0, 0, nI 0, []),
  (538, 1, .iconst 0, 0, 0, 0, nI 0, []),
  (539, 1, .ireturn, 0, 1, 0, nI 0, []),
  (540, 1, .aload_n 1, 0, 0, 0, nI 0, []),
  (541, 1, .aload_n 0, 0, 0, 0, nI 0, []),
  (542, 1, .iload_n 3, 0, 0, 0, nI 0, []),
  (543, 1, .iconst 1, 0, 0, 0, nI 1, []),
  (544, 1, .iadd, 0, 0, 0, nI 0, []),
  (545, 1, .iaload, 0, 0, 0, nI 0, []),
  (546, 3, .invokevirtual 73, 74, 2, 537, nI 0, [5]),
  (549, 1, .aload_n 2, 0, 0, 0, nI 0, []),
  (550, 1, .aload_n 0, 0, 0, 0, nI 0, []),
  (551, 1, .iload_n 3, 0, 0, 0, nI 0, []),
  (552, 1, .iconst 1, 0, 0, 0, nI 1, []),
  (553, 1, .iadd, 0, 0, 0, nI 0, []),
  (554, 1, .iaload, 0, 0, 0, nI 0, []),
  (555, 3, .invokevirtual 76, 129, 2, 848, nI 0, [6]),
  (558, 3, .if_icmp .eq 255, 537, 0, 0, nI 0, []),
  (561, 1, .iconst 0, 0, 0, 0, nI 0, []),
  (562, 1, .ireturn, 0, 1, 0, nI 0, []),
  (563, 1, .aload_n 1, 0, 0, 0, nI 0, []),
  (564, 1, .aload_n 0, 0, 0, 0, nI 0, []),
  (565, 1, .iload_n 3, 0, 0, 0, nI 0, []),
  (566, 1, .iconst 1, 0, 0, 0, nI 1, []),
  (567, 1, .iadd, 0, 0, 0, nI 0, []),
  (568, 1, .iaload, 0, 0, 0, nI 0, []),
  (569, 3, .invokevirtual 77, 75, 2, 554, nI 0, [5]),
  (572, 1, .aload_n 2, 0, 0, 0, nI 0, []),
  (573, 1, .aload_n 0, 0, 0, 0, nI 0, []),
  (574, 1, .iload_n 3, 0, 0, 0, nI 0, []),
  (575, 1, .iconst 1, 0, 0, 0, nI 1, []),
  (576, 1, .iadd, 0, 0, 0, nI 0, []),
  (577, 1, .iaload, 0, 0, 0, nI 0, []),
  (578, 3, .invokevirtual 80, 130, 2, 852, nI 0, [6]),
  (581, 3, .if_icmp .eq 232, 537, 0, 0, nI 0, []),
  (584, 1, .iconst 0, 0, 0, 0, nI 0, []),
  (585, 1, .ireturn, 0, 1, 0, nI 0, []),
  (586, 1, .aload_n 1, 0, 0, 0, nI 0, []),
  (587, 1, .aload_n 0, 0, 0, 0, nI 0, []),
  (588, 1, .iload_n 3, 0, 0, 0, nI 0, []),
  (589, 1, .iconst 1, 0, 0, 0, nI 1, []),
  (590, 1, .iadd, 0, 0, 0, nI 0, []),
  (591, 1, .iaload, 0, 0, 0, nI 0, []),
  (592, 1, .aload_n 0, 0, 0, 0, nI 0, []),
  (593, 1, .iload_n 3, 0, 0, 0, nI 0, []),
  (594, 1, .iconst 2, 0, 0, 0, nI 2, []),
  (595, 1, .iadd, 0, 0, 0, nI 0, []),
  (596, 1, .iaload, 0, 0, 0, nI 0, []),
  (597, 3, .invokevirtual 81, 76, 3, 558, nI 0, [5]),
  (600, 1, .aload_n 2, 0, 0, 0, nI 0, []),
  (601, 1, .aload_n 0, 0, 0, 0, nI 0, []),
  (602, 1, .iload_n 3, 0, 0, 0, nI 0, []),
  (603, 1, .iconst 1, 0, 0, 0, nI 1, []),
  (604, 1, .iadd, 0, 0, 0, nI 0, []),
  (605, 1, .iaload, 0, 0, 0, nI 0, []),
  (606, 1, .aload_n 0, 0, 0, 0, nI 0, []),
  (607, 1, .iload_n 3, 0, 0, 0, nI 0, []),
  (608, 1, .iconst 2, 0, 0, 0, nI 2, []),
  (609, 1, .iadd, 0, 0, 0, nI 0, []),
  (610, 1, .iaload, 0, 0, 0, nI 0, []),
  (611, 3, .invokevirtual 84, 134, 3, 857, nI 0, [6]),
  (614, 3, .if_icmp .eq 199, 537, 0, 0, nI 0, []),
  (617, 1, .iconst 0, 0, 0, 0, nI 0, []),
  (618, 1, .ireturn, 0, 1, 0, nI 0, []),
  (619, 1, .aload_n 1, 0, 0, 0, nI 0, []),
  (620, 1, .aload_n 0, 0, 0, 0, nI 0, []),
  (621, 1, .iload_n 3, 0, 0, 0, nI 0, []),
  (622, 1, .iconst 1, 0, 0, 0, nI 1, []),
  (623, 1, .iadd, 0, 0, 0, nI 0, []),
  (624, 1, .iaload, 0, 0, 0, nI 0, []),
  (625, 1, .aload_n 0, 0, 0, 0, nI 0, []),
  (626, 1, .iload_n 3, 0, 0, 0, nI 0, []),
  (627, 1, .iconst 2, 0, 0, 0, nI 2, []),
  (628, 1, .iadd, 0, 0, 0, nI 0, []),
  (629, 1, .iaload, 0, 0, 0, nI 0, []),
  (630, 3, .invokevirtual 85, 77, 3, 568, nI 0, [5]),
  (633, 1, .aload_n 2, 0, 0, 0, nI 0, []),
  (634, 1, .aload_n 0, 0, 0, 0, nI 0, []),
  (635, 1, .iload_n 3, 0, 0, 0, nI 0, []),
  (636, 1, .iconst 1, 0, 0, 0, nI 1, []),
  (637, 1, .iadd, 0, 0, 0, nI 0, []),
  (638, 1, .iaload, 0, 0, 0, nI 0, []),
  (639, 1, .aload_n 0, 0, 0, 0, nI 0, []),
  (640, 1, .iload_n 3, 0, 0, 0, nI 0, []),
  (641, 1, .iconst 2, 0, 0, 0, nI 2, []),
  (642, 1, .iadd, 0, 0, 0, nI 0, []),
  (643, 1, .iaload, 0, 0, 0, nI 0, []),
  (644, 3, .invokevirtual 88, 135, 3, 873, nI 0, [6]),
  (647, 3, .if_icmp .eq 166, 537, 0, 0, nI 0, []),
  (650, 1, .iconst 0, 0, 0, 0, nI 0, []),
  (651, 1, .ireturn, 0, 1, 0, nI 0, []),
  (652, 1, .aload_n 1, 0, 0, 0, nI 0, []),
  (653, 1, .aload_n 0, 0, 0, 0, nI 0, []),
  (654, 1, .iload_n 3, 0, 0, 0, nI 0, []),
  (655, 1, .iconst 1, 0, 0, 0, nI 1, []),
  (656, 1, .iadd, 0, 0, 0, nI 0, []),
  (657, 1, .iaload, 0, 0, 0, nI 0, []),
  (658, 1, .aload_n 0, 0, 0, 0, nI 0, []),
  (659, 1, .iload_n 3, 0, 0, 0, nI 0, []),
  (660, 1, .iconst 2, 0, 0, 0, nI 2, []),
  (661, 1, .iadd, 0, 0, 0, nI 0, []),
  (662, 1, .iaload, 0, 0, 0, nI 0, []),
  (663, 1, .aload_n 0, 0, 0, 0, nI 0, []),
  (664, 1, .iload_n 3, 0, 0, 0, nI 0, []),
  (665, 1, .iconst 3, 0, 0, 0, nI 3, []),
  (666, 1, .iadd, 0, 0, 0, nI 0, []),
  (667, 1, .iaload, 0, 0, 0, nI 0, []),
  (668, 3, .invokevirtual 89, 78, 4, 573, nI 0, [5]),
  (671, 1, .aload_n 2, 0, 0, 0, nI 0, []),
  (672, 1, .aload_n 0, 0, 0, 0, nI 0, []),
  (673, 1, .iload_n 3, 0, 0, 0, nI 0, []),
  (674, 1, .iconst 1, 0, 0, 0, nI 1, []),
  (675, 1, .iadd, 0, 0, 0, nI 0, []),
  (676, 1, .iaload, 0, 0, 0, nI 0, []),
  (677, 1, .aload_n 0, 0, 0, 0, nI 0, []),
  (678, 1, .iload_n 3, 0, 0, 0, nI 0, []),
  (679, 1, .iconst 2, 0, 0, 0, nI 2, []),
  (680, 1, .iadd, 0, 0, 0, nI 0, []),
  (681, 1, .iaload, 0, 0, 0, nI 0, []),
  (682, 1, .aload_n 0, 0, 0, 0, nI 0, []),
  (683, 1, .iload_n 3, 0, 0, 0, nI 0, []),
  (684, 1, .iconst 3, 0, 0, 0, nI 3, []),
  (685, 1, .iadd, 0, 0, 0, nI 0, []),
  (686, 1, .iaload, 0, 0, 0, nI 0, []),
  (687, 3, .invokevirtual 92, 136, 4, 877, nI 0, [6]),
  (690, 3, .if_icmp .eq 123, 537, 0, 0, nI 0, []),
  (693, 1, .iconst 0, 0, 0, 0, nI 0, []),
  (694, 1, .ireturn, 0, 1, 0, nI 0, []),
  (695, 1, .aload_n 1, 0, 0, 0, nI 0, []),
  (696, 1, .aload_n 0, 0, 0, 0, nI 0, []),
  (697, 1, .iload_n 3, 0, 0, 0, nI 0, []),
  (698, 1, .iconst 1, 0, 0, 0, nI 1, []),
  (699, 1, .iadd, 0, 0, 0, nI 0, []),
  (700, 1, .iaload, 0, 0, 0, nI 0, []),
  (701, 1, .aload_n 0, 0, 0, 0, nI 0, []),
  (702, 1, .iload_n 3, 0, 0, 0, nI 0, []),
  (703, 1, .iconst 2, 0, 0, 0, nI 2, []),
  (704, 1, .iadd, 0, 0, 0, nI 0, []),
  (705, 1, .iaload, 0, 0, 0, nI 0, []),
  (706, 1, .aload_n 0, 0, 0, 0, nI 0, []),
  (707, 1, .iload_n 3, 0, 0, 0, nI 0, []),
  (708, 1, .iconst 3, 0, 0, 0, nI 3, []),
  (709, 1, .iadd, 0, 0, 0, nI 0, []),
  (710, 1, .iaload, 0, 0, 0, nI 0, []),
  (711, 3, .invokevirtual 93, 79, 4, 577, nI 0, [5]),
  (714, 1, .aload_n 2, 0, 0, 0, nI 0, []),
  (715, 1, .aload_n 0, 0, 0, 0, nI 0, []),
  (716, 1, .iload_n 3, 0, 0, 0, nI 0, []),
  (717, 1, .iconst 1, 0, 0, 0, nI 1, []),
  (718, 1, .iadd, 0, 0, 0, nI 0, []),
  (719, 1, .iaload, 0, 0, 0, nI 0, []),
  (720, 1, .aload_n 0, 0, 0, 0, nI 0, []),
  (721, 1, .iload_n 3, 0, 0, 0, nI 0, []),
  (722, 1, .iconst 2, 0, 0, 0, nI 2, []),
  (723, 1, .iadd, 0, 0, 0, nI 0, []),
  (724, 1, .iaload, 0, 0, 0, nI 0, []),
  (725, 1, .aload_n 0, 0, 0, 0, nI 0, []),
  (726, 1, .iload_n 3, 0, 0, 0, nI 0, []),
  (727, 1, .iconst 3, 0, 0, 0, nI 3, []),
  (728, 1, .iadd, 0, 0, 0, nI 0, []),
  (729, 1, .iaload, 0, 0, 0, nI 0, []),
  (730, 3, .invokevirtual 96, 137, 4, 881, nI 0, [6]),
  (733, 3, .if_icmp .eq 80, 537, 0, 0, nI 0, []),
  (736, 1, .iconst 0, 0, 0, 0, nI 0, []),
  (737, 1, .ireturn, 0, 1, 0, nI 0, []),
  (738, 1, .aload_n 1, 0, 0, 0, nI 0, []),
  (739, 1, .aload_n 0, 0, 0, 0, nI 0, []),
  (740, 1, .iload_n 3, 0, 0, 0, nI 0, []),
  (741, 1, .iconst 1, 0, 0, 0, nI 1, []),
  (742, 1, .iadd, 0, 0, 0, nI 0, []),
  (743, 1, .iaload, 0, 0, 0, nI 0, []),
  (744, 3, .invokevirtual 97, 80, 2, 585, nI 0, [5]),
  (747, 1, .aload_n 2, 0, 0, 0, nI 0, []),
  (748, 1, .aload_n 0, 0, 0, 0, nI 0, []),
  (749, 1, .iload_n 3, 0, 0, 0, nI 0, []),
  (750, 1, .iconst 1, 0, 0, 0, nI 1, []),
  (751, 1, .iadd, 0, 0, 0, nI 0, []),
  (752, 1, .iaload, 0, 0, 0, nI 0, []),
  (753, 3, .invokevirtual 100, 138, 2, 885, nI 0, [6]),
  (756, 3, .if_icmp .eq 57, 537, 0, 0, nI 0, []),
  (759, 1, .iconst 0, 0, 0, 0, nI 0, []),
  (760, 1, .ireturn, 0, 1, 0, nI 0, []),
  (761, 1, .aload_n 1, 0, 0, 0, nI 0, []),
  (762, 3, .invokevirtual 101, 81, 1, 593, nI 0, [5]),
  (765, 1, .aload_n 2, 0, 0, 0, nI 0, []),
  (766, 3, .invokevirtual 104, 139, 1, 889, nI 0, [6]),
  (769, 3, .if_icmp .eq 44, 537, 0, 0, nI 0, []),
  (772, 1, .iconst 0, 0, 0, 0, nI 0, []),
  (773, 1, .ireturn, 0, 1, 0, nI 0, []),
  (774, 1, .aload_n 1, 0, 0, 0, nI 0, []),
  (775, 3, .invokevirtual 105, 82, 1, 597, nI 0, [5]),
  (778, 1, .aload_n 2, 0, 0, 0, nI 0, []),
  (779, 3, .invokevirtual 108, 143, 1, 893, nI 0, [6]),
  (782, 3, .if_icmp .eq 31, 537, 0, 0, nI 0, []),
  (785, 1, .iconst 0, 0, 0, 0, nI 0, []),
  (786, 1, .ireturn, 0, 1, 0, nI 0, []),
  (787, 1, .aload_n 1, 0, 0, 0, nI 0, []),
  (788, 3, .invokevirtual 109, 83, 1, 639, nI 0, [5]),
  (791, 1, .aload_n 2, 0, 0, 0, nI 0, []),
  (792, 3, .invokevirtual 112, 145, 1, 909, nI 0, [6]),
  (795, 3, .if_icmp .eq 18, 537, 0, 0, nI 0, []),
  (798, 1, .iconst 0, 0, 0, 0, nI 0, []),
  (799, 1, .ireturn, 0, 1, 0, nI 0, []),
  (800, 1, .aload_n 1, 0, 0, 0, nI 0, []),
  (801, 3, .invokevirtual 113, 84, 1, 648, nI 0, [5]),
  (804, 1, .aload_n 2, 0, 0, 0, nI 0, []),
  (805, 3, .invokevirtual 116, 146, 1, 918, nI 0, [6]),
  (808, 3, .if_icmp .eq 5, 537, 0, 0, nI 0, []),
  (811, 1, .iconst 0, 0, 0, 0, nI 0, []),
  (812, 1, .ireturn, 0, 1, 0, nI 0, []),
  (813, 3, .iinc 3 4, 0, 0, 0, nI 4, []),
  (816, 3, .goto (-798), 10, 0, 0, nI 0, []),
  (819, 1, .iconst 1, 0, 0, 0, nI 1, []),
  (820, 1, .ireturn, 0, 1, 0, nI 0, [])]
def mj_cds : List (List mj_E) := [mj_c0, mj_c1, mj_c2, mj_c3, mj_c4, mj_c5, mj_c6, mj_c7, mj_c8, mj_c9, mj_c10, mj_c11, mj_c12, mj_c13, mj_c14, mj_c15, mj_c16, mj_c17, mj_c18, mj_c19, mj_c20, mj_c21, mj_c22, mj_c23, mj_c24, mj_c25, mj_c26, mj_c27, mj_c28, mj_c29, mj_c30, mj_c31, mj_c32, mj_c33, mj_c34, mj_c35, mj_c36, mj_c37, mj_c38, mj_c39, mj_c40, mj_c41, mj_c42, mj_c43, mj_c44, mj_c45, mj_c46, mj_c47, mj_c48, mj_c49, mj_c50, mj_c51, mj_c52, mj_c53, mj_c54, mj_c55, mj_c56, mj_c57, mj_c58, mj_c59, mj_c60, mj_c61, mj_c62, mj_c63, mj_c64, mj_c65, mj_c66, mj_c67, mj_c68, mj_c69, mj_c70, mj_c71, mj_c72, mj_c73, mj_c74, mj_c75, mj_c76, mj_c77, mj_c78, mj_c79, mj_c80, mj_c81, mj_c82, mj_c83, mj_c84, mj_c85, mj_c86, mj_c87, mj_c88, mj_c89, mj_c90, mj_c91, mj_c92, mj_c93, mj_c94, mj_c95, mj_c96, mj_c97, mj_c98, mj_c99, mj_c100, mj_c101, mj_c102, mj_c103, mj_c104, mj_c105, mj_c106, mj_c107, mj_c108, mj_c109, mj_c110, mj_c111, mj_c112, mj_c113, mj_c114, mj_c115, mj_c116, mj_c117, mj_c118, mj_c119, mj_c120, mj_c121, mj_c122, mj_c123, mj_c124, mj_c125, mj_c126, mj_c127, mj_c128, mj_c129, mj_c130, mj_c131, mj_c132, mj_c133, mj_c134, mj_c135, mj_c136, mj_c137, mj_c138, mj_c139, mj_c140, mj_c141, mj_c142, mj_c143, mj_c144, mj_c145, mj_c146, mj_c147, mj_c148, mj_c149, mj_c150]
def mj_Y : mj_T := (mj_kds, mj_fts, mj_tbs, mj_mxs, mj_cds)
/-- of a method: its name, its bytes, what it answers, frames and words that it takes, 1: a static one -/
abbrev mj_J : Type := MethodName × ByteArray × Option FieldType × Nat × Nat × Nat
def mj_ms : List mj_J := [(⟨"LiningLog$History", "<init>", "()V"⟩, prog_2_method_1_code, none, 3, 64, 0),
  (⟨"LiningLog$History", "record", "(LLiningLog$State;)V"⟩, prog_2_method_2_code, none, 3, 61, 0),
  (⟨"LiningLog$History", "restoreLatest", "(LLiningLog$State;)V"⟩, prog_2_method_3_code, none, 3, 61, 0),
  (⟨"LiningLog$Lining", "<init>", "()V"⟩, prog_3_method_1_code, none, 1, 23, 0),
  (⟨"LiningLog$Lining", "lay", "(II)V"⟩, prog_3_method_2_code, none, 0, 0, 0),
  (⟨"LiningLog$Lining", "copyFrom", "(LLiningLog$Lining;)V"⟩, prog_3_method_3_code, none, 1, 18, 0),
  (⟨"LiningLog$Lining", "hasRing", "(I)Z"⟩, prog_3_method_4_code, some .boolean, 1, 22, 0),
  (⟨"LiningLog$Lining", "hasSpot", "(I)Z"⟩, prog_3_method_5_code, some .boolean, 1, 22, 0),
  (⟨"LiningLog$Lining", "ringOf", "(I)I"⟩, prog_3_method_6_code, some .int, 0, 0, 0),
  (⟨"LiningLog$Lining", "neighboursOf", "(I)I"⟩, prog_3_method_7_code, some .int, 0, 0, 0),
  (⟨"LiningLog$Lining", "neighbourAt", "(II)I"⟩, prog_3_method_8_code, some .int, 1, 21, 0),
  (⟨"LiningLog$Lining", "placeBefore", "(I)I"⟩, prog_3_method_9_code, some .int, 0, 0, 0),
  (⟨"LiningLog$Lining", "placeBehind", "(I)I"⟩, prog_3_method_10_code, some .int, 0, 0, 0),
  (⟨"LiningLog$Lining", "thickness", "(I)I"⟩, prog_3_method_11_code, some .int, 0, 0, 0),
  (⟨"LiningLog$Lining", "leastThickness", "()I"⟩, prog_3_method_12_code, some .int, 1, 21, 0),
  (⟨"LiningLog$Lining", "sumOfThicknesses", "()I"⟩, prog_3_method_13_code, some .int, 1, 21, 0),
  (⟨"LiningLog$Lining", "layeredSpots", "()I"⟩, prog_3_method_14_code, some .int, 0, 0, 0),
  (⟨"LiningLog$Lining", "firstBelowLimit", "()I"⟩, prog_3_method_15_code, some .int, 1, 21, 0),
  (⟨"LiningLog$Lining", "shellTemperature", "(I)I"⟩, prog_3_method_16_code, some .int, 1, 21, 0),
  (⟨"LiningLog$Lining", "keepThicknesses", "()V"⟩, prog_3_method_17_code, none, 1, 21, 0),
  (⟨"LiningLog$Lining", "standingOut", "(I)I"⟩, prog_3_method_18_code, some .int, 2, 43, 0),
  (⟨"LiningLog$Lining", "standingOutAhead", "(I)I"⟩, prog_3_method_19_code, some .int, 1, 21, 0),
  (⟨"LiningLog$Lining", "wearNow", "(II)I"⟩, prog_3_method_20_code, some .int, 3, 68, 0),
  (⟨"LiningLog$Lining", "wearAhead", "(II)I"⟩, prog_3_method_21_code, some .int, 2, 43, 0),
  (⟨"LiningLog$Lining", "makeHeat", "(I)I"⟩, prog_3_method_22_code, some .int, 3, 68, 0),
  (⟨"LiningLog$Lining", "takeWear", "(II)I"⟩, prog_3_method_23_code, some .int, 1, 21, 0),
  (⟨"LiningLog$Lining", "rest", "()V"⟩, prog_3_method_24_code, none, 0, 0, 0),
  (⟨"LiningLog$Lining", "staying", "(II)I"⟩, prog_3_method_25_code, some .int, 2, 42, 0),
  (⟨"LiningLog$Lining", "gunningRefusal", "(II)I"⟩, prog_3_method_26_code, some .int, 3, 65, 0),
  (⟨"LiningLog$Lining", "putOn", "(II)I"⟩, prog_3_method_27_code, some .int, 3, 65, 0),
  (⟨"LiningLog$Lining", "layRing", "(I)I"⟩, prog_3_method_28_code, some .int, 1, 21, 0),
  (⟨"LiningLog$Lining", "layAllRings", "()I"⟩, prog_3_method_29_code, some .int, 2, 45, 0),
  (⟨"LiningLog$Lining", "heatsUntilOver", "(I)I"⟩, prog_3_method_30_code, some .int, 4, 91, 0),
  (⟨"LiningLog$LogText", "<init>", "()V"⟩, prog_4_method_1_code, none, 1, 12, 0),
  (⟨"LiningLog$LogText", "append", "(C)V"⟩, prog_4_method_2_code, none, 0, 0, 0),
  (⟨"LiningLog$LogText", "isAt", "(IC)Z"⟩, prog_4_method_3_code, some .boolean, 0, 0, 0),
  (⟨"LiningLog$LogText", "firstFault", "(LLiningLog$Lining;)I"⟩, prog_4_method_4_code, some .int, 4, 86, 0),
  (⟨"LiningLog$LogText", "readLine", "(I)Z"⟩, prog_4_method_5_code, some .boolean, 3, 64, 0),
  (⟨"LiningLog$LogText", "readSign", "(C)Z"⟩, prog_4_method_6_code, some .boolean, 1, 22, 0),
  (⟨"LiningLog$LogText", "readFirst", "()Z"⟩, prog_4_method_7_code, some .boolean, 2, 43, 0),
  (⟨"LiningLog$LogText", "readSecond", "()Z"⟩, prog_4_method_8_code, some .boolean, 2, 43, 0),
  (⟨"LiningLog$LogText", "readDigits", "()I"⟩, prog_4_method_9_code, some .int, 1, 21, 0),
  (⟨"LiningLog$LogText", "isInRange", "(LLiningLog$Lining;)Z"⟩, prog_4_method_10_code, some .boolean, 2, 43, 0),
  (⟨"LiningLog$Scan", "<init>", "()V"⟩, prog_5_method_1_code, none, 1, 12, 0),
  (⟨"LiningLog$Scan", "take", "(LLiningLog$Lining;)V"⟩, prog_5_method_2_code, none, 2, 42, 0),
  (⟨"LiningLog$Scan", "copyFrom", "(LLiningLog$Scan;)V"⟩, prog_5_method_3_code, none, 1, 18, 0),
  (⟨"LiningLog$Scan", "isHot", "(ILLiningLog$Lining;)Z"⟩, prog_5_method_4_code, some .boolean, 0, 0, 0),
  (⟨"LiningLog$Scan", "isPeak", "(ILLiningLog$Lining;)Z"⟩, prog_5_method_5_code, some .boolean, 2, 44, 0),
  (⟨"LiningLog$Scan", "hotSpots", "(LLiningLog$Lining;)I"⟩, prog_5_method_6_code, some .int, 1, 22, 0),
  (⟨"LiningLog$Scan", "peakSpots", "(LLiningLog$Lining;)I"⟩, prog_5_method_7_code, some .int, 3, 70, 0),
  (⟨"LiningLog$State", "<init>", "()V"⟩, prog_6_method_1_code, none, 2, 43, 0),
  (⟨"LiningLog$State", "startAnew", "(II)V"⟩, prog_6_method_2_code, none, 1, 23, 0),
  (⟨"LiningLog$State", "copyFrom", "(LLiningLog$State;)V"⟩, prog_6_method_3_code, none, 2, 39, 0),
  (⟨"LiningLog$State", "hasScan", "(I)Z"⟩, prog_6_method_4_code, some .boolean, 1, 22, 0),
  (⟨"LiningLog$State", "takeScan", "()LLiningLog$Scan;"⟩, prog_6_method_5_code, some (.object "LiningLog$Scan"), 3, 64, 0),
  (⟨"LiningLog$State", "dropOldestScan", "()V"⟩, prog_6_method_6_code, none, 0, 0, 0),
  (⟨"LiningLog$State", "heatsBetweenLatestScans", "()I"⟩, prog_6_method_7_code, some .int, 0, 0, 0),
  (⟨"LiningLog$State", "trendIsKnown", "()Z"⟩, prog_6_method_8_code, some .boolean, 1, 20, 0),
  (⟨"LiningLog$State", "trendOf", "(I)I"⟩, prog_6_method_9_code, some .int, 1, 22, 0),
  (⟨"LiningLog", "<init>", "()V"⟩, prog_1_method_1_code, none, 4, 85, 0),
  (⟨"LiningLog", "begin", "(II)I"⟩, prog_1_method_2_code, some .int, 4, 82, 0),
  (⟨"LiningLog", "rate", "(II)I"⟩, prog_1_method_3_code, some .int, 4, 82, 0),
  (⟨"LiningLog", "set", "(II)I"⟩, prog_1_method_4_code, some .int, 4, 82, 0),
  (⟨"LiningLog", "heat", "(II)I"⟩, prog_1_method_5_code, some .int, 4, 91, 0),
  (⟨"LiningLog", "gun", "(II)I"⟩, prog_1_method_6_code, some .int, 4, 88, 0),
  (⟨"LiningLog", "reline", "(I)I"⟩, prog_1_method_7_code, some .int, 4, 82, 0),
  (⟨"LiningLog", "scan", "()I"⟩, prog_1_method_8_code, some .int, 4, 85, 0),
  (⟨"LiningLog", "undo", "()I"⟩, prog_1_method_9_code, some .int, 4, 82, 0),
  (⟨"LiningLog", "count", "(I)I"⟩, prog_1_method_10_code, some .int, 2, 43, 0),
  (⟨"LiningLog", "spot", "(II)I"⟩, prog_1_method_11_code, some .int, 3, 64, 0),
  (⟨"LiningLog", "neighbour", "(II)I"⟩, prog_1_method_12_code, some .int, 2, 44, 0),
  (⟨"LiningLog", "account", "(I)I"⟩, prog_1_method_13_code, some .int, 2, 43, 0),
  (⟨"LiningLog", "scanned", "(III)I"⟩, prog_1_method_14_code, some .int, 3, 70, 0),
  (⟨"LiningLog", "peaks", "(I)I"⟩, prog_1_method_15_code, some .int, 4, 93, 0),
  (⟨"LiningLog", "trend", "(I)I"⟩, prog_1_method_16_code, some .int, 2, 45, 0),
  (⟨"LiningLog", "heatsByTrend", "(I)I"⟩, prog_1_method_17_code, some .int, 2, 45, 0),
  (⟨"LiningLog", "heatsLeft", "(II)I"⟩, prog_1_method_18_code, some .int, 5, 113, 0),
  (⟨"LiningLog", "firstThrough", "(II)I"⟩, prog_1_method_19_code, some .int, 5, 113, 0),
  (⟨"LiningLog", "bestSpot", "(III)I"⟩, prog_1_method_20_code, some .int, 5, 113, 0),
  (⟨"LiningLog", "wear", "(III)I"⟩, prog_1_method_21_code, some .int, 4, 90, 0),
  (⟨"LiningLog", "type", "(I)I"⟩, prog_1_method_22_code, some .int, 1, 22, 0),
  (⟨"LiningLog", "clearText", "()I"⟩, prog_1_method_23_code, some .int, 0, 0, 0),
  (⟨"LiningLog", "fault", "()I"⟩, prog_1_method_24_code, some .int, 5, 109, 0),
  (⟨"LiningLog", "run", "()I"⟩, prog_1_method_25_code, some .int, 5, 113, 0),
  (⟨"LiningLog", "reason", "()I"⟩, prog_1_method_26_code, some .int, 0, 0, 0),
  (⟨"LiningLog", "carryOutLine", "()I"⟩, prog_1_method_27_code, some .int, 4, 91, 0),
  (⟨"LiningLog", "within", "(III)Z"⟩, prog_1_method_28_code, some .boolean, 0, 0, 1),
  (⟨"LiningLog", "isHeat", "(II)Z"⟩, prog_1_method_29_code, some .boolean, 1, 22, 1),
  (⟨"LiningLog", "isAmount", "(I)Z"⟩, prog_1_method_30_code, some .boolean, 1, 22, 1),
  (⟨"LiningLog", "factorOf", "(II)I"⟩, prog_1_method_31_code, some .int, 1, 22, 1),
  (⟨"LiningLogModel", "<init>", "()V"⟩, prog_8_method_1_code, none, 2, 43, 0),
  (⟨"LiningLogModel", "in", "(III)Z"⟩, prog_8_method_2_code, some .boolean, 0, 0, 1),
  (⟨"LiningLogModel", "down", "(II)I"⟩, prog_8_method_3_code, some .int, 0, 0, 1),
  (⟨"LiningLogModel", "spots", "()I"⟩, prog_8_method_4_code, some .int, 0, 0, 0),
  (⟨"LiningLogModel", "records", "()V"⟩, prog_8_method_5_code, none, 0, 0, 0),
  (⟨"LiningLogModel", "begins", "(II)V"⟩, prog_8_method_6_code, none, 1, 20, 0),
  (⟨"LiningLogModel", "thick", "(I)I"⟩, prog_8_method_7_code, some .int, 0, 0, 0),
  (⟨"LiningLogModel", "beside", "(II)I"⟩, prog_8_method_8_code, some .int, 1, 20, 0),
  (⟨"LiningLogModel", "besides", "(I)I"⟩, prog_8_method_9_code, some .int, 0, 0, 0),
  (⟨"LiningLogModel", "leastBeside", "(I)I"⟩, prog_8_method_10_code, some .int, 1, 21, 0),
  (⟨"LiningLogModel", "warmth", "(I)I"⟩, prog_8_method_11_code, some .int, 1, 21, 0),
  (⟨"LiningLogModel", "wearOf", "(III)I"⟩, prog_8_method_12_code, some .int, 2, 46, 0),
  (⟨"LiningLogModel", "wears", "(II)I"⟩, prog_8_method_13_code, some .int, 0, 0, 0),
  (⟨"LiningLogModel", "heats", "(II)I"⟩, prog_8_method_14_code, some .int, 3, 72, 0),
  (⟨"LiningLogModel", "stays", "(II)I"⟩, prog_8_method_15_code, some .int, 2, 42, 0),
  (⟨"LiningLogModel", "refusal", "(II)I"⟩, prog_8_method_16_code, some .int, 3, 64, 0),
  (⟨"LiningLogModel", "guns", "(II)I"⟩, prog_8_method_17_code, some .int, 3, 64, 0),
  (⟨"LiningLogModel", "relines", "(II)I"⟩, prog_8_method_18_code, some .int, 1, 21, 0),
  (⟨"LiningLogModel", "scans", "()V"⟩, prog_8_method_19_code, none, 2, 42, 0),
  (⟨"LiningLogModel", "begin", "(II)I"⟩, prog_8_method_20_code, some .int, 2, 43, 0),
  (⟨"LiningLogModel", "rate", "(II)I"⟩, prog_8_method_21_code, some .int, 1, 22, 0),
  (⟨"LiningLogModel", "isSetting", "(II)Z"⟩, prog_8_method_22_code, some .boolean, 1, 22, 1),
  (⟨"LiningLogModel", "set", "(II)I"⟩, prog_8_method_23_code, some .int, 2, 43, 0),
  (⟨"LiningLogModel", "isHeat", "(II)Z"⟩, prog_8_method_24_code, some .boolean, 1, 22, 1),
  (⟨"LiningLogModel", "isSpot", "(I)Z"⟩, prog_8_method_25_code, some .boolean, 1, 22, 0),
  (⟨"LiningLogModel", "heat", "(II)I"⟩, prog_8_method_26_code, some .int, 4, 96, 0),
  (⟨"LiningLogModel", "gun", "(II)I"⟩, prog_8_method_27_code, some .int, 4, 87, 0),
  (⟨"LiningLogModel", "reline", "(I)I"⟩, prog_8_method_28_code, some .int, 2, 45, 0),
  (⟨"LiningLogModel", "scan", "()I"⟩, prog_8_method_29_code, some .int, 3, 64, 0),
  (⟨"LiningLogModel", "undo", "()I"⟩, prog_8_method_30_code, some .int, 0, 0, 0),
  (⟨"LiningLogModel", "count", "(I)I"⟩, prog_8_method_31_code, some .int, 1, 22, 0),
  (⟨"LiningLogModel", "spot", "(II)I"⟩, prog_8_method_32_code, some .int, 2, 46, 0),
  (⟨"LiningLogModel", "neighbour", "(II)I"⟩, prog_8_method_33_code, some .int, 2, 49, 0),
  (⟨"LiningLogModel", "account", "(I)I"⟩, prog_8_method_34_code, some .int, 1, 22, 0),
  (⟨"LiningLogModel", "isHot", "(II)Z"⟩, prog_8_method_35_code, some .boolean, 0, 0, 0),
  (⟨"LiningLogModel", "isPeak", "(II)Z"⟩, prog_8_method_36_code, some .boolean, 2, 49, 0),
  (⟨"LiningLogModel", "isScan", "(I)Z"⟩, prog_8_method_37_code, some .boolean, 1, 22, 0),
  (⟨"LiningLogModel", "scanned", "(III)I"⟩, prog_8_method_38_code, some .int, 3, 76, 0),
  (⟨"LiningLogModel", "peaks", "(I)I"⟩, prog_8_method_39_code, some .int, 3, 76, 0),
  (⟨"LiningLogModel", "trend", "(I)I"⟩, prog_8_method_40_code, some .int, 2, 43, 0),
  (⟨"LiningLogModel", "heatsByTrend", "(I)I"⟩, prog_8_method_41_code, some .int, 3, 65, 0),
  (⟨"LiningLogModel", "lasts", "(II)I"⟩, prog_8_method_42_code, some .int, 4, 96, 0),
  (⟨"LiningLogModel", "keeps", "()V"⟩, prog_8_method_43_code, none, 0, 0, 0),
  (⟨"LiningLogModel", "restores", "()V"⟩, prog_8_method_44_code, none, 0, 0, 0),
  (⟨"LiningLogModel", "heatsLeft", "(II)I"⟩, prog_8_method_45_code, some .int, 5, 119, 0),
  (⟨"LiningLogModel", "firstThrough", "(II)I"⟩, prog_8_method_46_code, some .int, 5, 119, 0),
  (⟨"LiningLogModel", "bestSpot", "(III)I"⟩, prog_8_method_47_code, some .int, 5, 119, 0),
  (⟨"LiningLogModel", "wear", "(III)I"⟩, prog_8_method_48_code, some .int, 3, 72, 0),
  (⟨"LiningLogModel", "type", "(I)I"⟩, prog_8_method_49_code, some .int, 1, 22, 0),
  (⟨"LiningLogModel", "clearText", "()I"⟩, prog_8_method_50_code, some .int, 0, 0, 0),
  (⟨"LiningLogModel", "passes", "(C)Z"⟩, prog_8_method_51_code, some .boolean, 0, 0, 0),
  (⟨"LiningLogModel", "number", "()I"⟩, prog_8_method_52_code, some .int, 1, 22, 0),
  (⟨"LiningLogModel", "readsLine", "()Z"⟩, prog_8_method_53_code, some .boolean, 2, 44, 0),
  (⟨"LiningLogModel", "fault", "()I"⟩, prog_8_method_54_code, some .int, 3, 65, 0),
  (⟨"LiningLogModel", "carries", "()I"⟩, prog_8_method_55_code, some .int, 4, 96, 0),
  (⟨"LiningLogModel", "run", "()I"⟩, prog_8_method_56_code, some .int, 5, 117, 0),
  (⟨"LiningLogModel", "reason", "()I"⟩, prog_8_method_57_code, some .int, 0, 0, 0),
  (⟨"java/lang/Math", "floorDiv", "(II)I"⟩, prog_9_method_47_code, some .int, 0, 0, 1),
  (⟨"java/lang/Math", "max", "(II)I"⟩, prog_9_method_65_code, some .int, 0, 0, 1),
  (⟨"java/lang/Math", "min", "(II)I"⟩, prog_9_method_69_code, some .int, 0, 0, 1),
  (⟨"LiningLogLaw", "law", "([I)Z"⟩, code, some .boolean, 6, 146, 1)]
end
section
/-! THE CHECKS: each entry of the tables is what the class files hold, and what its words say stands in lw_tbl -/
def mj_host : String := "LiningLog"
def mj_fw (own : String) (i pos a b : Nat) : Bool := match mj_cl[a]? with
  | some (_, T, N) => decide (b < N) && (decide (lw_tbl[pos]? = some (Jvm.Cond.fieldLink own i (T b).1 (T b).2.1 (T b).2.2.1)) || decide (lw_tbl[pos]? = some (Jvm.Cond.fieldLinkNest own i (T b).1 (T b).2.1 (T b).2.2.1 mj_host)))
  | none => false
def mj_fin (own : String) (ini : Bool) (i pos a b : Nat) : Bool := match mj_cl[a]? with
  | some (_, T, _) => decide ((T b).2.2.2 = false) || (decide ((T b).2.2.2 = true) && ini && decide ((T b).1 = own) && decide (lw_tbl[pos]? = some (Jvm.Cond.fieldLink own i (T b).1 (T b).2.1 (T b).2.2.1)))
  | none => false
def mj_nx (cd : List mj_E) (k t : Nat) : Bool := decide ((cd[k + 1]?).map (fun e => e.1) = some t)
def mj_tg (cd : List mj_E) (k : Nat) (t : Int) : Bool := match cd[k]? with
  | some e => decide (t = (e.1 : Int))
  | none => false
def mj_ext : List (Nat × String × String) := [(24, "LiningLog", "FIRST_SETTING"), (25, "LiningLog", "LOWEST_SETTING"), (26, "LiningLog", "HIGHEST_SETTING")]
def mj_lk (own : String) (i pos : Nat) (y : MethodName) : Bool := decide (lw_tbl[pos]? = some (Jvm.Cond.methodLink own i y)) || decide (lw_tbl[pos]? = some (Jvm.Cond.methodLinkNest own i y mj_host))
def mj_okT (ts : List Nat) (C : String) (sta : Nat) : Bool := match ts with
  | [] => decide (sta = 1)
  | k0 :: _ => decide (sta = 0) && (match mj_cl[k0]? with
    | some (C', _, _) => decide (C' = C)
    | none => false)
/-- a call: the callee's row, the number of its values, frames and words -/
def mj_okC (J : mj_J) (i a b pos : Nat) (sta : Nat) (ts : List Nat) : Bool := match mj_ms[a]? with
  | some K => mj_okT ts K.1.cls sta && decide (¬ a = 150) && mj_lk J.1.cls i pos K.1 && decide (K.2.2.2.1 + 1 ≤ J.2.2.2.1) && decide (8 + (mj_mx mj_Y a + 11) + K.2.2.2.2.1 ≤ J.2.2.2.2.1) && decide (K.2.2.2.2.2 = sta) && decide ((parseMethodDescriptor K.1.desc).map (fun d => d.parameters.length + (1 - sta)) = some b) && decide (b ≤ mj_mx mj_Y a)
  | none => false
def mj_okE (J : mj_J) (cd : List mj_E) (k : Nat) (e : mj_E) : Bool :=
  match e with
  | (pc, len, ins, a, b, c, v, ts) => decide (decode J.2.1 pc = .ok (ins, len)) && (match ins with
    | .iconst n => decide (len = 1) && decide (Int32.ofInt n = v) && mj_nx cd k (pc + 1)
    | .bipush n => decide (len = 2) && decide ((Int8.ofInt n).toInt32 = v) && mj_nx cd k (pc + 2)
    | .sipush n => decide (len = 3) && decide ((Int16.ofInt n).toInt32 = v) && mj_nx cd k (pc + 3)
    | .ldc i => decide (len = 2) && decide (lw_tbl[c]? = some (Jvm.Cond.constant J.1.cls i v)) && mj_nx cd k (pc + 2)
    | .iload_n _ => decide (len = 1) && mj_nx cd k (pc + 1)
    | .iload _ => decide (len = 2) && mj_nx cd k (pc + 2)
    | .aload_n _ => decide (len = 1) && mj_nx cd k (pc + 1)
    | .aload _ => decide (len = 2) && mj_nx cd k (pc + 2)
    | .istore_n _ => decide (len = 1) && mj_nx cd k (pc + 1)
    | .istore _ => decide (len = 2) && mj_nx cd k (pc + 2)
    | .astore_n _ => decide (len = 1) && mj_nx cd k (pc + 1)
    | .astore _ => decide (len = 2) && mj_nx cd k (pc + 2)
    | .iinc _ n => decide (len = 3) && decide (Int32.ofInt n = v) && mj_nx cd k (pc + 3)
    | .iadd | .isub | .imul | .iand | .ixor | .idiv | .irem | .dup | .dup2 | .pop | .i2c | .iaload | .caload | .aaload | .iastore | .castore | .aastore | .arraylength => decide (len = 1) && mj_nx cd k (pc + 1)
    | .ifCond _ off => decide (len = 3) && mj_nx cd k (pc + 3) && mj_tg cd a (pc + off)
    | .if_icmp _ off => decide (len = 3) && mj_nx cd k (pc + 3) && mj_tg cd a (pc + off)
    | .goto off => decide (len = 3) && mj_tg cd a (pc + off)
    | .tableswitch d lo hi offs => mj_tg cd a (pc + d) && decide ((hi - lo + 1).toNat = ts.length) && (offs.toList.zip ts).all (fun q => mj_tg cd q.2 (pc + q.1)) && decide (offs.size = ts.length)
    | .lookupswitch d ps => mj_tg cd a (pc + d) && (ps.toList.zip ts).all (fun q => mj_tg cd q.2 (pc + q.1.2)) && decide (ps.size = ts.length) && (ps.toList.zip (ps.toList.drop 1)).all (fun (a, next) => a.1 < next.1)
    | .getfield i => decide (len = 3) && mj_nx cd k (pc + 3) && mj_fw J.1.cls i c a b
    | .putfield i => decide (len = 3) && mj_nx cd k (pc + 3) && mj_fw J.1.cls i c a b && mj_fin J.1.cls (decide (J.1.name = "<init>")) i c a b
    | .getstatic i => decide (len = 3) && mj_nx cd k (pc + 3) && (match mj_ext.find? (fun q => q.1 == a) with
      | some q => decide (lw_tbl[c]? = some (Jvm.Cond.fieldLink J.1.cls i q.2.1 q.2.2 "[I")) || decide (lw_tbl[c]? = some (Jvm.Cond.fieldLinkNest J.1.cls i q.2.1 q.2.2 "[I" mj_host))
      | none => false)
    | .new i => decide (len = 3) && mj_nx cd k (pc + 3) && (match mj_cl[a]? with
      | some (C, _, _) => decide (lw_tbl[c]? = some (Jvm.Cond.classLink J.1.cls i C))
      | none => false)
    | .newarray t => decide (len = 2) && mj_nx cd k (pc + 2) && (match mj_kd mj_Y a with
      | (1, u, _) => (decide (u = 0) && decide (t = .int)) || (decide (u = 2) && decide (t = .char))
      | _ => false)
    | .anewarray i => decide (len = 3) && mj_nx cd k (pc + 3) && (match mj_kd mj_Y a with
      | (2, u, _) => (match mj_cl[u]? with
        | some (C, _, _) => decide (lw_tbl[c]? = some (Jvm.Cond.classLink J.1.cls i C)) && (decide (u = 3) || decide (u = 4))
        | none => false)
      | _ => false)
    | .invokevirtual i => decide (len = 3) && mj_nx cd k (pc + 3) && decide (¬ a = 999) && mj_okC J i a b c 0 ts && decide (1 ≤ b) && (match mj_ms[a]? with
      | some K => decide (¬ K.1.name = "<init>")
      | none => false)
    | .invokespecial i => decide (len = 3) && mj_nx cd k (pc + 3) && (if a = 999 then decide (lw_tbl[c]? = some (Jvm.Cond.methodLink J.1.cls i Lib.objectInit)) && decide (1 ≤ J.2.2.2.1) && decide (12 ≤ J.2.2.2.2.1) else mj_okC J i a b c 0 ts && decide (1 ≤ b) && (match mj_ms[a]? with
      | some K => decide (K.1.name = "<init>") && decide (K.2.2.1 = none)
      | none => false))
    | .invokestatic i => decide (len = 3) && mj_nx cd k (pc + 3) && decide (¬ a = 999) && (if a = 998 then decide (lw_tbl[c]? = some (Jvm.Cond.methodLink J.1.cls i arraycopyName)) && decide (1 ≤ J.2.2.2.1) && decide (18 ≤ J.2.2.2.2.1) else mj_okC J i a b c 1 ts)
    | .ireturn => decide (len = 1) && ((decide (J.2.2.1 = some .int) && decide (b = 0)) || (decide (J.2.2.1 = some .boolean) && decide (b = 1)))
    | .areturn => decide (len = 1) && (match J.2.2.1 with
      | some (.object _) => true
      | _ => false)
    | .return_ => decide (len = 1) && decide (J.2.2.1 = none)
    | _ => false)
def mj_okR (m lo n : Nat) : Bool := match mj_ms[m]? with
  | some J => (List.range' lo n).all (fun k => match (mj_cd mj_Y m)[k]? with
    | some e => mj_okE J (mj_cd mj_Y m) k e
    | none => true)
  | none => false
-- ===== printed =====
theorem mj_k0_0 : mj_okR 0 0 21 = true := by decide +kernel
theorem mj_k1_0 : mj_okR 1 0 37 = true := by decide +kernel
theorem mj_k2_0 : mj_okR 2 0 19 = true := by decide +kernel
theorem mj_k3_0 : mj_okR 3 0 31 = true := by decide +kernel
theorem mj_k4_0 : mj_okR 4 0 91 = true := by decide +kernel
theorem mj_k5_0 : mj_okR 5 0 69 = true := by decide +kernel
theorem mj_k6_0 : mj_okR 6 0 8 = true := by decide +kernel
theorem mj_k7_0 : mj_okR 7 0 8 = true := by decide +kernel
theorem mj_k8_0 : mj_okR 8 0 5 = true := by decide +kernel
theorem mj_k9_0 : mj_okR 9 0 25 = true := by decide +kernel
theorem mj_k10_0 : mj_okR 10 0 43 = true := by decide +kernel
theorem mj_k11_0 : mj_okR 11 0 16 = true := by decide +kernel
theorem mj_k12_0 : mj_okR 12 0 18 = true := by decide +kernel
theorem mj_k13_0 : mj_okR 13 0 10 = true := by decide +kernel
theorem mj_k14_0 : mj_okR 14 0 20 = true := by decide +kernel
theorem mj_k15_0 : mj_okR 15 0 18 = true := by decide +kernel
theorem mj_k16_0 : mj_okR 16 0 18 = true := by decide +kernel
theorem mj_k17_0 : mj_okR 17 0 20 = true := by decide +kernel
theorem mj_k18_0 : mj_okR 18 0 13 = true := by decide +kernel
theorem mj_k19_0 : mj_okR 19 0 16 = true := by decide +kernel
theorem mj_k20_0 : mj_okR 20 0 6 = true := by decide +kernel
theorem mj_k21_0 : mj_okR 21 0 52 = true := by decide +kernel
theorem mj_k22_0 : mj_okR 22 0 7 = true := by decide +kernel
theorem mj_k23_0 : mj_okR 23 0 31 = true := by decide +kernel
theorem mj_k24_0 : mj_okR 24 0 63 = true := by decide +kernel
theorem mj_k25_0 : mj_okR 25 0 51 = true := by decide +kernel
theorem mj_k26_0 : mj_okR 26 0 32 = true := by decide +kernel
theorem mj_k27_0 : mj_okR 27 0 26 = true := by decide +kernel
theorem mj_k28_0 : mj_okR 28 0 27 = true := by decide +kernel
theorem mj_k29_0 : mj_okR 29 0 31 = true := by decide +kernel
theorem mj_k30_0 : mj_okR 30 0 56 = true := by decide +kernel
theorem mj_k31_0 : mj_okR 31 0 30 = true := by decide +kernel
theorem mj_k32_0 : mj_okR 32 0 23 = true := by decide +kernel
theorem mj_k33_0 : mj_okR 33 0 7 = true := by decide +kernel
theorem mj_k34_0 : mj_okR 34 0 13 = true := by decide +kernel
theorem mj_k35_0 : mj_okR 35 0 14 = true := by decide +kernel
theorem mj_k36_0 : mj_okR 36 0 28 = true := by decide +kernel
theorem mj_k37_0 : mj_okR 37 0 48 = true := by decide +kernel
theorem mj_k38_0 : mj_okR 38 0 16 = true := by decide +kernel
theorem mj_k39_0 : mj_okR 39 0 15 = true := by decide +kernel
theorem mj_k40_0 : mj_okR 40 0 15 = true := by decide +kernel
theorem mj_k41_0 : mj_okR 41 0 49 = true := by decide +kernel
theorem mj_k42_0 : mj_okR 42 0 29 = true := by decide +kernel
theorem mj_k43_0 : mj_okR 43 0 11 = true := by decide +kernel
theorem mj_k44_0 : mj_okR 44 0 27 = true := by decide +kernel
theorem mj_k45_0 : mj_okR 45 0 21 = true := by decide +kernel
theorem mj_k46_0 : mj_okR 46 0 13 = true := by decide +kernel
theorem mj_k47_0 : mj_okR 47 0 44 = true := by decide +kernel
theorem mj_k48_0 : mj_okR 48 0 18 = true := by decide +kernel
theorem mj_k49_0 : mj_okR 49 0 18 = true := by decide +kernel
theorem mj_k50_0 : mj_okR 50 0 26 = true := by decide +kernel
theorem mj_k51_0 : mj_okR 51 0 9 = true := by decide +kernel
theorem mj_k52_0 : mj_okR 52 0 27 = true := by decide +kernel
theorem mj_k53_0 : mj_okR 53 0 8 = true := by decide +kernel
theorem mj_k54_0 : mj_okR 54 0 24 = true := by decide +kernel
theorem mj_k55_0 : mj_okR 55 0 34 = true := by decide +kernel
theorem mj_k56_0 : mj_okR 56 0 18 = true := by decide +kernel
theorem mj_k57_0 : mj_okR 57 0 11 = true := by decide +kernel
theorem mj_k58_0 : mj_okR 58 0 31 = true := by decide +kernel
theorem mj_k59_0 : mj_okR 59 0 26 = true := by decide +kernel
theorem mj_k60_0 : mj_okR 60 0 27 = true := by decide +kernel
theorem mj_k61_0 : mj_okR 61 0 32 = true := by decide +kernel
theorem mj_k62_0 : mj_okR 62 0 36 = true := by decide +kernel
theorem mj_k63_0 : mj_okR 63 0 26 = true := by decide +kernel
theorem mj_k64_0 : mj_okR 64 0 37 = true := by decide +kernel
theorem mj_k65_0 : mj_okR 65 0 30 = true := by decide +kernel
theorem mj_k66_0 : mj_okR 66 0 15 = true := by decide +kernel
theorem mj_k67_0 : mj_okR 67 0 15 = true := by decide +kernel
theorem mj_k68_0 : mj_okR 68 0 60 = true := by decide +kernel
theorem mj_k69_0 : mj_okR 69 0 51 = true := by decide +kernel
theorem mj_k70_0 : mj_okR 70 0 26 = true := by decide +kernel
theorem mj_k71_0 : mj_okR 71 0 22 = true := by decide +kernel
theorem mj_k72_0 : mj_okR 72 0 56 = true := by decide +kernel
theorem mj_k73_0 : mj_okR 73 0 17 = true := by decide +kernel
theorem mj_k74_0 : mj_okR 74 0 19 = true := by decide +kernel
theorem mj_k75_0 : mj_okR 75 0 42 = true := by decide +kernel
theorem mj_k76_0 : mj_okR 76 0 26 = true := by decide +kernel
theorem mj_k77_0 : mj_okR 77 0 35 = true := by decide +kernel
theorem mj_k78_0 : mj_okR 78 0 59 = true := by decide +kernel
theorem mj_k79_0 : mj_okR 79 0 21 = true := by decide +kernel
theorem mj_k80_0 : mj_okR 80 0 23 = true := by decide +kernel
theorem mj_k81_0 : mj_okR 81 0 10 = true := by decide +kernel
theorem mj_k82_0 : mj_okR 82 0 7 = true := by decide +kernel
theorem mj_k83_0 : mj_okR 83 0 53 = true := by decide +kernel
theorem mj_k84_0 : mj_okR 84 0 3 = true := by decide +kernel
theorem mj_k85_0 : mj_okR 85 0 61 = true := by decide +kernel
theorem mj_k86_0 : mj_okR 86 0 10 = true := by decide +kernel
theorem mj_k87_0 : mj_okR 87 0 14 = true := by decide +kernel
theorem mj_k88_0 : mj_okR 88 0 5 = true := by decide +kernel
theorem mj_k89_0 : mj_okR 89 0 12 = true := by decide +kernel
theorem mj_k90_0 : mj_okR 90 0 27 = true := by decide +kernel
theorem mj_k91_0 : mj_okR 91 0 10 = true := by decide +kernel
theorem mj_k92_0 : mj_okR 92 0 15 = true := by decide +kernel
theorem mj_k93_0 : mj_okR 93 0 10 = true := by decide +kernel
theorem mj_k94_0 : mj_okR 94 0 54 = true := by decide +kernel
theorem mj_k95_0 : mj_okR 95 0 95 = true := by decide +kernel
theorem mj_k96_0 : mj_okR 96 0 14 = true := by decide +kernel
theorem mj_k97_0 : mj_okR 97 0 94 = true := by decide +kernel
theorem mj_k98_0 : mj_okR 98 0 27 = true := by decide +kernel
theorem mj_k99_0 : mj_okR 99 0 110 = true := by decide +kernel
theorem mj_k100_0 : mj_okR 100 0 13 = true := by decide +kernel
theorem mj_k101_0 : mj_okR 101 0 57 = true := by decide +kernel
theorem mj_k102_0 : mj_okR 102 0 72 = true := by decide +kernel
theorem mj_k103_0 : mj_okR 103 0 120 = true := by decide +kernel
theorem mj_k103_120 : mj_okR 103 120 19 = true := by decide +kernel
theorem mj_k104_0 : mj_okR 104 0 16 = true := by decide +kernel
theorem mj_k105_0 : mj_okR 105 0 30 = true := by decide +kernel
theorem mj_k106_0 : mj_okR 106 0 33 = true := by decide +kernel
theorem mj_k107_0 : mj_okR 107 0 47 = true := by decide +kernel
theorem mj_k108_0 : mj_okR 108 0 120 = true := by decide +kernel
theorem mj_k108_120 : mj_okR 108 120 24 = true := by decide +kernel
theorem mj_k109_0 : mj_okR 109 0 21 = true := by decide +kernel
theorem mj_k110_0 : mj_okR 110 0 35 = true := by decide +kernel
theorem mj_k111_0 : mj_okR 111 0 34 = true := by decide +kernel
theorem mj_k112_0 : mj_okR 112 0 24 = true := by decide +kernel
theorem mj_k113_0 : mj_okR 113 0 14 = true := by decide +kernel
theorem mj_k114_0 : mj_okR 114 0 8 = true := by decide +kernel
theorem mj_k115_0 : mj_okR 115 0 21 = true := by decide +kernel
theorem mj_k116_0 : mj_okR 116 0 32 = true := by decide +kernel
theorem mj_k117_0 : mj_okR 117 0 60 = true := by decide +kernel
theorem mj_k118_0 : mj_okR 118 0 32 = true := by decide +kernel
theorem mj_k119_0 : mj_okR 119 0 34 = true := by decide +kernel
theorem mj_k120_0 : mj_okR 120 0 76 = true := by decide +kernel
theorem mj_k121_0 : mj_okR 121 0 63 = true := by decide +kernel
theorem mj_k122_0 : mj_okR 122 0 19 = true := by decide +kernel
theorem mj_k123_0 : mj_okR 123 0 35 = true := by decide +kernel
theorem mj_k124_0 : mj_okR 124 0 19 = true := by decide +kernel
theorem mj_k125_0 : mj_okR 125 0 58 = true := by decide +kernel
theorem mj_k126_0 : mj_okR 126 0 10 = true := by decide +kernel
theorem mj_k127_0 : mj_okR 127 0 61 = true := by decide +kernel
theorem mj_k128_0 : mj_okR 128 0 29 = true := by decide +kernel
theorem mj_k129_0 : mj_okR 129 0 75 = true := by decide +kernel
theorem mj_k130_0 : mj_okR 130 0 30 = true := by decide +kernel
theorem mj_k131_0 : mj_okR 131 0 22 = true := by decide +kernel
theorem mj_k132_0 : mj_okR 132 0 16 = true := by decide +kernel
theorem mj_k133_0 : mj_okR 133 0 16 = true := by decide +kernel
theorem mj_k134_0 : mj_okR 134 0 22 = true := by decide +kernel
theorem mj_k135_0 : mj_okR 135 0 54 = true := by decide +kernel
theorem mj_k136_0 : mj_okR 136 0 58 = true := by decide +kernel
theorem mj_k137_0 : mj_okR 137 0 16 = true := by decide +kernel
theorem mj_k138_0 : mj_okR 138 0 29 = true := by decide +kernel
theorem mj_k139_0 : mj_okR 139 0 8 = true := by decide +kernel
theorem mj_k140_0 : mj_okR 140 0 28 = true := by decide +kernel
theorem mj_k141_0 : mj_okR 141 0 52 = true := by decide +kernel
theorem mj_k142_0 : mj_okR 142 0 113 = true := by decide +kernel
theorem mj_k143_0 : mj_okR 143 0 19 = true := by decide +kernel
theorem mj_k144_0 : mj_okR 144 0 81 = true := by decide +kernel
theorem mj_k145_0 : mj_okR 145 0 47 = true := by decide +kernel
theorem mj_k146_0 : mj_okR 146 0 3 = true := by decide +kernel
theorem mj_k147_0 : mj_okR 147 0 19 = true := by decide +kernel
theorem mj_k148_0 : mj_okR 148 0 7 = true := by decide +kernel
theorem mj_k149_0 : mj_okR 149 0 7 = true := by decide +kernel
theorem mj_k150_0 : mj_okR 150 0 120 = true := by decide +kernel
theorem mj_k150_120 : mj_okR 150 120 120 = true := by decide +kernel
theorem mj_k150_240 : mj_okR 150 240 120 = true := by decide +kernel
theorem mj_k150_360 : mj_okR 150 360 120 = true := by decide +kernel
theorem mj_k150_480 : mj_okR 150 480 61 = true := by decide +kernel
end
section
theorem mj_okR_at {m lo n k : Nat} {e : mj_E} (h : mj_okR m lo n = true) (h1 : lo ≤ k) (h2 : k < lo + n) (he : mj_ent mj_Y m k = some e) : ∃ J, mj_ms[m]? = some J ∧ mj_okE J (mj_cd mj_Y m) k e = true := by
  unfold mj_okR at h
  cases hJ : mj_ms[m]? with
  | none => rw [hJ] at h; cases h
  | some J =>
    rw [hJ] at h
    have h3 := List.all_eq_true.mp h k (by rw [List.mem_range'_1]; omega)
    have he' : (mj_cd mj_Y m)[k]? = some e := he
    rw [he'] at h3
    exact ⟨J, rfl, h3⟩
theorem mj_len_le {m k : Nat} {e : mj_E} (n : Nat) (hn : (mj_cd mj_Y m).length = n) (he : mj_ent mj_Y m k = some e) : k < n := by
  rw [← hn]
  exact (List.getElem?_eq_some_iff.mp he).1
theorem mj_q0 {k : Nat} {e : mj_E} (he : mj_ent mj_Y 0 k = some e) : ∃ J, mj_ms[0]? = some J ∧ mj_okE J (mj_cd mj_Y 0) k e = true := by
  have hk := mj_len_le 21 (by decide +kernel) he
  exact mj_okR_at mj_k0_0 (Nat.zero_le _) (by omega) he
theorem mj_q1 {k : Nat} {e : mj_E} (he : mj_ent mj_Y 1 k = some e) : ∃ J, mj_ms[1]? = some J ∧ mj_okE J (mj_cd mj_Y 1) k e = true := by
  have hk := mj_len_le 37 (by decide +kernel) he
  exact mj_okR_at mj_k1_0 (Nat.zero_le _) (by omega) he
theorem mj_q2 {k : Nat} {e : mj_E} (he : mj_ent mj_Y 2 k = some e) : ∃ J, mj_ms[2]? = some J ∧ mj_okE J (mj_cd mj_Y 2) k e = true := by
  have hk := mj_len_le 19 (by decide +kernel) he
  exact mj_okR_at mj_k2_0 (Nat.zero_le _) (by omega) he
theorem mj_q3 {k : Nat} {e : mj_E} (he : mj_ent mj_Y 3 k = some e) : ∃ J, mj_ms[3]? = some J ∧ mj_okE J (mj_cd mj_Y 3) k e = true := by
  have hk := mj_len_le 31 (by decide +kernel) he
  exact mj_okR_at mj_k3_0 (Nat.zero_le _) (by omega) he
theorem mj_q4 {k : Nat} {e : mj_E} (he : mj_ent mj_Y 4 k = some e) : ∃ J, mj_ms[4]? = some J ∧ mj_okE J (mj_cd mj_Y 4) k e = true := by
  have hk := mj_len_le 91 (by decide +kernel) he
  exact mj_okR_at mj_k4_0 (Nat.zero_le _) (by omega) he
theorem mj_q5 {k : Nat} {e : mj_E} (he : mj_ent mj_Y 5 k = some e) : ∃ J, mj_ms[5]? = some J ∧ mj_okE J (mj_cd mj_Y 5) k e = true := by
  have hk := mj_len_le 69 (by decide +kernel) he
  exact mj_okR_at mj_k5_0 (Nat.zero_le _) (by omega) he
theorem mj_q6 {k : Nat} {e : mj_E} (he : mj_ent mj_Y 6 k = some e) : ∃ J, mj_ms[6]? = some J ∧ mj_okE J (mj_cd mj_Y 6) k e = true := by
  have hk := mj_len_le 8 (by decide +kernel) he
  exact mj_okR_at mj_k6_0 (Nat.zero_le _) (by omega) he
theorem mj_q7 {k : Nat} {e : mj_E} (he : mj_ent mj_Y 7 k = some e) : ∃ J, mj_ms[7]? = some J ∧ mj_okE J (mj_cd mj_Y 7) k e = true := by
  have hk := mj_len_le 8 (by decide +kernel) he
  exact mj_okR_at mj_k7_0 (Nat.zero_le _) (by omega) he
theorem mj_q8 {k : Nat} {e : mj_E} (he : mj_ent mj_Y 8 k = some e) : ∃ J, mj_ms[8]? = some J ∧ mj_okE J (mj_cd mj_Y 8) k e = true := by
  have hk := mj_len_le 5 (by decide +kernel) he
  exact mj_okR_at mj_k8_0 (Nat.zero_le _) (by omega) he
theorem mj_q9 {k : Nat} {e : mj_E} (he : mj_ent mj_Y 9 k = some e) : ∃ J, mj_ms[9]? = some J ∧ mj_okE J (mj_cd mj_Y 9) k e = true := by
  have hk := mj_len_le 25 (by decide +kernel) he
  exact mj_okR_at mj_k9_0 (Nat.zero_le _) (by omega) he
theorem mj_q10 {k : Nat} {e : mj_E} (he : mj_ent mj_Y 10 k = some e) : ∃ J, mj_ms[10]? = some J ∧ mj_okE J (mj_cd mj_Y 10) k e = true := by
  have hk := mj_len_le 43 (by decide +kernel) he
  exact mj_okR_at mj_k10_0 (Nat.zero_le _) (by omega) he
theorem mj_q11 {k : Nat} {e : mj_E} (he : mj_ent mj_Y 11 k = some e) : ∃ J, mj_ms[11]? = some J ∧ mj_okE J (mj_cd mj_Y 11) k e = true := by
  have hk := mj_len_le 16 (by decide +kernel) he
  exact mj_okR_at mj_k11_0 (Nat.zero_le _) (by omega) he
theorem mj_q12 {k : Nat} {e : mj_E} (he : mj_ent mj_Y 12 k = some e) : ∃ J, mj_ms[12]? = some J ∧ mj_okE J (mj_cd mj_Y 12) k e = true := by
  have hk := mj_len_le 18 (by decide +kernel) he
  exact mj_okR_at mj_k12_0 (Nat.zero_le _) (by omega) he
theorem mj_q13 {k : Nat} {e : mj_E} (he : mj_ent mj_Y 13 k = some e) : ∃ J, mj_ms[13]? = some J ∧ mj_okE J (mj_cd mj_Y 13) k e = true := by
  have hk := mj_len_le 10 (by decide +kernel) he
  exact mj_okR_at mj_k13_0 (Nat.zero_le _) (by omega) he
theorem mj_q14 {k : Nat} {e : mj_E} (he : mj_ent mj_Y 14 k = some e) : ∃ J, mj_ms[14]? = some J ∧ mj_okE J (mj_cd mj_Y 14) k e = true := by
  have hk := mj_len_le 20 (by decide +kernel) he
  exact mj_okR_at mj_k14_0 (Nat.zero_le _) (by omega) he
theorem mj_q15 {k : Nat} {e : mj_E} (he : mj_ent mj_Y 15 k = some e) : ∃ J, mj_ms[15]? = some J ∧ mj_okE J (mj_cd mj_Y 15) k e = true := by
  have hk := mj_len_le 18 (by decide +kernel) he
  exact mj_okR_at mj_k15_0 (Nat.zero_le _) (by omega) he
theorem mj_q16 {k : Nat} {e : mj_E} (he : mj_ent mj_Y 16 k = some e) : ∃ J, mj_ms[16]? = some J ∧ mj_okE J (mj_cd mj_Y 16) k e = true := by
  have hk := mj_len_le 18 (by decide +kernel) he
  exact mj_okR_at mj_k16_0 (Nat.zero_le _) (by omega) he
theorem mj_q17 {k : Nat} {e : mj_E} (he : mj_ent mj_Y 17 k = some e) : ∃ J, mj_ms[17]? = some J ∧ mj_okE J (mj_cd mj_Y 17) k e = true := by
  have hk := mj_len_le 20 (by decide +kernel) he
  exact mj_okR_at mj_k17_0 (Nat.zero_le _) (by omega) he
theorem mj_q18 {k : Nat} {e : mj_E} (he : mj_ent mj_Y 18 k = some e) : ∃ J, mj_ms[18]? = some J ∧ mj_okE J (mj_cd mj_Y 18) k e = true := by
  have hk := mj_len_le 13 (by decide +kernel) he
  exact mj_okR_at mj_k18_0 (Nat.zero_le _) (by omega) he
theorem mj_q19 {k : Nat} {e : mj_E} (he : mj_ent mj_Y 19 k = some e) : ∃ J, mj_ms[19]? = some J ∧ mj_okE J (mj_cd mj_Y 19) k e = true := by
  have hk := mj_len_le 16 (by decide +kernel) he
  exact mj_okR_at mj_k19_0 (Nat.zero_le _) (by omega) he
theorem mj_q20 {k : Nat} {e : mj_E} (he : mj_ent mj_Y 20 k = some e) : ∃ J, mj_ms[20]? = some J ∧ mj_okE J (mj_cd mj_Y 20) k e = true := by
  have hk := mj_len_le 6 (by decide +kernel) he
  exact mj_okR_at mj_k20_0 (Nat.zero_le _) (by omega) he
theorem mj_q21 {k : Nat} {e : mj_E} (he : mj_ent mj_Y 21 k = some e) : ∃ J, mj_ms[21]? = some J ∧ mj_okE J (mj_cd mj_Y 21) k e = true := by
  have hk := mj_len_le 52 (by decide +kernel) he
  exact mj_okR_at mj_k21_0 (Nat.zero_le _) (by omega) he
theorem mj_q22 {k : Nat} {e : mj_E} (he : mj_ent mj_Y 22 k = some e) : ∃ J, mj_ms[22]? = some J ∧ mj_okE J (mj_cd mj_Y 22) k e = true := by
  have hk := mj_len_le 7 (by decide +kernel) he
  exact mj_okR_at mj_k22_0 (Nat.zero_le _) (by omega) he
theorem mj_q23 {k : Nat} {e : mj_E} (he : mj_ent mj_Y 23 k = some e) : ∃ J, mj_ms[23]? = some J ∧ mj_okE J (mj_cd mj_Y 23) k e = true := by
  have hk := mj_len_le 31 (by decide +kernel) he
  exact mj_okR_at mj_k23_0 (Nat.zero_le _) (by omega) he
theorem mj_q24 {k : Nat} {e : mj_E} (he : mj_ent mj_Y 24 k = some e) : ∃ J, mj_ms[24]? = some J ∧ mj_okE J (mj_cd mj_Y 24) k e = true := by
  have hk := mj_len_le 63 (by decide +kernel) he
  exact mj_okR_at mj_k24_0 (Nat.zero_le _) (by omega) he
theorem mj_q25 {k : Nat} {e : mj_E} (he : mj_ent mj_Y 25 k = some e) : ∃ J, mj_ms[25]? = some J ∧ mj_okE J (mj_cd mj_Y 25) k e = true := by
  have hk := mj_len_le 51 (by decide +kernel) he
  exact mj_okR_at mj_k25_0 (Nat.zero_le _) (by omega) he
theorem mj_q26 {k : Nat} {e : mj_E} (he : mj_ent mj_Y 26 k = some e) : ∃ J, mj_ms[26]? = some J ∧ mj_okE J (mj_cd mj_Y 26) k e = true := by
  have hk := mj_len_le 32 (by decide +kernel) he
  exact mj_okR_at mj_k26_0 (Nat.zero_le _) (by omega) he
theorem mj_q27 {k : Nat} {e : mj_E} (he : mj_ent mj_Y 27 k = some e) : ∃ J, mj_ms[27]? = some J ∧ mj_okE J (mj_cd mj_Y 27) k e = true := by
  have hk := mj_len_le 26 (by decide +kernel) he
  exact mj_okR_at mj_k27_0 (Nat.zero_le _) (by omega) he
theorem mj_q28 {k : Nat} {e : mj_E} (he : mj_ent mj_Y 28 k = some e) : ∃ J, mj_ms[28]? = some J ∧ mj_okE J (mj_cd mj_Y 28) k e = true := by
  have hk := mj_len_le 27 (by decide +kernel) he
  exact mj_okR_at mj_k28_0 (Nat.zero_le _) (by omega) he
theorem mj_q29 {k : Nat} {e : mj_E} (he : mj_ent mj_Y 29 k = some e) : ∃ J, mj_ms[29]? = some J ∧ mj_okE J (mj_cd mj_Y 29) k e = true := by
  have hk := mj_len_le 31 (by decide +kernel) he
  exact mj_okR_at mj_k29_0 (Nat.zero_le _) (by omega) he
theorem mj_q30 {k : Nat} {e : mj_E} (he : mj_ent mj_Y 30 k = some e) : ∃ J, mj_ms[30]? = some J ∧ mj_okE J (mj_cd mj_Y 30) k e = true := by
  have hk := mj_len_le 56 (by decide +kernel) he
  exact mj_okR_at mj_k30_0 (Nat.zero_le _) (by omega) he
theorem mj_q31 {k : Nat} {e : mj_E} (he : mj_ent mj_Y 31 k = some e) : ∃ J, mj_ms[31]? = some J ∧ mj_okE J (mj_cd mj_Y 31) k e = true := by
  have hk := mj_len_le 30 (by decide +kernel) he
  exact mj_okR_at mj_k31_0 (Nat.zero_le _) (by omega) he
theorem mj_q32 {k : Nat} {e : mj_E} (he : mj_ent mj_Y 32 k = some e) : ∃ J, mj_ms[32]? = some J ∧ mj_okE J (mj_cd mj_Y 32) k e = true := by
  have hk := mj_len_le 23 (by decide +kernel) he
  exact mj_okR_at mj_k32_0 (Nat.zero_le _) (by omega) he
theorem mj_q33 {k : Nat} {e : mj_E} (he : mj_ent mj_Y 33 k = some e) : ∃ J, mj_ms[33]? = some J ∧ mj_okE J (mj_cd mj_Y 33) k e = true := by
  have hk := mj_len_le 7 (by decide +kernel) he
  exact mj_okR_at mj_k33_0 (Nat.zero_le _) (by omega) he
theorem mj_q34 {k : Nat} {e : mj_E} (he : mj_ent mj_Y 34 k = some e) : ∃ J, mj_ms[34]? = some J ∧ mj_okE J (mj_cd mj_Y 34) k e = true := by
  have hk := mj_len_le 13 (by decide +kernel) he
  exact mj_okR_at mj_k34_0 (Nat.zero_le _) (by omega) he
theorem mj_q35 {k : Nat} {e : mj_E} (he : mj_ent mj_Y 35 k = some e) : ∃ J, mj_ms[35]? = some J ∧ mj_okE J (mj_cd mj_Y 35) k e = true := by
  have hk := mj_len_le 14 (by decide +kernel) he
  exact mj_okR_at mj_k35_0 (Nat.zero_le _) (by omega) he
theorem mj_q36 {k : Nat} {e : mj_E} (he : mj_ent mj_Y 36 k = some e) : ∃ J, mj_ms[36]? = some J ∧ mj_okE J (mj_cd mj_Y 36) k e = true := by
  have hk := mj_len_le 28 (by decide +kernel) he
  exact mj_okR_at mj_k36_0 (Nat.zero_le _) (by omega) he
theorem mj_q37 {k : Nat} {e : mj_E} (he : mj_ent mj_Y 37 k = some e) : ∃ J, mj_ms[37]? = some J ∧ mj_okE J (mj_cd mj_Y 37) k e = true := by
  have hk := mj_len_le 48 (by decide +kernel) he
  exact mj_okR_at mj_k37_0 (Nat.zero_le _) (by omega) he
theorem mj_q38 {k : Nat} {e : mj_E} (he : mj_ent mj_Y 38 k = some e) : ∃ J, mj_ms[38]? = some J ∧ mj_okE J (mj_cd mj_Y 38) k e = true := by
  have hk := mj_len_le 16 (by decide +kernel) he
  exact mj_okR_at mj_k38_0 (Nat.zero_le _) (by omega) he
theorem mj_q39 {k : Nat} {e : mj_E} (he : mj_ent mj_Y 39 k = some e) : ∃ J, mj_ms[39]? = some J ∧ mj_okE J (mj_cd mj_Y 39) k e = true := by
  have hk := mj_len_le 15 (by decide +kernel) he
  exact mj_okR_at mj_k39_0 (Nat.zero_le _) (by omega) he
theorem mj_q40 {k : Nat} {e : mj_E} (he : mj_ent mj_Y 40 k = some e) : ∃ J, mj_ms[40]? = some J ∧ mj_okE J (mj_cd mj_Y 40) k e = true := by
  have hk := mj_len_le 15 (by decide +kernel) he
  exact mj_okR_at mj_k40_0 (Nat.zero_le _) (by omega) he
theorem mj_q41 {k : Nat} {e : mj_E} (he : mj_ent mj_Y 41 k = some e) : ∃ J, mj_ms[41]? = some J ∧ mj_okE J (mj_cd mj_Y 41) k e = true := by
  have hk := mj_len_le 49 (by decide +kernel) he
  exact mj_okR_at mj_k41_0 (Nat.zero_le _) (by omega) he
theorem mj_q42 {k : Nat} {e : mj_E} (he : mj_ent mj_Y 42 k = some e) : ∃ J, mj_ms[42]? = some J ∧ mj_okE J (mj_cd mj_Y 42) k e = true := by
  have hk := mj_len_le 29 (by decide +kernel) he
  exact mj_okR_at mj_k42_0 (Nat.zero_le _) (by omega) he
theorem mj_q43 {k : Nat} {e : mj_E} (he : mj_ent mj_Y 43 k = some e) : ∃ J, mj_ms[43]? = some J ∧ mj_okE J (mj_cd mj_Y 43) k e = true := by
  have hk := mj_len_le 11 (by decide +kernel) he
  exact mj_okR_at mj_k43_0 (Nat.zero_le _) (by omega) he
theorem mj_q44 {k : Nat} {e : mj_E} (he : mj_ent mj_Y 44 k = some e) : ∃ J, mj_ms[44]? = some J ∧ mj_okE J (mj_cd mj_Y 44) k e = true := by
  have hk := mj_len_le 27 (by decide +kernel) he
  exact mj_okR_at mj_k44_0 (Nat.zero_le _) (by omega) he
theorem mj_q45 {k : Nat} {e : mj_E} (he : mj_ent mj_Y 45 k = some e) : ∃ J, mj_ms[45]? = some J ∧ mj_okE J (mj_cd mj_Y 45) k e = true := by
  have hk := mj_len_le 21 (by decide +kernel) he
  exact mj_okR_at mj_k45_0 (Nat.zero_le _) (by omega) he
theorem mj_q46 {k : Nat} {e : mj_E} (he : mj_ent mj_Y 46 k = some e) : ∃ J, mj_ms[46]? = some J ∧ mj_okE J (mj_cd mj_Y 46) k e = true := by
  have hk := mj_len_le 13 (by decide +kernel) he
  exact mj_okR_at mj_k46_0 (Nat.zero_le _) (by omega) he
theorem mj_q47 {k : Nat} {e : mj_E} (he : mj_ent mj_Y 47 k = some e) : ∃ J, mj_ms[47]? = some J ∧ mj_okE J (mj_cd mj_Y 47) k e = true := by
  have hk := mj_len_le 44 (by decide +kernel) he
  exact mj_okR_at mj_k47_0 (Nat.zero_le _) (by omega) he
theorem mj_q48 {k : Nat} {e : mj_E} (he : mj_ent mj_Y 48 k = some e) : ∃ J, mj_ms[48]? = some J ∧ mj_okE J (mj_cd mj_Y 48) k e = true := by
  have hk := mj_len_le 18 (by decide +kernel) he
  exact mj_okR_at mj_k48_0 (Nat.zero_le _) (by omega) he
theorem mj_q49 {k : Nat} {e : mj_E} (he : mj_ent mj_Y 49 k = some e) : ∃ J, mj_ms[49]? = some J ∧ mj_okE J (mj_cd mj_Y 49) k e = true := by
  have hk := mj_len_le 18 (by decide +kernel) he
  exact mj_okR_at mj_k49_0 (Nat.zero_le _) (by omega) he
theorem mj_q50 {k : Nat} {e : mj_E} (he : mj_ent mj_Y 50 k = some e) : ∃ J, mj_ms[50]? = some J ∧ mj_okE J (mj_cd mj_Y 50) k e = true := by
  have hk := mj_len_le 26 (by decide +kernel) he
  exact mj_okR_at mj_k50_0 (Nat.zero_le _) (by omega) he
theorem mj_q51 {k : Nat} {e : mj_E} (he : mj_ent mj_Y 51 k = some e) : ∃ J, mj_ms[51]? = some J ∧ mj_okE J (mj_cd mj_Y 51) k e = true := by
  have hk := mj_len_le 9 (by decide +kernel) he
  exact mj_okR_at mj_k51_0 (Nat.zero_le _) (by omega) he
theorem mj_q52 {k : Nat} {e : mj_E} (he : mj_ent mj_Y 52 k = some e) : ∃ J, mj_ms[52]? = some J ∧ mj_okE J (mj_cd mj_Y 52) k e = true := by
  have hk := mj_len_le 27 (by decide +kernel) he
  exact mj_okR_at mj_k52_0 (Nat.zero_le _) (by omega) he
theorem mj_q53 {k : Nat} {e : mj_E} (he : mj_ent mj_Y 53 k = some e) : ∃ J, mj_ms[53]? = some J ∧ mj_okE J (mj_cd mj_Y 53) k e = true := by
  have hk := mj_len_le 8 (by decide +kernel) he
  exact mj_okR_at mj_k53_0 (Nat.zero_le _) (by omega) he
theorem mj_q54 {k : Nat} {e : mj_E} (he : mj_ent mj_Y 54 k = some e) : ∃ J, mj_ms[54]? = some J ∧ mj_okE J (mj_cd mj_Y 54) k e = true := by
  have hk := mj_len_le 24 (by decide +kernel) he
  exact mj_okR_at mj_k54_0 (Nat.zero_le _) (by omega) he
theorem mj_q55 {k : Nat} {e : mj_E} (he : mj_ent mj_Y 55 k = some e) : ∃ J, mj_ms[55]? = some J ∧ mj_okE J (mj_cd mj_Y 55) k e = true := by
  have hk := mj_len_le 34 (by decide +kernel) he
  exact mj_okR_at mj_k55_0 (Nat.zero_le _) (by omega) he
theorem mj_q56 {k : Nat} {e : mj_E} (he : mj_ent mj_Y 56 k = some e) : ∃ J, mj_ms[56]? = some J ∧ mj_okE J (mj_cd mj_Y 56) k e = true := by
  have hk := mj_len_le 18 (by decide +kernel) he
  exact mj_okR_at mj_k56_0 (Nat.zero_le _) (by omega) he
theorem mj_q57 {k : Nat} {e : mj_E} (he : mj_ent mj_Y 57 k = some e) : ∃ J, mj_ms[57]? = some J ∧ mj_okE J (mj_cd mj_Y 57) k e = true := by
  have hk := mj_len_le 11 (by decide +kernel) he
  exact mj_okR_at mj_k57_0 (Nat.zero_le _) (by omega) he
theorem mj_q58 {k : Nat} {e : mj_E} (he : mj_ent mj_Y 58 k = some e) : ∃ J, mj_ms[58]? = some J ∧ mj_okE J (mj_cd mj_Y 58) k e = true := by
  have hk := mj_len_le 31 (by decide +kernel) he
  exact mj_okR_at mj_k58_0 (Nat.zero_le _) (by omega) he
theorem mj_q59 {k : Nat} {e : mj_E} (he : mj_ent mj_Y 59 k = some e) : ∃ J, mj_ms[59]? = some J ∧ mj_okE J (mj_cd mj_Y 59) k e = true := by
  have hk := mj_len_le 26 (by decide +kernel) he
  exact mj_okR_at mj_k59_0 (Nat.zero_le _) (by omega) he
theorem mj_q60 {k : Nat} {e : mj_E} (he : mj_ent mj_Y 60 k = some e) : ∃ J, mj_ms[60]? = some J ∧ mj_okE J (mj_cd mj_Y 60) k e = true := by
  have hk := mj_len_le 27 (by decide +kernel) he
  exact mj_okR_at mj_k60_0 (Nat.zero_le _) (by omega) he
theorem mj_q61 {k : Nat} {e : mj_E} (he : mj_ent mj_Y 61 k = some e) : ∃ J, mj_ms[61]? = some J ∧ mj_okE J (mj_cd mj_Y 61) k e = true := by
  have hk := mj_len_le 32 (by decide +kernel) he
  exact mj_okR_at mj_k61_0 (Nat.zero_le _) (by omega) he
theorem mj_q62 {k : Nat} {e : mj_E} (he : mj_ent mj_Y 62 k = some e) : ∃ J, mj_ms[62]? = some J ∧ mj_okE J (mj_cd mj_Y 62) k e = true := by
  have hk := mj_len_le 36 (by decide +kernel) he
  exact mj_okR_at mj_k62_0 (Nat.zero_le _) (by omega) he
theorem mj_q63 {k : Nat} {e : mj_E} (he : mj_ent mj_Y 63 k = some e) : ∃ J, mj_ms[63]? = some J ∧ mj_okE J (mj_cd mj_Y 63) k e = true := by
  have hk := mj_len_le 26 (by decide +kernel) he
  exact mj_okR_at mj_k63_0 (Nat.zero_le _) (by omega) he
theorem mj_q64 {k : Nat} {e : mj_E} (he : mj_ent mj_Y 64 k = some e) : ∃ J, mj_ms[64]? = some J ∧ mj_okE J (mj_cd mj_Y 64) k e = true := by
  have hk := mj_len_le 37 (by decide +kernel) he
  exact mj_okR_at mj_k64_0 (Nat.zero_le _) (by omega) he
theorem mj_q65 {k : Nat} {e : mj_E} (he : mj_ent mj_Y 65 k = some e) : ∃ J, mj_ms[65]? = some J ∧ mj_okE J (mj_cd mj_Y 65) k e = true := by
  have hk := mj_len_le 30 (by decide +kernel) he
  exact mj_okR_at mj_k65_0 (Nat.zero_le _) (by omega) he
theorem mj_q66 {k : Nat} {e : mj_E} (he : mj_ent mj_Y 66 k = some e) : ∃ J, mj_ms[66]? = some J ∧ mj_okE J (mj_cd mj_Y 66) k e = true := by
  have hk := mj_len_le 15 (by decide +kernel) he
  exact mj_okR_at mj_k66_0 (Nat.zero_le _) (by omega) he
theorem mj_q67 {k : Nat} {e : mj_E} (he : mj_ent mj_Y 67 k = some e) : ∃ J, mj_ms[67]? = some J ∧ mj_okE J (mj_cd mj_Y 67) k e = true := by
  have hk := mj_len_le 15 (by decide +kernel) he
  exact mj_okR_at mj_k67_0 (Nat.zero_le _) (by omega) he
theorem mj_q68 {k : Nat} {e : mj_E} (he : mj_ent mj_Y 68 k = some e) : ∃ J, mj_ms[68]? = some J ∧ mj_okE J (mj_cd mj_Y 68) k e = true := by
  have hk := mj_len_le 60 (by decide +kernel) he
  exact mj_okR_at mj_k68_0 (Nat.zero_le _) (by omega) he
theorem mj_q69 {k : Nat} {e : mj_E} (he : mj_ent mj_Y 69 k = some e) : ∃ J, mj_ms[69]? = some J ∧ mj_okE J (mj_cd mj_Y 69) k e = true := by
  have hk := mj_len_le 51 (by decide +kernel) he
  exact mj_okR_at mj_k69_0 (Nat.zero_le _) (by omega) he
theorem mj_q70 {k : Nat} {e : mj_E} (he : mj_ent mj_Y 70 k = some e) : ∃ J, mj_ms[70]? = some J ∧ mj_okE J (mj_cd mj_Y 70) k e = true := by
  have hk := mj_len_le 26 (by decide +kernel) he
  exact mj_okR_at mj_k70_0 (Nat.zero_le _) (by omega) he
theorem mj_q71 {k : Nat} {e : mj_E} (he : mj_ent mj_Y 71 k = some e) : ∃ J, mj_ms[71]? = some J ∧ mj_okE J (mj_cd mj_Y 71) k e = true := by
  have hk := mj_len_le 22 (by decide +kernel) he
  exact mj_okR_at mj_k71_0 (Nat.zero_le _) (by omega) he
theorem mj_q72 {k : Nat} {e : mj_E} (he : mj_ent mj_Y 72 k = some e) : ∃ J, mj_ms[72]? = some J ∧ mj_okE J (mj_cd mj_Y 72) k e = true := by
  have hk := mj_len_le 56 (by decide +kernel) he
  exact mj_okR_at mj_k72_0 (Nat.zero_le _) (by omega) he
theorem mj_q73 {k : Nat} {e : mj_E} (he : mj_ent mj_Y 73 k = some e) : ∃ J, mj_ms[73]? = some J ∧ mj_okE J (mj_cd mj_Y 73) k e = true := by
  have hk := mj_len_le 17 (by decide +kernel) he
  exact mj_okR_at mj_k73_0 (Nat.zero_le _) (by omega) he
theorem mj_q74 {k : Nat} {e : mj_E} (he : mj_ent mj_Y 74 k = some e) : ∃ J, mj_ms[74]? = some J ∧ mj_okE J (mj_cd mj_Y 74) k e = true := by
  have hk := mj_len_le 19 (by decide +kernel) he
  exact mj_okR_at mj_k74_0 (Nat.zero_le _) (by omega) he
theorem mj_q75 {k : Nat} {e : mj_E} (he : mj_ent mj_Y 75 k = some e) : ∃ J, mj_ms[75]? = some J ∧ mj_okE J (mj_cd mj_Y 75) k e = true := by
  have hk := mj_len_le 42 (by decide +kernel) he
  exact mj_okR_at mj_k75_0 (Nat.zero_le _) (by omega) he
theorem mj_q76 {k : Nat} {e : mj_E} (he : mj_ent mj_Y 76 k = some e) : ∃ J, mj_ms[76]? = some J ∧ mj_okE J (mj_cd mj_Y 76) k e = true := by
  have hk := mj_len_le 26 (by decide +kernel) he
  exact mj_okR_at mj_k76_0 (Nat.zero_le _) (by omega) he
theorem mj_q77 {k : Nat} {e : mj_E} (he : mj_ent mj_Y 77 k = some e) : ∃ J, mj_ms[77]? = some J ∧ mj_okE J (mj_cd mj_Y 77) k e = true := by
  have hk := mj_len_le 35 (by decide +kernel) he
  exact mj_okR_at mj_k77_0 (Nat.zero_le _) (by omega) he
theorem mj_q78 {k : Nat} {e : mj_E} (he : mj_ent mj_Y 78 k = some e) : ∃ J, mj_ms[78]? = some J ∧ mj_okE J (mj_cd mj_Y 78) k e = true := by
  have hk := mj_len_le 59 (by decide +kernel) he
  exact mj_okR_at mj_k78_0 (Nat.zero_le _) (by omega) he
theorem mj_q79 {k : Nat} {e : mj_E} (he : mj_ent mj_Y 79 k = some e) : ∃ J, mj_ms[79]? = some J ∧ mj_okE J (mj_cd mj_Y 79) k e = true := by
  have hk := mj_len_le 21 (by decide +kernel) he
  exact mj_okR_at mj_k79_0 (Nat.zero_le _) (by omega) he
theorem mj_q80 {k : Nat} {e : mj_E} (he : mj_ent mj_Y 80 k = some e) : ∃ J, mj_ms[80]? = some J ∧ mj_okE J (mj_cd mj_Y 80) k e = true := by
  have hk := mj_len_le 23 (by decide +kernel) he
  exact mj_okR_at mj_k80_0 (Nat.zero_le _) (by omega) he
theorem mj_q81 {k : Nat} {e : mj_E} (he : mj_ent mj_Y 81 k = some e) : ∃ J, mj_ms[81]? = some J ∧ mj_okE J (mj_cd mj_Y 81) k e = true := by
  have hk := mj_len_le 10 (by decide +kernel) he
  exact mj_okR_at mj_k81_0 (Nat.zero_le _) (by omega) he
theorem mj_q82 {k : Nat} {e : mj_E} (he : mj_ent mj_Y 82 k = some e) : ∃ J, mj_ms[82]? = some J ∧ mj_okE J (mj_cd mj_Y 82) k e = true := by
  have hk := mj_len_le 7 (by decide +kernel) he
  exact mj_okR_at mj_k82_0 (Nat.zero_le _) (by omega) he
theorem mj_q83 {k : Nat} {e : mj_E} (he : mj_ent mj_Y 83 k = some e) : ∃ J, mj_ms[83]? = some J ∧ mj_okE J (mj_cd mj_Y 83) k e = true := by
  have hk := mj_len_le 53 (by decide +kernel) he
  exact mj_okR_at mj_k83_0 (Nat.zero_le _) (by omega) he
theorem mj_q84 {k : Nat} {e : mj_E} (he : mj_ent mj_Y 84 k = some e) : ∃ J, mj_ms[84]? = some J ∧ mj_okE J (mj_cd mj_Y 84) k e = true := by
  have hk := mj_len_le 3 (by decide +kernel) he
  exact mj_okR_at mj_k84_0 (Nat.zero_le _) (by omega) he
theorem mj_q85 {k : Nat} {e : mj_E} (he : mj_ent mj_Y 85 k = some e) : ∃ J, mj_ms[85]? = some J ∧ mj_okE J (mj_cd mj_Y 85) k e = true := by
  have hk := mj_len_le 61 (by decide +kernel) he
  exact mj_okR_at mj_k85_0 (Nat.zero_le _) (by omega) he
theorem mj_q86 {k : Nat} {e : mj_E} (he : mj_ent mj_Y 86 k = some e) : ∃ J, mj_ms[86]? = some J ∧ mj_okE J (mj_cd mj_Y 86) k e = true := by
  have hk := mj_len_le 10 (by decide +kernel) he
  exact mj_okR_at mj_k86_0 (Nat.zero_le _) (by omega) he
theorem mj_q87 {k : Nat} {e : mj_E} (he : mj_ent mj_Y 87 k = some e) : ∃ J, mj_ms[87]? = some J ∧ mj_okE J (mj_cd mj_Y 87) k e = true := by
  have hk := mj_len_le 14 (by decide +kernel) he
  exact mj_okR_at mj_k87_0 (Nat.zero_le _) (by omega) he
theorem mj_q88 {k : Nat} {e : mj_E} (he : mj_ent mj_Y 88 k = some e) : ∃ J, mj_ms[88]? = some J ∧ mj_okE J (mj_cd mj_Y 88) k e = true := by
  have hk := mj_len_le 5 (by decide +kernel) he
  exact mj_okR_at mj_k88_0 (Nat.zero_le _) (by omega) he
theorem mj_q89 {k : Nat} {e : mj_E} (he : mj_ent mj_Y 89 k = some e) : ∃ J, mj_ms[89]? = some J ∧ mj_okE J (mj_cd mj_Y 89) k e = true := by
  have hk := mj_len_le 12 (by decide +kernel) he
  exact mj_okR_at mj_k89_0 (Nat.zero_le _) (by omega) he
theorem mj_q90 {k : Nat} {e : mj_E} (he : mj_ent mj_Y 90 k = some e) : ∃ J, mj_ms[90]? = some J ∧ mj_okE J (mj_cd mj_Y 90) k e = true := by
  have hk := mj_len_le 27 (by decide +kernel) he
  exact mj_okR_at mj_k90_0 (Nat.zero_le _) (by omega) he
theorem mj_q91 {k : Nat} {e : mj_E} (he : mj_ent mj_Y 91 k = some e) : ∃ J, mj_ms[91]? = some J ∧ mj_okE J (mj_cd mj_Y 91) k e = true := by
  have hk := mj_len_le 10 (by decide +kernel) he
  exact mj_okR_at mj_k91_0 (Nat.zero_le _) (by omega) he
theorem mj_q92 {k : Nat} {e : mj_E} (he : mj_ent mj_Y 92 k = some e) : ∃ J, mj_ms[92]? = some J ∧ mj_okE J (mj_cd mj_Y 92) k e = true := by
  have hk := mj_len_le 15 (by decide +kernel) he
  exact mj_okR_at mj_k92_0 (Nat.zero_le _) (by omega) he
theorem mj_q93 {k : Nat} {e : mj_E} (he : mj_ent mj_Y 93 k = some e) : ∃ J, mj_ms[93]? = some J ∧ mj_okE J (mj_cd mj_Y 93) k e = true := by
  have hk := mj_len_le 10 (by decide +kernel) he
  exact mj_okR_at mj_k93_0 (Nat.zero_le _) (by omega) he
theorem mj_q94 {k : Nat} {e : mj_E} (he : mj_ent mj_Y 94 k = some e) : ∃ J, mj_ms[94]? = some J ∧ mj_okE J (mj_cd mj_Y 94) k e = true := by
  have hk := mj_len_le 54 (by decide +kernel) he
  exact mj_okR_at mj_k94_0 (Nat.zero_le _) (by omega) he
theorem mj_q95 {k : Nat} {e : mj_E} (he : mj_ent mj_Y 95 k = some e) : ∃ J, mj_ms[95]? = some J ∧ mj_okE J (mj_cd mj_Y 95) k e = true := by
  have hk := mj_len_le 95 (by decide +kernel) he
  exact mj_okR_at mj_k95_0 (Nat.zero_le _) (by omega) he
theorem mj_q96 {k : Nat} {e : mj_E} (he : mj_ent mj_Y 96 k = some e) : ∃ J, mj_ms[96]? = some J ∧ mj_okE J (mj_cd mj_Y 96) k e = true := by
  have hk := mj_len_le 14 (by decide +kernel) he
  exact mj_okR_at mj_k96_0 (Nat.zero_le _) (by omega) he
theorem mj_q97 {k : Nat} {e : mj_E} (he : mj_ent mj_Y 97 k = some e) : ∃ J, mj_ms[97]? = some J ∧ mj_okE J (mj_cd mj_Y 97) k e = true := by
  have hk := mj_len_le 94 (by decide +kernel) he
  exact mj_okR_at mj_k97_0 (Nat.zero_le _) (by omega) he
theorem mj_q98 {k : Nat} {e : mj_E} (he : mj_ent mj_Y 98 k = some e) : ∃ J, mj_ms[98]? = some J ∧ mj_okE J (mj_cd mj_Y 98) k e = true := by
  have hk := mj_len_le 27 (by decide +kernel) he
  exact mj_okR_at mj_k98_0 (Nat.zero_le _) (by omega) he
theorem mj_q99 {k : Nat} {e : mj_E} (he : mj_ent mj_Y 99 k = some e) : ∃ J, mj_ms[99]? = some J ∧ mj_okE J (mj_cd mj_Y 99) k e = true := by
  have hk := mj_len_le 110 (by decide +kernel) he
  exact mj_okR_at mj_k99_0 (Nat.zero_le _) (by omega) he
theorem mj_q100 {k : Nat} {e : mj_E} (he : mj_ent mj_Y 100 k = some e) : ∃ J, mj_ms[100]? = some J ∧ mj_okE J (mj_cd mj_Y 100) k e = true := by
  have hk := mj_len_le 13 (by decide +kernel) he
  exact mj_okR_at mj_k100_0 (Nat.zero_le _) (by omega) he
theorem mj_q101 {k : Nat} {e : mj_E} (he : mj_ent mj_Y 101 k = some e) : ∃ J, mj_ms[101]? = some J ∧ mj_okE J (mj_cd mj_Y 101) k e = true := by
  have hk := mj_len_le 57 (by decide +kernel) he
  exact mj_okR_at mj_k101_0 (Nat.zero_le _) (by omega) he
theorem mj_q102 {k : Nat} {e : mj_E} (he : mj_ent mj_Y 102 k = some e) : ∃ J, mj_ms[102]? = some J ∧ mj_okE J (mj_cd mj_Y 102) k e = true := by
  have hk := mj_len_le 72 (by decide +kernel) he
  exact mj_okR_at mj_k102_0 (Nat.zero_le _) (by omega) he
theorem mj_q103 {k : Nat} {e : mj_E} (he : mj_ent mj_Y 103 k = some e) : ∃ J, mj_ms[103]? = some J ∧ mj_okE J (mj_cd mj_Y 103) k e = true := by
  have hk := mj_len_le 139 (by decide +kernel) he
  by_cases h0 : k < 120
  · exact mj_okR_at mj_k103_0 (by omega) (by omega) he
  exact mj_okR_at mj_k103_120 (by omega) (by omega) he
theorem mj_q104 {k : Nat} {e : mj_E} (he : mj_ent mj_Y 104 k = some e) : ∃ J, mj_ms[104]? = some J ∧ mj_okE J (mj_cd mj_Y 104) k e = true := by
  have hk := mj_len_le 16 (by decide +kernel) he
  exact mj_okR_at mj_k104_0 (Nat.zero_le _) (by omega) he
theorem mj_q105 {k : Nat} {e : mj_E} (he : mj_ent mj_Y 105 k = some e) : ∃ J, mj_ms[105]? = some J ∧ mj_okE J (mj_cd mj_Y 105) k e = true := by
  have hk := mj_len_le 30 (by decide +kernel) he
  exact mj_okR_at mj_k105_0 (Nat.zero_le _) (by omega) he
theorem mj_q106 {k : Nat} {e : mj_E} (he : mj_ent mj_Y 106 k = some e) : ∃ J, mj_ms[106]? = some J ∧ mj_okE J (mj_cd mj_Y 106) k e = true := by
  have hk := mj_len_le 33 (by decide +kernel) he
  exact mj_okR_at mj_k106_0 (Nat.zero_le _) (by omega) he
theorem mj_q107 {k : Nat} {e : mj_E} (he : mj_ent mj_Y 107 k = some e) : ∃ J, mj_ms[107]? = some J ∧ mj_okE J (mj_cd mj_Y 107) k e = true := by
  have hk := mj_len_le 47 (by decide +kernel) he
  exact mj_okR_at mj_k107_0 (Nat.zero_le _) (by omega) he
theorem mj_q108 {k : Nat} {e : mj_E} (he : mj_ent mj_Y 108 k = some e) : ∃ J, mj_ms[108]? = some J ∧ mj_okE J (mj_cd mj_Y 108) k e = true := by
  have hk := mj_len_le 144 (by decide +kernel) he
  by_cases h0 : k < 120
  · exact mj_okR_at mj_k108_0 (by omega) (by omega) he
  exact mj_okR_at mj_k108_120 (by omega) (by omega) he
theorem mj_q109 {k : Nat} {e : mj_E} (he : mj_ent mj_Y 109 k = some e) : ∃ J, mj_ms[109]? = some J ∧ mj_okE J (mj_cd mj_Y 109) k e = true := by
  have hk := mj_len_le 21 (by decide +kernel) he
  exact mj_okR_at mj_k109_0 (Nat.zero_le _) (by omega) he
theorem mj_q110 {k : Nat} {e : mj_E} (he : mj_ent mj_Y 110 k = some e) : ∃ J, mj_ms[110]? = some J ∧ mj_okE J (mj_cd mj_Y 110) k e = true := by
  have hk := mj_len_le 35 (by decide +kernel) he
  exact mj_okR_at mj_k110_0 (Nat.zero_le _) (by omega) he
theorem mj_q111 {k : Nat} {e : mj_E} (he : mj_ent mj_Y 111 k = some e) : ∃ J, mj_ms[111]? = some J ∧ mj_okE J (mj_cd mj_Y 111) k e = true := by
  have hk := mj_len_le 34 (by decide +kernel) he
  exact mj_okR_at mj_k111_0 (Nat.zero_le _) (by omega) he
theorem mj_q112 {k : Nat} {e : mj_E} (he : mj_ent mj_Y 112 k = some e) : ∃ J, mj_ms[112]? = some J ∧ mj_okE J (mj_cd mj_Y 112) k e = true := by
  have hk := mj_len_le 24 (by decide +kernel) he
  exact mj_okR_at mj_k112_0 (Nat.zero_le _) (by omega) he
theorem mj_q113 {k : Nat} {e : mj_E} (he : mj_ent mj_Y 113 k = some e) : ∃ J, mj_ms[113]? = some J ∧ mj_okE J (mj_cd mj_Y 113) k e = true := by
  have hk := mj_len_le 14 (by decide +kernel) he
  exact mj_okR_at mj_k113_0 (Nat.zero_le _) (by omega) he
theorem mj_q114 {k : Nat} {e : mj_E} (he : mj_ent mj_Y 114 k = some e) : ∃ J, mj_ms[114]? = some J ∧ mj_okE J (mj_cd mj_Y 114) k e = true := by
  have hk := mj_len_le 8 (by decide +kernel) he
  exact mj_okR_at mj_k114_0 (Nat.zero_le _) (by omega) he
theorem mj_q115 {k : Nat} {e : mj_E} (he : mj_ent mj_Y 115 k = some e) : ∃ J, mj_ms[115]? = some J ∧ mj_okE J (mj_cd mj_Y 115) k e = true := by
  have hk := mj_len_le 21 (by decide +kernel) he
  exact mj_okR_at mj_k115_0 (Nat.zero_le _) (by omega) he
theorem mj_q116 {k : Nat} {e : mj_E} (he : mj_ent mj_Y 116 k = some e) : ∃ J, mj_ms[116]? = some J ∧ mj_okE J (mj_cd mj_Y 116) k e = true := by
  have hk := mj_len_le 32 (by decide +kernel) he
  exact mj_okR_at mj_k116_0 (Nat.zero_le _) (by omega) he
theorem mj_q117 {k : Nat} {e : mj_E} (he : mj_ent mj_Y 117 k = some e) : ∃ J, mj_ms[117]? = some J ∧ mj_okE J (mj_cd mj_Y 117) k e = true := by
  have hk := mj_len_le 60 (by decide +kernel) he
  exact mj_okR_at mj_k117_0 (Nat.zero_le _) (by omega) he
theorem mj_q118 {k : Nat} {e : mj_E} (he : mj_ent mj_Y 118 k = some e) : ∃ J, mj_ms[118]? = some J ∧ mj_okE J (mj_cd mj_Y 118) k e = true := by
  have hk := mj_len_le 32 (by decide +kernel) he
  exact mj_okR_at mj_k118_0 (Nat.zero_le _) (by omega) he
theorem mj_q119 {k : Nat} {e : mj_E} (he : mj_ent mj_Y 119 k = some e) : ∃ J, mj_ms[119]? = some J ∧ mj_okE J (mj_cd mj_Y 119) k e = true := by
  have hk := mj_len_le 34 (by decide +kernel) he
  exact mj_okR_at mj_k119_0 (Nat.zero_le _) (by omega) he
theorem mj_q120 {k : Nat} {e : mj_E} (he : mj_ent mj_Y 120 k = some e) : ∃ J, mj_ms[120]? = some J ∧ mj_okE J (mj_cd mj_Y 120) k e = true := by
  have hk := mj_len_le 76 (by decide +kernel) he
  exact mj_okR_at mj_k120_0 (Nat.zero_le _) (by omega) he
theorem mj_q121 {k : Nat} {e : mj_E} (he : mj_ent mj_Y 121 k = some e) : ∃ J, mj_ms[121]? = some J ∧ mj_okE J (mj_cd mj_Y 121) k e = true := by
  have hk := mj_len_le 63 (by decide +kernel) he
  exact mj_okR_at mj_k121_0 (Nat.zero_le _) (by omega) he
theorem mj_q122 {k : Nat} {e : mj_E} (he : mj_ent mj_Y 122 k = some e) : ∃ J, mj_ms[122]? = some J ∧ mj_okE J (mj_cd mj_Y 122) k e = true := by
  have hk := mj_len_le 19 (by decide +kernel) he
  exact mj_okR_at mj_k122_0 (Nat.zero_le _) (by omega) he
theorem mj_q123 {k : Nat} {e : mj_E} (he : mj_ent mj_Y 123 k = some e) : ∃ J, mj_ms[123]? = some J ∧ mj_okE J (mj_cd mj_Y 123) k e = true := by
  have hk := mj_len_le 35 (by decide +kernel) he
  exact mj_okR_at mj_k123_0 (Nat.zero_le _) (by omega) he
theorem mj_q124 {k : Nat} {e : mj_E} (he : mj_ent mj_Y 124 k = some e) : ∃ J, mj_ms[124]? = some J ∧ mj_okE J (mj_cd mj_Y 124) k e = true := by
  have hk := mj_len_le 19 (by decide +kernel) he
  exact mj_okR_at mj_k124_0 (Nat.zero_le _) (by omega) he
theorem mj_q125 {k : Nat} {e : mj_E} (he : mj_ent mj_Y 125 k = some e) : ∃ J, mj_ms[125]? = some J ∧ mj_okE J (mj_cd mj_Y 125) k e = true := by
  have hk := mj_len_le 58 (by decide +kernel) he
  exact mj_okR_at mj_k125_0 (Nat.zero_le _) (by omega) he
theorem mj_q126 {k : Nat} {e : mj_E} (he : mj_ent mj_Y 126 k = some e) : ∃ J, mj_ms[126]? = some J ∧ mj_okE J (mj_cd mj_Y 126) k e = true := by
  have hk := mj_len_le 10 (by decide +kernel) he
  exact mj_okR_at mj_k126_0 (Nat.zero_le _) (by omega) he
theorem mj_q127 {k : Nat} {e : mj_E} (he : mj_ent mj_Y 127 k = some e) : ∃ J, mj_ms[127]? = some J ∧ mj_okE J (mj_cd mj_Y 127) k e = true := by
  have hk := mj_len_le 61 (by decide +kernel) he
  exact mj_okR_at mj_k127_0 (Nat.zero_le _) (by omega) he
theorem mj_q128 {k : Nat} {e : mj_E} (he : mj_ent mj_Y 128 k = some e) : ∃ J, mj_ms[128]? = some J ∧ mj_okE J (mj_cd mj_Y 128) k e = true := by
  have hk := mj_len_le 29 (by decide +kernel) he
  exact mj_okR_at mj_k128_0 (Nat.zero_le _) (by omega) he
theorem mj_q129 {k : Nat} {e : mj_E} (he : mj_ent mj_Y 129 k = some e) : ∃ J, mj_ms[129]? = some J ∧ mj_okE J (mj_cd mj_Y 129) k e = true := by
  have hk := mj_len_le 75 (by decide +kernel) he
  exact mj_okR_at mj_k129_0 (Nat.zero_le _) (by omega) he
theorem mj_q130 {k : Nat} {e : mj_E} (he : mj_ent mj_Y 130 k = some e) : ∃ J, mj_ms[130]? = some J ∧ mj_okE J (mj_cd mj_Y 130) k e = true := by
  have hk := mj_len_le 30 (by decide +kernel) he
  exact mj_okR_at mj_k130_0 (Nat.zero_le _) (by omega) he
theorem mj_q131 {k : Nat} {e : mj_E} (he : mj_ent mj_Y 131 k = some e) : ∃ J, mj_ms[131]? = some J ∧ mj_okE J (mj_cd mj_Y 131) k e = true := by
  have hk := mj_len_le 22 (by decide +kernel) he
  exact mj_okR_at mj_k131_0 (Nat.zero_le _) (by omega) he
theorem mj_q132 {k : Nat} {e : mj_E} (he : mj_ent mj_Y 132 k = some e) : ∃ J, mj_ms[132]? = some J ∧ mj_okE J (mj_cd mj_Y 132) k e = true := by
  have hk := mj_len_le 16 (by decide +kernel) he
  exact mj_okR_at mj_k132_0 (Nat.zero_le _) (by omega) he
theorem mj_q133 {k : Nat} {e : mj_E} (he : mj_ent mj_Y 133 k = some e) : ∃ J, mj_ms[133]? = some J ∧ mj_okE J (mj_cd mj_Y 133) k e = true := by
  have hk := mj_len_le 16 (by decide +kernel) he
  exact mj_okR_at mj_k133_0 (Nat.zero_le _) (by omega) he
theorem mj_q134 {k : Nat} {e : mj_E} (he : mj_ent mj_Y 134 k = some e) : ∃ J, mj_ms[134]? = some J ∧ mj_okE J (mj_cd mj_Y 134) k e = true := by
  have hk := mj_len_le 22 (by decide +kernel) he
  exact mj_okR_at mj_k134_0 (Nat.zero_le _) (by omega) he
theorem mj_q135 {k : Nat} {e : mj_E} (he : mj_ent mj_Y 135 k = some e) : ∃ J, mj_ms[135]? = some J ∧ mj_okE J (mj_cd mj_Y 135) k e = true := by
  have hk := mj_len_le 54 (by decide +kernel) he
  exact mj_okR_at mj_k135_0 (Nat.zero_le _) (by omega) he
theorem mj_q136 {k : Nat} {e : mj_E} (he : mj_ent mj_Y 136 k = some e) : ∃ J, mj_ms[136]? = some J ∧ mj_okE J (mj_cd mj_Y 136) k e = true := by
  have hk := mj_len_le 58 (by decide +kernel) he
  exact mj_okR_at mj_k136_0 (Nat.zero_le _) (by omega) he
theorem mj_q137 {k : Nat} {e : mj_E} (he : mj_ent mj_Y 137 k = some e) : ∃ J, mj_ms[137]? = some J ∧ mj_okE J (mj_cd mj_Y 137) k e = true := by
  have hk := mj_len_le 16 (by decide +kernel) he
  exact mj_okR_at mj_k137_0 (Nat.zero_le _) (by omega) he
theorem mj_q138 {k : Nat} {e : mj_E} (he : mj_ent mj_Y 138 k = some e) : ∃ J, mj_ms[138]? = some J ∧ mj_okE J (mj_cd mj_Y 138) k e = true := by
  have hk := mj_len_le 29 (by decide +kernel) he
  exact mj_okR_at mj_k138_0 (Nat.zero_le _) (by omega) he
theorem mj_q139 {k : Nat} {e : mj_E} (he : mj_ent mj_Y 139 k = some e) : ∃ J, mj_ms[139]? = some J ∧ mj_okE J (mj_cd mj_Y 139) k e = true := by
  have hk := mj_len_le 8 (by decide +kernel) he
  exact mj_okR_at mj_k139_0 (Nat.zero_le _) (by omega) he
theorem mj_q140 {k : Nat} {e : mj_E} (he : mj_ent mj_Y 140 k = some e) : ∃ J, mj_ms[140]? = some J ∧ mj_okE J (mj_cd mj_Y 140) k e = true := by
  have hk := mj_len_le 28 (by decide +kernel) he
  exact mj_okR_at mj_k140_0 (Nat.zero_le _) (by omega) he
theorem mj_q141 {k : Nat} {e : mj_E} (he : mj_ent mj_Y 141 k = some e) : ∃ J, mj_ms[141]? = some J ∧ mj_okE J (mj_cd mj_Y 141) k e = true := by
  have hk := mj_len_le 52 (by decide +kernel) he
  exact mj_okR_at mj_k141_0 (Nat.zero_le _) (by omega) he
theorem mj_q142 {k : Nat} {e : mj_E} (he : mj_ent mj_Y 142 k = some e) : ∃ J, mj_ms[142]? = some J ∧ mj_okE J (mj_cd mj_Y 142) k e = true := by
  have hk := mj_len_le 113 (by decide +kernel) he
  exact mj_okR_at mj_k142_0 (Nat.zero_le _) (by omega) he
theorem mj_q143 {k : Nat} {e : mj_E} (he : mj_ent mj_Y 143 k = some e) : ∃ J, mj_ms[143]? = some J ∧ mj_okE J (mj_cd mj_Y 143) k e = true := by
  have hk := mj_len_le 19 (by decide +kernel) he
  exact mj_okR_at mj_k143_0 (Nat.zero_le _) (by omega) he
theorem mj_q144 {k : Nat} {e : mj_E} (he : mj_ent mj_Y 144 k = some e) : ∃ J, mj_ms[144]? = some J ∧ mj_okE J (mj_cd mj_Y 144) k e = true := by
  have hk := mj_len_le 81 (by decide +kernel) he
  exact mj_okR_at mj_k144_0 (Nat.zero_le _) (by omega) he
theorem mj_q145 {k : Nat} {e : mj_E} (he : mj_ent mj_Y 145 k = some e) : ∃ J, mj_ms[145]? = some J ∧ mj_okE J (mj_cd mj_Y 145) k e = true := by
  have hk := mj_len_le 47 (by decide +kernel) he
  exact mj_okR_at mj_k145_0 (Nat.zero_le _) (by omega) he
theorem mj_q146 {k : Nat} {e : mj_E} (he : mj_ent mj_Y 146 k = some e) : ∃ J, mj_ms[146]? = some J ∧ mj_okE J (mj_cd mj_Y 146) k e = true := by
  have hk := mj_len_le 3 (by decide +kernel) he
  exact mj_okR_at mj_k146_0 (Nat.zero_le _) (by omega) he
theorem mj_q147 {k : Nat} {e : mj_E} (he : mj_ent mj_Y 147 k = some e) : ∃ J, mj_ms[147]? = some J ∧ mj_okE J (mj_cd mj_Y 147) k e = true := by
  have hk := mj_len_le 19 (by decide +kernel) he
  exact mj_okR_at mj_k147_0 (Nat.zero_le _) (by omega) he
theorem mj_q148 {k : Nat} {e : mj_E} (he : mj_ent mj_Y 148 k = some e) : ∃ J, mj_ms[148]? = some J ∧ mj_okE J (mj_cd mj_Y 148) k e = true := by
  have hk := mj_len_le 7 (by decide +kernel) he
  exact mj_okR_at mj_k148_0 (Nat.zero_le _) (by omega) he
theorem mj_q149 {k : Nat} {e : mj_E} (he : mj_ent mj_Y 149 k = some e) : ∃ J, mj_ms[149]? = some J ∧ mj_okE J (mj_cd mj_Y 149) k e = true := by
  have hk := mj_len_le 7 (by decide +kernel) he
  exact mj_okR_at mj_k149_0 (Nat.zero_le _) (by omega) he
theorem mj_q150 {k : Nat} {e : mj_E} (he : mj_ent mj_Y 150 k = some e) : ∃ J, mj_ms[150]? = some J ∧ mj_okE J (mj_cd mj_Y 150) k e = true := by
  have hk := mj_len_le 541 (by decide +kernel) he
  by_cases h0 : k < 120
  · exact mj_okR_at mj_k150_0 (by omega) (by omega) he
  by_cases h1 : k < 240
  · exact mj_okR_at mj_k150_120 (by omega) (by omega) he
  by_cases h2 : k < 360
  · exact mj_okR_at mj_k150_240 (by omega) (by omega) he
  by_cases h3 : k < 480
  · exact mj_okR_at mj_k150_360 (by omega) (by omega) he
  exact mj_okR_at mj_k150_480 (by omega) (by omega) he
theorem mj_ok {m k : Nat} {e : mj_E} (he : mj_ent mj_Y m k = some e) : ∃ J, mj_ms[m]? = some J ∧ mj_okE J (mj_cd mj_Y m) k e = true := by
  have hm : m < 151 := by
    rcases Nat.lt_or_ge m 151 with h | h
    · exact h
    · exfalso
      have e0 : mj_cd mj_Y m = [] := by
        show ((mj_cds[m]?).getD []) = []
        rw [List.getElem?_eq_none (Nat.le_trans (Nat.le_of_ble_eq_true (by decide +kernel)) h)]
        rfl
      unfold mj_ent at he
      rw [e0] at he
      cases he
  by_cases h0_151 : m < 75
  · skip
    by_cases h0_75 : m < 37
    · skip
      by_cases h0_37 : m < 18
      · skip
        by_cases h0_18 : m < 9
        · skip
          by_cases h0_9 : m < 4
          · skip
            by_cases h0_4 : m < 2
            · skip
              by_cases h0_2 : m < 1
              · skip
                have hm : m = 0 := by omega
                subst hm
                exact mj_q0 he
              · skip
                have hm : m = 1 := by omega
                subst hm
                exact mj_q1 he
            · skip
              by_cases h2_4 : m < 3
              · skip
                have hm : m = 2 := by omega
                subst hm
                exact mj_q2 he
              · skip
                have hm : m = 3 := by omega
                subst hm
                exact mj_q3 he
          · skip
            by_cases h4_9 : m < 6
            · skip
              by_cases h4_6 : m < 5
              · skip
                have hm : m = 4 := by omega
                subst hm
                exact mj_q4 he
              · skip
                have hm : m = 5 := by omega
                subst hm
                exact mj_q5 he
            · skip
              by_cases h6_9 : m < 7
              · skip
                have hm : m = 6 := by omega
                subst hm
                exact mj_q6 he
              · skip
                by_cases h7_9 : m < 8
                · skip
                  have hm : m = 7 := by omega
                  subst hm
                  exact mj_q7 he
                · skip
                  have hm : m = 8 := by omega
                  subst hm
                  exact mj_q8 he
        · skip
          by_cases h9_18 : m < 13
          · skip
            by_cases h9_13 : m < 11
            · skip
              by_cases h9_11 : m < 10
              · skip
                have hm : m = 9 := by omega
                subst hm
                exact mj_q9 he
              · skip
                have hm : m = 10 := by omega
                subst hm
                exact mj_q10 he
            · skip
              by_cases h11_13 : m < 12
              · skip
                have hm : m = 11 := by omega
                subst hm
                exact mj_q11 he
              · skip
                have hm : m = 12 := by omega
                subst hm
                exact mj_q12 he
          · skip
            by_cases h13_18 : m < 15
            · skip
              by_cases h13_15 : m < 14
              · skip
                have hm : m = 13 := by omega
                subst hm
                exact mj_q13 he
              · skip
                have hm : m = 14 := by omega
                subst hm
                exact mj_q14 he
            · skip
              by_cases h15_18 : m < 16
              · skip
                have hm : m = 15 := by omega
                subst hm
                exact mj_q15 he
              · skip
                by_cases h16_18 : m < 17
                · skip
                  have hm : m = 16 := by omega
                  subst hm
                  exact mj_q16 he
                · skip
                  have hm : m = 17 := by omega
                  subst hm
                  exact mj_q17 he
      · skip
        by_cases h18_37 : m < 27
        · skip
          by_cases h18_27 : m < 22
          · skip
            by_cases h18_22 : m < 20
            · skip
              by_cases h18_20 : m < 19
              · skip
                have hm : m = 18 := by omega
                subst hm
                exact mj_q18 he
              · skip
                have hm : m = 19 := by omega
                subst hm
                exact mj_q19 he
            · skip
              by_cases h20_22 : m < 21
              · skip
                have hm : m = 20 := by omega
                subst hm
                exact mj_q20 he
              · skip
                have hm : m = 21 := by omega
                subst hm
                exact mj_q21 he
          · skip
            by_cases h22_27 : m < 24
            · skip
              by_cases h22_24 : m < 23
              · skip
                have hm : m = 22 := by omega
                subst hm
                exact mj_q22 he
              · skip
                have hm : m = 23 := by omega
                subst hm
                exact mj_q23 he
            · skip
              by_cases h24_27 : m < 25
              · skip
                have hm : m = 24 := by omega
                subst hm
                exact mj_q24 he
              · skip
                by_cases h25_27 : m < 26
                · skip
                  have hm : m = 25 := by omega
                  subst hm
                  exact mj_q25 he
                · skip
                  have hm : m = 26 := by omega
                  subst hm
                  exact mj_q26 he
        · skip
          by_cases h27_37 : m < 32
          · skip
            by_cases h27_32 : m < 29
            · skip
              by_cases h27_29 : m < 28
              · skip
                have hm : m = 27 := by omega
                subst hm
                exact mj_q27 he
              · skip
                have hm : m = 28 := by omega
                subst hm
                exact mj_q28 he
            · skip
              by_cases h29_32 : m < 30
              · skip
                have hm : m = 29 := by omega
                subst hm
                exact mj_q29 he
              · skip
                by_cases h30_32 : m < 31
                · skip
                  have hm : m = 30 := by omega
                  subst hm
                  exact mj_q30 he
                · skip
                  have hm : m = 31 := by omega
                  subst hm
                  exact mj_q31 he
          · skip
            by_cases h32_37 : m < 34
            · skip
              by_cases h32_34 : m < 33
              · skip
                have hm : m = 32 := by omega
                subst hm
                exact mj_q32 he
              · skip
                have hm : m = 33 := by omega
                subst hm
                exact mj_q33 he
            · skip
              by_cases h34_37 : m < 35
              · skip
                have hm : m = 34 := by omega
                subst hm
                exact mj_q34 he
              · skip
                by_cases h35_37 : m < 36
                · skip
                  have hm : m = 35 := by omega
                  subst hm
                  exact mj_q35 he
                · skip
                  have hm : m = 36 := by omega
                  subst hm
                  exact mj_q36 he
    · skip
      by_cases h37_75 : m < 56
      · skip
        by_cases h37_56 : m < 46
        · skip
          by_cases h37_46 : m < 41
          · skip
            by_cases h37_41 : m < 39
            · skip
              by_cases h37_39 : m < 38
              · skip
                have hm : m = 37 := by omega
                subst hm
                exact mj_q37 he
              · skip
                have hm : m = 38 := by omega
                subst hm
                exact mj_q38 he
            · skip
              by_cases h39_41 : m < 40
              · skip
                have hm : m = 39 := by omega
                subst hm
                exact mj_q39 he
              · skip
                have hm : m = 40 := by omega
                subst hm
                exact mj_q40 he
          · skip
            by_cases h41_46 : m < 43
            · skip
              by_cases h41_43 : m < 42
              · skip
                have hm : m = 41 := by omega
                subst hm
                exact mj_q41 he
              · skip
                have hm : m = 42 := by omega
                subst hm
                exact mj_q42 he
            · skip
              by_cases h43_46 : m < 44
              · skip
                have hm : m = 43 := by omega
                subst hm
                exact mj_q43 he
              · skip
                by_cases h44_46 : m < 45
                · skip
                  have hm : m = 44 := by omega
                  subst hm
                  exact mj_q44 he
                · skip
                  have hm : m = 45 := by omega
                  subst hm
                  exact mj_q45 he
        · skip
          by_cases h46_56 : m < 51
          · skip
            by_cases h46_51 : m < 48
            · skip
              by_cases h46_48 : m < 47
              · skip
                have hm : m = 46 := by omega
                subst hm
                exact mj_q46 he
              · skip
                have hm : m = 47 := by omega
                subst hm
                exact mj_q47 he
            · skip
              by_cases h48_51 : m < 49
              · skip
                have hm : m = 48 := by omega
                subst hm
                exact mj_q48 he
              · skip
                by_cases h49_51 : m < 50
                · skip
                  have hm : m = 49 := by omega
                  subst hm
                  exact mj_q49 he
                · skip
                  have hm : m = 50 := by omega
                  subst hm
                  exact mj_q50 he
          · skip
            by_cases h51_56 : m < 53
            · skip
              by_cases h51_53 : m < 52
              · skip
                have hm : m = 51 := by omega
                subst hm
                exact mj_q51 he
              · skip
                have hm : m = 52 := by omega
                subst hm
                exact mj_q52 he
            · skip
              by_cases h53_56 : m < 54
              · skip
                have hm : m = 53 := by omega
                subst hm
                exact mj_q53 he
              · skip
                by_cases h54_56 : m < 55
                · skip
                  have hm : m = 54 := by omega
                  subst hm
                  exact mj_q54 he
                · skip
                  have hm : m = 55 := by omega
                  subst hm
                  exact mj_q55 he
      · skip
        by_cases h56_75 : m < 65
        · skip
          by_cases h56_65 : m < 60
          · skip
            by_cases h56_60 : m < 58
            · skip
              by_cases h56_58 : m < 57
              · skip
                have hm : m = 56 := by omega
                subst hm
                exact mj_q56 he
              · skip
                have hm : m = 57 := by omega
                subst hm
                exact mj_q57 he
            · skip
              by_cases h58_60 : m < 59
              · skip
                have hm : m = 58 := by omega
                subst hm
                exact mj_q58 he
              · skip
                have hm : m = 59 := by omega
                subst hm
                exact mj_q59 he
          · skip
            by_cases h60_65 : m < 62
            · skip
              by_cases h60_62 : m < 61
              · skip
                have hm : m = 60 := by omega
                subst hm
                exact mj_q60 he
              · skip
                have hm : m = 61 := by omega
                subst hm
                exact mj_q61 he
            · skip
              by_cases h62_65 : m < 63
              · skip
                have hm : m = 62 := by omega
                subst hm
                exact mj_q62 he
              · skip
                by_cases h63_65 : m < 64
                · skip
                  have hm : m = 63 := by omega
                  subst hm
                  exact mj_q63 he
                · skip
                  have hm : m = 64 := by omega
                  subst hm
                  exact mj_q64 he
        · skip
          by_cases h65_75 : m < 70
          · skip
            by_cases h65_70 : m < 67
            · skip
              by_cases h65_67 : m < 66
              · skip
                have hm : m = 65 := by omega
                subst hm
                exact mj_q65 he
              · skip
                have hm : m = 66 := by omega
                subst hm
                exact mj_q66 he
            · skip
              by_cases h67_70 : m < 68
              · skip
                have hm : m = 67 := by omega
                subst hm
                exact mj_q67 he
              · skip
                by_cases h68_70 : m < 69
                · skip
                  have hm : m = 68 := by omega
                  subst hm
                  exact mj_q68 he
                · skip
                  have hm : m = 69 := by omega
                  subst hm
                  exact mj_q69 he
          · skip
            by_cases h70_75 : m < 72
            · skip
              by_cases h70_72 : m < 71
              · skip
                have hm : m = 70 := by omega
                subst hm
                exact mj_q70 he
              · skip
                have hm : m = 71 := by omega
                subst hm
                exact mj_q71 he
            · skip
              by_cases h72_75 : m < 73
              · skip
                have hm : m = 72 := by omega
                subst hm
                exact mj_q72 he
              · skip
                by_cases h73_75 : m < 74
                · skip
                  have hm : m = 73 := by omega
                  subst hm
                  exact mj_q73 he
                · skip
                  have hm : m = 74 := by omega
                  subst hm
                  exact mj_q74 he
  · skip
    by_cases h75_151 : m < 113
    · skip
      by_cases h75_113 : m < 94
      · skip
        by_cases h75_94 : m < 84
        · skip
          by_cases h75_84 : m < 79
          · skip
            by_cases h75_79 : m < 77
            · skip
              by_cases h75_77 : m < 76
              · skip
                have hm : m = 75 := by omega
                subst hm
                exact mj_q75 he
              · skip
                have hm : m = 76 := by omega
                subst hm
                exact mj_q76 he
            · skip
              by_cases h77_79 : m < 78
              · skip
                have hm : m = 77 := by omega
                subst hm
                exact mj_q77 he
              · skip
                have hm : m = 78 := by omega
                subst hm
                exact mj_q78 he
          · skip
            by_cases h79_84 : m < 81
            · skip
              by_cases h79_81 : m < 80
              · skip
                have hm : m = 79 := by omega
                subst hm
                exact mj_q79 he
              · skip
                have hm : m = 80 := by omega
                subst hm
                exact mj_q80 he
            · skip
              by_cases h81_84 : m < 82
              · skip
                have hm : m = 81 := by omega
                subst hm
                exact mj_q81 he
              · skip
                by_cases h82_84 : m < 83
                · skip
                  have hm : m = 82 := by omega
                  subst hm
                  exact mj_q82 he
                · skip
                  have hm : m = 83 := by omega
                  subst hm
                  exact mj_q83 he
        · skip
          by_cases h84_94 : m < 89
          · skip
            by_cases h84_89 : m < 86
            · skip
              by_cases h84_86 : m < 85
              · skip
                have hm : m = 84 := by omega
                subst hm
                exact mj_q84 he
              · skip
                have hm : m = 85 := by omega
                subst hm
                exact mj_q85 he
            · skip
              by_cases h86_89 : m < 87
              · skip
                have hm : m = 86 := by omega
                subst hm
                exact mj_q86 he
              · skip
                by_cases h87_89 : m < 88
                · skip
                  have hm : m = 87 := by omega
                  subst hm
                  exact mj_q87 he
                · skip
                  have hm : m = 88 := by omega
                  subst hm
                  exact mj_q88 he
          · skip
            by_cases h89_94 : m < 91
            · skip
              by_cases h89_91 : m < 90
              · skip
                have hm : m = 89 := by omega
                subst hm
                exact mj_q89 he
              · skip
                have hm : m = 90 := by omega
                subst hm
                exact mj_q90 he
            · skip
              by_cases h91_94 : m < 92
              · skip
                have hm : m = 91 := by omega
                subst hm
                exact mj_q91 he
              · skip
                by_cases h92_94 : m < 93
                · skip
                  have hm : m = 92 := by omega
                  subst hm
                  exact mj_q92 he
                · skip
                  have hm : m = 93 := by omega
                  subst hm
                  exact mj_q93 he
      · skip
        by_cases h94_113 : m < 103
        · skip
          by_cases h94_103 : m < 98
          · skip
            by_cases h94_98 : m < 96
            · skip
              by_cases h94_96 : m < 95
              · skip
                have hm : m = 94 := by omega
                subst hm
                exact mj_q94 he
              · skip
                have hm : m = 95 := by omega
                subst hm
                exact mj_q95 he
            · skip
              by_cases h96_98 : m < 97
              · skip
                have hm : m = 96 := by omega
                subst hm
                exact mj_q96 he
              · skip
                have hm : m = 97 := by omega
                subst hm
                exact mj_q97 he
          · skip
            by_cases h98_103 : m < 100
            · skip
              by_cases h98_100 : m < 99
              · skip
                have hm : m = 98 := by omega
                subst hm
                exact mj_q98 he
              · skip
                have hm : m = 99 := by omega
                subst hm
                exact mj_q99 he
            · skip
              by_cases h100_103 : m < 101
              · skip
                have hm : m = 100 := by omega
                subst hm
                exact mj_q100 he
              · skip
                by_cases h101_103 : m < 102
                · skip
                  have hm : m = 101 := by omega
                  subst hm
                  exact mj_q101 he
                · skip
                  have hm : m = 102 := by omega
                  subst hm
                  exact mj_q102 he
        · skip
          by_cases h103_113 : m < 108
          · skip
            by_cases h103_108 : m < 105
            · skip
              by_cases h103_105 : m < 104
              · skip
                have hm : m = 103 := by omega
                subst hm
                exact mj_q103 he
              · skip
                have hm : m = 104 := by omega
                subst hm
                exact mj_q104 he
            · skip
              by_cases h105_108 : m < 106
              · skip
                have hm : m = 105 := by omega
                subst hm
                exact mj_q105 he
              · skip
                by_cases h106_108 : m < 107
                · skip
                  have hm : m = 106 := by omega
                  subst hm
                  exact mj_q106 he
                · skip
                  have hm : m = 107 := by omega
                  subst hm
                  exact mj_q107 he
          · skip
            by_cases h108_113 : m < 110
            · skip
              by_cases h108_110 : m < 109
              · skip
                have hm : m = 108 := by omega
                subst hm
                exact mj_q108 he
              · skip
                have hm : m = 109 := by omega
                subst hm
                exact mj_q109 he
            · skip
              by_cases h110_113 : m < 111
              · skip
                have hm : m = 110 := by omega
                subst hm
                exact mj_q110 he
              · skip
                by_cases h111_113 : m < 112
                · skip
                  have hm : m = 111 := by omega
                  subst hm
                  exact mj_q111 he
                · skip
                  have hm : m = 112 := by omega
                  subst hm
                  exact mj_q112 he
    · skip
      by_cases h113_151 : m < 132
      · skip
        by_cases h113_132 : m < 122
        · skip
          by_cases h113_122 : m < 117
          · skip
            by_cases h113_117 : m < 115
            · skip
              by_cases h113_115 : m < 114
              · skip
                have hm : m = 113 := by omega
                subst hm
                exact mj_q113 he
              · skip
                have hm : m = 114 := by omega
                subst hm
                exact mj_q114 he
            · skip
              by_cases h115_117 : m < 116
              · skip
                have hm : m = 115 := by omega
                subst hm
                exact mj_q115 he
              · skip
                have hm : m = 116 := by omega
                subst hm
                exact mj_q116 he
          · skip
            by_cases h117_122 : m < 119
            · skip
              by_cases h117_119 : m < 118
              · skip
                have hm : m = 117 := by omega
                subst hm
                exact mj_q117 he
              · skip
                have hm : m = 118 := by omega
                subst hm
                exact mj_q118 he
            · skip
              by_cases h119_122 : m < 120
              · skip
                have hm : m = 119 := by omega
                subst hm
                exact mj_q119 he
              · skip
                by_cases h120_122 : m < 121
                · skip
                  have hm : m = 120 := by omega
                  subst hm
                  exact mj_q120 he
                · skip
                  have hm : m = 121 := by omega
                  subst hm
                  exact mj_q121 he
        · skip
          by_cases h122_132 : m < 127
          · skip
            by_cases h122_127 : m < 124
            · skip
              by_cases h122_124 : m < 123
              · skip
                have hm : m = 122 := by omega
                subst hm
                exact mj_q122 he
              · skip
                have hm : m = 123 := by omega
                subst hm
                exact mj_q123 he
            · skip
              by_cases h124_127 : m < 125
              · skip
                have hm : m = 124 := by omega
                subst hm
                exact mj_q124 he
              · skip
                by_cases h125_127 : m < 126
                · skip
                  have hm : m = 125 := by omega
                  subst hm
                  exact mj_q125 he
                · skip
                  have hm : m = 126 := by omega
                  subst hm
                  exact mj_q126 he
          · skip
            by_cases h127_132 : m < 129
            · skip
              by_cases h127_129 : m < 128
              · skip
                have hm : m = 127 := by omega
                subst hm
                exact mj_q127 he
              · skip
                have hm : m = 128 := by omega
                subst hm
                exact mj_q128 he
            · skip
              by_cases h129_132 : m < 130
              · skip
                have hm : m = 129 := by omega
                subst hm
                exact mj_q129 he
              · skip
                by_cases h130_132 : m < 131
                · skip
                  have hm : m = 130 := by omega
                  subst hm
                  exact mj_q130 he
                · skip
                  have hm : m = 131 := by omega
                  subst hm
                  exact mj_q131 he
      · skip
        by_cases h132_151 : m < 141
        · skip
          by_cases h132_141 : m < 136
          · skip
            by_cases h132_136 : m < 134
            · skip
              by_cases h132_134 : m < 133
              · skip
                have hm : m = 132 := by omega
                subst hm
                exact mj_q132 he
              · skip
                have hm : m = 133 := by omega
                subst hm
                exact mj_q133 he
            · skip
              by_cases h134_136 : m < 135
              · skip
                have hm : m = 134 := by omega
                subst hm
                exact mj_q134 he
              · skip
                have hm : m = 135 := by omega
                subst hm
                exact mj_q135 he
          · skip
            by_cases h136_141 : m < 138
            · skip
              by_cases h136_138 : m < 137
              · skip
                have hm : m = 136 := by omega
                subst hm
                exact mj_q136 he
              · skip
                have hm : m = 137 := by omega
                subst hm
                exact mj_q137 he
            · skip
              by_cases h138_141 : m < 139
              · skip
                have hm : m = 138 := by omega
                subst hm
                exact mj_q138 he
              · skip
                by_cases h139_141 : m < 140
                · skip
                  have hm : m = 139 := by omega
                  subst hm
                  exact mj_q139 he
                · skip
                  have hm : m = 140 := by omega
                  subst hm
                  exact mj_q140 he
        · skip
          by_cases h141_151 : m < 146
          · skip
            by_cases h141_146 : m < 143
            · skip
              by_cases h141_143 : m < 142
              · skip
                have hm : m = 141 := by omega
                subst hm
                exact mj_q141 he
              · skip
                have hm : m = 142 := by omega
                subst hm
                exact mj_q142 he
            · skip
              by_cases h143_146 : m < 144
              · skip
                have hm : m = 143 := by omega
                subst hm
                exact mj_q143 he
              · skip
                by_cases h144_146 : m < 145
                · skip
                  have hm : m = 144 := by omega
                  subst hm
                  exact mj_q144 he
                · skip
                  have hm : m = 145 := by omega
                  subst hm
                  exact mj_q145 he
          · skip
            by_cases h146_151 : m < 148
            · skip
              by_cases h146_148 : m < 147
              · skip
                have hm : m = 146 := by omega
                subst hm
                exact mj_q146 he
              · skip
                have hm : m = 147 := by omega
                subst hm
                exact mj_q147 he
            · skip
              by_cases h148_151 : m < 149
              · skip
                have hm : m = 148 := by omega
                subst hm
                exact mj_q148 he
              · skip
                by_cases h149_151 : m < 150
                · skip
                  have hm : m = 149 := by omega
                  subst hm
                  exact mj_q149 he
                · skip
                  have hm : m = 150 := by omega
                  subst hm
                  exact mj_q150 he
end
section
/-! THE SMALL MACHINE IS THE MACHINE: what holds of a frame; then a row an instruction -/
def mj_goods : List Jvm.Cond := lw_tbl.filter goodWord
def mj_isN : Jvm.Cond → Bool
  | .fieldLinkNest _ _ _ _ _ _ => true
  | .methodLinkNest _ _ _ _ => true
  | _ => false
def mj_nst : List Jvm.Cond := lw_tbl.filter mj_isN
theorem mj_gd {w : Jvm.Cond} {i : Nat} (h : lw_tbl[i]? = some w) (hg : goodWord w = true) : w ∈ mj_goods := List.mem_filter.mpr ⟨List.mem_of_getElem? h, hg⟩
theorem mj_nd {w : Jvm.Cond} {i : Nat} (h : lw_tbl[i]? = some w) (hg : mj_isN w = true) : w ∈ mj_nst := List.mem_filter.mpr ⟨List.mem_of_getElem? h, hg⟩
/-- the array classes -/
def mj_tyl (cA : Nat → ClassId) : List (ClassId × FieldType) := [(cA 0, .int), (cA 2, .char), (cA 13, .object "LiningLog$Scan"), (cA 14, .object "LiningLog$State")]
def mj_vc (loc : Nat × Nat → Nat) : mj_V → Value
  | .inl x => .int x
  | .inr c => .ref (loc c)
/-- what a cell holds -/
def mj_ce (cA : Nat → ClassId) (loc : Nat × Nat → Nat) (f : mj_F) (g : mj_G) (c : Nat × Nat) : va_E := match mj_kd mj_Y c.1 with
  | (0, u, n) => .inr (u, (List.range n).map (fun s => if mj_ft mj_Y c.1 s = 3 then va_rf ((g c.1 c.2 s).map loc) else .int (f c.1 c.2 s)))
  | (1, t, n) => .inl (cA t, n, .inl (fun j => f c.1 c.2 j))
  | (_, u, n) => .inl (cA (10 + u), n, .inr (.inr (.inr (.inr (fun j => (g c.1 c.2 j).map loc)))))
def mj_ws (cA : Nat → ClassId) (loc : Nat × Nat → Nat) (σ : mj_H) : va_W := σ.1.map (fun c => (loc c, mj_ce cA loc σ.2.1 σ.2.2 c))
def mj_lv (L : List (Nat × Nat)) : mj_V → Prop
  | .inl _ => True
  | .inr c => c ∈ L ∨ (c.2 = 0 ∧ 3 ≤ (mj_kd mj_Y c.1).1 ∧ (mj_kd mj_Y c.1).1 ≤ 4)
def mj_Wd (D : va_G) (cA : Nat → ClassId) (A : Nat → Prop) (el : Nat → Nat) (loc : Nat × Nat → Nat) (σ : mj_H) (H : Heap) : Prop :=
  va_P D mj_cl (mj_ws cA loc σ) H ∧ va_D A (mj_ws cA loc σ) ∧ (∀ c ∈ σ.1, (mj_kd mj_Y c.1).1 ≤ 2) ∧ (∀ c ∈ σ.1, ∀ s r, σ.2.2 c.1 c.2 s = some r → mj_lv σ.1 (.inr r)) ∧ (∀ k, 3 ≤ (mj_kd mj_Y k).1 → (mj_kd mj_Y k).1 ≤ 4 → loc (k, 0) = el k)
/-- what stays as it was at the start -/
def mj_Fx (D : va_G) (cA : Nat → ClassId) (A : Nat → Prop) (el : Nat → Nat) (X : mj_X) (U : State) (H : Heap) : Prop :=
  va_K D mj_cl (mj_tyl cA) U ∧ (∀ w ∈ mj_nst, va_Nw w U) ∧ va_AO "LiningLog$State" U ∧ va_AO "LiningLog$Scan" U ∧ (∀ q ∈ mj_ext, va_Z q.2.1 q.2.2 "[I" (.ref (el q.1)) A U H) ∧
  (∀ k t n, mj_kd mj_Y k = (4, t, n) → va_T .int (el k) n (fun j => .int (((mj_tbs[t]?.getD [])[j]?).getD 0)) A U H) ∧ va_X (el 23) X.1 X.2 U H ∧ ¬ A (el 23)
theorem mj_Fx.moved {D : va_G} {cA : Nat → ClassId} {A : Nat → Prop} {el : Nat → Nat} {X : mj_X} {s U : State} {H : Heap} (hW : s.WarmedH U.vm) (h : mj_Fx D cA A el X s s.heap) (hH : ∀ q : Nat, q < s.heap.size → ¬ A q → H[q]? = s.heap[q]?) : mj_Fx D cA A el X U H := by
  obtain ⟨h1, h2, h3, h4, h5, h6, h7, h8⟩ := h
  refine ⟨h1.moved hW.alike, fun w hw => ?_, h3.moved hW.alike, h4.moved hW.alike, fun q hq => ((h5 q hq).kept hH).moved hW.alike, fun k t n hk => ((h6 k t n hk).kept hH).moved hW.alike, ?_, h8⟩
  · have hz := h2 w hw
    have hn := (List.mem_filter.mp hw).2
    cases w <;> first | exact va_Nw.warmF hW hz | exact va_Nw.warmM hW hz | cases hn
  · refine (h7.kept (hH _ ?_ h8)).moved hW.alike
    obtain ⟨scr, g1, -⟩ := h7
    exact (Array.getElem?_eq_some_iff.mp g1).1
/-- the locals -/
def mj_lr (loc : Nat × Nat → Nat) (ls : mj_L) (lj : Array Slot) (n : Nat) : Prop := lj.size = n ∧ ls.length = n ∧ lv_wf lj ∧ ∀ (i : Nat) (v : mj_V), ls[i]? = some (some v) → lj[i]? = some (Slot.val (mj_vc loc v))
def mj_lvl (loc : Nat × Nat → Nat) (ls : mj_L) : List (Nat × Value) := (List.range ls.length).filterMap (fun i => match ls[i]? with
  | some (some v) => some (i, mj_vc loc v)
  | _ => none)
theorem mj_cat (loc : Nat × Nat → Nat) (v : mj_V) : (mj_vc loc v).category = 1 := by
  cases v <;> rfl
theorem mj_lvl_in {loc : Nat × Nat → Nat} {ls : mj_L} {q : Nat × Value} : q ∈ mj_lvl loc ls ↔ ∃ v, ls[q.1]? = some (some v) ∧ q.2 = mj_vc loc v := by
  unfold mj_lvl
  rw [List.mem_filterMap]
  constructor
  · rintro ⟨i, -, h⟩
    cases h1 : ls[i]? with
    | none => rw [h1] at h; cases h
    | some o =>
      cases o with
      | none => rw [h1] at h; cases h
      | some v =>
        rw [h1] at h
        cases h
        exact ⟨v, h1, rfl⟩
  · rintro ⟨v, h1, h2⟩
    refine ⟨q.1, List.mem_range.mpr (List.getElem?_eq_some_iff.mp h1).1, ?_⟩
    rw [h1]
    show some (q.1, mj_vc loc v) = some q
    rw [← h2]
theorem mj_lr.has {loc : Nat × Nat → Nat} {ls : mj_L} {lj : Array Slot} {n : Nat} (h : mj_lr loc ls lj n) : lv_has lj n (mj_lvl loc ls) := by
  refine ⟨h.1, h.2.2.1, fun q hq => ?_⟩
  obtain ⟨v, h1, h2⟩ := mj_lvl_in.mp hq
  rw [h2]
  exact h.2.2.2 _ _ h1
theorem mj_lr.set {loc : Nat × Nat → Nat} {ls : mj_L} {lj : Array Slot} {n i : Nat} {v : mj_V} {w : Value} (h : mj_lr loc ls lj n) (hw : w = mj_vc loc v) {lj' : Array Slot} (h' : lv_has lj' n ((i, w) :: (mj_lvl loc ls).filter (fun q => !(q.1 == i) && !(q.1 + 1 == i && q.2.category == 2)))) : mj_lr loc (ls.set i (some v)) lj' n := by
  refine ⟨h'.1, by rw [List.length_set]; exact h.2.1, h'.2.1, fun j u hj => ?_⟩
  by_cases hji : i = j
  · subst hji
    rw [List.getElem?_set_self'] at hj
    cases hl : ls[i]? with
    | none => rw [hl] at hj; cases hj
    | some o =>
      rw [hl] at hj
      cases hj
      have := h'.2.2 (i, w) List.mem_cons_self
      rw [hw] at this
      exact this
  · rw [List.getElem?_set_ne hji] at hj
    refine h'.2.2 (j, mj_vc loc u) (List.mem_cons_of_mem _ (List.mem_filter.mpr ⟨mj_lvl_in.mpr ⟨u, hj, rfl⟩, ?_⟩))
    have e1 : (j == i) = false := by simp; omega
    have e2 : ((mj_vc loc u).category == 2) = false := by rw [mj_cat]; rfl
    simp [e1, e2]
def mj_sl (L : List (Nat × Nat)) : Nat := (L.map (fun c => (mj_kd mj_Y c.1).2.2)).sum
end
section
/-! a row an instruction -/
def mj_At (D : va_G) (cA : Nat → ClassId) (A : Nat → Prop) (el : Nat → Nat) (X : mj_X) (J : mj_J) (mm : Nat) (p : Program) (R : Room) (s : State) (m : MethodId) (args : Array Value) (meth : Method) (c : Code) (L0 Lf : List (Nat × Nat)) : Prop :=
  p.tables.exec = Jvm.exec ∧ c.code = J.2.1 ∧ c.maxLocals = mj_mx mj_Y mm ∧ s.vm.findClass J.1.cls = some m.cls ∧ (∀ w ∈ mj_goods, w.before args s = true) ∧ mj_Fx D cA A el X s s.heap ∧ meth.locks = false ∧ (J.1.name = "<init>" → meth.name = "<init>") ∧ (J.2.2.2.1 ≤ R.frames ∧ J.2.2.2.2.1 ≤ R.locals) ∧ (∀ q, s.heap.size ≤ q → A q) ∧ Lf.length ≤ R.cells + L0.length ∧ mj_sl Lf ≤ R.slots + mj_sl L0
def mj_Iv (D : va_G) (cA : Nat → ClassId) (A : Nat → Prop) (el : Nat → Nat) (mm : Nat) (s : State) (L0 : List (Nat × Nat)) (loc0 : Nat × Nat → Nat) (ls : mj_L) (st : List mj_V) (σ : mj_H) (H : Heap) (locs : List Loc) (cells slots : Nat) (loc : Nat × Nat → Nat) (lj : Array Slot) : Prop :=
  mj_Wd D cA A el loc σ H ∧ va_S A s.heap H locs ∧ mj_lr loc ls lj (mj_mx mj_Y mm) ∧ (∀ v, some v ∈ ls → mj_lv σ.1 v) ∧ (∀ v ∈ st, mj_lv σ.1 v) ∧ (cells + L0.length = σ.1.length ∧ slots + mj_sl L0 = mj_sl σ.1) ∧ (∀ q ∈ L0, q ∈ σ.1 ∧ loc q = loc0 q)
def mj_pc (mm k : Nat) : Option Nat := ((mj_cd mj_Y mm)[k]?).map (fun e => e.1)
def mj_Sim (D : va_G) (cA : Nat → ClassId) (A : Nat → Prop) (el : Nat → Nat) (mm : Nat) (p : Program) (l : Launch) (e : Env) (R : Room) (s : State) (m : MethodId) (args : Array Value) (below : List Frame) (meth : Method) (c : Code) (Q : State → Prop) (L0 : List (Nat × Nat)) (loc0 : Nat × Nat → Nat) (k : Nat) (ls : mj_L) (st : List mj_V) (σ : mj_H) : Prop :=
  ∀ (pc : Nat) (H : Heap) (locs : List Loc) (cells slots : Nat) (loc : Nat × Nat → Nat) (lj : Array Slot), mj_pc mm k = some pc → mj_Iv D cA A el mm s L0 loc0 ls st σ H locs cells slots loc lj → W p l e R s m args below meth c H locs cells slots Q (F0 m pc lj (st.map (mj_vc loc)))
section SND
variable {D : va_G} {cA : Nat → ClassId} {A : Nat → Prop} {el : Nat → Nat} {X : mj_X} {J : mj_J} {mm : Nat} {p : Program} {l : Launch} {e : Env} {R : Room} {s : State} {m : MethodId} {args : Array Value} {below : List Frame} {meth : Method} {c : Code} {Q : State → Prop} {L0 Lf : List (Nat × Nat)} {loc0 : Nat × Nat → Nat}
variable {ls : mj_L} {st : List mj_V} {σ : mj_H} {k pc0 : Nat} {H : Heap} {locs : List Loc} {cells slots : Nat} {loc : Nat × Nat → Nat} {lj : Array Slot}
theorem mj_Iv.stk {st' : List mj_V} (h : mj_Iv D cA A el mm s L0 loc0 ls st σ H locs cells slots loc lj) (hs : ∀ v ∈ st', mj_lv σ.1 v) : mj_Iv D cA A el mm s L0 loc0 ls st' σ H locs cells slots loc lj :=
  ⟨h.1, h.2.1, h.2.2.1, h.2.2.2.1, hs, h.2.2.2.2.2⟩
theorem mj_Iv.lv (h : mj_Iv D cA A el mm s L0 loc0 ls st σ H locs cells slots loc lj) : ∀ v ∈ st, mj_lv σ.1 v := h.2.2.2.2.1
theorem mj_Iv.tl {x : mj_V} {r : List mj_V} (h : mj_Iv D cA A el mm s L0 loc0 ls (x :: r) σ H locs cells slots loc lj) : ∀ v ∈ r, mj_lv σ.1 v := fun v hv => h.lv v (List.mem_cons_of_mem _ hv)
theorem mj_lvc {L : List (Nat × Nat)} {x : mj_V} {r : List mj_V} (h1 : mj_lv L x) (h2 : ∀ v ∈ r, mj_lv L v) : ∀ v ∈ x :: r, mj_lv L v := fun v hv => (List.mem_cons.mp hv).elim (fun q => q ▸ h1) (h2 v)
theorem mj_lvi (L : List (Nat × Nat)) (x : Int32) : mj_lv L (.inl x) := trivial
theorem mj_s_iconst {n : Int} {v : Int32} (hA : mj_At D cA A el X J mm p R s m args meth c L0 Lf) (hk : mj_pc mm k = some pc0) (hd : decode J.2.1 pc0 = .ok (.iconst n, 1)) (hv : Int32.ofInt n = v) (hn : mj_pc mm (k + 1) = some (pc0 + 1)) (h : mj_Sim D cA A el mm p l e R s m args below meth c Q L0 loc0 (k + 1) ls (.inl v :: st) σ) : mj_Sim D cA A el mm p l e R s m args below meth c Q L0 loc0 k ls st σ := by
  intro pc H locs cells slots loc lj hpc hI
  cases hk.symm.trans hpc
  exact lv_iconst hA.1 hA.2.1 hd hv (h _ _ _ _ _ _ _ hn (hI.stk (mj_lvc (mj_lvi _ _) hI.lv)))
theorem mj_s_bipush {n : Int} {v : Int32} (hA : mj_At D cA A el X J mm p R s m args meth c L0 Lf) (hk : mj_pc mm k = some pc0) (hd : decode J.2.1 pc0 = .ok (.bipush n, 2)) (hv : (Int8.ofInt n).toInt32 = v) (hn : mj_pc mm (k + 1) = some (pc0 + 2)) (h : mj_Sim D cA A el mm p l e R s m args below meth c Q L0 loc0 (k + 1) ls (.inl v :: st) σ) : mj_Sim D cA A el mm p l e R s m args below meth c Q L0 loc0 k ls st σ := by
  intro pc H locs cells slots loc lj hpc hI
  cases hk.symm.trans hpc
  exact lv_bipush hA.1 hA.2.1 hd hv (h _ _ _ _ _ _ _ hn (hI.stk (mj_lvc (mj_lvi _ _) hI.lv)))
theorem mj_s_sipush {n : Int} {v : Int32} (hA : mj_At D cA A el X J mm p R s m args meth c L0 Lf) (hk : mj_pc mm k = some pc0) (hd : decode J.2.1 pc0 = .ok (.sipush n, 3)) (hv : (Int16.ofInt n).toInt32 = v) (hn : mj_pc mm (k + 1) = some (pc0 + 3)) (h : mj_Sim D cA A el mm p l e R s m args below meth c Q L0 loc0 (k + 1) ls (.inl v :: st) σ) : mj_Sim D cA A el mm p l e R s m args below meth c Q L0 loc0 k ls st σ := by
  intro pc H locs cells slots loc lj hpc hI
  cases hk.symm.trans hpc
  exact lv_sipush hA.1 hA.2.1 hd hv (h _ _ _ _ _ _ _ hn (hI.stk (mj_lvc (mj_lvi _ _) hI.lv)))
theorem mj_s_ldc {i pos : Nat} {v : Int32} (hA : mj_At D cA A el X J mm p R s m args meth c L0 Lf) (hk : mj_pc mm k = some pc0) (hd : decode J.2.1 pc0 = .ok (.ldc i, 2)) (hv : lw_tbl[pos]? = some (Jvm.Cond.constant J.1.cls i v)) (hn : mj_pc mm (k + 1) = some (pc0 + 2)) (h : mj_Sim D cA A el mm p l e R s m args below meth c Q L0 loc0 (k + 1) ls (.inl v :: st) σ) : mj_Sim D cA A el mm p l e R s m args below meth c Q L0 loc0 k ls st σ := by
  intro pc H locs cells slots loc lj hpc hI
  cases hk.symm.trans hpc
  exact lv_ldc hA.1 hA.2.1 hA.2.2.2.1 (hA.2.2.2.2.1 _ (mj_gd hv rfl)) hd (h _ _ _ _ _ _ _ hn (hI.stk (mj_lvc (mj_lvi _ _) hI.lv)))
theorem mj_s_ld {ins : Instr} {len i : Nat} {isI : Bool} {k' : Nat} {ls' : mj_L} {st' : List mj_V} {σ' : mj_H} (hA : mj_At D cA A el X J mm p R s m args meth c L0 Lf) (hk : mj_pc mm k = some pc0) (hd : decode J.2.1 pc0 = .ok (ins, len))
    (hi : (isI = true ∧ ((∃ q : Fin 4, (q : Nat) = i ∧ ins = .iload_n q ∧ len = 1) ∨ (ins = .iload i ∧ len = 2))) ∨ (isI = false ∧ ((∃ q : Fin 4, (q : Nat) = i ∧ ins = .aload_n q ∧ len = 1) ∨ (ins = .aload i ∧ len = 2)))) (hn : mj_pc mm (k + 1) = some (pc0 + len)) (hs : mj_ld k ls st σ isI i = some (.inl (k', ls', st', σ'))) (h : mj_Sim D cA A el mm p l e R s m args below meth c Q L0 loc0 k' ls' st' σ') : mj_Sim D cA A el mm p l e R s m args below meth c Q L0 loc0 k ls st σ := by
  intro pc H locs cells slots loc lj hpc hI
  cases hk.symm.trans hpc
  unfold mj_ld at hs
  cases hl : ls[i]? with
  | none => rw [hl] at hs; cases hs
  | some o =>
    cases o with
    | none => rw [hl] at hs; cases hs
    | some v =>
      have hlv := hI.2.2.2.1 v (List.mem_of_getElem? hl)
      have hlj := hI.2.2.1.2.2.2 i v hl
      cases v with
      | inl x =>
        rw [hl] at hs
        dsimp only at hs
        rcases hi with ⟨rfl, hi⟩ | ⟨rfl, hi⟩
        · rw [if_pos rfl] at hs
          cases hs
          rcases hi with ⟨q, hq, rfl, rfl⟩ | ⟨rfl, rfl⟩
          · exact lv_iload_n hA.1 hA.2.1 hd hq hlj (h _ _ _ _ _ _ _ hn (hI.stk (mj_lvc hlv hI.lv)))
          · exact lv_iload hA.1 hA.2.1 hd hlj (h _ _ _ _ _ _ _ hn (hI.stk (mj_lvc hlv hI.lv)))
        · rw [if_neg (by decide)] at hs; cases hs
      | inr x =>
        rw [hl] at hs
        dsimp only at hs
        rcases hi with ⟨rfl, hi⟩ | ⟨rfl, hi⟩
        · rw [if_pos rfl] at hs; cases hs
        · rw [if_neg (by decide)] at hs
          cases hs
          rcases hi with ⟨q, hq, rfl, rfl⟩ | ⟨rfl, rfl⟩
          · exact lv_aload_n hA.1 hA.2.1 hd hq hlj (h _ _ _ _ _ _ _ hn (hI.stk (mj_lvc hlv hI.lv)))
          · exact lv_aload hA.1 hA.2.1 hd hlj (h _ _ _ _ _ _ _ hn (hI.stk (mj_lvc hlv hI.lv)))
theorem mj_Iv.set {i : Nat} {v : mj_V} {r : List mj_V} {w : Value} {lj' : Array Slot} (hI : mj_Iv D cA A el mm s L0 loc0 ls st σ H locs cells slots loc lj) (hw : w = mj_vc loc v) (hv : mj_lv σ.1 v) (hr : ∀ v ∈ r, mj_lv σ.1 v) (h' : lv_has lj' (mj_mx mj_Y mm) ((i, w) :: (mj_lvl loc ls).filter (fun q => !(q.1 == i) && !(q.1 + 1 == i && q.2.category == 2)))) : mj_Iv D cA A el mm s L0 loc0 (ls.set i (some v)) r σ H locs cells slots loc lj' := by
  refine ⟨hI.1, hI.2.1, hI.2.2.1.set hw h', fun u hu => ?_, hr, hI.2.2.2.2.2⟩
  rcases List.mem_or_eq_of_mem_set hu with g | g
  · exact hI.2.2.2.1 u g
  · cases g; exact hv
theorem mj_s_st {ins : Instr} {len i : Nat} {isI : Bool} {k' : Nat} {ls' : mj_L} {st' : List mj_V} {σ' : mj_H} (hA : mj_At D cA A el X J mm p R s m args meth c L0 Lf) (hk : mj_pc mm k = some pc0) (hd : decode J.2.1 pc0 = .ok (ins, len))
    (hi : (isI = true ∧ ((∃ q : Fin 4, (q : Nat) = i ∧ ins = .istore_n q ∧ len = 1) ∨ (ins = .istore i ∧ len = 2))) ∨ (isI = false ∧ ((∃ q : Fin 4, (q : Nat) = i ∧ ins = .astore_n q ∧ len = 1) ∨ (ins = .astore i ∧ len = 2)))) (hn : mj_pc mm (k + 1) = some (pc0 + len)) (hs : mj_st k ls st σ isI i = some (.inl (k', ls', st', σ'))) (h : mj_Sim D cA A el mm p l e R s m args below meth c Q L0 loc0 k' ls' st' σ') : mj_Sim D cA A el mm p l e R s m args below meth c Q L0 loc0 k ls st σ := by
  intro pc H locs cells slots loc lj hpc hI
  cases hk.symm.trans hpc
  unfold mj_st at hs
  cases st with
  | nil => cases hs
  | cons v r =>
    have hlv := hI.lv v List.mem_cons_self
    cases v with
    | inl x =>
      dsimp only at hs
      rcases hi with ⟨rfl, hi⟩ | ⟨rfl, hi⟩
      · by_cases hlt : i < ls.length
        · rw [if_pos ⟨rfl, hlt⟩] at hs
          cases hs
          rw [hI.2.2.1.2.1] at hlt
          rcases hi with ⟨q, hq, rfl, rfl⟩ | ⟨rfl, rfl⟩
          · exact lv_istore_n hA.1 hA.2.1 hd hq hI.2.2.1.has hlt rfl (fun lj' h' => h _ _ _ _ _ _ _ hn (hI.set rfl hlv hI.tl h'))
          · exact lv_istore hA.1 hA.2.1 hd hI.2.2.1.has hlt rfl (fun lj' h' => h _ _ _ _ _ _ _ hn (hI.set rfl hlv hI.tl h'))
        · rw [if_neg (fun z => hlt z.2)] at hs; cases hs
      · rw [if_neg (fun z => by cases z.1)] at hs; cases hs
    | inr x =>
      dsimp only at hs
      rcases hi with ⟨rfl, hi⟩ | ⟨rfl, hi⟩
      · rw [if_neg (fun z => by cases z.1)] at hs; cases hs
      · by_cases hlt : i < ls.length
        · rw [if_pos ⟨rfl, hlt⟩] at hs
          cases hs
          rw [hI.2.2.1.2.1] at hlt
          rcases hi with ⟨q, hq, rfl, rfl⟩ | ⟨rfl, rfl⟩
          · exact lv_astore_n hA.1 hA.2.1 hd hq hI.2.2.1.has hlt rfl (fun lj' h' => h _ _ _ _ _ _ _ hn (hI.set rfl hlv hI.tl h'))
          · exact lv_astore hA.1 hA.2.1 hd hI.2.2.1.has hlt rfl (fun lj' h' => h _ _ _ _ _ _ _ hn (hI.set rfl hlv hI.tl h'))
        · rw [if_neg (fun z => hlt z.2)] at hs; cases hs
theorem mj_s_iinc {i : Nat} {n : Int} {v x : Int32} (hA : mj_At D cA A el X J mm p R s m args meth c L0 Lf) (hk : mj_pc mm k = some pc0) (hd : decode J.2.1 pc0 = .ok (.iinc i n, 3)) (hv : Int32.ofInt n = v) (hn : mj_pc mm (k + 1) = some (pc0 + 3)) (hl : ls[i]? = some (some (.inl x))) (h : mj_Sim D cA A el mm p l e R s m args below meth c Q L0 loc0 (k + 1) (ls.set i (some (.inl (x + v)))) st σ) : mj_Sim D cA A el mm p l e R s m args below meth c Q L0 loc0 k ls st σ := by
  intro pc H locs cells slots loc lj hpc hI
  cases hk.symm.trans hpc
  have hlt : i < mj_mx mj_Y mm := by rw [← hI.2.2.1.2.1]; exact (List.getElem?_eq_some_iff.mp hl).1
  obtain ⟨j, hj⟩ := List.getElem?_of_mem (mj_lvl_in (loc := loc) (q := (i, .int x)).mpr ⟨_, hl, rfl⟩)
  exact lv_iinc (k := j) hA.1 hA.2.1 hd hI.2.2.1.has hj (by rw [hv]) hlt rfl (fun lj' h' => h _ _ _ _ _ _ _ hn (hI.set rfl (mj_lvi _ _) hI.lv h'))
end SND
end
section
/-! rows: numbers, the stack, branches -/
section SND
variable {D : va_G} {cA : Nat → ClassId} {A : Nat → Prop} {el : Nat → Nat} {X : mj_X} {J : mj_J} {mm : Nat} {p : Program} {l : Launch} {e : Env} {R : Room} {s : State} {m : MethodId} {args : Array Value} {below : List Frame} {meth : Method} {c : Code} {Q : State → Prop} {L0 Lf : List (Nat × Nat)} {loc0 : Nat × Nat → Nat}
variable {ls : mj_L} {st : List mj_V} {σ : mj_H} {k pc0 : Nat} {H : Heap} {locs : List Loc} {cells slots : Nat} {loc : Nat × Nat → Nat} {lj : Array Slot}
theorem mj_s_iadd {x y : Int32} {r : List mj_V} (hA : mj_At D cA A el X J mm p R s m args meth c L0 Lf) (hk : mj_pc mm k = some pc0) (hd : decode J.2.1 pc0 = .ok (.iadd, 1)) (hn : mj_pc mm (k + 1) = some (pc0 + 1)) (h : mj_Sim D cA A el mm p l e R s m args below meth c Q L0 loc0 (k + 1) ls (.inl (x + y) :: r) σ) : mj_Sim D cA A el mm p l e R s m args below meth c Q L0 loc0 k ls (.inl y :: .inl x :: r) σ := by
  intro pc H locs cells slots loc lj hpc hI
  cases hk.symm.trans hpc
  exact lv_iadd hA.1 hA.2.1 hd (h _ _ _ _ _ _ _ hn (hI.stk (mj_lvc (mj_lvi _ _) (fun v hv => hI.tl v (List.mem_cons_of_mem _ hv)))))
theorem mj_s_isub {x y : Int32} {r : List mj_V} (hA : mj_At D cA A el X J mm p R s m args meth c L0 Lf) (hk : mj_pc mm k = some pc0) (hd : decode J.2.1 pc0 = .ok (.isub, 1)) (hn : mj_pc mm (k + 1) = some (pc0 + 1)) (h : mj_Sim D cA A el mm p l e R s m args below meth c Q L0 loc0 (k + 1) ls (.inl (x - y) :: r) σ) : mj_Sim D cA A el mm p l e R s m args below meth c Q L0 loc0 k ls (.inl y :: .inl x :: r) σ := by
  intro pc H locs cells slots loc lj hpc hI
  cases hk.symm.trans hpc
  exact lv_isub hA.1 hA.2.1 hd (h _ _ _ _ _ _ _ hn (hI.stk (mj_lvc (mj_lvi _ _) (fun v hv => hI.tl v (List.mem_cons_of_mem _ hv)))))
theorem mj_s_imul {x y : Int32} {r : List mj_V} (hA : mj_At D cA A el X J mm p R s m args meth c L0 Lf) (hk : mj_pc mm k = some pc0) (hd : decode J.2.1 pc0 = .ok (.imul, 1)) (hn : mj_pc mm (k + 1) = some (pc0 + 1)) (h : mj_Sim D cA A el mm p l e R s m args below meth c Q L0 loc0 (k + 1) ls (.inl (x * y) :: r) σ) : mj_Sim D cA A el mm p l e R s m args below meth c Q L0 loc0 k ls (.inl y :: .inl x :: r) σ := by
  intro pc H locs cells slots loc lj hpc hI
  cases hk.symm.trans hpc
  exact lv_imul hA.1 hA.2.1 hd (h _ _ _ _ _ _ _ hn (hI.stk (mj_lvc (mj_lvi _ _) (fun v hv => hI.tl v (List.mem_cons_of_mem _ hv)))))
theorem mj_s_iand {x y : Int32} {r : List mj_V} (hA : mj_At D cA A el X J mm p R s m args meth c L0 Lf) (hk : mj_pc mm k = some pc0) (hd : decode J.2.1 pc0 = .ok (.iand, 1)) (hn : mj_pc mm (k + 1) = some (pc0 + 1)) (h : mj_Sim D cA A el mm p l e R s m args below meth c Q L0 loc0 (k + 1) ls (.inl (x &&& y) :: r) σ) : mj_Sim D cA A el mm p l e R s m args below meth c Q L0 loc0 k ls (.inl y :: .inl x :: r) σ := by
  intro pc H locs cells slots loc lj hpc hI
  cases hk.symm.trans hpc
  exact lv_iand hA.1 hA.2.1 hd (h _ _ _ _ _ _ _ hn (hI.stk (mj_lvc (mj_lvi _ _) (fun v hv => hI.tl v (List.mem_cons_of_mem _ hv)))))
theorem mj_s_ixor {x y : Int32} {r : List mj_V} (hA : mj_At D cA A el X J mm p R s m args meth c L0 Lf) (hk : mj_pc mm k = some pc0) (hd : decode J.2.1 pc0 = .ok (.ixor, 1)) (hn : mj_pc mm (k + 1) = some (pc0 + 1)) (h : mj_Sim D cA A el mm p l e R s m args below meth c Q L0 loc0 (k + 1) ls (.inl (x ^^^ y) :: r) σ) : mj_Sim D cA A el mm p l e R s m args below meth c Q L0 loc0 k ls (.inl y :: .inl x :: r) σ := by
  intro pc H locs cells slots loc lj hpc hI
  cases hk.symm.trans hpc
  exact lv_ixor hA.1 hA.2.1 hd (h _ _ _ _ _ _ _ hn (hI.stk (mj_lvc (mj_lvi _ _) (fun v hv => hI.tl v (List.mem_cons_of_mem _ hv)))))
theorem mj_s_idiv {x y : Int32} {r : List mj_V} (hne : ¬ y = 0) (hA : mj_At D cA A el X J mm p R s m args meth c L0 Lf) (hk : mj_pc mm k = some pc0) (hd : decode J.2.1 pc0 = .ok (.idiv, 1)) (hn : mj_pc mm (k + 1) = some (pc0 + 1)) (h : mj_Sim D cA A el mm p l e R s m args below meth c Q L0 loc0 (k + 1) ls (.inl (x / y) :: r) σ) : mj_Sim D cA A el mm p l e R s m args below meth c Q L0 loc0 k ls (.inl y :: .inl x :: r) σ := by
  intro pc H locs cells slots loc lj hpc hI
  cases hk.symm.trans hpc
  exact lv_idiv hA.1 hA.2.1 hd hne (h _ _ _ _ _ _ _ hn (hI.stk (mj_lvc (mj_lvi _ _) (fun v hv => hI.tl v (List.mem_cons_of_mem _ hv)))))
theorem mj_s_irem {x y : Int32} {r : List mj_V} (hne : ¬ y = 0) (hA : mj_At D cA A el X J mm p R s m args meth c L0 Lf) (hk : mj_pc mm k = some pc0) (hd : decode J.2.1 pc0 = .ok (.irem, 1)) (hn : mj_pc mm (k + 1) = some (pc0 + 1)) (h : mj_Sim D cA A el mm p l e R s m args below meth c Q L0 loc0 (k + 1) ls (.inl (x - x / y * y) :: r) σ) : mj_Sim D cA A el mm p l e R s m args below meth c Q L0 loc0 k ls (.inl y :: .inl x :: r) σ := by
  intro pc H locs cells slots loc lj hpc hI
  cases hk.symm.trans hpc
  exact lv_irem hA.1 hA.2.1 hd hne (h _ _ _ _ _ _ _ hn (hI.stk (mj_lvc (mj_lvi _ _) (fun v hv => hI.tl v (List.mem_cons_of_mem _ hv)))))
theorem mj_s_dup {x : mj_V} {r : List mj_V} (hA : mj_At D cA A el X J mm p R s m args meth c L0 Lf) (hk : mj_pc mm k = some pc0) (hd : decode J.2.1 pc0 = .ok (.dup, 1)) (hn : mj_pc mm (k + 1) = some (pc0 + 1)) (h : mj_Sim D cA A el mm p l e R s m args below meth c Q L0 loc0 (k + 1) ls (x :: x :: r) σ) : mj_Sim D cA A el mm p l e R s m args below meth c Q L0 loc0 k ls (x :: r) σ := by
  intro pc H locs cells slots loc lj hpc hI
  cases hk.symm.trans hpc
  exact lv_dup hA.1 hA.2.1 hd (mj_cat loc x) (h _ _ _ _ _ _ _ hn (hI.stk (mj_lvc (hI.lv x List.mem_cons_self) hI.lv)))
theorem mj_s_dup2 {x y : mj_V} {r : List mj_V} (hA : mj_At D cA A el X J mm p R s m args meth c L0 Lf) (hk : mj_pc mm k = some pc0) (hd : decode J.2.1 pc0 = .ok (.dup2, 1)) (hn : mj_pc mm (k + 1) = some (pc0 + 1)) (h : mj_Sim D cA A el mm p l e R s m args below meth c Q L0 loc0 (k + 1) ls (x :: y :: x :: y :: r) σ) : mj_Sim D cA A el mm p l e R s m args below meth c Q L0 loc0 k ls (x :: y :: r) σ := by
  intro pc H locs cells slots loc lj hpc hI
  cases hk.symm.trans hpc
  exact lv_dup2_11 hA.1 hA.2.1 hd (mj_cat loc x) (mj_cat loc y) (h _ _ _ _ _ _ _ hn (hI.stk (mj_lvc (hI.lv x List.mem_cons_self) (mj_lvc (hI.tl y List.mem_cons_self) hI.lv))))
theorem mj_s_pop {x : mj_V} {r : List mj_V} (hA : mj_At D cA A el X J mm p R s m args meth c L0 Lf) (hk : mj_pc mm k = some pc0) (hd : decode J.2.1 pc0 = .ok (.pop, 1)) (hn : mj_pc mm (k + 1) = some (pc0 + 1)) (h : mj_Sim D cA A el mm p l e R s m args below meth c Q L0 loc0 (k + 1) ls r σ) : mj_Sim D cA A el mm p l e R s m args below meth c Q L0 loc0 k ls (x :: r) σ := by
  intro pc H locs cells slots loc lj hpc hI
  cases hk.symm.trans hpc
  exact lv_pop hA.1 hA.2.1 hd (mj_cat loc x) (h _ _ _ _ _ _ _ hn (hI.stk hI.tl))
theorem mj_s_i2c {x : Int32} {r : List mj_V} (hA : mj_At D cA A el X J mm p R s m args meth c L0 Lf) (hk : mj_pc mm k = some pc0) (hd : decode J.2.1 pc0 = .ok (.i2c, 1)) (hn : mj_pc mm (k + 1) = some (pc0 + 1)) (h : mj_Sim D cA A el mm p l e R s m args below meth c Q L0 loc0 (k + 1) ls (.inl (x.toUInt32 % 65536).toInt32 :: r) σ) : mj_Sim D cA A el mm p l e R s m args below meth c Q L0 loc0 k ls (.inl x :: r) σ := by
  intro pc H locs cells slots loc lj hpc hI
  cases hk.symm.trans hpc
  exact lv_i2c hA.1 hA.2.1 hd rfl (h _ _ _ _ _ _ _ hn (hI.stk (mj_lvc (mj_lvi _ _) hI.tl)))
theorem mj_s_goto {off : Int} {a t : Nat} (hA : mj_At D cA A el X J mm p R s m args meth c L0 Lf) (hk : mj_pc mm k = some pc0) (hd : decode J.2.1 pc0 = .ok (.goto off, 3)) (ht : mj_pc mm a = some t) (ho : (pc0 : Int) + off = (t : Int)) (h : mj_Sim D cA A el mm p l e R s m args below meth c Q L0 loc0 a ls st σ) : mj_Sim D cA A el mm p l e R s m args below meth c Q L0 loc0 k ls st σ := by
  intro pc H locs cells slots loc lj hpc hI
  cases hk.symm.trans hpc
  exact lv_goto hA.1 hA.2.1 hd ho (h _ _ _ _ _ _ _ ht hI)
theorem mj_s_if {o : ClassFile.Cond} {off : Int} {a t : Nat} {x : Int32} {r : List mj_V} (hA : mj_At D cA A el X J mm p R s m args meth c L0 Lf) (hk : mj_pc mm k = some pc0) (hd : decode J.2.1 pc0 = .ok (.ifCond o off, 3)) (hn : mj_pc mm (k + 1) = some (pc0 + 3)) (ht : mj_pc mm a = some t) (ho : (pc0 : Int) + off = (t : Int)) (h : mj_Sim D cA A el mm p l e R s m args below meth c Q L0 loc0 (if mj_cmp o x 0 = true then a else k + 1) ls r σ) : mj_Sim D cA A el mm p l e R s m args below meth c Q L0 loc0 k ls (.inl x :: r) σ := by
  intro pc H locs cells slots loc lj hpc hI
  cases hk.symm.trans hpc
  cases o
  · refine lv_if_eq hA.1 hA.2.1 hd ho (fun g => ?_) (fun g => ?_)
    · rw [if_pos (by simp only [mj_cmp, decide_eq_true_eq]; exact g)] at h
      exact h _ _ _ _ _ _ _ ht (hI.stk hI.tl)
    · rw [if_neg (by simp only [mj_cmp, decide_eq_true_eq]; first | exact g | exact fun z => z g)] at h
      exact h _ _ _ _ _ _ _ hn (hI.stk hI.tl)
  · refine lv_if_ne hA.1 hA.2.1 hd ho (fun g => ?_) (fun g => ?_)
    · rw [if_pos (by simp only [mj_cmp, decide_eq_true_eq]; exact g)] at h
      exact h _ _ _ _ _ _ _ ht (hI.stk hI.tl)
    · rw [if_neg (by simp only [mj_cmp, decide_eq_true_eq]; first | exact g | exact fun z => z g)] at h
      exact h _ _ _ _ _ _ _ hn (hI.stk hI.tl)
  · refine lv_if_lt hA.1 hA.2.1 hd ho (fun g => ?_) (fun g => ?_)
    · rw [if_pos (by simp only [mj_cmp, decide_eq_true_eq]; exact g)] at h
      exact h _ _ _ _ _ _ _ ht (hI.stk hI.tl)
    · rw [if_neg (by simp only [mj_cmp, decide_eq_true_eq]; first | exact g | exact fun z => z g)] at h
      exact h _ _ _ _ _ _ _ hn (hI.stk hI.tl)
  · refine lv_if_ge hA.1 hA.2.1 hd ho (fun g => ?_) (fun g => ?_)
    · rw [if_pos (by simp only [mj_cmp, decide_eq_true_eq]; exact g)] at h
      exact h _ _ _ _ _ _ _ ht (hI.stk hI.tl)
    · rw [if_neg (by simp only [mj_cmp, decide_eq_true_eq]; first | exact g | exact fun z => z g)] at h
      exact h _ _ _ _ _ _ _ hn (hI.stk hI.tl)
  · refine lv_if_gt hA.1 hA.2.1 hd ho (fun g => ?_) (fun g => ?_)
    · rw [if_pos (by simp only [mj_cmp, decide_eq_true_eq]; exact g)] at h
      exact h _ _ _ _ _ _ _ ht (hI.stk hI.tl)
    · rw [if_neg (by simp only [mj_cmp, decide_eq_true_eq]; first | exact g | exact fun z => z g)] at h
      exact h _ _ _ _ _ _ _ hn (hI.stk hI.tl)
  · refine lv_if_le hA.1 hA.2.1 hd ho (fun g => ?_) (fun g => ?_)
    · rw [if_pos (by simp only [mj_cmp, decide_eq_true_eq]; exact g)] at h
      exact h _ _ _ _ _ _ _ ht (hI.stk hI.tl)
    · rw [if_neg (by simp only [mj_cmp, decide_eq_true_eq]; first | exact g | exact fun z => z g)] at h
      exact h _ _ _ _ _ _ _ hn (hI.stk hI.tl)
theorem mj_s_icmp {o : ClassFile.Cond} {off : Int} {a t : Nat} {x y : Int32} {r : List mj_V} (hA : mj_At D cA A el X J mm p R s m args meth c L0 Lf) (hk : mj_pc mm k = some pc0) (hd : decode J.2.1 pc0 = .ok (.if_icmp o off, 3)) (hn : mj_pc mm (k + 1) = some (pc0 + 3)) (ht : mj_pc mm a = some t) (ho : (pc0 : Int) + off = (t : Int)) (h : mj_Sim D cA A el mm p l e R s m args below meth c Q L0 loc0 (if mj_cmp o x y = true then a else k + 1) ls r σ) : mj_Sim D cA A el mm p l e R s m args below meth c Q L0 loc0 k ls (.inl y :: .inl x :: r) σ := by
  intro pc H locs cells slots loc lj hpc hI
  cases hk.symm.trans hpc
  cases o
  · refine lv_icmp_eq hA.1 hA.2.1 hd ho (fun g => ?_) (fun g => ?_)
    · rw [if_pos (by simp only [mj_cmp, decide_eq_true_eq]; exact g)] at h
      exact h _ _ _ _ _ _ _ ht (hI.stk (fun v hv => hI.tl v (List.mem_cons_of_mem _ hv)))
    · rw [if_neg (by simp only [mj_cmp, decide_eq_true_eq]; first | exact g | exact fun z => z g)] at h
      exact h _ _ _ _ _ _ _ hn (hI.stk (fun v hv => hI.tl v (List.mem_cons_of_mem _ hv)))
  · refine lv_icmp_ne hA.1 hA.2.1 hd ho (fun g => ?_) (fun g => ?_)
    · rw [if_pos (by simp only [mj_cmp, decide_eq_true_eq]; exact g)] at h
      exact h _ _ _ _ _ _ _ ht (hI.stk (fun v hv => hI.tl v (List.mem_cons_of_mem _ hv)))
    · rw [if_neg (by simp only [mj_cmp, decide_eq_true_eq]; first | exact g | exact fun z => z g)] at h
      exact h _ _ _ _ _ _ _ hn (hI.stk (fun v hv => hI.tl v (List.mem_cons_of_mem _ hv)))
  · refine lv_icmp_lt hA.1 hA.2.1 hd ho (fun g => ?_) (fun g => ?_)
    · rw [if_pos (by simp only [mj_cmp, decide_eq_true_eq]; exact g)] at h
      exact h _ _ _ _ _ _ _ ht (hI.stk (fun v hv => hI.tl v (List.mem_cons_of_mem _ hv)))
    · rw [if_neg (by simp only [mj_cmp, decide_eq_true_eq]; first | exact g | exact fun z => z g)] at h
      exact h _ _ _ _ _ _ _ hn (hI.stk (fun v hv => hI.tl v (List.mem_cons_of_mem _ hv)))
  · refine lv_icmp_ge hA.1 hA.2.1 hd ho (fun g => ?_) (fun g => ?_)
    · rw [if_pos (by simp only [mj_cmp, decide_eq_true_eq]; exact g)] at h
      exact h _ _ _ _ _ _ _ ht (hI.stk (fun v hv => hI.tl v (List.mem_cons_of_mem _ hv)))
    · rw [if_neg (by simp only [mj_cmp, decide_eq_true_eq]; first | exact g | exact fun z => z g)] at h
      exact h _ _ _ _ _ _ _ hn (hI.stk (fun v hv => hI.tl v (List.mem_cons_of_mem _ hv)))
  · refine lv_icmp_gt hA.1 hA.2.1 hd ho (fun g => ?_) (fun g => ?_)
    · rw [if_pos (by simp only [mj_cmp, decide_eq_true_eq]; exact g)] at h
      exact h _ _ _ _ _ _ _ ht (hI.stk (fun v hv => hI.tl v (List.mem_cons_of_mem _ hv)))
    · rw [if_neg (by simp only [mj_cmp, decide_eq_true_eq]; first | exact g | exact fun z => z g)] at h
      exact h _ _ _ _ _ _ _ hn (hI.stk (fun v hv => hI.tl v (List.mem_cons_of_mem _ hv)))
  · refine lv_icmp_le hA.1 hA.2.1 hd ho (fun g => ?_) (fun g => ?_)
    · rw [if_pos (by simp only [mj_cmp, decide_eq_true_eq]; exact g)] at h
      exact h _ _ _ _ _ _ _ ht (hI.stk (fun v hv => hI.tl v (List.mem_cons_of_mem _ hv)))
    · rw [if_neg (by simp only [mj_cmp, decide_eq_true_eq]; first | exact g | exact fun z => z g)] at h
      exact h _ _ _ _ _ _ _ hn (hI.stk (fun v hv => hI.tl v (List.mem_cons_of_mem _ hv)))
theorem mj_tg_of {cd : List mj_E} {a : Nat} {t : Int} (h : mj_tg cd a t = true) : ∃ n : Nat, (cd[a]?).map (fun e => e.1) = some n ∧ t = (n : Int) := by
  unfold mj_tg at h
  cases hc : cd[a]? with
  | none => rw [hc] at h; cases h
  | some e =>
    rw [hc] at h
    exact ⟨e.1, rfl, of_decide_eq_true h⟩
theorem mj_s_tsw {d lo hi : Int} {offs : Array Int} {len a : Nat} {ts : List Nat} {x : Int32} {r : List mj_V} (hA : mj_At D cA A el X J mm p R s m args meth c L0 Lf) (hk : mj_pc mm k = some pc0) (hd : decode J.2.1 pc0 = .ok (.tableswitch d lo hi offs, len)) (h1 : mj_tg (mj_cd mj_Y mm) a (pc0 + d) = true) (h2 : (hi - lo + 1).toNat = ts.length) (h3 : (offs.toList.zip ts).all (fun q => mj_tg (mj_cd mj_Y mm) q.2 (pc0 + q.1)) = true) (h4 : offs.size = ts.length) (h : mj_Sim D cA A el mm p l e R s m args below meth c Q L0 loc0 (mj_tsw lo hi ts a x) ls r σ) : mj_Sim D cA A el mm p l e R s m args below meth c Q L0 loc0 k ls (.inl x :: r) σ := by
  intro pc H locs cells slots loc lj hpc hI
  cases hk.symm.trans hpc
  unfold mj_tsw at h
  by_cases g : x.toInt < lo ∨ hi < x.toInt
  · rw [if_pos g] at h
    obtain ⟨n, e1, e2⟩ := mj_tg_of h1
    exact lv_tableOut hA.1 hA.2.1 hd g e2 (h _ _ _ _ _ _ _ e1 (hI.stk hI.tl))
  · rw [if_neg g] at h
    have g1 : ¬ x.toInt < lo := fun q => g (Or.inl q)
    have g2 : ¬ hi < x.toInt := fun q => g (Or.inr q)
    have hlt : (x.toInt - lo).toNat < ts.length := by omega
    have hlo : (x.toInt - lo).toNat < offs.size := by omega
    rw [List.getElem?_eq_getElem hlt] at h
    have hm : (offs[(x.toInt - lo).toNat], ts[(x.toInt - lo).toNat]) ∈ offs.toList.zip ts := by
      refine List.mem_of_getElem? (i := (x.toInt - lo).toNat) ?_
      rw [List.getElem?_zip_eq_some]
      refine ⟨?_, List.getElem?_eq_getElem hlt⟩
      rw [Array.getElem?_toList, Array.getElem?_eq_getElem hlo]
    obtain ⟨n, e1, e2⟩ := mj_tg_of (List.all_eq_true.mp h3 _ hm)
    exact lv_tableIn hA.1 hA.2.1 hd g1 g2 (Array.getElem?_eq_getElem hlo) e2 (h _ _ _ _ _ _ _ e1 (hI.stk hI.tl))
theorem mj_lsw_of {cd : List mj_E} {pc : Nat} {d : Int} {a : Nat} {x : Int32} (h1 : mj_tg cd a (pc + d) = true) : ∀ (ps : List (Int × Int)) (ts : List Nat), (ps.zip ts).all (fun q => mj_tg cd q.2 (pc + q.1.2)) = true → ps.length = ts.length → mj_tg cd (mj_lsw ps ts a x) (pc + Op.lookupswitch.offset ps d x.toInt) = true
  | [], ts, _, _ => by
    rw [Op.lookupswitch.offset_nil]
    have e : mj_lsw [] ts a x = a := by cases ts <;> rfl
    rw [e]
    exact h1
  | (b, o) :: ps, [], _, h3 => by cases h3
  | (b, o) :: ps, t :: ts, h2, h3 => by
    rw [List.zip_cons_cons, List.all_cons, Bool.and_eq_true] at h2
    rw [Op.lookupswitch.offset_cons]
    show mj_tg cd (if x.toInt = b then t else mj_lsw ps ts a x) _ = true
    by_cases g : x.toInt = b
    · rw [if_pos g, if_pos g.symm]
      exact h2.1
    · rw [if_neg g, if_neg (fun q => g q.symm)]
      exact mj_lsw_of h1 ps ts h2.2 (Nat.succ.inj h3)
theorem mj_s_lsw {d : Int} {ps : Array (Int × Int)} {len a : Nat} {ts : List Nat} {x : Int32} {r : List mj_V} (hA : mj_At D cA A el X J mm p R s m args meth c L0 Lf) (hk : mj_pc mm k = some pc0) (hd : decode J.2.1 pc0 = .ok (.lookupswitch d ps, len)) (h1 : mj_tg (mj_cd mj_Y mm) a (pc0 + d) = true) (h3 : (ps.toList.zip ts).all (fun q => mj_tg (mj_cd mj_Y mm) q.2 (pc0 + q.1.2)) = true) (h4 : ps.size = ts.length) (h5 : (ps.toList.zip (ps.toList.drop 1)).all (fun (a, next) => a.1 < next.1) = true) (h : mj_Sim D cA A el mm p l e R s m args below meth c Q L0 loc0 (mj_lsw ps.toList ts a x) ls r σ) : mj_Sim D cA A el mm p l e R s m args below meth c Q L0 loc0 k ls (.inl x :: r) σ := by
  intro pc H locs cells slots loc lj hpc hI
  cases hk.symm.trans hpc
  obtain ⟨n, e1, e2⟩ := mj_tg_of (mj_lsw_of (x := x) h1 ps.toList ts h3 (by rw [Array.length_toList]; exact h4))
  exact lv_lookup hA.1 hA.2.1 hd h5 rfl e2 (h _ _ _ _ _ _ _ e1 (hI.stk hI.tl))
end SND
end
section
/-! the cells: what is known of the classes, of a cell, of a cell that changes -/
def mj_tyk (c : Nat) (t : FieldType) : Bool := match c, t with
  | 0, .int => true
  | 1, .boolean => true
  | 2, .char => true
  | 3, .object _ => true
  | 3, .array _ => true
  | _, _ => false
def mj_clP (a : Nat) (C : String) (T : u_T) (N : Nat) (ty : Nat → FieldType) : Prop :=
  (∀ w ∈ u_ws C T N, w ∈ lw_tbl ∧ goodWord w = true) ∧ (∀ k, k < N → parseFieldDescriptor (T k).2.2.1 = some (ty k)) ∧ (∀ k, k < N → mj_tyk (mj_ft mj_Y a k) (ty k) = true) ∧ (∀ a, a < N → ∀ b, b < N → a ≠ b → (T a).2.1 ≠ (T b).2.1) ∧ mj_kd mj_Y a = (0, a, N) ∧ (Jvm.Cond.instantiable C N ∈ lw_tbl ∧ Jvm.Cond.initialized C ∈ lw_tbl)
theorem mj_cl0 : mj_clP 0 mj_R0 mj_T0 3 mj_ty0 := ⟨by decide +kernel, by decide +kernel, by decide +kernel, by decide +kernel, by decide +kernel, by decide +kernel, by decide +kernel⟩
theorem mj_cl1 : mj_clP 1 mj_R1 mj_T1 13 mj_ty1 := ⟨by decide +kernel, by decide +kernel, by decide +kernel, by decide +kernel, by decide +kernel, by decide +kernel, by decide +kernel⟩
theorem mj_cl2 : mj_clP 2 mj_R2 mj_T2 6 mj_ty2 := ⟨by decide +kernel, by decide +kernel, by decide +kernel, by decide +kernel, by decide +kernel, by decide +kernel, by decide +kernel⟩
theorem mj_cl3 : mj_clP 3 mj_R3 mj_T3 3 mj_ty3 := ⟨by decide +kernel, by decide +kernel, by decide +kernel, by decide +kernel, by decide +kernel, by decide +kernel, by decide +kernel⟩
theorem mj_cl4 : mj_clP 4 mj_R4 mj_T4 3 mj_ty4 := ⟨by decide +kernel, by decide +kernel, by decide +kernel, by decide +kernel, by decide +kernel, by decide +kernel, by decide +kernel⟩
theorem mj_cl5 : mj_clP 5 mj_R5 mj_T5 5 mj_ty5 := ⟨by decide +kernel, by decide +kernel, by decide +kernel, by decide +kernel, by decide +kernel, by decide +kernel, by decide +kernel⟩
theorem mj_cl6 : mj_clP 6 mj_R6 mj_T6 12 mj_ty6 := ⟨by decide +kernel, by decide +kernel, by decide +kernel, by decide +kernel, by decide +kernel, by decide +kernel, by decide +kernel⟩
theorem mj_cls {a : Nat} {C : String} {T : u_T} {N : Nat} (h : mj_cl[a]? = some (C, T, N)) : ∃ ty, mj_clP a C T N ty := by
  match a, h with
  | 0, h => cases h; exact ⟨_, mj_cl0⟩
  | 1, h => cases h; exact ⟨_, mj_cl1⟩
  | 2, h => cases h; exact ⟨_, mj_cl2⟩
  | 3, h => cases h; exact ⟨_, mj_cl3⟩
  | 4, h => cases h; exact ⟨_, mj_cl4⟩
  | 5, h => cases h; exact ⟨_, mj_cl5⟩
  | 6, h => cases h; exact ⟨_, mj_cl6⟩
  | a + 7, h => exact absurd h (by simp [mj_cl])
theorem mj_clg {a : Nat} {C : String} {T : u_T} {N : Nat} {ty : Nat → FieldType} (h : mj_clP a C T N ty) : ∀ w ∈ u_ws C T N, w ∈ mj_goods := fun w hw => List.mem_filter.mpr (h.1 w hw)
theorem mj_kds_u : ∀ k, k < 27 → (mj_kd mj_Y k).1 = 2 → ((mj_kd mj_Y k).2.1 = 3 ∨ (mj_kd mj_Y k).2.1 = 4) := by decide +kernel
theorem mj_kds_t : ∀ k, k < 27 → (mj_kd mj_Y k).1 = 1 → ((mj_kd mj_Y k).2.1 = 0 ∨ (mj_kd mj_Y k).2.1 = 2) := by decide +kernel
theorem mj_kds_3 : ∀ k, k < 27 → (mj_kd mj_Y k).1 = 3 → k = 23 := by decide +kernel
theorem mj_kds_n : ∀ k, k < 27 → (mj_kd mj_Y k).2.2 < 3000 := by decide +kernel
theorem mj_kds_0 : ∀ k, k < 27 → (mj_kd mj_Y k).1 = 0 → (mj_kd mj_Y k).2.1 = k ∧ k < 7 := by decide +kernel
theorem mj_kd_lt {k : Nat} (h : (mj_kd mj_Y k).1 ≤ 8) : k < 27 := by
  rcases Nat.lt_or_ge k 27 with g | g
  · exact g
  · exfalso
    have e : mj_kd mj_Y k = (9, 0, 0) := by
      show ((mj_kds[k]?).getD (9, 0, 0)) = (9, 0, 0)
      rw [List.getElem?_eq_none (Nat.le_trans (Nat.le_of_ble_eq_true (by decide +kernel)) g)]
      rfl
    rw [e] at h
    exact absurd h (by decide)
theorem mj_narrow {c : Nat} {t : FieldType} {x : Int32} (h1 : mj_tyk c t = true) (h3 : ¬ c = 3) (h2 : mj_chk c x = true) : narrow t (.int x) = .int x ∧ fits t (.int x) = true := by
  unfold mj_tyk at h1
  split at h1
  · exact ⟨rfl, rfl⟩
  · have h4 : x = 0 ∨ x = 1 := of_decide_eq_true h2
    rcases h4 with rfl | rfl <;> exact ⟨rfl, rfl⟩
  · have h4 : 0 ≤ x.toInt ∧ x.toInt < 65536 := of_decide_eq_true h2
    have h5 : ¬ x < 0 := by
      intro q
      have := Int32.lt_iff_toInt_lt.mp q
      have e : (0 : Int32).toInt = 0 := by decide
      omega
    obtain ⟨j, hj, rfl⟩ := nI_of h5
    have e := nI_toInt hj
    exact pk_charN (by omega)
  · exact absurd rfl h3
  · exact absurd rfl h3
  · cases h1
theorem mj_narrowQ {c : Nat} {t : FieldType} {q : Nat} (h1 : mj_tyk c t = true) (h3 : c = 3) : narrow t (.ref q) = .ref q ∧ fits t (.ref q) = true := by
  subst h3
  unfold mj_tyk at h1
  split at h1
  · rename_i g; cases g
  · rename_i g; cases g
  · rename_i g; cases g
  · exact ⟨rfl, rfl⟩
  · exact ⟨rfl, rfl⟩
  · cases h1
theorem mj_ce_congr {cA : Nat → ClassId} {loc : Nat × Nat → Nat} {f f' : mj_F} {g g' : mj_G} {c : Nat × Nat} (h1 : ∀ s, f' c.1 c.2 s = f c.1 c.2 s) (h2 : ∀ s, g' c.1 c.2 s = g c.1 c.2 s) : mj_ce cA loc f' g' c = mj_ce cA loc f g c := by
  have e1 : f' c.1 c.2 = f c.1 c.2 := funext h1
  have e2 : g' c.1 c.2 = g c.1 c.2 := funext h2
  unfold mj_ce
  rw [e1, e2]
theorem mj_ws_get {cA : Nat → ClassId} {loc : Nat × Nat → Nat} {σ : mj_H} {c : Nat × Nat} (h : c ∈ σ.1) : ∃ q0 : Nat, σ.1[q0]? = some c ∧ (mj_ws cA loc σ)[q0]? = some (loc c, mj_ce cA loc σ.2.1 σ.2.2 c) := by
  obtain ⟨q0, hq⟩ := List.getElem?_of_mem h
  refine ⟨q0, hq, ?_⟩
  unfold mj_ws
  rw [List.getElem?_map, hq]
  rfl
theorem mj_ws_set {cA : Nat → ClassId} {A : Nat → Prop} {loc : Nat × Nat → Nat} {L : List (Nat × Nat)} {f f' : mj_F} {g g' : mj_G} {c : Nat × Nat} {q0 : Nat} {v : va_E} (hD : va_D A (mj_ws cA loc (L, f, g))) (hq : L[q0]? = some c) (hv : v = mj_ce cA loc f' g' c) (ho : ∀ x : Nat × Nat, x ≠ c → mj_ce cA loc f' g' x = mj_ce cA loc f g x) : (mj_ws cA loc (L, f, g)).set q0 (loc c, v) = mj_ws cA loc (L, f', g') := by
  apply List.ext_getElem?
  intro j
  by_cases hj : q0 = j
  · subst hj
    rw [List.getElem?_set_self']
    unfold mj_ws
    rw [List.getElem?_map, List.getElem?_map]
    show Functor.map _ (Option.map _ L[q0]?) = Option.map _ L[q0]?
    rw [hq, hv]
    rfl
  · rw [List.getElem?_set_ne hj]
    unfold mj_ws
    rw [List.getElem?_map, List.getElem?_map]
    show Option.map _ L[j]? = Option.map _ L[j]?
    cases hx : L[j]? with
    | none => rfl
    | some x =>
      show some (loc x, mj_ce cA loc f g x) = some (loc x, mj_ce cA loc f' g' x)
      rw [ho x]
      intro e
      subst e
      refine hj (hD.1 q0 j (loc x, mj_ce cA loc f g x) (loc x, mj_ce cA loc f g x) ?_ ?_ rfl)
      · unfold mj_ws
        rw [List.getElem?_map]
        show Option.map _ L[q0]? = _
        rw [hq]
        rfl
      · unfold mj_ws
        rw [List.getElem?_map]
        show Option.map _ L[j]? = _
        rw [hx]
        rfl
theorem mj_ne {x c : Nat × Nat} (h : x ≠ c) (s j : Nat) : ¬ (x.1 = c.1 ∧ x.2 = c.2 ∧ s = j) := fun q => h (Prod.ext q.1 q.2.1)
/-- an index of the kit's -/
theorem mj_ix_in {x : Int32} {n q : Nat} (h : mj_ix x n = some q) : vp_in x n ∧ x.toNatClampNeg = q := by
  unfold mj_ix at h
  split at h
  · rename_i g
    cases h
    exact ⟨vp_in_iff.mpr g, rfl⟩
  · cases h
end
section
/-! rows: fields, arrays -/
section SND
variable {D : va_G} {cA : Nat → ClassId} {A : Nat → Prop} {el : Nat → Nat} {X : mj_X} {J : mj_J} {mm : Nat} {p : Program} {l : Launch} {e : Env} {R : Room} {s : State} {m : MethodId} {args : Array Value} {below : List Frame} {meth : Method} {c : Code} {Q : State → Prop} {L0 Lf : List (Nat × Nat)} {loc0 : Nat × Nat → Nat}
variable {ls : mj_L} {st : List mj_V} {σ : mj_H} {k pc0 : Nat} {H : Heap} {locs : List Loc} {cells slots : Nat} {loc : Nat × Nat → Nat} {lj : Array Slot}
theorem mj_fw_of {own : String} {i pos a b : Nat} (h : mj_fw own i pos a b = true) : ∃ (C : String) (T : u_T) (N : Nat), mj_cl[a]? = some (C, T, N) ∧ b < N ∧ (lw_tbl[pos]? = some (Jvm.Cond.fieldLink own i (T b).1 (T b).2.1 (T b).2.2.1) ∨ lw_tbl[pos]? = some (Jvm.Cond.fieldLinkNest own i (T b).1 (T b).2.1 (T b).2.2.1 mj_host)) := by
  unfold mj_fw at h
  cases hc : mj_cl[a]? with
  | none => rw [hc] at h; cases h
  | some r =>
    obtain ⟨C, T, N⟩ := r
    rw [hc] at h
    simp only [Bool.and_eq_true, Bool.or_eq_true, decide_eq_true_eq] at h
    exact ⟨C, T, N, rfl, h.1, h.2⟩
theorem mj_fs {n : Nat} {F : Nat → Value} {b : Nat} (hb : b < n) : ((List.range n).map F)[b]? = some (F b) := by
  rw [List.getElem?_map, List.getElem?_range hb]
  rfl
/-- a live cell of a kind that is no fixed one is one of ours -/
theorem mj_live {L : List (Nat × Nat)} {a q : Nat} (h : mj_lv L (.inr (a, q))) (h2 : (mj_kd mj_Y a).1 ≤ 2) : (a, q) ∈ L := by
  rcases h with h | ⟨-, h3, -⟩
  · exact h
  · exact absurd h3 (by show ¬ 3 ≤ (mj_kd mj_Y a).1; omega)
/-- a cell of an object, by its place -/
theorem mj_obj {a q : Nat} {C : String} {T : u_T} {N : Nat} {ty : Nat → FieldType} (hC : mj_clP a C T N ty) (h : (a, q) ∈ σ.1) : ∃ q0 : Nat, σ.1[q0]? = some (a, q) ∧ (mj_ws cA loc σ)[q0]? = some (loc (a, q), .inr (a, (List.range N).map (fun s => if mj_ft mj_Y a s = 3 then va_rf ((σ.2.2 a q s).map loc) else .int (σ.2.1 a q s)))) := by
  obtain ⟨q0, h1, h2⟩ := mj_ws_get (cA := cA) (loc := loc) h
  refine ⟨q0, h1, ?_⟩
  rw [h2]
  unfold mj_ce
  have hkd : mj_kd mj_Y a = (0, a, N) := hC.2.2.2.2.1
  dsimp only
  rw [hkd]
  rfl
/-- getfield: with any value that the cell holds -/
theorem mj_getf {i a b pos q : Nat} {r : List mj_V} {v : mj_V} (hA : mj_At D cA A el X J mm p R s m args meth c L0 Lf) (hk : mj_pc mm k = some pc0) (hd : decode J.2.1 pc0 = .ok (.getfield i, 3)) (hw : mj_fw J.1.cls i pos a b = true) (hn : mj_pc mm (k + 1) = some (pc0 + 3)) (hv : (mj_ft mj_Y a b = 3 ∧ ∃ z, σ.2.2 a q b = some z ∧ v = .inr z) ∨ (¬ mj_ft mj_Y a b = 3 ∧ v = .inl (σ.2.1 a q b))) (h : mj_Sim D cA A el mm p l e R s m args below meth c Q L0 loc0 (k + 1) ls (v :: r) σ) : mj_Sim D cA A el mm p l e R s m args below meth c Q L0 loc0 k ls (.inr (a, q) :: r) σ := by
  intro pc H locs cells slots loc lj hpc hI
  cases hk.symm.trans hpc
  obtain ⟨C, T, N, hc, hb, hl⟩ := mj_fw_of hw
  obtain ⟨ty, hC⟩ := mj_cls hc
  have hin := mj_live (hI.lv _ List.mem_cons_self) (by rw [hC.2.2.2.2.1]; exact Nat.zero_le _)
  obtain ⟨q0, -, hq⟩ := mj_obj (cA := cA) (loc := loc) hC hin
  have hlv : mj_lv σ.1 v := by
    rcases hv with ⟨-, z, hz, rfl⟩ | ⟨-, rfl⟩
    · exact hI.1.2.2.2.1 _ hin _ _ hz
    · exact trivial
  have hfs : ((List.range N).map (fun s => if mj_ft mj_Y a s = 3 then va_rf ((σ.2.2 a q s).map loc) else Value.int (σ.2.1 a q s)))[b]? = some (mj_vc loc v) := by
    rw [mj_fs hb]
    rcases hv with ⟨h3, z, hz, rfl⟩ | ⟨h3, rfl⟩
    · rw [if_pos h3, hz]; rfl
    · rw [if_neg h3]; rfl
  have hgo := h _ _ _ _ _ _ _ hn (hI.stk (mj_lvc hlv hI.tl))
  rcases hl with hl | hl
  · exact va_get (ci := a) hA.1 hA.2.1 hA.2.2.2.2.1 (mj_clg hC) hA.2.2.2.1 hA.2.2.2.2.2.1.1 hI.1.1 q0 hq hc b hb (hA.2.2.2.2.1 _ (mj_gd hl rfl)) (fun _ z => z) hfs hd hgo
  · exact va_getN (ci := a) hA.1 hA.2.1 hA.2.2.2.2.1 (mj_clg hC) hA.2.2.2.1 hA.2.2.2.2.2.1.1 hI.1.1 q0 hq hc b hb (va_Nw.use rfl (hA.2.2.2.2.2.1.2.1 _ (mj_nd hl rfl))) (fun _ z => z) hfs hd hgo
theorem mj_Wd.put {f' : mj_F} {g' : mj_G} {H1 : Heap} (h : mj_Wd D cA A el loc σ H) (hP : va_P D mj_cl (mj_ws cA loc (σ.1, f', g')) H1) (hD : va_D A (mj_ws cA loc (σ.1, f', g'))) (hg : ∀ c ∈ σ.1, ∀ s r, g' c.1 c.2 s = some r → mj_lv σ.1 (.inr r)) : mj_Wd D cA A el loc (σ.1, f', g') H1 := ⟨hP, hD, h.2.2.1, hg, h.2.2.2.2⟩
theorem mj_Iv.put {f' : mj_F} {g' : mj_G} {H1 : Heap} {locs1 : List Loc} {r : List mj_V} (hI : mj_Iv D cA A el mm s L0 loc0 ls st σ H locs cells slots loc lj) (hW : mj_Wd D cA A el loc (σ.1, f', g') H1) (hS : va_S A s.heap H1 locs1) (hr : ∀ v ∈ r, mj_lv σ.1 v) : mj_Iv D cA A el mm s L0 loc0 ls r (σ.1, f', g') H1 locs1 cells slots loc lj := ⟨hW, hS, hI.2.2.1, hI.2.2.2.1, hr, hI.2.2.2.2.2⟩
theorem mj_fset {N b : Nat} {F G : Nat → Value} {v : Value} (h1 : G b = v) (h2 : ∀ s, s ≠ b → G s = F s) : ((List.range N).map F).set b v = (List.range N).map G := by
  apply List.ext_getElem
  · simp
  · intro j g1 g2
    rw [List.getElem_set]
    by_cases hj : b = j
    · subst hj
      rw [if_pos rfl]
      simp [h1]
    · rw [if_neg hj]
      simp [h2 j (fun q => hj q.symm)]
/-- putfield -/
theorem mj_putf {i a b pos q : Nat} {r : List mj_V} {v : mj_V} {f' : mj_F} {g' : mj_G} (hA : mj_At D cA A el X J mm p R s m args meth c L0 Lf) (hk : mj_pc mm k = some pc0) (hd : decode J.2.1 pc0 = .ok (.putfield i, 3)) (hw : mj_fw J.1.cls i pos a b = true) (hf : mj_fin J.1.cls (decide (J.1.name = "<init>")) i pos a b = true) (hn : mj_pc mm (k + 1) = some (pc0 + 3)) (hv : (mj_ft mj_Y a b = 3 ∧ ∃ z, v = .inr z ∧ f' = σ.2.1 ∧ g' = mj_w σ.2.2 a q b (some z)) ∨ (¬ mj_ft mj_Y a b = 3 ∧ ∃ x, v = .inl x ∧ mj_chk (mj_ft mj_Y a b) x = true ∧ f' = mj_u σ.2.1 a q b x ∧ g' = σ.2.2)) (h : mj_Sim D cA A el mm p l e R s m args below meth c Q L0 loc0 (k + 1) ls r (σ.1, f', g')) : mj_Sim D cA A el mm p l e R s m args below meth c Q L0 loc0 k ls (v :: .inr (a, q) :: r) σ := by
  intro pc H locs cells slots loc lj hpc hI
  cases hk.symm.trans hpc
  obtain ⟨C, T, N, hc, hb, hl⟩ := mj_fw_of hw
  obtain ⟨ty, hC⟩ := mj_cls hc
  have hin := mj_live (hI.tl _ List.mem_cons_self) (by rw [hC.2.2.2.2.1]; exact Nat.zero_le _)
  obtain ⟨q0, hq1, hq⟩ := mj_obj (cA := cA) (loc := loc) hC hin
  have hlv : mj_lv σ.1 v := hI.lv _ List.mem_cons_self
  have htl : ∀ u ∈ r, mj_lv σ.1 u := fun u hu => hI.tl u (List.mem_cons_of_mem _ hu)
  have hnf : narrow (ty b) (mj_vc loc v) = mj_vc loc v ∧ fits (ty b) (mj_vc loc v) = true := by
    rcases hv with ⟨h3, z, rfl, -, -⟩ | ⟨h3, x, rfl, hx, -, -⟩
    · exact mj_narrowQ (hC.2.2.1 b hb) h3
    · exact mj_narrow (hC.2.2.1 b hb) h3 hx
  have hset : ((List.range N).map (fun s => if mj_ft mj_Y a s = 3 then va_rf ((σ.2.2 a q s).map loc) else Value.int (σ.2.1 a q s))).set b (mj_vc loc v) = (List.range N).map (fun s => if mj_ft mj_Y a s = 3 then va_rf ((g' a q s).map loc) else Value.int (f' a q s)) := by
    refine mj_fset ?_ (fun s hs => ?_)
    · rcases hv with ⟨h3, z, rfl, rfl, rfl⟩ | ⟨h3, x, rfl, hx, rfl, rfl⟩
      · rw [if_pos h3]; simp [mj_w, mj_vc, va_rf]
      · rw [if_neg h3]; simp [mj_u, mj_vc]
    · rcases hv with ⟨h3, z, rfl, rfl, rfl⟩ | ⟨h3, x, rfl, hx, rfl, rfl⟩
      · simp [mj_w, hs]
      · simp [mj_u, hs]
  have hce : (Sum.inr (a, (List.range N).map (fun s => if mj_ft mj_Y a s = 3 then va_rf ((g' a q s).map loc) else Value.int (f' a q s))) : va_E) = mj_ce cA loc f' g' (a, q) := by
    unfold mj_ce
    have hkd : mj_kd mj_Y a = (0, a, N) := hC.2.2.2.2.1
    dsimp only
    rw [hkd]
    rfl
  have hoth : ∀ x : Nat × Nat, x ≠ (a, q) → mj_ce cA loc f' g' x = mj_ce cA loc σ.2.1 σ.2.2 x := by
    intro x hx
    rcases hv with ⟨h3, z, rfl, rfl, rfl⟩ | ⟨h3, y, rfl, hy, rfl, rfl⟩
    · exact mj_ce_congr (fun _ => rfl) (fun s => by unfold mj_w; rw [if_neg (mj_ne hx s b)])
    · exact mj_ce_congr (fun s => by unfold mj_u; rw [if_neg (mj_ne hx s b)]) (fun _ => rfl)
  have hws := mj_ws_set (f' := f') (g' := g') (v := .inr (a, ((List.range N).map (fun s => if mj_ft mj_Y a s = 3 then va_rf ((σ.2.2 a q s).map loc) else Value.int (σ.2.1 a q s))).set b (mj_vc loc v))) hI.1.2.1 hq1 (by rw [hset]; exact hce) hoth
  have hcl : ∀ x ∈ σ.1, ∀ s z, g' x.1 x.2 s = some z → mj_lv σ.1 (.inr z) := by
    intro x hx s z hz
    rcases hv with ⟨h3, y, rfl, rfl, rfl⟩ | ⟨h3, y, rfl, hy, rfl, rfl⟩
    · unfold mj_w at hz
      split at hz
      · cases hz
        exact hlv
      · exact hI.1.2.2.2.1 x hx s z hz
    · exact hI.1.2.2.2.1 x hx s z hz
  have hgo : ∀ (H1 : Heap) (locs1 : List Loc), va_P D mj_cl ((mj_ws cA loc σ).set q0 (loc (a, q), .inr (a, ((List.range N).map (fun s => if mj_ft mj_Y a s = 3 then va_rf ((σ.2.2 a q s).map loc) else Value.int (σ.2.1 a q s))).set b (mj_vc loc v)))) H1 → va_D A ((mj_ws cA loc σ).set q0 (loc (a, q), .inr (a, ((List.range N).map (fun s => if mj_ft mj_Y a s = 3 then va_rf ((σ.2.2 a q s).map loc) else Value.int (σ.2.1 a q s))).set b (mj_vc loc v)))) → va_S A s.heap H1 locs1 → W p l e R s m args below meth c H1 locs1 cells slots Q (F0 m (pc0 + 3) lj (r.map (mj_vc loc))) := by
    intro H1 locs1 hP hD hS
    have hws' : (mj_ws cA loc σ).set q0 (loc (a, q), .inr (a, ((List.range N).map (fun s => if mj_ft mj_Y a s = 3 then va_rf ((σ.2.2 a q s).map loc) else Value.int (σ.2.1 a q s))).set b (mj_vc loc v))) = mj_ws cA loc (σ.1, f', g') := hws
    rw [hws'] at hP hD
    exact h _ _ _ _ _ _ _ hn (hI.put (hI.1.put hP hD hcl) hS htl)
  have hlen : b < ((List.range N).map (fun s => if mj_ft mj_Y a s = 3 then va_rf ((σ.2.2 a q s).map loc) else Value.int (σ.2.1 a q s))).length := by
    rw [List.length_map, List.length_range]; exact hb
  unfold mj_fin at hf
  rw [hc] at hf
  simp only [Bool.and_eq_true, Bool.or_eq_true, decide_eq_true_eq] at hf
  rcases hf with hf | ⟨⟨⟨hf, hini⟩, hown⟩, hl2⟩
  · rcases hl with hl | hl
    · exact va_put (ci := a) hA.1 hA.2.1 hA.2.2.2.2.1 (mj_clg hC) ty hC.2.1 hC.2.2.2.1 hA.2.2.2.1 hA.2.2.2.2.2.1.1 hI.1.1 hI.1.2.1 hI.2.1 q0 hq hc b hb (hA.2.2.2.2.1 _ (mj_gd hl rfl)) (fun _ z => z) hf (hC.2.1 b hb) hnf.1 hnf.2 hlen hd hgo
    · exact va_putN (ci := a) hA.1 hA.2.1 hA.2.2.2.2.1 (mj_clg hC) ty hC.2.1 hC.2.2.2.1 hA.2.2.2.1 hA.2.2.2.2.2.1.1 hI.1.1 hI.1.2.1 hI.2.1 q0 hq hc b hb (va_Nw.use rfl (hA.2.2.2.2.2.1.2.1 _ (mj_nd hl rfl))) (fun _ z => z) hf (hC.2.1 b hb) hnf.1 hnf.2 hlen hd hgo
  · exact va_putF (ci := a) hA.1 hA.2.1 hA.2.2.2.2.1 (mj_clg hC) ty hC.2.1 hC.2.2.2.1 hA.2.2.2.1 hA.2.2.2.2.2.1.1 hI.1.1 hI.1.2.1 hI.2.1 q0 hq hc b hb (hA.2.2.2.2.1 _ (mj_gd hl2 rfl)) (fun _ z => z) hf (hA.2.2.2.2.2.2.2.1 hini) hown (hC.2.1 b hb) hnf.1 hnf.2 hlen hd hgo
end SND
end
section
/-! rows: arrays, statics -/
section SND
variable {D : va_G} {cA : Nat → ClassId} {A : Nat → Prop} {el : Nat → Nat} {X : mj_X} {J : mj_J} {mm : Nat} {p : Program} {l : Launch} {e : Env} {R : Room} {s : State} {m : MethodId} {args : Array Value} {below : List Frame} {meth : Method} {c : Code} {Q : State → Prop} {L0 Lf : List (Nat × Nat)} {loc0 : Nat × Nat → Nat}
variable {ls : mj_L} {st : List mj_V} {σ : mj_H} {k pc0 : Nat} {H : Heap} {locs : List Loc} {cells slots : Nat} {loc : Nat × Nat → Nat} {lj : Array Slot}
theorem mj_arr {a q t n : Nat} (hkd : mj_kd mj_Y a = (1, t, n)) (h : (a, q) ∈ σ.1) : ∃ q0 : Nat, σ.1[q0]? = some (a, q) ∧ (mj_ws cA loc σ)[q0]? = some (loc (a, q), .inl (cA t, n, .inl (fun j => σ.2.1 a q j))) := by
  obtain ⟨q0, h1, h2⟩ := mj_ws_get (cA := cA) (loc := loc) h
  refine ⟨q0, h1, ?_⟩
  rw [h2]
  unfold mj_ce
  dsimp only
  rw [hkd]
  rfl
theorem mj_qrr {a q u n : Nat} (hkd : mj_kd mj_Y a = (2, u, n)) (h : (a, q) ∈ σ.1) : ∃ q0 : Nat, σ.1[q0]? = some (a, q) ∧ (mj_ws cA loc σ)[q0]? = some (loc (a, q), .inl (cA (10 + u), n, .inr (.inr (.inr (.inr (fun j => (σ.2.2 a q j).map loc)))))) := by
  obtain ⟨q0, h1, h2⟩ := mj_ws_get (cA := cA) (loc := loc) h
  refine ⟨q0, h1, ?_⟩
  rw [h2]
  unfold mj_ce
  dsimp only
  rw [hkd]
  rfl
theorem mj_ce1 {a q t n : Nat} (hkd : mj_kd mj_Y a = (1, t, n)) (f : mj_F) (g : mj_G) : mj_ce cA loc f g (a, q) = .inl (cA t, n, .inl (fun j => f a q j)) := by
  unfold mj_ce
  dsimp only
  rw [hkd]
  rfl
theorem mj_ce2 {a q u n : Nat} (hkd : mj_kd mj_Y a = (2, u, n)) (f : mj_F) (g : mj_G) : mj_ce cA loc f g (a, q) = .inl (cA (10 + u), n, .inr (.inr (.inr (.inr (fun j => (g a q j).map loc))))) := by
  unfold mj_ce
  dsimp only
  rw [hkd]
  rfl
theorem mj_qcl {a u n : Nat} (hkd : mj_kd mj_Y a = (2, u, n)) : ∃ t0 : Nat, ∃ (C : String) (T : u_T) (N : Nat), mj_cl[u]? = some (C, T, N) ∧ (mj_tyl cA)[t0]? = some (cA (10 + u), .object C) := by
  have h := mj_kds_u a (mj_kd_lt (by rw [hkd]; exact Nat.le_of_ble_eq_true rfl)) (by rw [hkd])
  rw [hkd] at h
  rcases h with h | h
  · have h : u = 3 := h
    subst h
    exact ⟨2, mj_R3, mj_T3, 3, rfl, rfl⟩
  · have h : u = 4 := h
    subst h
    exact ⟨3, mj_R4, mj_T4, 3, rfl, rfl⟩
theorem mj_iald {j : Int32} {a q z : Nat} {r : List mj_V} (hA : mj_At D cA A el X J mm p R s m args meth c L0 Lf) (hk : mj_pc mm k = some pc0) (hd : decode J.2.1 pc0 = .ok (.iaload, 1)) (hn : mj_pc mm (k + 1) = some (pc0 + 1)) (h1 : mj_isI mj_Y a = true) (h2 : mj_ix j (mj_len mj_Y X a) = some z) (h : mj_Sim D cA A el mm p l e R s m args below meth c Q L0 loc0 (k + 1) ls (.inl (mj_rd mj_Y X σ.2.1 a q z) :: r) σ) : mj_Sim D cA A el mm p l e R s m args below meth c Q L0 loc0 k ls (.inl j :: .inr (a, q) :: r) σ := by
  intro pc H locs cells slots loc lj hpc hI
  cases hk.symm.trans hpc
  have htl : ∀ u ∈ r, mj_lv σ.1 u := fun u hu => hI.tl u (List.mem_cons_of_mem _ hu)
  have hlv := hI.tl _ List.mem_cons_self
  have hgo := h _ _ _ _ _ _ _ hn (hI.stk (mj_lvc (mj_lvi _ _) htl))
  obtain ⟨hin, hz⟩ := mj_ix_in h2
  subst hz
  rcases hkd : mj_kd mj_Y a with ⟨s0, u, n⟩
  have hlt : s0 ≤ 4 ∧ (s0 = 1 ∧ u = 0 ∨ s0 = 3 ∨ s0 = 4) := by
    unfold mj_isI at h1
    rw [hkd] at h1
    try dsimp only at h1
    split at h1
    · rename_i g; cases g; exact ⟨by decide, Or.inl ⟨rfl, rfl⟩⟩
    · rename_i g; cases g; exact ⟨by decide, Or.inr (Or.inl rfl)⟩
    · rename_i g; cases g; exact ⟨by decide, Or.inr (Or.inr rfl)⟩
    · cases h1
  have hl27 : a < 27 := mj_kd_lt (by rw [hkd]; exact Nat.le_trans hlt.1 (by decide))
  unfold mj_len at hin
  unfold mj_rd at hgo
  rw [hkd] at hin hgo
  rcases hlt.2 with ⟨rfl, rfl⟩ | rfl | rfl
  · obtain ⟨q0, -, hq⟩ := mj_arr (cA := cA) (loc := loc) hkd (mj_live hlv (by rw [hkd]; exact Nat.le_of_ble_eq_true rfl))
    exact va_iald hA.1 hA.2.1 hA.2.2.2.2.2.1.1 hI.1.1 q0 0 hq rfl hin hd hgo
  · have e := mj_kds_3 a hl27 (by rw [hkd])
    subst e
    have hq : q = 0 := by
      rcases hlv with g | g
      · exact absurd (hI.1.2.2.1 _ g) (by show ¬ (mj_kd mj_Y 23).1 ≤ 2; rw [hkd]; exact (by decide : ¬ 3 ≤ 2))
      · exact g.1
    subst hq
    have hX := hA.2.2.2.2.2.1.2.2.2.2.2.2
    have hb : el 23 < s.heap.size := by obtain ⟨scr, g1, -⟩ := hX.1; exact (Array.getElem?_eq_some_iff.mp g1).1
    have hlo : loc (23, 0) = el 23 := hI.1.2.2.2.2 23 (by rw [hkd]; exact Nat.le_of_ble_eq_true rfl) (by rw [hkd]; exact Nat.le_of_ble_eq_true rfl)
    show W p l e R s m args below meth c H locs cells slots Q (F0 m pc0 lj (.int j :: .ref (loc (23, 0)) :: r.map (mj_vc loc)))
    rw [hlo]
    exact va_sld hA.1 hA.2.1 hX.1 hb hX.2 hI.2.1 hin hd hgo
  · have hq : q = 0 := by
      rcases hlv with g | g
      · exact absurd (hI.1.2.2.1 _ g) (by show ¬ (mj_kd mj_Y a).1 ≤ 2; rw [hkd]; exact (by decide : ¬ (4 ≤ 2)))
      · exact g.1
    subst hq
    have hT := hA.2.2.2.2.2.1.2.2.2.2.2.1 a u n hkd
    have hlo : loc (a, 0) = el a := hI.1.2.2.2.2 a (by rw [hkd]; exact (by decide : 3 ≤ 4)) (by rw [hkd]; exact Nat.le_refl _)
    show W p l e R s m args below meth c H locs cells slots Q (F0 m pc0 lj (.int j :: .ref (loc (a, 0)) :: r.map (mj_vc loc)))
    rw [hlo]
    exact va_ti hA.1 hA.2.1 hT hI.2.1 hin rfl hd hgo
theorem mj_isA_of {t a : Nat} (h : mj_isA mj_Y t a = true) : ∃ n, mj_kd mj_Y a = (1, t, n) := by
  unfold mj_isA at h
  rcases hkd : mj_kd mj_Y a with ⟨s0, u, n⟩
  rw [hkd] at h
  try dsimp only at h
  split at h
  · rename_i g; cases g
    exact ⟨n, by rw [of_decide_eq_true h]⟩
  · cases h
theorem mj_isQ_of {a : Nat} (h : mj_isQ mj_Y a = true) : ∃ u n, mj_kd mj_Y a = (2, u, n) := by
  unfold mj_isQ at h
  rcases hkd : mj_kd mj_Y a with ⟨s0, u, n⟩
  rw [hkd] at h
  try dsimp only at h
  split at h
  · rename_i g; cases g
    exact ⟨u, n, rfl⟩
  · cases h
theorem mj_cald {j : Int32} {a q z : Nat} {r : List mj_V} (hA : mj_At D cA A el X J mm p R s m args meth c L0 Lf) (hk : mj_pc mm k = some pc0) (hd : decode J.2.1 pc0 = .ok (.caload, 1)) (hn : mj_pc mm (k + 1) = some (pc0 + 1)) (h1 : mj_isA mj_Y 2 a = true) (h2 : mj_ix j (mj_len mj_Y X a) = some z) (h : mj_Sim D cA A el mm p l e R s m args below meth c Q L0 loc0 (k + 1) ls (.inl (σ.2.1 a q z) :: r) σ) : mj_Sim D cA A el mm p l e R s m args below meth c Q L0 loc0 k ls (.inl j :: .inr (a, q) :: r) σ := by
  intro pc H locs cells slots loc lj hpc hI
  cases hk.symm.trans hpc
  have htl : ∀ u ∈ r, mj_lv σ.1 u := fun u hu => hI.tl u (List.mem_cons_of_mem _ hu)
  have hlv := hI.tl _ List.mem_cons_self
  have hgo := h _ _ _ _ _ _ _ hn (hI.stk (mj_lvc (mj_lvi _ _) htl))
  obtain ⟨hin, hz⟩ := mj_ix_in h2
  subst hz
  obtain ⟨n, hkd⟩ := mj_isA_of h1
  unfold mj_len at hin
  rw [hkd] at hin
  obtain ⟨q0, -, hq⟩ := mj_arr (cA := cA) (loc := loc) hkd (mj_live hlv (by rw [hkd]; exact (by decide : 1 ≤ 2)))
  exact va_cald hA.1 hA.2.1 hA.2.2.2.2.2.1.1 hI.1.1 q0 1 hq rfl hin hd hgo
theorem mj_aald {j : Int32} {a q z : Nat} {y : Nat × Nat} {r : List mj_V} (hA : mj_At D cA A el X J mm p R s m args meth c L0 Lf) (hk : mj_pc mm k = some pc0) (hd : decode J.2.1 pc0 = .ok (.aaload, 1)) (hn : mj_pc mm (k + 1) = some (pc0 + 1)) (h1 : mj_isQ mj_Y a = true) (h2 : mj_ix j (mj_len mj_Y X a) = some z) (h3 : σ.2.2 a q z = some y) (h : mj_Sim D cA A el mm p l e R s m args below meth c Q L0 loc0 (k + 1) ls (.inr y :: r) σ) : mj_Sim D cA A el mm p l e R s m args below meth c Q L0 loc0 k ls (.inl j :: .inr (a, q) :: r) σ := by
  intro pc H locs cells slots loc lj hpc hI
  cases hk.symm.trans hpc
  have htl : ∀ u ∈ r, mj_lv σ.1 u := fun u hu => hI.tl u (List.mem_cons_of_mem _ hu)
  have hlv := hI.tl _ List.mem_cons_self
  obtain ⟨u, n, hkd⟩ := mj_isQ_of h1
  have hmem := mj_live hlv (by rw [hkd]; exact (by decide : 2 ≤ 2))
  have hgo := h _ _ _ _ _ _ _ hn (hI.stk (mj_lvc (hI.1.2.2.2.1 _ hmem _ _ h3) htl))
  obtain ⟨hin, hz⟩ := mj_ix_in h2
  subst hz
  unfold mj_len at hin
  rw [hkd] at hin
  obtain ⟨q0, -, hq⟩ := mj_qrr (cA := cA) (loc := loc) hkd hmem
  obtain ⟨t0, C, T, N, -, ht⟩ := mj_qcl (cA := cA) hkd
  refine va_aldq hA.1 hA.2.1 hA.2.2.2.2.2.1.1 hI.1.1 q0 t0 hq ht hin hd ?_
  rw [h3]
  exact hgo
theorem mj_iast {x j : Int32} {a q z : Nat} {r : List mj_V} (hA : mj_At D cA A el X J mm p R s m args meth c L0 Lf) (hk : mj_pc mm k = some pc0) (hd : decode J.2.1 pc0 = .ok (.iastore, 1)) (hn : mj_pc mm (k + 1) = some (pc0 + 1)) (h1 : mj_isA mj_Y 0 a = true) (h2 : mj_ix j (mj_len mj_Y X a) = some z) (h : mj_Sim D cA A el mm p l e R s m args below meth c Q L0 loc0 (k + 1) ls r (σ.1, mj_u σ.2.1 a q z x, σ.2.2)) : mj_Sim D cA A el mm p l e R s m args below meth c Q L0 loc0 k ls (.inl x :: .inl j :: .inr (a, q) :: r) σ := by
  intro pc H locs cells slots loc lj hpc hI
  cases hk.symm.trans hpc
  have htl : ∀ u ∈ r, mj_lv σ.1 u := fun u hu => hI.tl u (List.mem_cons_of_mem _ (List.mem_cons_of_mem _ hu))
  have hlv := hI.tl _ (List.mem_cons_of_mem _ List.mem_cons_self)
  obtain ⟨hin, hz⟩ := mj_ix_in h2
  subst hz
  obtain ⟨n, hkd⟩ := mj_isA_of h1
  unfold mj_len at hin
  rw [hkd] at hin
  obtain ⟨q0, hq1, hq⟩ := mj_arr (cA := cA) (loc := loc) hkd (mj_live hlv (by rw [hkd]; exact (by decide : 1 ≤ 2)))
  refine va_iast hA.1 hA.2.1 hA.2.2.2.2.2.1.1 hI.1.1 hI.1.2.1 hI.2.1 q0 0 hq rfl hin hd (fun H1 locs1 hP hD hS => ?_)
  have hws : (mj_ws cA loc σ).set q0 (loc (a, q), .inl (cA 0, n, .inl (upd (fun j => σ.2.1 a q j) j.toNatClampNeg x))) = mj_ws cA loc (σ.1, mj_u σ.2.1 a q j.toNatClampNeg x, σ.2.2) := by
    refine mj_ws_set hI.1.2.1 hq1 ?_ (fun y hy => mj_ce_congr (fun s => by unfold mj_u; rw [if_neg (mj_ne hy s _)]) (fun _ => rfl))
    rw [mj_ce1 hkd]
    congr 4
    funext s
    unfold upd mj_u
    simp
  rw [hws] at hP hD
  exact h _ _ _ _ _ _ _ hn (hI.put (hI.1.put hP hD hI.1.2.2.2.1) hS htl)
theorem mj_cast {x j : Int32} {a q z : Nat} {r : List mj_V} (hx : mj_chk 2 x = true) (hA : mj_At D cA A el X J mm p R s m args meth c L0 Lf) (hk : mj_pc mm k = some pc0) (hd : decode J.2.1 pc0 = .ok (.castore, 1)) (hn : mj_pc mm (k + 1) = some (pc0 + 1)) (h1 : mj_isA mj_Y 2 a = true) (h2 : mj_ix j (mj_len mj_Y X a) = some z) (h : mj_Sim D cA A el mm p l e R s m args below meth c Q L0 loc0 (k + 1) ls r (σ.1, mj_u σ.2.1 a q z x, σ.2.2)) : mj_Sim D cA A el mm p l e R s m args below meth c Q L0 loc0 k ls (.inl x :: .inl j :: .inr (a, q) :: r) σ := by
  intro pc H locs cells slots loc lj hpc hI
  cases hk.symm.trans hpc
  have htl : ∀ u ∈ r, mj_lv σ.1 u := fun u hu => hI.tl u (List.mem_cons_of_mem _ (List.mem_cons_of_mem _ hu))
  have hlv := hI.tl _ (List.mem_cons_of_mem _ List.mem_cons_self)
  obtain ⟨hin, hz⟩ := mj_ix_in h2
  subst hz
  obtain ⟨n, hkd⟩ := mj_isA_of h1
  unfold mj_len at hin
  rw [hkd] at hin
  obtain ⟨q0, hq1, hq⟩ := mj_arr (cA := cA) (loc := loc) hkd (mj_live hlv (by rw [hkd]; exact (by decide : 1 ≤ 2)))
  refine va_cast hA.1 hA.2.1 hA.2.2.2.2.2.1.1 hI.1.1 hI.1.2.1 hI.2.1 q0 1 hq rfl hin hd (fun H1 locs1 hP hD hS => ?_)
  have hc : vp_nar .char x = x := by
    have g := (mj_narrow (c := 2) (t := .char) rfl (by decide) hx).1
    unfold vp_nar
    rw [g]
  rw [hc] at hP hD
  have hws : (mj_ws cA loc σ).set q0 (loc (a, q), .inl (cA 2, n, .inl (upd (fun j => σ.2.1 a q j) j.toNatClampNeg x))) = mj_ws cA loc (σ.1, mj_u σ.2.1 a q j.toNatClampNeg x, σ.2.2) := by
    refine mj_ws_set hI.1.2.1 hq1 ?_ (fun y hy => mj_ce_congr (fun s => by unfold mj_u; rw [if_neg (mj_ne hy s _)]) (fun _ => rfl))
    rw [mj_ce1 hkd]
    congr 4
    funext s
    unfold upd mj_u
    simp
  rw [hws] at hP hD
  exact h _ _ _ _ _ _ _ hn (hI.put (hI.1.put hP hD hI.1.2.2.2.1) hS htl)
theorem mj_aast {j : Int32} {a q z : Nat} {y : Nat × Nat} {r : List mj_V} (hA : mj_At D cA A el X J mm p R s m args meth c L0 Lf) (hk : mj_pc mm k = some pc0) (hd : decode J.2.1 pc0 = .ok (.aastore, 1)) (hn : mj_pc mm (k + 1) = some (pc0 + 1)) (h1 : mj_isQ mj_Y a = true) (h3 : y.1 = (mj_kd mj_Y a).2.1) (h2 : mj_ix j (mj_len mj_Y X a) = some z) (h : mj_Sim D cA A el mm p l e R s m args below meth c Q L0 loc0 (k + 1) ls r (σ.1, σ.2.1, mj_w σ.2.2 a q z (some y))) : mj_Sim D cA A el mm p l e R s m args below meth c Q L0 loc0 k ls (.inr y :: .inl j :: .inr (a, q) :: r) σ := by
  intro pc H locs cells slots loc lj hpc hI
  cases hk.symm.trans hpc
  have htl : ∀ u ∈ r, mj_lv σ.1 u := fun u hu => hI.tl u (List.mem_cons_of_mem _ (List.mem_cons_of_mem _ hu))
  have hlv := hI.tl _ (List.mem_cons_of_mem _ List.mem_cons_self)
  have hly := hI.lv _ List.mem_cons_self
  obtain ⟨u, n, hkd⟩ := mj_isQ_of h1
  have hmem := mj_live hlv (by rw [hkd]; exact (by decide : 2 ≤ 2))
  obtain ⟨hin, hz⟩ := mj_ix_in h2
  subst hz
  unfold mj_len at hin
  rw [hkd] at hin h3
  obtain ⟨q0, hq1, hq⟩ := mj_qrr (cA := cA) (loc := loc) hkd hmem
  obtain ⟨t0, C, T, N, hcl, ht⟩ := mj_qcl (cA := cA) hkd
  obtain ⟨ty, hC⟩ := mj_cls hcl
  obtain ⟨y1, y2⟩ := y
  have h3 : y1 = u := h3
  subst h3
  have hymem := mj_live hly (by rw [hC.2.2.2.2.1]; exact Nat.zero_le _)
  obtain ⟨qk, -, hqk⟩ := mj_obj (cA := cA) (loc := loc) hC hymem
  refine va_astq hA.1 hA.2.1 hA.2.2.2.2.2.1.1 hI.1.1 hI.1.2.1 hI.2.1 q0 t0 qk y1 hq ht hqk hcl hin hd (fun H1 locs1 hP hD hS => ?_)
  have hws : (mj_ws cA loc σ).set q0 (loc (a, q), .inl (cA (10 + y1), n, .inr (.inr (.inr (.inr (va_up (fun j => (σ.2.2 a q j).map loc) j.toNatClampNeg (some (loc (y1, y2))))))))) = mj_ws cA loc (σ.1, σ.2.1, mj_w σ.2.2 a q j.toNatClampNeg (some (y1, y2))) := by
    refine mj_ws_set hI.1.2.1 hq1 ?_ (fun x hx => mj_ce_congr (fun _ => rfl) (fun s => by unfold mj_w; rw [if_neg (mj_ne hx s _)]))
    rw [mj_ce2 hkd]
    congr 7
    funext s
    unfold va_up mj_w
    by_cases hs : s = j.toNatClampNeg
    · simp [hs]
    · simp [hs]
  rw [hws] at hP hD
  refine h _ _ _ _ _ _ _ hn (hI.put (hI.1.put hP hD (fun x hx s z hz => ?_)) hS htl)
  unfold mj_w at hz
  split at hz
  · cases hz
    exact Or.inl hymem
  · exact hI.1.2.2.2.1 x hx s z hz
theorem mj_gets {i a pos : Nat} {q : Nat × String × String} (hA : mj_At D cA A el X J mm p R s m args meth c L0 Lf) (hk : mj_pc mm k = some pc0) (hd : decode J.2.1 pc0 = .ok (.getstatic i, 3)) (hn : mj_pc mm (k + 1) = some (pc0 + 3)) (hq : q ∈ mj_ext) (hqa : q.1 = a) (hw : lw_tbl[pos]? = some (Jvm.Cond.fieldLink J.1.cls i q.2.1 q.2.2 "[I") ∨ lw_tbl[pos]? = some (Jvm.Cond.fieldLinkNest J.1.cls i q.2.1 q.2.2 "[I" mj_host)) (h : mj_Sim D cA A el mm p l e R s m args below meth c Q L0 loc0 (k + 1) ls (.inr (a, 0) :: st) σ) : mj_Sim D cA A el mm p l e R s m args below meth c Q L0 loc0 k ls st σ := by
  intro pc H locs cells slots loc lj hpc hI
  cases hk.symm.trans hpc
  have h4 : (mj_kd mj_Y a).1 = 4 := by
    rw [← hqa]
    rcases List.mem_cons.mp hq with rfl | hq
    · decide
    · rcases List.mem_cons.mp hq with rfl | hq
      · decide
      · rw [List.mem_singleton.mp hq]; decide
  have hlv : mj_lv σ.1 (.inr (a, 0)) := Or.inr ⟨rfl, by rw [h4]; decide, by rw [h4]; exact Nat.le_refl _⟩
  have hgo := h _ _ _ _ _ _ _ hn (hI.stk (mj_lvc hlv hI.lv))
  have hlo : loc (a, 0) = el a := hI.1.2.2.2.2 a (by rw [h4]; decide) (by rw [h4]; exact Nat.le_refl _)
  have hgo : W p l e R s m args below meth c H locs cells slots Q (F0 m (pc0 + 3) lj (.ref (loc (a, 0)) :: st.map (mj_vc loc))) := hgo
  rw [hlo] at hgo
  have hZ := hA.2.2.2.2.2.1.2.2.2.2.1 q hq
  rw [hqa] at hZ
  rcases hw with hl | hl
  · exact va_gets hA.1 hA.2.1 hZ hI.2.1 hA.2.2.2.1 (hA.2.2.2.2.1 _ (mj_gd hl rfl)) (fun _ z => z) hd hgo
  · exact va_getsN hA.1 hA.2.1 hZ hI.2.1 hA.2.2.2.1 (va_Nw.use rfl (hA.2.2.2.2.2.1.2.1 _ (mj_nd hl rfl))) (fun _ z => z) hd hgo
theorem mj_alen {a q : Nat} {r : List mj_V} (hA : mj_At D cA A el X J mm p R s m args meth c L0 Lf) (hk : mj_pc mm k = some pc0) (hd : decode J.2.1 pc0 = .ok (.arraylength, 1)) (hn : mj_pc mm (k + 1) = some (pc0 + 1)) (h3 : (mj_kd mj_Y a).1 = 3) (h : mj_Sim D cA A el mm p l e R s m args below meth c Q L0 loc0 (k + 1) ls (.inl (Int32.ofNat X.1) :: r) σ) : mj_Sim D cA A el mm p l e R s m args below meth c Q L0 loc0 k ls (.inr (a, q) :: r) σ := by
  intro pc H locs cells slots loc lj hpc hI
  cases hk.symm.trans hpc
  have hlv := hI.lv _ List.mem_cons_self
  have hgo := h _ _ _ _ _ _ _ hn (hI.stk (mj_lvc (mj_lvi _ _) hI.tl))
  have e := mj_kds_3 a (mj_kd_lt (by rw [h3]; decide)) h3
  subst e
  have hq : q = 0 := by
    rcases hlv with g | g
    · exact absurd (hI.1.2.2.1 _ g) (by show ¬ (mj_kd mj_Y 23).1 ≤ 2; rw [h3]; decide)
    · exact g.1
  subst hq
  have hX := hA.2.2.2.2.2.1.2.2.2.2.2.2
  have hb : el 23 < s.heap.size := by obtain ⟨scr, g1, -⟩ := hX.1; exact (Array.getElem?_eq_some_iff.mp g1).1
  have hlo : loc (23, 0) = el 23 := hI.1.2.2.2.2 23 (by rw [h3]; decide) (by rw [h3]; decide)
  show W p l e R s m args below meth c H locs cells slots Q (F0 m pc0 lj (.ref (loc (23, 0)) :: r.map (mj_vc loc)))
  rw [hlo]
  exact va_slen hA.1 hA.2.1 hX.1 hb hX.2 hI.2.1 hd hgo
end SND
end
section
/-! rows: new cells, Object.<init>, arraycopy -/
section SND
variable {D : va_G} {cA : Nat → ClassId} {A : Nat → Prop} {el : Nat → Nat} {X : mj_X} {J : mj_J} {mm : Nat} {p : Program} {l : Launch} {e : Env} {R : Room} {s : State} {m : MethodId} {args : Array Value} {below : List Frame} {meth : Method} {c : Code} {Q : State → Prop} {L0 Lf : List (Nat × Nat)} {loc0 : Nat × Nat → Nat}
variable {ls : mj_L} {st : List mj_V} {σ : mj_H} {k pc0 : Nat} {H : Heap} {locs : List Loc} {cells slots : Nat} {loc : Nat × Nat → Nat} {lj : Array Slot}
def mj_up (loc : Nat × Nat → Nat) (c : Nat × Nat) (q : Nat) : Nat × Nat → Nat := fun x => if x = c then q else loc x
theorem mj_up_ne (loc : Nat × Nat → Nat) {c x : Nat × Nat} (q : Nat) (h : x ≠ c) : mj_up loc c q x = loc x := if_neg h
theorem mj_up_eq (loc : Nat × Nat → Nat) (c : Nat × Nat) (q : Nat) : mj_up loc c q c = q := if_pos rfl
theorem mj_ne_live {L : List (Nat × Nat)} {c x : Nat × Nat} (hc : c ∉ L) (hk : (mj_kd mj_Y c.1).1 ≤ 2) (h : mj_lv L (.inr x)) : x ≠ c := by
  rintro rfl
  rcases h with h | ⟨-, h, -⟩
  · exact hc h
  · omega
theorem mj_vc_up {L : List (Nat × Nat)} {c : Nat × Nat} {q : Nat} (hc : c ∉ L) (hk : (mj_kd mj_Y c.1).1 ≤ 2) {v : mj_V} (h : mj_lv L v) : mj_vc (mj_up loc c q) v = mj_vc loc v := by
  cases v with
  | inl x => rfl
  | inr x =>
    show Value.ref _ = Value.ref _
    rw [mj_up_ne loc q (mj_ne_live hc hk h)]
theorem mj_lv_more {L : List (Nat × Nat)} {c : Nat × Nat} {v : mj_V} (h : mj_lv L v) : mj_lv (L ++ [c]) v := by
  cases v with
  | inl x => trivial
  | inr x => exact h.elim (fun g => Or.inl (List.mem_append_left _ g)) Or.inr
theorem mj_ws_new {c0 : Nat × Nat} {q : Nat} {v : va_E} (hc : c0 ∉ σ.1) (hk : (mj_kd mj_Y c0.1).1 ≤ 2) (hcl : ∀ c ∈ σ.1, ∀ s r, σ.2.2 c.1 c.2 s = some r → mj_lv σ.1 (.inr r)) (hv : v = mj_ce cA (mj_up loc c0 q) (mj_z σ.2.1 c0.1 c0.2) (mj_n σ.2.2 c0.1 c0.2) c0) :
    mj_ws cA loc σ ++ [(q, v)] = mj_ws cA (mj_up loc c0 q) (σ.1 ++ [c0], mj_z σ.2.1 c0.1 c0.2, mj_n σ.2.2 c0.1 c0.2) := by
  unfold mj_ws
  rw [List.map_append]
  congr 1
  · refine List.map_congr_left (fun x hx => ?_)
    have hne : x ≠ c0 := fun e => hc (e ▸ hx)
    rw [mj_up_ne loc q hne]
    congr 1
    have e1 : mj_z σ.2.1 c0.1 c0.2 x.1 x.2 = σ.2.1 x.1 x.2 := by
      funext s
      unfold mj_z
      rw [if_neg (fun g => hne (Prod.ext g.1 g.2))]
    have e2 : ∀ s, (mj_n σ.2.2 c0.1 c0.2 x.1 x.2 s).map (mj_up loc c0 q) = (σ.2.2 x.1 x.2 s).map loc := by
      intro s
      unfold mj_n
      rw [if_neg (fun g => hne (Prod.ext g.1 g.2))]
      cases hr : σ.2.2 x.1 x.2 s with
      | none => rfl
      | some r => exact congrArg some (mj_up_ne loc q (mj_ne_live hc hk (hcl x hx s r hr)))
    unfold mj_ce
    simp only [e1, e2]
  · show [(q, v)] = [(mj_up loc c0 q c0, _)]
    rw [mj_up_eq, hv]
theorem mj_Iv.more {c0 : Nat × Nat} {q : Nat} {v : va_E} {H1 : Heap} {r : List mj_V} (hI : mj_Iv D cA A el mm s L0 loc0 ls st σ H locs cells slots loc lj) (hc : c0 ∉ σ.1) (hk : (mj_kd mj_Y c0.1).1 ≤ 2) (hr : ∀ v ∈ r, mj_lv σ.1 v)
    (hv : v = mj_ce cA (mj_up loc c0 q) (mj_z σ.2.1 c0.1 c0.2) (mj_n σ.2.2 c0.1 c0.2) c0) (hP : va_P D mj_cl (mj_ws cA loc σ ++ [(q, v)]) H1) (hD : va_D A (mj_ws cA loc σ ++ [(q, v)])) (hS : va_S A s.heap H1 locs) :
    mj_Iv D cA A el mm s L0 loc0 ls (.inr c0 :: r) (σ.1 ++ [c0], mj_z σ.2.1 c0.1 c0.2, mj_n σ.2.2 c0.1 c0.2) H1 locs (cells + 1) (slots + (mj_kd mj_Y c0.1).2.2) (mj_up loc c0 q) lj := by
  rw [mj_ws_new hc hk hI.1.2.2.2.1 hv] at hP hD
  refine ⟨⟨hP, hD, fun x hx => ?_, fun x hx s z hz => ?_, fun k h1 h2 => ?_⟩, hS, ⟨hI.2.2.1.1, hI.2.2.1.2.1, hI.2.2.1.2.2.1, fun i u hu => ?_⟩, fun u hu => mj_lv_more (hI.2.2.2.1 u hu), mj_lvc (Or.inl (List.mem_append_right _ List.mem_cons_self)) (fun u hu => mj_lv_more (hr u hu)), ?_, fun x hx => ⟨List.mem_append_left _ (hI.2.2.2.2.2.2 x hx).1, ?_⟩⟩
  · rcases List.mem_append.mp hx with g | g
    · exact hI.1.2.2.1 x g
    · rw [List.mem_singleton.mp g]; exact hk
  · show mj_lv (σ.1 ++ [c0]) (.inr z)
    have hz : mj_n σ.2.2 c0.1 c0.2 x.1 x.2 s = some z := hz
    unfold mj_n at hz
    split at hz
    · cases hz
    · rename_i g
      rcases List.mem_append.mp hx with hx | hx
      · exact mj_lv_more (hI.1.2.2.2.1 x hx s z hz)
      · rw [List.mem_singleton.mp hx] at g
        exact absurd ⟨rfl, rfl⟩ g
  · rw [mj_up_ne loc q (fun g => by rw [← g] at hk; have hk : (mj_kd mj_Y k).1 ≤ 2 := hk; omega)]
    exact hI.1.2.2.2.2 k h1 h2
  · rw [mj_vc_up hc hk (hI.2.2.2.1 u (List.mem_of_getElem? hu))]
    exact hI.2.2.1.2.2.2 i u hu
  · obtain ⟨h1, h2⟩ := hI.2.2.2.2.2.1
    constructor
    · rw [List.length_append, List.length_singleton]; omega
    · show _ = mj_sl (σ.1 ++ [c0])
      unfold mj_sl at h2 ⊢
      rw [List.map_append, List.sum_append]
      simp only [List.map_cons, List.map_nil, List.sum_cons, List.sum_nil]
      omega
  · have g := hI.2.2.2.2.2.2 x hx
    have hxe : x ≠ c0 := fun e => hc (by rw [← e]; exact g.1)
    rw [mj_up_ne loc q hxe]
    exact g.2
theorem mj_sl_one (L : List (Nat × Nat)) (c0 : Nat × Nat) : mj_sl (L ++ [c0]) = mj_sl L + (mj_kd mj_Y c0.1).2.2 := by
  unfold mj_sl
  rw [List.map_append, List.sum_append]
  simp
theorem mj_map_up {c0 : Nat × Nat} {q : Nat} {r : List mj_V} (hc : c0 ∉ σ.1) (hk : (mj_kd mj_Y c0.1).1 ≤ 2) (hr : ∀ v ∈ r, mj_lv σ.1 v) : r.map (mj_vc (mj_up loc c0 q)) = r.map (mj_vc loc) := List.map_congr_left (fun v hv => mj_vc_up hc hk (hr v hv))
theorem mj_kinf {a : Nat} {C : String} {T : u_T} {N : Nat} {ty : Nat → FieldType} (hC : mj_clP a C T N ty) : ∀ j, j < N → defaultValue (ty j) = vp_V ((List.range N).map (fun s => if mj_ft mj_Y a s = 3 then Value.null else Value.int 0)) j := by
  intro j hj
  have h := hC.2.2.1 j hj
  have e : vp_V ((List.range N).map (fun s => if mj_ft mj_Y a s = 3 then Value.null else Value.int 0)) j = if mj_ft mj_Y a j = 3 then Value.null else Value.int 0 := by
    unfold vp_V
    rw [List.getD_eq_getElem?_getD, mj_fs hj]
    rfl
  rw [e]
  unfold mj_tyk at h
  split at h
  · rename_i g _; rw [if_neg (by rw [g]; decide)]; rename_i t; rw [t]; rfl
  · rename_i g _; rw [if_neg (by rw [g]; decide)]; rename_i t; rw [t]; rfl
  · rename_i g _; rw [if_neg (by rw [g]; decide)]; rename_i t; rw [t]; rfl
  · rename_i g _; rw [if_pos g]; rename_i t; rw [t]; rfl
  · rename_i g _; rw [if_pos g]; rename_i t; rw [t]; rfl
  · cases h
theorem mj_new {i a n pos : Nat} {C : String} {T : u_T} {N : Nat} (hA : mj_At D cA A el X J mm p R s m args meth c L0 Lf) (hk : mj_pc mm k = some pc0) (hd : decode J.2.1 pc0 = .ok (.new i, 3)) (hn : mj_pc mm (k + 1) = some (pc0 + 3)) (hcl : mj_cl[a]? = some (C, T, N)) (hw : lw_tbl[pos]? = some (Jvm.Cond.classLink J.1.cls i C)) (hnew : (a, n) ∉ σ.1) (hf1 : (σ.1 ++ [(a, n)]).length ≤ Lf.length) (hf2 : mj_sl (σ.1 ++ [(a, n)]) ≤ mj_sl Lf) (h : mj_Sim D cA A el mm p l e R s m args below meth c Q L0 loc0 (k + 1) ls (.inr (a, n) :: st) (σ.1 ++ [(a, n)], mj_z σ.2.1 a n, mj_n σ.2.2 a n)) : mj_Sim D cA A el mm p l e R s m args below meth c Q L0 loc0 k ls st σ := by
  intro pc H locs cells slots loc lj hpc hI
  cases hk.symm.trans hpc
  obtain ⟨ty, hC⟩ := mj_cls hcl
  have hkd : mj_kd mj_Y a = (0, a, N) := hC.2.2.2.2.1
  have hk2 : (mj_kd mj_Y (a, n).1).1 ≤ 2 := by show (mj_kd mj_Y a).1 ≤ 2; rw [hkd]; exact Nat.zero_le _
  obtain ⟨c1, c2⟩ := hI.2.2.2.2.2.1
  rw [List.length_append, List.length_singleton] at hf1
  rw [mj_sl_one] at hf2
  have hf2 : mj_sl σ.1 + (mj_kd mj_Y a).2.2 ≤ mj_sl Lf := hf2
  rw [hkd] at hf2
  have hf2 : mj_sl σ.1 + N ≤ mj_sl Lf := hf2
  have r1 := hA.2.2.2.2.2.2.2.2.2.2.1
  have r2 := hA.2.2.2.2.2.2.2.2.2.2.2
  refine va_new (ci := a) (fs := (List.range N).map (fun s => if mj_ft mj_Y a s = 3 then Value.null else Value.int 0)) hA.1 hA.2.1 hA.2.2.2.2.1 (mj_clg hC) ty hC.2.1 hA.2.2.2.1 (hA.2.2.2.2.1 _ (mj_gd hw rfl)) (hA.2.2.2.2.1 _ (List.mem_filter.mpr ⟨hC.2.2.2.2.2.1, rfl⟩)) (hA.2.2.2.2.1 _ (List.mem_filter.mpr ⟨hC.2.2.2.2.2.2, rfl⟩)) hA.2.2.2.2.2.1.1 hI.1.1 hI.1.2.1 hI.2.1 hA.2.2.2.2.2.2.2.2.2.1 hcl (mj_kinf hC) (by omega) (by omega) hd (fun q H1 hP hD hS => ?_)
  have hv : (Sum.inr (a, (List.range N).map (fun s => if mj_ft mj_Y a s = 3 then Value.null else Value.int 0)) : va_E) = mj_ce cA (mj_up loc (a, n) q) (mj_z σ.2.1 a n) (mj_n σ.2.2 a n) (a, n) := by
    unfold mj_ce
    dsimp only
    rw [hkd]
    show _ = Sum.inr (a, List.map _ (List.range N))
    congr 2
    refine List.map_congr_left (fun s _ => ?_)
    by_cases h3 : mj_ft mj_Y a s = 3
    · rw [if_pos h3, if_pos h3]; unfold mj_n; simp [va_rf]
    · rw [if_neg h3, if_neg h3]; unfold mj_z; simp
  have hgo := h _ _ _ _ _ _ _ hn (hI.more (c0 := (a, n)) hnew hk2 hI.lv hv hP hD hS)
  have e1 : (Sum.inr (a, n) :: st).map (mj_vc (mj_up loc (a, n) q)) = Value.ref q :: st.map (mj_vc loc) := by
    rw [List.map_cons, mj_map_up hnew hk2 hI.lv]
    show Value.ref (mj_up loc (a, n) q (a, n)) :: _ = _
    rw [mj_up_eq]
  rw [e1] at hgo
  have e2 : (mj_kd mj_Y (a, n).1).2.2 = N := by show (mj_kd mj_Y a).2.2 = N; rw [hkd]
  rw [e2] at hgo
  exact hgo
theorem mj_wd_int : Jvm.Cond.arrayClass .int ∈ mj_goods := by
  refine List.mem_filter.mpr ⟨by decide +kernel, rfl⟩
theorem mj_wd_char : Jvm.Cond.arrayClass .char ∈ mj_goods := by
  refine List.mem_filter.mpr ⟨by decide +kernel, rfl⟩
theorem mj_newa {i : ArrayType} {a n t N : Nat} {z : Int32} {r : List mj_V} (hA : mj_At D cA A el X J mm p R s m args meth c L0 Lf) (hk : mj_pc mm k = some pc0) (hd : decode J.2.1 pc0 = .ok (.newarray i, 2)) (hn : mj_pc mm (k + 1) = some (pc0 + 2)) (hkd : mj_kd mj_Y a = (1, t, N)) (ht : (t = 0 ∧ i = .int) ∨ (t = 2 ∧ i = .char)) (hz : z = Int32.ofNat N) (hnew : (a, n) ∉ σ.1) (hf1 : (σ.1 ++ [(a, n)]).length ≤ Lf.length) (hf2 : mj_sl (σ.1 ++ [(a, n)]) ≤ mj_sl Lf) (h : mj_Sim D cA A el mm p l e R s m args below meth c Q L0 loc0 (k + 1) ls (.inr (a, n) :: r) (σ.1 ++ [(a, n)], mj_z σ.2.1 a n, mj_n σ.2.2 a n)) : mj_Sim D cA A el mm p l e R s m args below meth c Q L0 loc0 k ls (.inl z :: r) σ := by
  intro pc H locs cells slots loc lj hpc hI
  cases hk.symm.trans hpc
  subst hz
  have hk2 : (mj_kd mj_Y (a, n).1).1 ≤ 2 := by show (mj_kd mj_Y a).1 ≤ 2; rw [hkd]; exact (by decide : 1 ≤ 2)
  have hN : N < 3000 := by
    have g := mj_kds_n a (mj_kd_lt (by rw [hkd]; exact (by decide : 1 ≤ 8)))
    rw [hkd] at g
    exact g
  have hN0 : ¬ Int32.ofNat N < 0 := nI_pos (n := N) (by omega)
  have hN1 : (Int32.ofNat N).toNatClampNeg = N := nI_clamp (n := N) (by omega)
  obtain ⟨c1, c2⟩ := hI.2.2.2.2.2.1
  rw [List.length_append, List.length_singleton] at hf1
  rw [mj_sl_one] at hf2
  have hf2 : mj_sl σ.1 + (mj_kd mj_Y a).2.2 ≤ mj_sl Lf := hf2
  rw [hkd] at hf2
  have hf2 : mj_sl σ.1 + N ≤ mj_sl Lf := hf2
  have r1 := hA.2.2.2.2.2.2.2.2.2.2.1
  have r2 := hA.2.2.2.2.2.2.2.2.2.2.2
  have hK := hA.2.2.2.2.2.1.1
  have e2 : (mj_kd mj_Y (a, n).1).2.2 = N := by show (mj_kd mj_Y a).2.2 = N; rw [hkd]
  have e1 : ∀ q, (Sum.inr (a, n) :: r).map (mj_vc (mj_up loc (a, n) q)) = Value.ref q :: r.map (mj_vc loc) := by
    intro q
    rw [List.map_cons, mj_map_up hnew hk2 hI.tl]
    show Value.ref (mj_up loc (a, n) q (a, n)) :: _ = _
    rw [mj_up_eq]
  have hv : ∀ q, (Sum.inl (cA t, N, Sum.inl (fun _ => (0 : Int32))) : va_E) = mj_ce cA (mj_up loc (a, n) q) (mj_z σ.2.1 a n) (mj_n σ.2.2 a n) (a, n) := by
    intro q
    rw [mj_ce1 hkd]
    congr 4
    funext s
    unfold mj_z
    simp
  rcases ht with ⟨rfl, rfl⟩ | ⟨rfl, rfl⟩
  · refine va_newa (ty := .int) (atype := .int) (a0 := (N, .inl (fun _ => 0))) hA.1 hA.2.1 (hA.2.2.2.2.1 _ mj_wd_int) rfl hK hI.1.1 hI.1.2.1 hI.2.1 hA.2.2.2.2.2.2.2.2.2.1 (fun _ => rfl) hN0 hN1 (by show N * 4 ≤ 536870912; omega) (by omega) (by omega) hd (fun q cA' H1 hK1 hP hD hS => ?_)
    have hc : cA' = cA 0 := by
      have g1 : s.vm.findClass ("[" ++ FieldType.int.toString) = some cA' := (hK1.2 4 (cA', .int) rfl).2
      have g2 : s.vm.findClass ("[" ++ FieldType.int.toString) = some (cA 0) := (hK.2 0 (cA 0, .int) rfl).2
      exact Option.some.inj (g1.symm.trans g2)
    rw [hc] at hP hD
    have hgo := h _ _ _ _ _ _ _ hn (hI.more (c0 := (a, n)) hnew hk2 hI.tl (hv q) hP hD hS)
    rw [e1, e2] at hgo
    exact hgo
  · refine va_newa (ty := .char) (atype := .char) (a0 := (N, .inl (fun _ => 0))) hA.1 hA.2.1 (hA.2.2.2.2.1 _ mj_wd_char) rfl hK hI.1.1 hI.1.2.1 hI.2.1 hA.2.2.2.2.2.2.2.2.2.1 (fun _ => rfl) hN0 hN1 (by show N * 2 ≤ 536870912; omega) (by omega) (by omega) hd (fun q cA' H1 hK1 hP hD hS => ?_)
    have hc : cA' = cA 2 := by
      have g1 : s.vm.findClass ("[" ++ FieldType.char.toString) = some cA' := (hK1.2 4 (cA', .char) rfl).2
      have g2 : s.vm.findClass ("[" ++ FieldType.char.toString) = some (cA 2) := (hK.2 1 (cA 2, .char) rfl).2
      exact Option.some.inj (g1.symm.trans g2)
    rw [hc] at hP hD
    have hgo := h _ _ _ _ _ _ _ hn (hI.more (c0 := (a, n)) hnew hk2 hI.tl (hv q) hP hD hS)
    rw [e1, e2] at hgo
    exact hgo
theorem mj_newq {i a n u N pos : Nat} {C : String} {T : u_T} {N2 : Nat} {z : Int32} {r : List mj_V} (hA : mj_At D cA A el X J mm p R s m args meth c L0 Lf) (hk : mj_pc mm k = some pc0) (hd : decode J.2.1 pc0 = .ok (.anewarray i, 3)) (hn : mj_pc mm (k + 1) = some (pc0 + 3)) (hkd : mj_kd mj_Y a = (2, u, N)) (hu : u = 3 ∨ u = 4) (hcl : mj_cl[u]? = some (C, T, N2)) (hw : lw_tbl[pos]? = some (Jvm.Cond.classLink J.1.cls i C)) (hz : z = Int32.ofNat N) (hnew : (a, n) ∉ σ.1) (hf1 : (σ.1 ++ [(a, n)]).length ≤ Lf.length) (hf2 : mj_sl (σ.1 ++ [(a, n)]) ≤ mj_sl Lf) (h : mj_Sim D cA A el mm p l e R s m args below meth c Q L0 loc0 (k + 1) ls (.inr (a, n) :: r) (σ.1 ++ [(a, n)], mj_z σ.2.1 a n, mj_n σ.2.2 a n)) : mj_Sim D cA A el mm p l e R s m args below meth c Q L0 loc0 k ls (.inl z :: r) σ := by
  intro pc H locs cells slots loc lj hpc hI
  cases hk.symm.trans hpc
  subst hz
  have hk2 : (mj_kd mj_Y (a, n).1).1 ≤ 2 := by show (mj_kd mj_Y a).1 ≤ 2; rw [hkd]; exact (by decide : 2 ≤ 2)
  have hN : N < 3000 := by
    have g := mj_kds_n a (mj_kd_lt (by rw [hkd]; exact (by decide : 2 ≤ 8)))
    rw [hkd] at g
    exact g
  have hN0 : ¬ Int32.ofNat N < 0 := nI_pos (n := N) (by omega)
  have hN1 : (Int32.ofNat N).toNatClampNeg = N := nI_clamp (n := N) (by omega)
  obtain ⟨c1, c2⟩ := hI.2.2.2.2.2.1
  rw [List.length_append, List.length_singleton] at hf1
  rw [mj_sl_one] at hf2
  have hf2 : mj_sl σ.1 + (mj_kd mj_Y a).2.2 ≤ mj_sl Lf := hf2
  rw [hkd] at hf2
  have hf2 : mj_sl σ.1 + N ≤ mj_sl Lf := hf2
  have r1 := hA.2.2.2.2.2.2.2.2.2.2.1
  have r2 := hA.2.2.2.2.2.2.2.2.2.2.2
  have hK := hA.2.2.2.2.2.1.1
  have e2 : (mj_kd mj_Y (a, n).1).2.2 = N := by show (mj_kd mj_Y a).2.2 = N; rw [hkd]
  have e1 : ∀ q, (Sum.inr (a, n) :: r).map (mj_vc (mj_up loc (a, n) q)) = Value.ref q :: r.map (mj_vc loc) := by
    intro q
    rw [List.map_cons, mj_map_up hnew hk2 hI.tl]
    show Value.ref (mj_up loc (a, n) q (a, n)) :: _ = _
    rw [mj_up_eq]
  have hv : ∀ q, (Sum.inl (cA (10 + u), N, Sum.inr (Sum.inr (Sum.inr (Sum.inr (fun _ => (none : Option Nat)))))) : va_E) = mj_ce cA (mj_up loc (a, n) q) (mj_z σ.2.1 a n) (mj_n σ.2.2 a n) (a, n) := by
    intro q
    rw [mj_ce2 hkd]
    congr 7
    funext s
    unfold mj_n
    simp
  have hAO : va_AO C s := by
    rcases hu with rfl | rfl
    · cases hcl; exact hA.2.2.2.2.2.1.2.2.2.1
    · cases hcl; exact hA.2.2.2.2.2.1.2.2.1
  refine va_newq (C := C) hA.1 hA.2.1 hA.2.2.2.1 (hA.2.2.2.2.1 _ (mj_gd hw rfl)) hAO hK hI.1.1 hI.1.2.1 hI.2.1 hA.2.2.2.2.2.2.2.2.2.1 hN0 hN1 (by omega) (by omega) (by omega) hd (fun q cA' H1 hK1 hP hD hS => ?_)
  have hc : cA' = cA (10 + u) := by
    obtain ⟨_, _, -, -, -, g1⟩ := (hK1.2 4 (cA', .object C) rfl).2
    rcases hu with rfl | rfl
    · cases hcl
      obtain ⟨_, _, -, -, -, g2⟩ := (hK.2 2 (cA 13, .object "LiningLog$Scan") rfl).2
      exact Option.some.inj (g1.symm.trans g2)
    · cases hcl
      obtain ⟨_, _, -, -, -, g2⟩ := (hK.2 3 (cA 14, .object "LiningLog$State") rfl).2
      exact Option.some.inj (g1.symm.trans g2)
  rw [hc] at hP hD
  have hgo := h _ _ _ _ _ _ _ hn (hI.more (c0 := (a, n)) hnew hk2 hI.tl (hv q) hP hD hS)
  rw [e1, e2] at hgo
  exact hgo
theorem mj_wd_oi : Jvm.Cond.instanceMethod Lib.objectInit ∈ mj_goods := by
  refine List.mem_filter.mpr ⟨by decide +kernel, rfl⟩
theorem mj_wd_oc : Jvm.Cond.code Lib.objectInit ⟨#[0xb1]⟩ 1 none ∈ mj_goods := by
  refine List.mem_filter.mpr ⟨by decide +kernel, rfl⟩
theorem mj_wd_an : Jvm.Cond.native arraycopyName ∈ mj_goods := by
  refine List.mem_filter.mpr ⟨by decide +kernel, rfl⟩
theorem mj_wd_as : Jvm.Cond.static arraycopyName ∈ mj_goods := by
  refine List.mem_filter.mpr ⟨by decide +kernel, rfl⟩
theorem mj_wd_ai : Jvm.Cond.initialized "java/lang/System" ∈ mj_goods := by
  refine List.mem_filter.mpr ⟨by decide +kernel, rfl⟩
theorem mj_oini {i pos : Nat} {x : Nat × Nat} (hA : mj_At D cA A el X J mm p R s m args meth c L0 Lf) (hk : mj_pc mm k = some pc0) (hd : decode J.2.1 pc0 = .ok (.invokespecial i, 3)) (hn : mj_pc mm (k + 1) = some (pc0 + 3)) (hw : lw_tbl[pos]? = some (Jvm.Cond.methodLink J.1.cls i Lib.objectInit)) (h1 : 1 ≤ J.2.2.2.1) (h2 : 12 ≤ J.2.2.2.2.1) (h : mj_Sim D cA A el mm p l e R s m args below meth c Q L0 loc0 (k + 1) ls [] σ) : mj_Sim D cA A el mm p l e R s m args below meth c Q L0 loc0 k ls [.inr x] σ := by
  intro pc H locs cells slots loc lj hpc hI
  cases hk.symm.trans hpc
  obtain ⟨r1, r2⟩ := hA.2.2.2.2.2.2.2.2.1
  exact W.objInit (g := F0 m pc0 lj [.ref (loc x)]) (rest := []) hA.1 hA.2.1 hA.2.2.2.1 (hA.2.2.2.2.1 _ (mj_gd hw rfl)) (hA.2.2.2.2.1 _ mj_wd_oi) (hA.2.2.2.2.1 _ mj_wd_oc) rfl (hI.2.2.1.1.trans hA.2.2.1.symm) rfl hd (Nat.le_trans h1 r1) (Nat.le_trans (by exact h2) r2) (h _ _ _ _ _ _ _ hn (hI.stk (fun v hv => by cases hv)))
theorem mj_acpy {i pos : Nat} {n : Int32} {a0 q0 a1 q1 : Nat} (hA : mj_At D cA A el X J mm p R s m args meth c L0 Lf) (hk : mj_pc mm k = some pc0) (hd : decode J.2.1 pc0 = .ok (.invokestatic i, 3)) (hn : mj_pc mm (k + 1) = some (pc0 + 3)) (hw : lw_tbl[pos]? = some (Jvm.Cond.methodLink J.1.cls i arraycopyName)) (h1 : 1 ≤ J.2.2.2.1) (h2 : 18 ≤ J.2.2.2.2.1) (hk0 : mj_isA mj_Y 0 a0 = true) (hk1 : mj_isA mj_Y 0 a1 = true) (h3 : 0 ≤ n.toInt) (h4 : n.toInt ≤ (mj_len mj_Y X a0 : Int)) (h5 : n.toInt ≤ (mj_len mj_Y X a1 : Int)) (h : mj_Sim D cA A el mm p l e R s m args below meth c Q L0 loc0 (k + 1) ls [] (σ.1, mj_cp σ.2.1 a0 q0 a1 q1 n.toNatClampNeg, σ.2.2)) : mj_Sim D cA A el mm p l e R s m args below meth c Q L0 loc0 k ls [.inl n, .inl 0, .inr (a1, q1), .inl 0, .inr (a0, q0)] σ := by
  intro pc H locs cells slots loc lj hpc hI
  cases hk.symm.trans hpc
  obtain ⟨r1, r2⟩ := hA.2.2.2.2.2.2.2.2.1
  obtain ⟨n0, hkd0⟩ := mj_isA_of hk0
  obtain ⟨n1, hkd1⟩ := mj_isA_of hk1
  unfold mj_len at h4 h5
  rw [hkd0] at h4
  rw [hkd1] at h5
  have h4 : n.toInt ≤ (n0 : Int) := h4
  have h5 : n.toInt ≤ (n1 : Int) := h5
  have hl1 := hI.tl _ (List.mem_cons_of_mem _ List.mem_cons_self)
  have hl0 := hI.tl _ (List.mem_cons_of_mem _ (List.mem_cons_of_mem _ (List.mem_cons_of_mem _ List.mem_cons_self)))
  obtain ⟨p0, hp0, hq0⟩ := mj_arr (cA := cA) (loc := loc) hkd0 (mj_live hl0 (by rw [hkd0]; exact (by decide : 1 ≤ 2)))
  obtain ⟨p1, hp1, hq1⟩ := mj_arr (cA := cA) (loc := loc) hkd1 (mj_live hl1 (by rw [hkd1]; exact (by decide : 1 ≤ 2)))
  have hn0 : ¬ n < 0 := by
    intro g
    have g2 := Int32.lt_iff_toInt_lt.mp g
    have e : (0 : Int32).toInt = 0 := by decide
    omega
  have hcl : (n.toNatClampNeg : Int) = n.toInt := by
    show ((n.toInt.toNat : Nat) : Int) = n.toInt
    omega
  have z0 : (0 : Int32).toNatClampNeg = 0 := by decide
  refine va_copyi (ty := .int) (sp := 0) (dp := 0) (n := n) hA.1 hA.2.1 (hA.2.2.1.trans hI.2.2.1.1.symm) hA.2.2.2.1 (hA.2.2.2.2.1 _ (mj_gd hw rfl)) (hA.2.2.2.2.1 _ mj_wd_an) (hA.2.2.2.2.1 _ mj_wd_as) (hA.2.2.2.2.1 _ mj_wd_ai) hA.2.2.2.2.2.1.1 hI.1.1 hI.1.2.1 hI.2.1 p0 p1 0 0 hq0 hq1 rfl rfl rfl (by decide) (by decide) hn0 (by rw [z0]; omega) (by rw [z0]; omega) (fun _ _ => rfl) (Nat.le_trans h1 r1) (Nat.le_trans (by exact h2) r2) hd (fun H1 locs1 hP hD hS => ?_)
  have hws : (mj_ws cA loc σ).set p1 (loc (a1, q1), .inl (cA 0, n1, .inl (va_cpy (fun j => σ.2.1 a0 q0 j) (fun j => σ.2.1 a1 q1 j) (0 : Int32).toNatClampNeg (0 : Int32).toNatClampNeg n.toNatClampNeg))) = mj_ws cA loc (σ.1, mj_cp σ.2.1 a0 q0 a1 q1 n.toNatClampNeg, σ.2.2) := by
    refine mj_ws_set hI.1.2.1 hp1 ?_ (fun y hy => mj_ce_congr (fun s => by unfold mj_cp; rw [if_neg (fun g => hy (Prod.ext g.1 g.2.1))]) (fun _ => rfl))
    rw [mj_ce1 hkd1]
    congr 4
    funext s
    unfold va_cpy mj_cp
    rw [z0]
    simp
  rw [hws] at hP hD
  exact h _ _ _ _ _ _ _ hn (hI.put (hI.1.put hP hD hI.1.2.2.2.1) hS (fun v hv => by cases hv))
end SND
end
section
/-! calls: the words of each method; a call out of the callee's contract -/
def mj_mp : List (List Nat) := [[214, 0, 215, 87], [288, 1, 289, 87], [463, 30, 464, 87], [109, 0, 110, 85], [114, 0, 115, 85], [296, 3, 297, 85], [317, 6, 318, 85], [396, 18, 397, 85], [360, 11, 361, 85], [489, 34, 490, 85], [499, 35, 500, 85], [368, 13, 369, 85], [372, 14, 373, 85], [352, 9, 353, 85], [475, 32, 476, 85], [510, 36, 511, 85], [471, 31, 472, 85], [387, 17, 388, 85], [411, 21, 412, 85], [348, 8, 349, 85], [485, 33, 486, 85], [364, 12, 365, 85], [583, 44, 584, 85], [356, 10, 357, 85], [344, 7, 345, 85], [379, 15, 380, 85], [383, 16, 384, 85], [407, 20, 408, 85], [403, 19, 404, 85], [416, 22, 417, 85], [428, 24, 429, 85], [424, 23, 425, 85], [565, 43, 566, 85], [234, 0, 235, 88], [591, 45, 592, 88], [624, 51, 625, 88], [603, 46, 604, 88], [607, 47, 608, 88], [620, 50, 621, 88], [611, 48, 612, 88], [628, 52, 629, 88], [615, 49, 616, 88], [632, 53, 633, 88], [178, 0, 179, 86], [445, 27, 446, 86], [303, 4, 304, 86], [455, 29, 456, 86], [524, 38, 525, 86], [451, 28, 452, 86], [534, 39, 535, 86], [103, 0, 104, 84], [308, 5, 309, 84], [292, 2, 293, 84], [518, 37, 519, 84], [437, 25, 438, 84], [441, 26, 442, 84], [547, 41, 548, 84], [543, 40, 544, 84], [551, 42, 552, 84], [95, 0, 96, 83], [279, 280, 281, 83], [312, 313, 314, 83], [321, 322, 323, 83], [329, 330, 331, 83], [391, 392, 393, 83], [419, 420, 421, 83], [432, 433, 434, 83], [458, 459, 460, 83], [466, 467, 468, 83], [478, 479, 480, 83], [493, 494, 495, 83], [505, 506, 507, 83], [513, 514, 515, 83], [529, 530, 531, 83], [538, 539, 540, 83], [555, 556, 557, 83], [559, 560, 561, 83], [569, 570, 571, 83], [574, 575, 576, 83], [578, 579, 580, 83], [586, 587, 588, 83], [594, 595, 596, 83], [598, 599, 600, 83], [640, 641, 642, 83], [649, 650, 651, 83], [646, 54, 647, 83], [283, 0, 284, 83], [333, 0, 334, 83], [399, 0, 400, 83], [337, 0, 338, 83], [655, 0, 656, 89], [708, 0, 709, 89], [744, 0, 745, 89], [664, 56, 665, 89], [713, 57, 714, 89], [660, 55, 661, 89], [748, 60, 749, 89], [825, 72, 826, 89], [817, 71, 818, 89], [752, 61, 753, 89], [776, 66, 777, 89], [741, 59, 742, 89], [756, 62, 757, 89], [737, 58, 738, 89], [772, 65, 773, 89], [768, 64, 769, 89], [781, 67, 782, 89], [789, 68, 790, 89], [797, 69, 798, 89], [704, 705, 706, 89], [716, 717, 718, 89], [724, 0, 725, 89], [720, 721, 722, 89], [732, 0, 733, 89], [764, 63, 765, 89], [728, 729, 730, 89], [759, 760, 761, 89], [784, 785, 786, 89], [792, 793, 794, 89], [804, 805, 806, 89], [808, 809, 810, 89], [812, 813, 814, 89], [820, 821, 822, 89], [829, 830, 831, 89], [801, 70, 802, 89], [842, 74, 843, 89], [838, 73, 839, 89], [833, 834, 835, 89], [845, 846, 847, 89], [849, 850, 851, 89], [853, 854, 855, 89], [867, 76, 868, 89], [863, 75, 864, 89], [871, 77, 872, 89], [858, 859, 860, 89], [874, 875, 876, 89], [878, 879, 880, 89], [882, 883, 884, 89], [886, 887, 888, 89], [890, 891, 892, 89], [907, 80, 908, 89], [903, 79, 904, 89], [899, 78, 900, 89], [894, 895, 896, 89], [916, 81, 917, 89], [910, 911, 912, 89], [919, 920, 921, 89], [340, 0, 341, 91], [502, 0, 503, 91], [375, 0, 376, 91]]
def mj_okJ (m : Nat) : Bool := match mj_ms[m]?, mj_mp[m]? with
  | some J, some [p0, p1, p2, p3] => plainFor J.1 && decide (J.1.cls ≠ "java/lang/invoke/MethodHandle") && decide (J.1.cls ≠ "java/lang/invoke/VarHandle") && decide (lw_tbl[p2]? = some (Jvm.Cond.code J.1 J.2.1 (mj_mx mj_Y m) J.2.2.1)) && decide (lw_tbl[p3]? = some (Jvm.Cond.initialized J.1.cls)) &&
    (if J.2.2.2.2.2 = 1 then decide (lw_tbl[p0]? = some (Jvm.Cond.static J.1)) else decide (lw_tbl[p0]? = some (Jvm.Cond.instanceMethod J.1)) && (decide (J.1.name = "<init>") || decide (lw_tbl[p1]? = some (Jvm.Cond.selects J.1.cls J.1 J.1))))
  | _, _ => false
theorem mj_okJ_0 : ∀ m, m < 10 → mj_okJ (0 + m) = true := by decide +kernel
theorem mj_okJ_10 : ∀ m, m < 10 → mj_okJ (10 + m) = true := by decide +kernel
theorem mj_okJ_20 : ∀ m, m < 10 → mj_okJ (20 + m) = true := by decide +kernel
theorem mj_okJ_30 : ∀ m, m < 10 → mj_okJ (30 + m) = true := by decide +kernel
theorem mj_okJ_40 : ∀ m, m < 10 → mj_okJ (40 + m) = true := by decide +kernel
theorem mj_okJ_50 : ∀ m, m < 10 → mj_okJ (50 + m) = true := by decide +kernel
theorem mj_okJ_60 : ∀ m, m < 10 → mj_okJ (60 + m) = true := by decide +kernel
theorem mj_okJ_70 : ∀ m, m < 10 → mj_okJ (70 + m) = true := by decide +kernel
theorem mj_okJ_80 : ∀ m, m < 10 → mj_okJ (80 + m) = true := by decide +kernel
theorem mj_okJ_90 : ∀ m, m < 10 → mj_okJ (90 + m) = true := by decide +kernel
theorem mj_okJ_100 : ∀ m, m < 10 → mj_okJ (100 + m) = true := by decide +kernel
theorem mj_okJ_110 : ∀ m, m < 10 → mj_okJ (110 + m) = true := by decide +kernel
theorem mj_okJ_120 : ∀ m, m < 10 → mj_okJ (120 + m) = true := by decide +kernel
theorem mj_okJ_130 : ∀ m, m < 10 → mj_okJ (130 + m) = true := by decide +kernel
theorem mj_okJ_140 : ∀ m, m < 10 → mj_okJ (140 + m) = true := by decide +kernel
theorem mj_okJ_all : ∀ m, m < 150 → mj_okJ m = true := by
  intro m hm
  by_cases h0 : m < 10
  · have g := mj_okJ_0 (m - 0) (by omega)
    rw [show 0 + (m - 0) = m by omega] at g
    exact g
  by_cases h10 : m < 20
  · have g := mj_okJ_10 (m - 10) (by omega)
    rw [show 10 + (m - 10) = m by omega] at g
    exact g
  by_cases h20 : m < 30
  · have g := mj_okJ_20 (m - 20) (by omega)
    rw [show 20 + (m - 20) = m by omega] at g
    exact g
  by_cases h30 : m < 40
  · have g := mj_okJ_30 (m - 30) (by omega)
    rw [show 30 + (m - 30) = m by omega] at g
    exact g
  by_cases h40 : m < 50
  · have g := mj_okJ_40 (m - 40) (by omega)
    rw [show 40 + (m - 40) = m by omega] at g
    exact g
  by_cases h50 : m < 60
  · have g := mj_okJ_50 (m - 50) (by omega)
    rw [show 50 + (m - 50) = m by omega] at g
    exact g
  by_cases h60 : m < 70
  · have g := mj_okJ_60 (m - 60) (by omega)
    rw [show 60 + (m - 60) = m by omega] at g
    exact g
  by_cases h70 : m < 80
  · have g := mj_okJ_70 (m - 70) (by omega)
    rw [show 70 + (m - 70) = m by omega] at g
    exact g
  by_cases h80 : m < 90
  · have g := mj_okJ_80 (m - 80) (by omega)
    rw [show 80 + (m - 80) = m by omega] at g
    exact g
  by_cases h90 : m < 100
  · have g := mj_okJ_90 (m - 90) (by omega)
    rw [show 90 + (m - 90) = m by omega] at g
    exact g
  by_cases h100 : m < 110
  · have g := mj_okJ_100 (m - 100) (by omega)
    rw [show 100 + (m - 100) = m by omega] at g
    exact g
  by_cases h110 : m < 120
  · have g := mj_okJ_110 (m - 110) (by omega)
    rw [show 110 + (m - 110) = m by omega] at g
    exact g
  by_cases h120 : m < 130
  · have g := mj_okJ_120 (m - 120) (by omega)
    rw [show 120 + (m - 120) = m by omega] at g
    exact g
  by_cases h130 : m < 140
  · have g := mj_okJ_130 (m - 130) (by omega)
    rw [show 130 + (m - 130) = m by omega] at g
    exact g
  by_cases h140 : m < 150
  · have g := mj_okJ_140 (m - 140) (by omega)
    rw [show 140 + (m - 140) = m by omega] at g
    exact g
  omega
theorem mj_ms_len : mj_ms.length = 151 := by decide +kernel
theorem mj_Jw {m : Nat} {J : mj_J} (h : mj_ms[m]? = some J) (hm : ¬ m = 150) : plainFor J.1 = true ∧ (J.1.cls ≠ "java/lang/invoke/MethodHandle" ∧ J.1.cls ≠ "java/lang/invoke/VarHandle") ∧ Jvm.Cond.code J.1 J.2.1 (mj_mx mj_Y m) J.2.2.1 ∈ mj_goods ∧ Jvm.Cond.initialized J.1.cls ∈ mj_goods ∧ ((J.2.2.2.2.2 = 1 ∧ Jvm.Cond.static J.1 ∈ mj_goods) ∨ (¬ J.2.2.2.2.2 = 1 ∧ Jvm.Cond.instanceMethod J.1 ∈ mj_goods ∧ (J.1.name = "<init>" ∨ Jvm.Cond.selects J.1.cls J.1 J.1 ∈ mj_goods))) := by
  have hlt : m < 150 := by
    have := (List.getElem?_eq_some_iff.mp h).1
    rw [mj_ms_len] at this
    omega
  have hok := mj_okJ_all m hlt
  unfold mj_okJ at hok
  rw [h] at hok
  split at hok
  · rename_i J' p0 p1 p2 p3 e1 e2
    cases e1
    simp only [Bool.and_eq_true, decide_eq_true_eq] at hok
    obtain ⟨⟨⟨⟨⟨h1, h2⟩, h3⟩, h4⟩, h5⟩, h6⟩ := hok
    refine ⟨h1, ⟨h2, h3⟩, mj_gd h4 rfl, mj_gd h5 rfl, ?_⟩
    by_cases g : J.2.2.2.2.2 = 1
    · rw [if_pos g] at h6
      exact Or.inl ⟨g, mj_gd (of_decide_eq_true h6) rfl⟩
    · rw [if_neg g] at h6
      simp only [Bool.and_eq_true, Bool.or_eq_true, decide_eq_true_eq] at h6
      exact Or.inr ⟨g, mj_gd h6.1 rfl, h6.2.imp id (fun z => mj_gd z rfl)⟩
  · cases hok
end
section
def mj_Pc (D : va_G) (cA : Nat → ClassId) (A : Nat → Prop) (el : Nat → Nat) (X : mj_X) (loc : Nat × Nat → Nat) (σ : mj_H) : State → Prop := fun U => mj_Fx D cA A el X U U.heap ∧ mj_Wd D cA A el loc σ U.heap ∧ ∀ q, U.heap.size ≤ q → A q
def mj_Qc (D : va_G) (cA : Nat → ClassId) (A : Nat → Prop) (el : Nat → Nat) (loc : Nat × Nat → Nat) (σ : mj_H) (r : Option mj_V) (σ' : mj_H) : Array Value → State → Outcome → State → Prop := fun _ st o t => (∃ loc', o = .returned (r.map (mj_vc loc')) ∧ mj_Wd D cA A el loc' σ' t.heap ∧ (∀ q ∈ σ.1, q ∈ σ'.1 ∧ loc' q = loc q) ∧ ∀ v, r = some v → mj_lv σ'.1 v) ∧ va_F A st t
def mj_wsm (J : mj_J) (m : Nat) : List Jvm.Cond := Jvm.Cond.code J.1 J.2.1 (mj_mx mj_Y m) J.2.2.1 :: mj_goods
def mj_rm (J : mj_J) (mc ms : Nat) : Jvm.Room := { frames := J.2.2.2.1, cells := mc, slots := ms, locals := J.2.2.2.2.1 }
def mj_Met (D : va_G) (cA : Nat → ClassId) (A : Nat → Prop) (el : Nat → Nat) (X : mj_X) (l : Launch) (m : Nat) (J : mj_J) (loc : Nat × Nat → Nat) (as : List mj_V) (σ : mj_H) (r : Option mj_V) (σ' : mj_H) : Prop :=
  Met l J.1 (mj_wsm J m) (mj_rm J (σ'.1.length - σ.1.length) (mj_sl σ'.1 - mj_sl σ.1)) (va_Pc (as.map (mj_vc loc)) (mj_Pc D cA A el X loc σ)) (mj_Qc D cA A el loc σ r σ') (σ'.1.length - σ.1.length) (mj_sl σ'.1 - mj_sl σ.1) A
theorem mj_Fx.same {D : va_G} {cA : Nat → ClassId} {A : Nat → Prop} {el : Nat → Nat} {X : mj_X} {U V : State} {H : Heap} (hvm : U.vm = V.vm) (h : mj_Fx D cA A el X U H) : mj_Fx D cA A el X V H := by
  have hal : U.vm.Alike V.vm := hvm ▸ Vm.Alike.refl _
  obtain ⟨h1, h2, h3, h4, h5, h6, h7, h8⟩ := h
  refine ⟨h1.moved hal, fun w hw => ?_, h3.moved hal, h4.moved hal, fun q hq => (h5 q hq).moved hal, fun k t n hk => (h6 k t n hk).moved hal, h7.moved hal, h8⟩
  have hz := h2 w hw
  have hn := (List.mem_filter.mp hw).2
  cases w <;> first | exact va_Nw.same rfl hvm hz | cases hn
theorem mj_good_in {w : Jvm.Cond} (h : w ∈ mj_goods) : (w.onTables && w.keeps) = true ∨ ∃ ty, w = .arrayClass ty := good_of_word (List.mem_filter.mp h).2
theorem mj_goodIn {J : mj_J} {a : Nat} (h : Jvm.Cond.code J.1 J.2.1 (mj_mx mj_Y a) J.2.2.1 ∈ mj_goods) : GoodIn mj_goods (mj_wsm J a) := by
  intro w hw
  rcases List.mem_cons.mp hw with rfl | hw
  · exact ⟨h, mj_good_in h⟩
  · exact ⟨hw, mj_good_in hw⟩
theorem mj_rcv_of {k0 : Nat} {ts : List Nat} {as : List mj_V} (h : mj_rcv (k0 :: ts) as = true) : ∃ (i : Nat) (As : List mj_V), as = .inr (k0, i) :: As := by
  cases as with
  | nil => cases h
  | cons v As =>
    cases v with
    | inl x => cases h
    | inr x =>
      obtain ⟨a, i⟩ := x
      have e : a = k0 := of_decide_eq_true h
      subst e
      exact ⟨i, As, rfl⟩
section SND
variable {D : va_G} {cA : Nat → ClassId} {A : Nat → Prop} {el : Nat → Nat} {X : mj_X} {J : mj_J} {mm : Nat} {p : Program} {l : Launch} {e : Env} {R : Room} {s : State} {m : MethodId} {args : Array Value} {below : List Frame} {meth : Method} {c : Code} {Q : State → Prop} {L0 Lf : List (Nat × Nat)} {loc0 : Nat × Nat → Nat}
variable {ls : mj_L} {st : List mj_V} {σ : mj_H} {k pc0 : Nat} {H : Heap} {locs : List Loc} {cells slots : Nat} {loc : Nat × Nat → Nat} {lj : Array Slot}
theorem mj_runW {mc ms : Nat} {st0 rest : List Value} {Qa : State → Outcome → State → Prop} {pc : Nat} (hr : va_Run p l e R s m args below meth c H locs cells slots mc ms (F0 m pc lj st0) rest Qa A) (hS : va_S A s.heap H locs)
    (kk : ∀ (v : Option Value) (st₀ t : State) (H1 : Heap) (locs1 : List Loc), st₀.heap = H → Qa st₀ (.returned v) t → t.heap = H1 → (va_F A st₀ t → va_S A s.heap H1 locs1) → W p l e R s m args below meth c H1 locs1 (cells + mc) (slots + ms) Q (F0 m (pc + 3) lj (v.toList ++ rest))) : W p l e R s m args below meth c H locs cells slots Q (F0 m pc lj st0) := by
  intro T hT X
  obtain ⟨v, st₀, t, T', L, h0, X', hL, e1, e2, hq, st⟩ := hr T hT X
  obtain ⟨t2, a1, b1⟩ := kk v st₀ t T'.heap (locs ++ L) h0 hq e1.symm (fun hF => by
    obtain ⟨hz, hk⟩ := hF
    rw [h0] at hz hk
    refine ⟨Nat.le_trans hS.1 (by rw [e1]; exact hz), fun q h1 h2 => ?_, fun q hq => ?_⟩
    · rw [e1, hk q (Nat.lt_of_lt_of_le h1 hS.1) h2]
      exact hS.2.1 q h1 h2
    · rcases List.mem_append.mp hq with g | g
      · exact hS.2.2 q g
      · exact hL q g) T' rfl X'
  exact ⟨t2, st t2 a1, b1⟩
theorem mj_lk_of {own : String} {i pos : Nat} {y : MethodName} (h : mj_lk own i pos y = true) : lw_tbl[pos]? = some (Jvm.Cond.methodLink own i y) ∨ lw_tbl[pos]? = some (Jvm.Cond.methodLinkNest own i y mj_host) := by
  unfold mj_lk at h
  simp only [Bool.or_eq_true, decide_eq_true_eq] at h
  exact h
theorem mj_blind (loc : Nat × Nat → Nat) (as : List Value) (σ : mj_H) : FrameBlind (va_Pc as (mj_Pc D cA A el X loc σ)) := fun a U g mk q => ⟨q.1, mj_Fx.same (U := U) (V := U.calling g mk a) (H := U.heap) rfl q.2.1, q.2.2⟩
theorem mj_pcU {as : List mj_V} (hA : mj_At D cA A el X J mm p R s m args meth c L0 Lf) (hI : mj_Iv D cA A el mm s L0 loc0 ls st σ H locs cells slots loc lj) : ∀ U : State, U.heap = H → s.WarmedH U.vm → va_Pc (as.map (mj_vc loc)) (mj_Pc D cA A el X loc σ) (as.map (mj_vc loc)).toArray U := by
  intro U hU hW
  refine ⟨rfl, ?_, by rw [hU]; exact hI.1, fun q hq => hA.2.2.2.2.2.2.2.2.2.1 q (Nat.le_trans hI.2.1.1 (by rw [← hU]; exact hq))⟩
  rw [hU]
  exact hA.2.2.2.2.2.1.moved hW hI.2.1.2.1
theorem mj_okC_of {i a b pos sta : Nat} {ts : List Nat} (h : mj_okC J i a b pos sta ts = true) : ∃ K, mj_ms[a]? = some K ∧ mj_okT ts K.1.cls sta = true ∧ ¬ a = 150 ∧ mj_lk J.1.cls i pos K.1 = true ∧ K.2.2.2.1 + 1 ≤ J.2.2.2.1 ∧ 8 + (mj_mx mj_Y a + 11) + K.2.2.2.2.1 ≤ J.2.2.2.2.1 ∧ K.2.2.2.2.2 = sta ∧ (parseMethodDescriptor K.1.desc).map (fun d => d.parameters.length + (1 - sta)) = some b ∧ b ≤ mj_mx mj_Y a := by
  unfold mj_okC at h
  cases hK : mj_ms[a]? with
  | none => rw [hK] at h; cases h
  | some K =>
    rw [hK] at h
    simp only [Bool.and_eq_true, decide_eq_true_eq] at h
    obtain ⟨⟨⟨⟨⟨⟨⟨h1, h2⟩, h3⟩, h4⟩, h5⟩, h6⟩, h7⟩, h8⟩ := h
    exact ⟨K, rfl, h1, h2, h3, h4, h5, h6, h7, h8⟩
theorem mj_opm {α : Type} {F : α → Nat} {o : Option α} {b t : Nat} (h : o.map (fun d => F d + t) = some b) : o.map F = some (b - t) := by
  cases o with
  | none => cases h
  | some d =>
    have h : some (F d + t) = some b := h
    have h2 := Option.some.inj h
    show some _ = some _
    congr 1
    omega
/-- a call of any of the kinds -/
theorem mj_s_call {ins : Instr} {i a b pos sta : Nat} {ts : List Nat} {K : mj_J} {as rest : List mj_V} {r1 : Option mj_V} {σ1 : mj_H} (hA : mj_At D cA A el X J mm p R s m args meth c L0 Lf) (hk : mj_pc mm k = some pc0) (hd : decode J.2.1 pc0 = .ok (ins, 3)) (hn : mj_pc mm (k + 1) = some (pc0 + 3)) (hok : mj_okC J i a b pos sta ts = true) (hK : mj_ms[a]? = some K)
    (hins : (ins = .invokevirtual i ∧ sta = 0 ∧ ¬ K.1.name = "<init>") ∨ (ins = .invokespecial i ∧ sta = 0 ∧ K.1.name = "<init>" ∧ K.2.2.1 = none) ∨ (ins = .invokestatic i ∧ sta = 1)) (hb : as.length = b) (hr8 : rest.length ≤ 8) (hrc : mj_rcv ts as = true)
    (hM : ∀ loc, (∀ v ∈ as, mj_lv σ.1 v) → mj_Met D cA A el X l a K loc as σ r1 σ1) (hm : σ.1.length ≤ σ1.1.length ∧ mj_sl σ.1 ≤ mj_sl σ1.1) (hf1 : σ1.1.length ≤ Lf.length) (hf2 : mj_sl σ1.1 ≤ mj_sl Lf)
    (h : mj_Sim D cA A el mm p l e R s m args below meth c Q L0 loc0 (k + 1) ls (r1.toList ++ rest) σ1) : mj_Sim D cA A el mm p l e R s m args below meth c Q L0 loc0 k ls (as.reverse ++ rest) σ := by
  intro pc H locs cells slots loc lj hpc hI
  cases hk.symm.trans hpc
  obtain ⟨K', hK', hT, ha, hlk, hfr, hlo, hsta, hprm, hbm⟩ := mj_okC_of hok
  cases hK.symm.trans hK'
  obtain ⟨j1, j2, j3, j4, j5⟩ := mj_Jw hK ha
  have hlas : ∀ v ∈ as, mj_lv σ.1 v := fun v hv => hI.lv v (List.mem_append_left _ (List.mem_reverse.mpr hv))
  have hlrest : ∀ v ∈ rest, mj_lv σ.1 v := fun v hv => hI.lv v (List.mem_append_right _ hv)
  have hM1 := hM loc hlas
  unfold mj_Met at hM1
  obtain ⟨c1, c2⟩ := hI.2.2.2.2.2.1
  have r1' := hA.2.2.2.2.2.2.2.2.2.2.1
  have r2' := hA.2.2.2.2.2.2.2.2.2.2.2
  obtain ⟨rr1, rr2⟩ := hA.2.2.2.2.2.2.2.2.1
  have hcc : cells + (σ1.1.length - σ.1.length) ≤ R.cells ∧ slots + (mj_sl σ1.1 - mj_sl σ.1) ≤ R.slots := by
    constructor <;> omega
  have hRoom : (mj_rm K (σ1.1.length - σ.1.length) (mj_sl σ1.1 - mj_sl σ.1)).frames + 1 ≤ R.frames ∧ 8 + (mj_mx mj_Y a + 11) + (mj_rm K (σ1.1.length - σ.1.length) (mj_sl σ1.1 - mj_sl σ.1)).locals ≤ R.locals := ⟨Nat.le_trans hfr rr1, Nat.le_trans hlo rr2⟩
  have hfix : CallFix p m c J.2.1 (mj_mx mj_Y mm) s args mj_goods J.1.cls := ⟨hA.1, hA.2.1, hA.2.2.1, hA.2.2.2.1, hA.2.2.2.2.1⟩
  have hw8 : 2 * (F0 m pc0 lj ((as.reverse ++ rest).map (mj_vc loc))).monitorRoom + ((rest.map (mj_vc loc)).map fun v => v.category).sum ≤ 8 := by
    refine lv_room (rest := (as.reverse ++ rest).map (mj_vc loc)) ?_
    have e : ∀ q : List mj_V, ((q.map (mj_vc loc)).map fun v => v.category).sum = q.length := by
      intro q
      induction q with
      | nil => rfl
      | cons x q ih =>
        rw [List.map_cons, List.map_cons, List.sum_cons, ih, mj_cat, List.length_cons]
        omega
    rw [e]
    exact hr8
  have hpar := mj_opm (F := fun d : MethodDescriptor => d.parameters.length) hprm
  have hini := hA.2.2.2.2.1 _ j4
  have hrun : va_Run p l e R s m args below meth c H locs cells slots (σ1.1.length - σ.1.length) (mj_sl σ1.1 - mj_sl σ.1) (F0 m pc0 lj ((as.reverse ++ rest).map (mj_vc loc))) (rest.map (mj_vc loc)) (mj_Qc D cA A el loc σ r1 σ1 (as.map (mj_vc loc)).toArray) A := by
    rcases hins with ⟨rfl, rfl, hname⟩ | ⟨rfl, rfl, hname, hrt⟩ | ⟨rfl, rfl⟩
    · cases ts with
      | nil =>
        have hT' : false = true := hT
        cases hT'
      | cons k0 ts =>
        obtain ⟨i0, As, rfl⟩ := mj_rcv_of hrc
        have hT : (decide ((0 : Nat) = 0) && (match mj_cl[k0]? with
          | some (C', _, _) => decide (C' = K.1.cls)
          | none => false)) = true := hT
        cases hc0 : mj_cl[k0]? with
        | none => rw [hc0] at hT; simp at hT
        | some q =>
          obtain ⟨C, T, N⟩ := q
          rw [hc0] at hT
          simp only [Bool.and_eq_true, decide_eq_true_eq] at hT
          obtain ⟨-, rfl⟩ := hT
          obtain ⟨ty, hC⟩ := mj_cls hc0
          have hin := mj_live (hlas _ List.mem_cons_self) (by rw [hC.2.2.2.2.1]; exact Nat.zero_le _)
          obtain ⟨q0, -, hq⟩ := mj_obj (cA := cA) (loc := loc) hC hin
          have hrecv := va_recv hA.2.2.2.2.2.1.1 hI.1.1 hc0 hq
          rcases j5 with ⟨g, -⟩ | ⟨-, j6, j7⟩
          · rw [hsta] at g; cases g
          · have j8 := j7.resolve_left hname
            have hst : (F0 m pc0 lj (((Sum.inr (k0, i0) :: As).reverse ++ rest).map (mj_vc loc))).stack = (As.map (mj_vc loc)).reverse ++ .ref (loc (k0, i0)) :: rest.map (mj_vc loc) := by
              show ((Sum.inr (k0, i0) :: As).reverse ++ rest).map (mj_vc loc) = _
              simp [mj_vc]
            have hnl : (As.map (mj_vc loc)).length = b - 1 := by rw [List.length_map, ← hb, List.length_cons]; omega
            rcases mj_lk_of hlk with hl | hl
            · exact va_runV hfix hM1 ⟨callB_of (b - 1) hA.2.2.2.2.1 (mj_goodIn j3) rfl rfl rfl hini (hA.2.2.2.2.1 _ (mj_gd hl rfl)) ⟨j2.1, j2.2, hpar⟩ hRoom, hA.2.2.2.2.1 _ j6, hA.2.2.2.2.1 _ j8⟩ ⟨mj_blind _ _ _, hrecv, mj_pcU hA hI⟩ rfl hnl hI.2.2.1.1 hst hw8 hd hcc
            · exact va_runVN hfix hM1 ⟨va_cnB (b - 1) hA.2.2.2.2.1 (mj_goodIn j3) rfl rfl rfl (hA.2.2.2.2.2.1.2.1 _ (mj_nd hl rfl)) hini ⟨j2.1, j2.2, hpar⟩ hRoom, hA.2.2.2.2.1 _ j6, hA.2.2.2.2.1 _ j8⟩ ⟨mj_blind _ _ _, hrecv, mj_pcU hA hI⟩ rfl hnl hI.2.2.1.1 hst hw8 hd hcc
    · cases ts with
      | nil =>
        have hT' : false = true := hT
        cases hT'
      | cons k0 ts =>
        obtain ⟨i0, As, rfl⟩ := mj_rcv_of hrc
        rcases j5 with ⟨g, -⟩ | ⟨-, j6, j7⟩
        · rw [hsta] at g; cases g
        · have hst : (F0 m pc0 lj (((Sum.inr (k0, i0) :: As).reverse ++ rest).map (mj_vc loc))).stack = (As.map (mj_vc loc)).reverse ++ .ref (loc (k0, i0)) :: rest.map (mj_vc loc) := by
            show ((Sum.inr (k0, i0) :: As).reverse ++ rest).map (mj_vc loc) = _
            simp [mj_vc]
          have hnl : (As.map (mj_vc loc)).length = b - 1 := by rw [List.length_map, ← hb, List.length_cons]; omega
          have hwsm : mj_wsm K a = Jvm.Cond.code K.1 K.2.1 (mj_mx mj_Y a) none :: mj_goods := by unfold mj_wsm; rw [hrt]
          rcases mj_lk_of hlk with hl | hl
          · exact va_runI hfix hM1 ⟨callB_of (b - 1) hA.2.2.2.2.1 (mj_goodIn j3) hwsm rfl rfl hini (hA.2.2.2.2.1 _ (mj_gd hl rfl)) ⟨j2.1, j2.2, hpar⟩ hRoom, hname, hA.2.2.2.2.1 _ j6⟩ ⟨mj_blind _ _ _, mj_pcU (as := Sum.inr (k0, i0) :: As) hA hI⟩ rfl hnl hI.2.2.1.1 hst hw8 hd hcc
          · exact va_runIN hfix hM1 ⟨va_cnB (b - 1) hA.2.2.2.2.1 (mj_goodIn j3) hwsm rfl rfl (hA.2.2.2.2.2.1.2.1 _ (mj_nd hl rfl)) hini ⟨j2.1, j2.2, hpar⟩ hRoom, hname, hA.2.2.2.2.1 _ j6⟩ ⟨mj_blind _ _ _, mj_pcU (as := Sum.inr (k0, i0) :: As) hA hI⟩ rfl hnl hI.2.2.1.1 hst hw8 hd hcc
    · rcases j5 with ⟨-, j6⟩ | ⟨g, -⟩
      · have hst : (F0 m pc0 lj ((as.reverse ++ rest).map (mj_vc loc))).stack = (as.map (mj_vc loc)).reverse ++ rest.map (mj_vc loc) := by
          show (as.reverse ++ rest).map (mj_vc loc) = _
          simp
        have hnl : (as.map (mj_vc loc)).length = b := by rw [List.length_map, hb]
        rcases mj_lk_of hlk with hl | hl
        · exact va_runS hfix hM1 ⟨callB_of b hA.2.2.2.2.1 (mj_goodIn j3) rfl rfl rfl hini (hA.2.2.2.2.1 _ (mj_gd hl rfl)) ⟨j2.1, j2.2, hpar⟩ hRoom, hA.2.2.2.2.1 _ j6⟩ ⟨mj_blind _ _ _, mj_pcU hA hI⟩ rfl hnl hI.2.2.1.1 hst hw8 hd hcc
        · exact va_runSN hfix hM1 ⟨va_cnB b hA.2.2.2.2.1 (mj_goodIn j3) rfl rfl rfl (hA.2.2.2.2.2.1.2.1 _ (mj_nd hl rfl)) hini ⟨j2.1, j2.2, hpar⟩ hRoom, hA.2.2.2.2.1 _ j6, trivial⟩ ⟨mj_blind _ _ _, mj_pcU hA hI⟩ rfl hnl hI.2.2.1.1 hst hw8 hd hcc
      · exact absurd hsta g
  refine mj_runW hrun hI.2.1 (fun v st₀ t H1 locs1 h0 hq ht hS => ?_)
  obtain ⟨⟨loc', hv, hW, hex, hlr⟩, hF⟩ := hq
  rw [ht] at hW
  have hv : v = r1.map (mj_vc loc') := by injection hv
  subst hv
  have hsame : ∀ v, mj_lv σ.1 v → mj_vc loc' v = mj_vc loc v := by
    intro v hv
    cases v with
    | inl x => rfl
    | inr x =>
      show Value.ref _ = Value.ref _
      rcases hv with g | ⟨g1, g2, g3⟩
      · rw [(hex x g).2]
      · obtain ⟨x1, x2⟩ := x
        have g1 : x2 = 0 := g1
        subst g1
        rw [hW.2.2.2.2 x1 g2 g3, hI.1.2.2.2.2 x1 g2 g3]
  have hmore : ∀ v, mj_lv σ.1 v → mj_lv σ1.1 v := by
    intro v hv
    cases v with
    | inl x => trivial
    | inr x => exact hv.imp (fun g => (hex x g).1) id
  have hgo := h _ H1 locs1 (cells + (σ1.1.length - σ.1.length)) (slots + (mj_sl σ1.1 - mj_sl σ.1)) loc' lj hn ⟨hW, hS hF, ⟨hI.2.2.1.1, hI.2.2.1.2.1, hI.2.2.1.2.2.1, fun i u hu => by rw [hsame u (hI.2.2.2.1 u (List.mem_of_getElem? hu))]; exact hI.2.2.1.2.2.2 i u hu⟩, fun u hu => hmore u (hI.2.2.2.1 u hu), fun u hu => by
      rcases List.mem_append.mp hu with g | g
      · cases r1 with
        | none => cases g
        | some z => rw [List.mem_singleton.mp g]; exact hlr z rfl
      · exact hmore u (hlrest u g), ⟨by omega, by omega⟩, fun q hq => ⟨(hex q (hI.2.2.2.2.2.2 q hq).1).1, by rw [(hex q (hI.2.2.2.2.2.2 q hq).1).2]; exact (hI.2.2.2.2.2.2 q hq).2⟩⟩
  have e2 : (r1.toList ++ rest).map (mj_vc loc') = (r1.map (mj_vc loc')).toList ++ rest.map (mj_vc loc) := by
    rw [List.map_append, List.map_congr_left (fun v hv => hsame v (hlrest v hv))]
    congr 1
    cases r1 <;> rfl
  rw [e2] at hgo
  exact hgo
end SND
end
section
/-! the small machine is the machine -/
section SND
variable {D : va_G} {cA : Nat → ClassId} {A : Nat → Prop} {el : Nat → Nat} {X : mj_X} {J : mj_J} {mm : Nat} {p : Program} {l : Launch} {e : Env} {R : Room} {s : State} {m : MethodId} {args : Array Value} {below : List Frame} {meth : Method} {c : Code} {Q : State → Prop} {L0 Lf : List (Nat × Nat)} {loc0 : Nat × Nat → Nat}
variable {ls : mj_L} {st : List mj_V} {σ : mj_H} {k pc0 : Nat} {H : Heap} {locs : List Loc} {cells slots : Nat} {loc : Nat × Nat → Nat} {lj : Array Slot}
theorem mj_bin_inv {o : Int32 → Int32 → Int32} {d : mj_C} (h : mj_bin k ls st σ o = some (.inl d)) : ∃ x y r, st = .inl y :: .inl x :: r ∧ d = (k + 1, ls, .inl (o x y) :: r, σ) := by
  unfold mj_bin at h
  split at h
  · cases h; exact ⟨_, _, _, rfl, rfl⟩
  · cases h
theorem mj_div_inv {o : Int32 → Int32 → Int32} {d : mj_C} (h : mj_div k ls st σ o = some (.inl d)) : ∃ x y r, st = .inl y :: .inl x :: r ∧ ¬ y = 0 ∧ d = (k + 1, ls, .inl (o x y) :: r, σ) := by
  unfold mj_div at h
  split at h
  · split at h
    · cases h
    · cases h; exact ⟨_, _, _, rfl, ‹_›, rfl⟩
  · cases h
theorem mj_nxt {t : Nat} (h : mj_nx (mj_cd mj_Y mm) k t = true) : mj_pc mm (k + 1) = some t := of_decide_eq_true h
theorem mj_tgt {a : Nat} {t : Int} (h : mj_tg (mj_cd mj_Y mm) a t = true) : ∃ n : Nat, mj_pc mm a = some n ∧ t = (n : Int) := mj_tg_of h
set_option maxHeartbeats 4000000 in
theorem mj_step_c {len : Nat} {ins : Instr} {a b cc : Nat} {v : Int32} {ts : List Nat} {d : mj_C} (hA : mj_At D cA A el X J mm p R s m args meth c L0 Lf) (hk : mj_pc mm k = some pc0) (hok : mj_okE J (mj_cd mj_Y mm) k (pc0, len, ins, a, b, cc, v, ts) = true) (hs : mj_do mj_Y X k (pc0, len, ins, a, b, cc, v, ts) ls st σ = some (.inl d)) (hf1 : d.2.2.2.1.length ≤ Lf.length) (hf2 : mj_sl d.2.2.2.1 ≤ mj_sl Lf) (h : mj_Sim D cA A el mm p l e R s m args below meth c Q L0 loc0 d.1 d.2.1 d.2.2.1 d.2.2.2) : mj_Sim D cA A el mm p l e R s m args below meth c Q L0 loc0 k ls st σ := by
  cases ins with
  | iconst n =>
    unfold mj_okE at hok
    simp only [Bool.and_eq_true, decide_eq_true_eq] at hok
    obtain ⟨hd, ⟨rfl, hv⟩, hn⟩ := hok
    cases hs
    exact mj_s_iconst hA hk hd hv (mj_nxt hn) h
  | bipush n =>
    unfold mj_okE at hok
    simp only [Bool.and_eq_true, decide_eq_true_eq] at hok
    obtain ⟨hd, ⟨rfl, hv⟩, hn⟩ := hok
    cases hs
    exact mj_s_bipush hA hk hd hv (mj_nxt hn) h
  | sipush n =>
    unfold mj_okE at hok
    simp only [Bool.and_eq_true, decide_eq_true_eq] at hok
    obtain ⟨hd, ⟨rfl, hv⟩, hn⟩ := hok
    cases hs
    exact mj_s_sipush hA hk hd hv (mj_nxt hn) h
  | ldc i =>
    unfold mj_okE at hok
    simp only [Bool.and_eq_true, decide_eq_true_eq] at hok
    obtain ⟨hd, ⟨rfl, hv⟩, hn⟩ := hok
    cases hs
    exact mj_s_ldc hA hk hd hv (mj_nxt hn) h
  | iload_n i =>
    unfold mj_okE at hok
    simp only [Bool.and_eq_true, decide_eq_true_eq] at hok
    obtain ⟨hd, rfl, hn⟩ := hok
    exact mj_s_ld hA hk hd (Or.inl ⟨rfl, Or.inl ⟨_, rfl, rfl, rfl⟩⟩) (mj_nxt hn) hs h
  | iload i =>
    unfold mj_okE at hok
    simp only [Bool.and_eq_true, decide_eq_true_eq] at hok
    obtain ⟨hd, rfl, hn⟩ := hok
    exact mj_s_ld hA hk hd (Or.inl ⟨rfl, Or.inr ⟨rfl, rfl⟩⟩) (mj_nxt hn) hs h
  | aload_n i =>
    unfold mj_okE at hok
    simp only [Bool.and_eq_true, decide_eq_true_eq] at hok
    obtain ⟨hd, rfl, hn⟩ := hok
    exact mj_s_ld hA hk hd (Or.inr ⟨rfl, Or.inl ⟨_, rfl, rfl, rfl⟩⟩) (mj_nxt hn) hs h
  | aload i =>
    unfold mj_okE at hok
    simp only [Bool.and_eq_true, decide_eq_true_eq] at hok
    obtain ⟨hd, rfl, hn⟩ := hok
    exact mj_s_ld hA hk hd (Or.inr ⟨rfl, Or.inr ⟨rfl, rfl⟩⟩) (mj_nxt hn) hs h
  | istore_n i =>
    unfold mj_okE at hok
    simp only [Bool.and_eq_true, decide_eq_true_eq] at hok
    obtain ⟨hd, rfl, hn⟩ := hok
    exact mj_s_st hA hk hd (Or.inl ⟨rfl, Or.inl ⟨_, rfl, rfl, rfl⟩⟩) (mj_nxt hn) hs h
  | istore i =>
    unfold mj_okE at hok
    simp only [Bool.and_eq_true, decide_eq_true_eq] at hok
    obtain ⟨hd, rfl, hn⟩ := hok
    exact mj_s_st hA hk hd (Or.inl ⟨rfl, Or.inr ⟨rfl, rfl⟩⟩) (mj_nxt hn) hs h
  | astore_n i =>
    unfold mj_okE at hok
    simp only [Bool.and_eq_true, decide_eq_true_eq] at hok
    obtain ⟨hd, rfl, hn⟩ := hok
    exact mj_s_st hA hk hd (Or.inr ⟨rfl, Or.inl ⟨_, rfl, rfl, rfl⟩⟩) (mj_nxt hn) hs h
  | astore i =>
    unfold mj_okE at hok
    simp only [Bool.and_eq_true, decide_eq_true_eq] at hok
    obtain ⟨hd, rfl, hn⟩ := hok
    exact mj_s_st hA hk hd (Or.inr ⟨rfl, Or.inr ⟨rfl, rfl⟩⟩) (mj_nxt hn) hs h
  | iinc i n =>
    unfold mj_okE at hok
    simp only [Bool.and_eq_true, decide_eq_true_eq] at hok
    obtain ⟨hd, ⟨rfl, hv⟩, hn⟩ := hok
    have hs' : (match ls[i]? with
          | some (some (.inl x)) => some (Sum.inl (k + 1, ls.set i (some (.inl (x + v))), st, σ))
          | _ => none) = some (Sum.inl d : mj_R) := hs
    split at hs'
    · cases hs'
      exact mj_s_iinc hA hk hd hv (mj_nxt hn) ‹_› h
    · cases hs' 
  | iadd =>
    unfold mj_okE at hok
    simp only [Bool.and_eq_true, decide_eq_true_eq] at hok
    obtain ⟨hd, rfl, hn⟩ := hok
    obtain ⟨x, y, r, rfl, rfl⟩ := mj_bin_inv hs
    exact mj_s_iadd hA hk hd (mj_nxt hn) h
  | isub =>
    unfold mj_okE at hok
    simp only [Bool.and_eq_true, decide_eq_true_eq] at hok
    obtain ⟨hd, rfl, hn⟩ := hok
    obtain ⟨x, y, r, rfl, rfl⟩ := mj_bin_inv hs
    exact mj_s_isub hA hk hd (mj_nxt hn) h
  | imul =>
    unfold mj_okE at hok
    simp only [Bool.and_eq_true, decide_eq_true_eq] at hok
    obtain ⟨hd, rfl, hn⟩ := hok
    obtain ⟨x, y, r, rfl, rfl⟩ := mj_bin_inv hs
    exact mj_s_imul hA hk hd (mj_nxt hn) h
  | iand =>
    unfold mj_okE at hok
    simp only [Bool.and_eq_true, decide_eq_true_eq] at hok
    obtain ⟨hd, rfl, hn⟩ := hok
    obtain ⟨x, y, r, rfl, rfl⟩ := mj_bin_inv hs
    exact mj_s_iand hA hk hd (mj_nxt hn) h
  | ixor =>
    unfold mj_okE at hok
    simp only [Bool.and_eq_true, decide_eq_true_eq] at hok
    obtain ⟨hd, rfl, hn⟩ := hok
    obtain ⟨x, y, r, rfl, rfl⟩ := mj_bin_inv hs
    exact mj_s_ixor hA hk hd (mj_nxt hn) h
  | idiv =>
    unfold mj_okE at hok
    simp only [Bool.and_eq_true, decide_eq_true_eq] at hok
    obtain ⟨hd, rfl, hn⟩ := hok
    obtain ⟨x, y, r, rfl, hne, rfl⟩ := mj_div_inv hs
    exact mj_s_idiv hne hA hk hd (mj_nxt hn) h
  | irem =>
    unfold mj_okE at hok
    simp only [Bool.and_eq_true, decide_eq_true_eq] at hok
    obtain ⟨hd, rfl, hn⟩ := hok
    obtain ⟨x, y, r, rfl, hne, rfl⟩ := mj_div_inv hs
    exact mj_s_irem hne hA hk hd (mj_nxt hn) h
  | dup =>
    unfold mj_okE at hok
    simp only [Bool.and_eq_true, decide_eq_true_eq] at hok
    obtain ⟨hd, rfl, hn⟩ := hok
    cases st with
    | nil => cases hs
    | cons x r =>
      cases hs
      exact mj_s_dup hA hk hd (mj_nxt hn) h
  | dup2 =>
    unfold mj_okE at hok
    simp only [Bool.and_eq_true, decide_eq_true_eq] at hok
    obtain ⟨hd, rfl, hn⟩ := hok
    cases st with
    | nil => cases hs
    | cons x r =>
      cases r with
      | nil => cases hs
      | cons y r =>
        cases hs
        exact mj_s_dup2 hA hk hd (mj_nxt hn) h
  | pop =>
    unfold mj_okE at hok
    simp only [Bool.and_eq_true, decide_eq_true_eq] at hok
    obtain ⟨hd, rfl, hn⟩ := hok
    cases st with
    | nil => cases hs
    | cons x r =>
      cases hs
      exact mj_s_pop hA hk hd (mj_nxt hn) h
  | i2c =>
    unfold mj_okE at hok
    simp only [Bool.and_eq_true, decide_eq_true_eq] at hok
    obtain ⟨hd, rfl, hn⟩ := hok
    cases st with
    | nil => cases hs
    | cons x r =>
      cases x with
      | inr q => cases hs
      | inl x =>
        cases hs
        exact mj_s_i2c hA hk hd (mj_nxt hn) h
  | ifCond o off =>
    unfold mj_okE at hok
    simp only [Bool.and_eq_true, decide_eq_true_eq] at hok
    obtain ⟨hd, ⟨rfl, hn⟩, ht⟩ := hok
    obtain ⟨t, e1, e2⟩ := mj_tgt ht
    cases st with
    | nil => cases hs
    | cons x r =>
      cases x with
      | inr q => cases hs
      | inl x =>
        cases hs
        exact mj_s_if hA hk hd (mj_nxt hn) e1 e2 h
  | if_icmp o off =>
    unfold mj_okE at hok
    simp only [Bool.and_eq_true, decide_eq_true_eq] at hok
    obtain ⟨hd, ⟨rfl, hn⟩, ht⟩ := hok
    obtain ⟨t, e1, e2⟩ := mj_tgt ht
    cases st with
    | nil => cases hs
    | cons y r =>
      cases y with
      | inr q => cases hs
      | inl y =>
        cases r with
        | nil => cases hs
        | cons x r =>
          cases x with
          | inr q => cases hs
          | inl x =>
            cases hs
            exact mj_s_icmp hA hk hd (mj_nxt hn) e1 e2 h
  | goto off =>
    unfold mj_okE at hok
    simp only [Bool.and_eq_true, decide_eq_true_eq] at hok
    obtain ⟨hd, rfl, ht⟩ := hok
    obtain ⟨t, e1, e2⟩ := mj_tgt ht
    cases hs
    exact mj_s_goto hA hk hd e1 e2 h
  | tableswitch df lo hi offs =>
    unfold mj_okE at hok
    simp only [Bool.and_eq_true, decide_eq_true_eq] at hok
    obtain ⟨hd, ⟨⟨h1, h2⟩, h3⟩, h4⟩ := hok
    cases st with
    | nil => cases hs
    | cons x r =>
      cases x with
      | inr q => cases hs
      | inl x =>
        cases hs
        exact mj_s_tsw hA hk hd h1 h2 h3 h4 h
  | lookupswitch df ps =>
    unfold mj_okE at hok
    simp only [Bool.and_eq_true, decide_eq_true_eq] at hok
    obtain ⟨hd, ⟨⟨h1, h3⟩, h4⟩, h5⟩ := hok
    cases st with
    | nil => cases hs
    | cons x r =>
      cases x with
      | inr q => cases hs
      | inl x =>
        cases hs
        exact mj_s_lsw hA hk hd h1 h3 h4 h5 h
  | getfield i =>
    unfold mj_okE at hok
    simp only [Bool.and_eq_true, decide_eq_true_eq] at hok
    obtain ⟨hd, ⟨rfl, hn⟩, hw⟩ := hok
    cases st with
    | nil => cases hs
    | cons x r =>
      cases x with
      | inl q => cases hs
      | inr x =>
        obtain ⟨c1, q⟩ := x
        have hs' : (if c1 = a then (if mj_ft mj_Y a b = 3 then (match σ.2.2 a q b with
                  | some q => some (Sum.inl (k + 1, ls, .inr q :: r, σ))
                  | none => none) else some (Sum.inl (k + 1, ls, .inl (σ.2.1 a q b) :: r, σ))) else none) = some (Sum.inl d : mj_R) := hs
        by_cases g : c1 = a
        · subst g
          rw [if_pos rfl] at hs'
          by_cases g3 : mj_ft mj_Y c1 b = 3
          · rw [if_pos g3] at hs'
            cases hz : σ.2.2 c1 q b with
            | none => rw [hz] at hs'; cases hs'
            | some z =>
              rw [hz] at hs'
              cases hs'
              exact mj_getf hA hk hd hw (mj_nxt hn) (Or.inl ⟨g3, z, hz, rfl⟩) h
          · rw [if_neg g3] at hs'
            cases hs'
            exact mj_getf hA hk hd hw (mj_nxt hn) (Or.inr ⟨g3, rfl⟩) h
        · rw [if_neg g] at hs'; cases hs' 
  | putfield i =>
    unfold mj_okE at hok
    simp only [Bool.and_eq_true, decide_eq_true_eq] at hok
    obtain ⟨hd, ⟨⟨rfl, hn⟩, hw⟩, hf⟩ := hok
    cases st with
    | nil => cases hs
    | cons x r =>
      cases x with
      | inl x =>
        cases r with
        | nil => cases hs
        | cons y r =>
          cases y with
          | inl y => cases hs
          | inr y =>
            obtain ⟨c1, q⟩ := y
            have hs' : (if c1 = a ∧ ¬ mj_ft mj_Y a b = 3 ∧ mj_chk (mj_ft mj_Y a b) x = true then some (Sum.inl (k + 1, ls, r, (σ.1, mj_u σ.2.1 a q b x, σ.2.2))) else none) = some (Sum.inl d : mj_R) := hs
            by_cases g : c1 = a ∧ ¬ mj_ft mj_Y a b = 3 ∧ mj_chk (mj_ft mj_Y a b) x = true
            · rw [if_pos g] at hs'
              obtain ⟨rfl, g3, gc⟩ := g
              cases hs'
              exact mj_putf hA hk hd hw hf (mj_nxt hn) (Or.inr ⟨g3, x, rfl, gc, rfl, rfl⟩) h
            · rw [if_neg g] at hs'; cases hs'
      | inr x =>
        cases r with
        | nil => cases hs
        | cons y r =>
          cases y with
          | inl y => cases hs
          | inr y =>
            obtain ⟨c1, q⟩ := y
            have hs' : (if c1 = a ∧ mj_ft mj_Y a b = 3 then some (Sum.inl (k + 1, ls, r, (σ.1, σ.2.1, mj_w σ.2.2 a q b (some x)))) else none) = some (Sum.inl d : mj_R) := hs
            by_cases g : c1 = a ∧ mj_ft mj_Y a b = 3
            · rw [if_pos g] at hs'
              obtain ⟨rfl, g3⟩ := g
              cases hs'
              exact mj_putf hA hk hd hw hf (mj_nxt hn) (Or.inl ⟨g3, x, rfl, rfl, rfl⟩) h
            · rw [if_neg g] at hs'; cases hs' 
  | getstatic i =>
    unfold mj_okE at hok
    simp only [Bool.and_eq_true, decide_eq_true_eq] at hok
    obtain ⟨hd, ⟨rfl, hn⟩, hw⟩ := hok
    cases hq : mj_ext.find? (fun q => q.1 == a) with
    | none => rw [hq] at hw; cases hw
    | some q =>
      rw [hq] at hw
      simp only [Bool.or_eq_true, decide_eq_true_eq] at hw
      cases hs
      exact mj_gets hA hk hd (mj_nxt hn) (List.mem_of_find?_eq_some hq) (by simpa using List.find?_some hq) hw h
  | iaload =>
    unfold mj_okE at hok
    simp only [Bool.and_eq_true, decide_eq_true_eq] at hok
    obtain ⟨hd, rfl, hn⟩ := hok
    cases st with
    | nil => cases hs
    | cons x r =>
      cases x with
      | inr x => cases hs
      | inl j =>
        cases r with
        | nil => cases hs
        | cons y r =>
          cases y with
          | inl y => cases hs
          | inr y =>
            obtain ⟨c1, q⟩ := y
            have hs' : (if mj_isI mj_Y c1 = true then (match mj_ix j (mj_len mj_Y X c1) with
                      | some z => some (Sum.inl (k + 1, ls, .inl (mj_rd mj_Y X σ.2.1 c1 q z) :: r, σ))
                      | none => none) else none) = some (Sum.inl d : mj_R) := hs
            by_cases g : mj_isI mj_Y c1 = true
            · rw [if_pos g] at hs'
              cases hz : mj_ix j (mj_len mj_Y X c1) with
              | none => rw [hz] at hs'; cases hs'
              | some z =>
                rw [hz] at hs'
                cases hs'
                exact mj_iald hA hk hd (mj_nxt hn) g hz h
            · rw [if_neg g] at hs'; cases hs' 
  | caload =>
    unfold mj_okE at hok
    simp only [Bool.and_eq_true, decide_eq_true_eq] at hok
    obtain ⟨hd, rfl, hn⟩ := hok
    cases st with
    | nil => cases hs
    | cons x r =>
      cases x with
      | inr x => cases hs
      | inl j =>
        cases r with
        | nil => cases hs
        | cons y r =>
          cases y with
          | inl y => cases hs
          | inr y =>
            obtain ⟨c1, q⟩ := y
            have hs' : (if mj_isA mj_Y 2 c1 = true then (match mj_ix j (mj_len mj_Y X c1) with
                      | some z => some (Sum.inl (k + 1, ls, .inl (σ.2.1 c1 q z) :: r, σ))
                      | none => none) else none) = some (Sum.inl d : mj_R) := hs
            by_cases g : mj_isA mj_Y 2 c1 = true
            · rw [if_pos g] at hs'
              cases hz : mj_ix j (mj_len mj_Y X c1) with
              | none => rw [hz] at hs'; cases hs'
              | some z =>
                rw [hz] at hs'
                cases hs'
                exact mj_cald hA hk hd (mj_nxt hn) g hz h
            · rw [if_neg g] at hs'; cases hs' 
  | aaload =>
    unfold mj_okE at hok
    simp only [Bool.and_eq_true, decide_eq_true_eq] at hok
    obtain ⟨hd, rfl, hn⟩ := hok
    cases st with
    | nil => cases hs
    | cons x r =>
      cases x with
      | inr x => cases hs
      | inl j =>
        cases r with
        | nil => cases hs
        | cons y r =>
          cases y with
          | inl y => cases hs
          | inr y =>
            obtain ⟨c1, q⟩ := y
            have hs' : (if mj_isQ mj_Y c1 = true then (match mj_ix j (mj_len mj_Y X c1) with
                      | some z => (match σ.2.2 c1 q z with
                        | some y => some (Sum.inl (k + 1, ls, .inr y :: r, σ))
                        | none => none)
                      | none => none) else none) = some (Sum.inl d : mj_R) := hs
            by_cases g : mj_isQ mj_Y c1 = true
            · rw [if_pos g] at hs'
              cases hz : mj_ix j (mj_len mj_Y X c1) with
              | none => rw [hz] at hs'; cases hs'
              | some z =>
                rw [hz] at hs'
                dsimp only at hs'
                cases hy : σ.2.2 c1 q z with
                | none => rw [hy] at hs'; cases hs'
                | some y =>
                  rw [hy] at hs'
                  cases hs'
                  exact mj_aald hA hk hd (mj_nxt hn) g hz hy h
            · rw [if_neg g] at hs'; cases hs' 
  | iastore =>
    unfold mj_okE at hok
    simp only [Bool.and_eq_true, decide_eq_true_eq] at hok
    obtain ⟨hd, rfl, hn⟩ := hok
    cases st with
    | nil => cases hs
    | cons x r =>
      cases x with
      | inr x => cases hs
      | inl x =>
        cases r with
        | nil => cases hs
        | cons j r =>
          cases j with
          | inr j => cases hs
          | inl j =>
            cases r with
            | nil => cases hs
            | cons y r =>
              cases y with
              | inl y => cases hs
              | inr y =>
                obtain ⟨c1, q⟩ := y
                have hs' : (if mj_isA mj_Y 0 c1 = true then (match mj_ix j (mj_len mj_Y X c1) with
                          | some z => some (Sum.inl (k + 1, ls, r, (σ.1, mj_u σ.2.1 c1 q z x, σ.2.2)))
                          | none => none) else none) = some (Sum.inl d : mj_R) := hs
                by_cases g : mj_isA mj_Y 0 c1 = true
                · rw [if_pos g] at hs'
                  cases hz : mj_ix j (mj_len mj_Y X c1) with
                  | none => rw [hz] at hs'; cases hs'
                  | some z =>
                    rw [hz] at hs'
                    cases hs'
                    exact mj_iast hA hk hd (mj_nxt hn) g hz h
                · rw [if_neg g] at hs'; cases hs' 
  | castore =>
    unfold mj_okE at hok
    simp only [Bool.and_eq_true, decide_eq_true_eq] at hok
    obtain ⟨hd, rfl, hn⟩ := hok
    cases st with
    | nil => cases hs
    | cons x r =>
      cases x with
      | inr x => cases hs
      | inl x =>
        cases r with
        | nil => cases hs
        | cons j r =>
          cases j with
          | inr j => cases hs
          | inl j =>
            cases r with
            | nil => cases hs
            | cons y r =>
              cases y with
              | inl y => cases hs
              | inr y =>
                obtain ⟨c1, q⟩ := y
                have hs' : (if mj_isA mj_Y 2 c1 = true ∧ mj_chk 2 x = true then (match mj_ix j (mj_len mj_Y X c1) with
                          | some z => some (Sum.inl (k + 1, ls, r, (σ.1, mj_u σ.2.1 c1 q z x, σ.2.2)))
                          | none => none) else none) = some (Sum.inl d : mj_R) := hs
                by_cases g : mj_isA mj_Y 2 c1 = true ∧ mj_chk 2 x = true
                · rw [if_pos g] at hs'
                  cases hz : mj_ix j (mj_len mj_Y X c1) with
                  | none => rw [hz] at hs'; cases hs'
                  | some z =>
                    rw [hz] at hs'
                    cases hs'
                    exact mj_cast g.2 hA hk hd (mj_nxt hn) g.1 hz h
                · rw [if_neg g] at hs'; cases hs' 
  | aastore =>
    unfold mj_okE at hok
    simp only [Bool.and_eq_true, decide_eq_true_eq] at hok
    obtain ⟨hd, rfl, hn⟩ := hok
    cases st with
    | nil => cases hs
    | cons x r =>
      cases x with
      | inl x => cases hs
      | inr x =>
        cases r with
        | nil => cases hs
        | cons j r =>
          cases j with
          | inr j => cases hs
          | inl j =>
            cases r with
            | nil => cases hs
            | cons y r =>
              cases y with
              | inl y => cases hs
              | inr y =>
                obtain ⟨c1, q⟩ := y
                have hs' : (if mj_isQ mj_Y c1 = true ∧ x.1 = (mj_kd mj_Y c1).2.1 then (match mj_ix j (mj_len mj_Y X c1) with
                          | some z => some (Sum.inl (k + 1, ls, r, (σ.1, σ.2.1, mj_w σ.2.2 c1 q z (some x))))
                          | none => none) else none) = some (Sum.inl d : mj_R) := hs
                by_cases g : mj_isQ mj_Y c1 = true ∧ x.1 = (mj_kd mj_Y c1).2.1
                · rw [if_pos g] at hs'
                  cases hz : mj_ix j (mj_len mj_Y X c1) with
                  | none => rw [hz] at hs'; cases hs'
                  | some z =>
                    rw [hz] at hs'
                    cases hs'
                    exact mj_aast hA hk hd (mj_nxt hn) g.1 g.2 hz h
                · rw [if_neg g] at hs'; cases hs' 
  | new i =>
    unfold mj_okE at hok
    simp only [Bool.and_eq_true, decide_eq_true_eq] at hok
    obtain ⟨hd, ⟨rfl, hn⟩, hw⟩ := hok
    cases hc : mj_cl[a]? with
    | none => rw [hc] at hw; cases hw
    | some q =>
      obtain ⟨C, T, N⟩ := q
      rw [hc] at hw
      have hs' : (if (a, mj_cnt a σ.1) ∈ σ.1 then none else some (Sum.inl (k + 1, ls, .inr (a, mj_cnt a σ.1) :: st, (σ.1 ++ [(a, mj_cnt a σ.1)], mj_z σ.2.1 a (mj_cnt a σ.1), mj_n σ.2.2 a (mj_cnt a σ.1))))) = some (Sum.inl d : mj_R) := hs
      by_cases g : (a, mj_cnt a σ.1) ∈ σ.1
      · rw [if_pos g] at hs'; cases hs'
      · rw [if_neg g] at hs'
        cases hs'
        exact mj_new hA hk hd (mj_nxt hn) hc (of_decide_eq_true hw) g hf1 hf2 h
  | newarray t =>
    unfold mj_okE at hok
    simp only [Bool.and_eq_true, decide_eq_true_eq] at hok
    obtain ⟨hd, ⟨rfl, hn⟩, hw⟩ := hok
    cases st with
    | nil => cases hs
    | cons x r =>
      cases x with
      | inr q => cases hs
      | inl x =>
        have hs' : (if (a, mj_cnt a σ.1) ∈ σ.1 ∨ ¬ x = Int32.ofNat (mj_kd mj_Y a).2.2 then none else some (Sum.inl (k + 1, ls, .inr (a, mj_cnt a σ.1) :: r, (σ.1 ++ [(a, mj_cnt a σ.1)], mj_z σ.2.1 a (mj_cnt a σ.1), mj_n σ.2.2 a (mj_cnt a σ.1))))) = some (Sum.inl d : mj_R) := hs
        by_cases g : (a, mj_cnt a σ.1) ∈ σ.1 ∨ ¬ x = Int32.ofNat (mj_kd mj_Y a).2.2
        · rw [if_pos g] at hs'; cases hs'
        · rw [if_neg g] at hs'
          cases hs'
          have g1 : (a, mj_cnt a σ.1) ∉ σ.1 := fun z => g (Or.inl z)
          have g2 : x = Int32.ofNat (mj_kd mj_Y a).2.2 := Decidable.of_not_not (fun z => g (Or.inr z))
          rcases hkd : mj_kd mj_Y a with ⟨s0, u, N⟩
          rw [hkd] at hw g2
          split at hw
          · rename_i e
            cases e
            simp only [Bool.or_eq_true, Bool.and_eq_true, decide_eq_true_eq] at hw
            exact mj_newa hA hk hd (mj_nxt hn) hkd hw g2 g1 hf1 hf2 h
          · cases hw
  | anewarray i =>
    unfold mj_okE at hok
    simp only [Bool.and_eq_true, decide_eq_true_eq] at hok
    obtain ⟨hd, ⟨rfl, hn⟩, hw⟩ := hok
    cases st with
    | nil => cases hs
    | cons x r =>
      cases x with
      | inr q => cases hs
      | inl x =>
        have hs' : (if (a, mj_cnt a σ.1) ∈ σ.1 ∨ ¬ x = Int32.ofNat (mj_kd mj_Y a).2.2 then none else some (Sum.inl (k + 1, ls, .inr (a, mj_cnt a σ.1) :: r, (σ.1 ++ [(a, mj_cnt a σ.1)], mj_z σ.2.1 a (mj_cnt a σ.1), mj_n σ.2.2 a (mj_cnt a σ.1))))) = some (Sum.inl d : mj_R) := hs
        by_cases g : (a, mj_cnt a σ.1) ∈ σ.1 ∨ ¬ x = Int32.ofNat (mj_kd mj_Y a).2.2
        · rw [if_pos g] at hs'; cases hs'
        · rw [if_neg g] at hs'
          cases hs'
          have g1 : (a, mj_cnt a σ.1) ∉ σ.1 := fun z => g (Or.inl z)
          have g2 : x = Int32.ofNat (mj_kd mj_Y a).2.2 := Decidable.of_not_not (fun z => g (Or.inr z))
          rcases hkd : mj_kd mj_Y a with ⟨s0, u, N⟩
          rw [hkd] at hw g2
          split at hw
          · rename_i e
            cases e
            cases hc : mj_cl[u]? with
            | none => rw [hc] at hw; cases hw
            | some q =>
              obtain ⟨C, T, N2⟩ := q
              rw [hc] at hw
              simp only [Bool.or_eq_true, Bool.and_eq_true, decide_eq_true_eq] at hw
              exact mj_newq hA hk hd (mj_nxt hn) hkd hw.2 hc hw.1 g2 g1 hf1 hf2 h
          · cases hw
  | arraylength =>
    unfold mj_okE at hok
    simp only [Bool.and_eq_true, decide_eq_true_eq] at hok
    obtain ⟨hd, rfl, hn⟩ := hok
    cases st with
    | nil => cases hs
    | cons x r =>
      cases x with
      | inl q => cases hs
      | inr x =>
        obtain ⟨c1, q⟩ := x
        have hs' : (if (mj_kd mj_Y c1).1 = 3 then some (Sum.inl (k + 1, ls, .inl (Int32.ofNat X.1) :: r, σ)) else none) = some (Sum.inl d : mj_R) := hs
        by_cases g : (mj_kd mj_Y c1).1 = 3
        · rw [if_pos g] at hs'
          cases hs'
          exact mj_alen hA hk hd (mj_nxt hn) g h
        · rw [if_neg g] at hs'; cases hs' 
  | invokevirtual i =>
    unfold mj_okE at hok
    simp only [Bool.and_eq_true, decide_eq_true_eq] at hok
    obtain ⟨hd, ⟨⟨⟨⟨rfl, hn⟩, h9⟩, -⟩, -⟩, -⟩ := hok
    exfalso
    have hs' : mj_call k a b ts ls st σ = some (.inl d) := hs
    unfold mj_call at hs'
    rw [if_neg h9] at hs'
    split at hs'
    · split at hs' <;> cases hs'
    · cases hs' 
  | invokespecial i =>
    unfold mj_okE at hok
    simp only [Bool.and_eq_true, decide_eq_true_eq] at hok
    obtain ⟨hd, ⟨rfl, hn⟩, hw⟩ := hok
    by_cases h9 : a = 999
    · subst h9
      rw [if_pos rfl] at hw
      simp only [Bool.and_eq_true, decide_eq_true_eq] at hw
      have hs' : mj_call k 999 b ts ls st σ = some (.inl d) := hs
      unfold mj_call at hs'
      rw [if_pos rfl] at hs'
      split at hs'
      · cases hs'
        exact mj_oini hA hk hd (mj_nxt hn) hw.1.1 hw.1.2 hw.2 h
      · cases hs'
    · exfalso
      have hs' : mj_call k a b ts ls st σ = some (.inl d) := hs
      unfold mj_call at hs'
      rw [if_neg h9] at hs'
      split at hs'
      · split at hs' <;> cases hs'
      · cases hs'
  | invokestatic i =>
    unfold mj_okE at hok
    simp only [Bool.and_eq_true, decide_eq_true_eq] at hok
    obtain ⟨hd, ⟨⟨rfl, hn⟩, h9⟩, hw⟩ := hok
    by_cases h8 : a = 998
    · subst h8
      rw [if_pos rfl] at hw
      simp only [Bool.and_eq_true, decide_eq_true_eq] at hw
      have hs' : mj_copy mj_Y X k ls st σ = some (.inl d) := hs
      unfold mj_copy at hs'
      split at hs'
      · split at hs'
        · rename_i g
          cases hs'
          obtain ⟨g1, g2, rfl, rfl, g3, g4, g5⟩ := g
          exact mj_acpy hA hk hd (mj_nxt hn) hw.1.1 hw.1.2 hw.2 g1 g2 g3 g4 g5 h
        · cases hs'
      · cases hs'
    · exfalso
      have hs' : (if a = 998 then mj_copy mj_Y X k ls st σ else mj_call k a b ts ls st σ) = some (.inl d) := hs
      rw [if_neg h8] at hs'
      unfold mj_call at hs'
      rw [if_neg h9] at hs'
      split at hs'
      · split at hs' <;> cases hs'
      · cases hs' 
  | ireturn =>
    exfalso
    simp only [mj_do] at hs
    (repeat' split at hs) <;> (cases hs; done)
  | areturn =>
    exfalso
    simp only [mj_do] at hs
    (repeat' split at hs) <;> (cases hs; done)
  | return_ =>
    exfalso
    simp only [mj_do] at hs
    (repeat' split at hs) <;> (cases hs; done)
  | _ =>
    have hs' : (none : Option mj_R) = some (.inl d) := hs
    cases hs' 
end SND
end
section
/-! a frame's whole run; a method's contract -/
section SND
variable {D : va_G} {cA : Nat → ClassId} {A : Nat → Prop} {el : Nat → Nat} {X : mj_X} {J : mj_J} {mm : Nat} {p : Program} {l : Launch} {e : Env} {R : Room} {s : State} {m : MethodId} {args : Array Value} {below : List Frame} {meth : Method} {c : Code} {Q : State → Prop} {L0 Lf : List (Nat × Nat)} {loc0 : Nat × Nat → Nat}
variable {ls : mj_L} {st : List mj_V} {σ : mj_H} {k pc0 : Nat} {H : Heap} {locs : List Loc} {cells slots : Nat} {loc : Nat × Nat → Nat} {lj : Array Slot}
theorem mj_pop_of : ∀ (n : Nat) (st as r : List mj_V), mj_pop n st = some (as, r) → st = as.reverse ++ r ∧ as.length = n
  | 0, st, as, r, h => by cases h; exact ⟨rfl, rfl⟩
  | n + 1, [], as, r, h => by cases h
  | n + 1, x :: st, as, r, h => by
    unfold mj_pop at h
    cases hp : mj_pop n st with
    | none => rw [hp] at h; cases h
    | some q =>
      obtain ⟨as', r'⟩ := q
      rw [hp] at h
      cases h
      obtain ⟨h1, h2⟩ := mj_pop_of n st as' r hp
      refine ⟨?_, by rw [List.length_append, h2]; rfl⟩
      rw [h1]
      simp
set_option maxHeartbeats 4000000 in
theorem mj_do_mono {en : mj_E} {d : mj_C} (hs : mj_do mj_Y X k en ls st σ = some (.inl d)) : ∃ t, d.2.2.2.1 = σ.1 ++ t := by
  obtain ⟨pc1, len, ins, a, b, cc, v, ts⟩ := en
  cases ins <;> first
    | (have hs' : (none : Option mj_R) = some (.inl d) := hs; cases hs'; done)
    | (simp only [mj_do, mj_ld, mj_st, mj_bin, mj_div, mj_call, mj_copy] at hs
       (repeat' split at hs) <;> first
         | (cases hs; done)
         | (cases hs; exact ⟨[], (List.append_nil _).symm⟩)
         | (cases hs; exact ⟨_, rfl⟩))
theorem mj_stp_ent {d : mj_R} (h : mj_stp mj_Y X mm k ls st σ = some d) : ∃ en, mj_ent mj_Y mm k = some en ∧ mj_do mj_Y X k en ls st σ = some d := by
  unfold mj_stp at h
  cases he : mj_ent mj_Y mm k with
  | none => rw [he] at h; cases h
  | some en => rw [he] at h; exact ⟨en, rfl, h⟩
theorem mj_run_grow : ∀ (n : Nat) (mm k : Nat) (ls : mj_L) (st : List mj_V) (σ : mj_H) (r : Option mj_V) (σ' : mj_H), mj_run mj_Y X n mm k ls st σ = some (r, σ') → ∃ t, σ'.1 = σ.1 ++ t := by
  intro n
  induction n with
  | zero => intro mm k ls st σ r σ' h; cases h
  | succ n ih =>
    intro mm k ls st σ r σ' h
    unfold mj_run at h
    cases hc : mj_stp mj_Y X mm k ls st σ with
    | none => rw [hc] at h; cases h
    | some d =>
      rw [hc] at h
      cases d with
      | inl d =>
        obtain ⟨en, -, h2⟩ := mj_stp_ent hc
        obtain ⟨t1, e1⟩ := mj_do_mono h2
        obtain ⟨t2, e2⟩ := ih _ _ _ _ _ _ _ h
        exact ⟨t1 ++ t2, by rw [e2, e1, List.append_assoc]⟩
      | inr d =>
        cases d with
        | inl d => cases h; exact ⟨[], (List.append_nil _).symm⟩
        | inr d =>
          dsimp only at h
          cases hr : mj_run mj_Y X n d.1 0 (mj_in mj_Y d.1 d.2.1) [] σ with
          | none => rw [hr] at h; cases h
          | some r1 =>
            rw [hr] at h
            obtain ⟨t1, e1⟩ := ih _ _ _ _ _ _ _ hr
            obtain ⟨t2, e2⟩ := ih _ _ _ _ _ _ _ h
            exact ⟨t1 ++ t2, by rw [e2, e1, List.append_assoc]⟩
theorem mj_grow_le {L L' : List (Nat × Nat)} (h : ∃ t, L' = L ++ t) : L.length ≤ L'.length ∧ mj_sl L ≤ mj_sl L' := by
  obtain ⟨t, rfl⟩ := h
  constructor
  · rw [List.length_append]; omega
  · unfold mj_sl; rw [List.map_append, List.sum_append]; omega
/-- how a frame ends -/
def mj_End (D : va_G) (cA : Nat → ClassId) (A : Nat → Prop) (el : Nat → Nat) (J : mj_J) (mm : Nat) (p : Program) (l : Launch) (e : Env) (R : Room) (s : State) (m : MethodId) (args : Array Value) (below : List Frame) (meth : Method) (c : Code) (Q : State → Prop) (L0 : List (Nat × Nat)) (loc0 : Nat × Nat → Nat) (r : Option mj_V) (σ : mj_H) : Prop :=
  ∀ (pc : Nat) (H : Heap) (locs : List Loc) (cells slots : Nat) (loc : Nat × Nat → Nat) (lj : Array Slot) (ls : mj_L), mj_Iv D cA A el mm s L0 loc0 ls r.toList σ H locs cells slots loc lj →
    ((∃ x ty, r = some (.inl x) ∧ decode J.2.1 pc = .ok (.ireturn, 1) ∧ J.2.2.1 = some ty ∧ narrow ty (.int x) = .int x) ∨ (∃ x n, r = some (.inr x) ∧ decode J.2.1 pc = .ok (.areturn, 1) ∧ J.2.2.1 = some (.object n)) ∨ (r = none ∧ decode J.2.1 pc = .ok (.return_, 1) ∧ J.2.2.1 = none)) →
    W p l e R s m args below meth c H locs cells slots Q (F0 m pc lj (r.toList.map (mj_vc loc)))
set_option maxHeartbeats 4000000 in
theorem mj_step_r {len : Nat} {ins : Instr} {a b cc : Nat} {v : Int32} {ts : List Nat} {r : Option mj_V} (hk : mj_pc mm k = some pc0) (hok : mj_okE J (mj_cd mj_Y mm) k (pc0, len, ins, a, b, cc, v, ts) = true) (hs : mj_do mj_Y X k (pc0, len, ins, a, b, cc, v, ts) ls st σ = some (.inr (.inl r))) (h : mj_End D cA A el J mm p l e R s m args below meth c Q L0 loc0 r σ) : mj_Sim D cA A el mm p l e R s m args below meth c Q L0 loc0 k ls st σ := by
  intro pc H locs cells slots loc lj hpc hI
  cases hk.symm.trans hpc
  cases ins with
  | ireturn =>
    unfold mj_okE at hok
    simp only [Bool.and_eq_true, Bool.or_eq_true, decide_eq_true_eq] at hok
    obtain ⟨hd, rfl, hrt⟩ := hok
    have hs' := hs
    simp only [mj_do] at hs'
    split at hs'
    · rename_i x
      split at hs'
      · rename_i g
        cases hs'
        rcases hrt with ⟨h1, h2⟩ | ⟨h1, rfl⟩
        · exact h _ _ _ _ _ _ _ _ hI (Or.inl ⟨x, _, rfl, hd, h1, rfl⟩)
        · exact h _ _ _ _ _ _ _ _ hI (Or.inl ⟨x, _, rfl, hd, h1, (mj_narrow (c := 1) (t := .boolean) rfl (by decide) g).1⟩)
      · cases hs'
    · cases hs'
  | areturn =>
    unfold mj_okE at hok
    simp only [Bool.and_eq_true, decide_eq_true_eq] at hok
    obtain ⟨hd, rfl, hrt⟩ := hok
    have hs' := hs
    simp only [mj_do] at hs'
    split at hs'
    · rename_i x
      cases hs'
      split at hrt
      · rename_i n hn
        exact h _ _ _ _ _ _ _ _ hI (Or.inr (Or.inl ⟨x, n, rfl, hd, hn⟩))
      · cases hrt
    · cases hs'
  | return_ =>
    unfold mj_okE at hok
    simp only [Bool.and_eq_true, decide_eq_true_eq] at hok
    obtain ⟨hd, rfl, hrt⟩ := hok
    have hs' := hs
    simp only [mj_do] at hs'
    split at hs'
    · cases hs'
      exact h _ _ _ _ _ _ _ _ hI (Or.inr (Or.inr ⟨rfl, hd, hrt⟩))
    · cases hs'
  | _ =>
    exfalso
    first
    | (have hs' : (none : Option mj_R) = some (.inr (.inl r)) := hs; cases hs'; done)
    | (simp only [mj_do, mj_ld, mj_st, mj_bin, mj_div, mj_call, mj_copy] at hs
       (repeat' split at hs) <;> (cases hs; done))
set_option maxHeartbeats 4000000 in
theorem mj_step_l {len : Nat} {ins : Instr} {a b cc : Nat} {v : Int32} {ts : List Nat} {q : Nat × List mj_V × List mj_V} (hok : mj_okE J (mj_cd mj_Y mm) k (pc0, len, ins, a, b, cc, v, ts) = true) (hs : mj_do mj_Y X k (pc0, len, ins, a, b, cc, v, ts) ls st σ = some (.inr (.inr q))) : q.1 = a ∧ st = q.2.1.reverse ++ q.2.2 ∧ q.2.1.length = b ∧ q.2.2.length ≤ 8 ∧ mj_rcv ts q.2.1 = true ∧ mj_nx (mj_cd mj_Y mm) k (pc0 + 3) = true ∧ decode J.2.1 pc0 = .ok (ins, 3) ∧
    ∃ (i sta : Nat) (K : mj_J), mj_okC J i a b cc sta ts = true ∧ mj_ms[a]? = some K ∧ ((ins = .invokevirtual i ∧ sta = 0 ∧ ¬ K.1.name = "<init>") ∨ (ins = .invokespecial i ∧ sta = 0 ∧ K.1.name = "<init>" ∧ K.2.2.1 = none) ∨ (ins = .invokestatic i ∧ sta = 1)) := by
  have hcall : ∀ q, ¬ a = 999 → mj_call k a b ts ls st σ = some (.inr (.inr q)) → q.1 = a ∧ st = q.2.1.reverse ++ q.2.2 ∧ q.2.1.length = b ∧ q.2.2.length ≤ 8 ∧ mj_rcv ts q.2.1 = true := by
    intro q h9 hq
    unfold mj_call at hq
    rw [if_neg h9] at hq
    split at hq
    · rename_i as r hp
      split at hq
      · rename_i g
        cases hq
        obtain ⟨h1, h2⟩ := mj_pop_of _ _ _ _ hp
        exact ⟨rfl, h1, h2, g.1, g.2⟩
      · cases hq
    · cases hq
  cases ins with
  | invokevirtual i =>
    unfold mj_okE at hok
    simp only [Bool.and_eq_true, decide_eq_true_eq] at hok
    obtain ⟨hd, ⟨⟨⟨⟨rfl, hn⟩, h9⟩, hC⟩, h1⟩, hK⟩ := hok
    obtain ⟨g1, g2, g3, g4, g5⟩ := hcall q h9 hs
    refine ⟨g1, g2, g3, g4, g5, hn, hd, i, 0, ?_⟩
    cases hms : mj_ms[a]? with
    | none => rw [hms] at hK; cases hK
    | some K =>
      rw [hms] at hK
      exact ⟨K, hC, rfl, Or.inl ⟨rfl, rfl, of_decide_eq_true hK⟩⟩
  | invokespecial i =>
    unfold mj_okE at hok
    simp only [Bool.and_eq_true, decide_eq_true_eq] at hok
    obtain ⟨hd, ⟨rfl, hn⟩, hw⟩ := hok
    by_cases h9 : a = 999
    · exfalso
      subst h9
      have hs' : mj_call k 999 b ts ls st σ = some (.inr (.inr q)) := hs
      unfold mj_call at hs'
      rw [if_pos rfl] at hs'
      split at hs' <;> cases hs'
    · rw [if_neg h9] at hw
      simp only [Bool.and_eq_true, decide_eq_true_eq] at hw
      obtain ⟨⟨hC, h1⟩, hK⟩ := hw
      obtain ⟨g1, g2, g3, g4, g5⟩ := hcall q h9 hs
      refine ⟨g1, g2, g3, g4, g5, hn, hd, i, 0, ?_⟩
      cases hms : mj_ms[a]? with
      | none => rw [hms] at hK; cases hK
      | some K =>
        rw [hms] at hK
        simp only [Bool.and_eq_true, decide_eq_true_eq] at hK
        exact ⟨K, hC, rfl, Or.inr (Or.inl ⟨rfl, rfl, hK⟩)⟩
  | invokestatic i =>
    unfold mj_okE at hok
    simp only [Bool.and_eq_true, decide_eq_true_eq] at hok
    obtain ⟨hd, ⟨⟨rfl, hn⟩, h9⟩, hw⟩ := hok
    by_cases h8 : a = 998
    · exfalso
      subst h8
      have hs' : mj_copy mj_Y X k ls st σ = some (.inr (.inr q)) := hs
      unfold mj_copy at hs'
      split at hs'
      · split at hs' <;> cases hs'
      · cases hs'
    · rw [if_neg h8] at hw
      have hs' : (if a = 998 then mj_copy mj_Y X k ls st σ else mj_call k a b ts ls st σ) = some (.inr (.inr q)) := hs
      rw [if_neg h8] at hs'
      obtain ⟨g1, g2, g3, g4, g5⟩ := hcall q h9 hs'
      obtain ⟨K, hms, -⟩ := mj_okC_of hw
      exact ⟨g1, g2, g3, g4, g5, hn, hd, i, 1, K, hw, hms, Or.inr (Or.inr ⟨rfl, rfl⟩)⟩
  | _ =>
    exfalso
    first
    | (have hs' : (none : Option mj_R) = some (.inr (.inr q)) := hs; cases hs'; done)
    | (simp only [mj_do, mj_ld, mj_st, mj_bin, mj_div, mj_copy] at hs
       (repeat' split at hs) <;> (cases hs; done))
end SND
def mj_FrS (D : va_G) (cA : Nat → ClassId) (A : Nat → Prop) (el : Nat → Nat) (X : mj_X) (l : Launch) (n : Nat) : Prop :=
  ∀ (mm k : Nat) (J : mj_J) (ls : mj_L) (st : List mj_V) (σ : mj_H) (r : Option mj_V) (σf : mj_H) (p : Program) (e : Env) (R : Room) (s : State) (m : MethodId) (args : Array Value) (below : List Frame) (meth : Method) (c : Code) (Q : State → Prop) (L0 : List (Nat × Nat)) (loc0 : Nat × Nat → Nat),
    mj_run mj_Y X n mm k ls st σ = some (r, σf) → mj_ms[mm]? = some J → mj_At D cA A el X J mm p R s m args meth c L0 σf.1 → mj_End D cA A el J mm p l e R s m args below meth c Q L0 loc0 r σf → mj_Sim D cA A el mm p l e R s m args below meth c Q L0 loc0 k ls st σ
theorem mj_pc_0 : ∀ m, m < 151 → mj_pc m 0 = some 0 := by decide +kernel
theorem mj_args_in {vs : List Value} (hc : ∀ v ∈ vs, v.category = 1) : ∀ (i0 i : Nat) (w : Value), vs[i]? = some w → (i0 + i, w) ∈ lv_args i0 vs := by
  induction vs with
  | nil => intro i0 i w h; cases h
  | cons v vs ih =>
    intro i0 i w h
    have h1 : ¬ v.category = 2 := by rw [hc v List.mem_cons_self]; decide
    cases i with
    | zero =>
      cases h
      exact List.mem_cons_self
    | succ i =>
      unfold lv_args
      rw [if_neg h1]
      refine List.mem_cons_of_mem _ ?_
      have := ih (fun u hu => hc u (List.mem_cons_of_mem _ hu)) (i0 + 1) i w h
      rw [show i0 + (i + 1) = i0 + 1 + i by omega]
      exact this
theorem mj_sl_len {vs : List Value} (hc : ∀ v ∈ vs, v.category = 1) : (lg_sl vs).length = vs.length := by
  induction vs with
  | nil => rfl
  | cons v vs ih =>
    have h1 : ¬ v.category = 2 := by rw [hc v List.mem_cons_self]; decide
    have h2 := ih (fun u hu => hc u (List.mem_cons_of_mem _ hu))
    unfold lg_sl at h2 ⊢
    rw [List.flatMap_cons, if_neg h1, List.length_append, h2, List.length_cons]
    simp
    omega
theorem mj_catm (loc : Nat × Nat → Nat) (as : List mj_V) : ∀ v ∈ as.map (mj_vc loc), v.category = 1 := by
  intro v hv
  obtain ⟨u, -, rfl⟩ := List.mem_map.mp hv
  exact mj_cat loc u
/-- the locals with which a method begins -/
theorem mj_lr_in {loc : Nat × Nat → Nat} {a : Nat} {as : List mj_V} (ha : as.length ≤ mj_mx mj_Y a) : mj_lr loc (mj_in mj_Y a as) ((lg_sl (as.map (mj_vc loc)) ++ List.replicate (mj_mx mj_Y a - (lg_sl (as.map (mj_vc loc))).length) Slot.unset).toArray) (mj_mx mj_Y a) := by
  have hlen := mj_sl_len (mj_catm loc as)
  rw [List.length_map] at hlen
  have hl := lv_entry (as.map (mj_vc loc)) (n := mj_mx mj_Y a) (by rw [hlen]; exact ha)
  refine ⟨hl.1, ?_, hl.2.1, fun i v hv => ?_⟩
  · unfold mj_in
    rw [List.length_append, List.length_map, List.length_replicate]
    omega
  · unfold mj_in at hv
    have hi : as[i]? = some v := by
      by_cases hlt : i < as.length
      · rw [List.getElem?_append_left (by rw [List.length_map]; exact hlt), List.getElem?_map] at hv
        cases hx : as[i]? with
        | none => rw [hx] at hv; cases hv
        | some u => rw [hx] at hv; cases hv; rfl
      · rw [List.getElem?_append_right (by rw [List.length_map]; omega)] at hv
        have := List.eq_of_mem_replicate (List.mem_of_getElem? hv)
        cases this
    have h2 := mj_args_in (mj_catm loc as) 0 i (mj_vc loc v) (by rw [List.getElem?_map, hi]; rfl)
    rw [Nat.zero_add] at h2
    exact hl.2.2 _ h2
theorem mj_in_live {L : List (Nat × Nat)} {a : Nat} {as : List mj_V} (h : ∀ v ∈ as, mj_lv L v) : ∀ v, some v ∈ mj_in mj_Y a as → mj_lv L v := by
  intro v hv
  unfold mj_in at hv
  rcases List.mem_append.mp hv with g | g
  · obtain ⟨u, hu, e⟩ := List.mem_map.mp g
    cases e
    exact h _ hu
  · have := List.eq_of_mem_replicate g
    cases this
theorem mj_ms_lt {m : Nat} {J : mj_J} (h : mj_ms[m]? = some J) : m < 151 := by
  have := (List.getElem?_eq_some_iff.mp h).1
  rw [mj_ms_len] at this
  exact this
theorem mj_ofW {l : Launch} {y : MethodName} {ws ws' : List Jvm.Cond} {rm : Jvm.Room} {Pc : Array Value → State → Prop} {Qc : Array Value → State → Outcome → State → Prop} {mc ms : Nat} {free : Addr → Prop} {cc : ByteArray} {maxL : Nat} {ret : Option FieldType}
    (hy : plainFor y = true) (hw : ws = Jvm.Cond.code y cc maxL ret :: ws')
    (body : ∀ p e s m args below meth c s₁, BodyLoose p l y (headSpec ws rm) cc maxL ret e s m args below meth c s₁ → c.maxLocals = maxL → Pc args s →
      W p l e (headSpec ws rm).room s m args below meth c s.heap [] 0 0 (MQ below Qc args s mc ms free) (entryFrame m args maxL)) : Met l y ws rm Pc Qc mc ms free := by
  refine MetFree.of_bodySF (code := cc) (maxLocals := maxL) (ret := ret) hy ?_ ?_
  · intro args s m h hn
    obtain ⟨meth, c, h1, h2, h3, h4, h5, h6, -, -⟩ := Cond.code_spec hn (atoms_spec (ws := ws) h _ (by rw [hw]; exact List.mem_cons_self))
    exact ⟨meth, c, h1, h2, h3, h4, h5, h6⟩
  · intro p e s m args below meth c s₁ B hml hP _
    have hh0 : s₁.heap = s.heap := by rw [B.state]; rfl
    obtain ⟨t, a1, o, b1, b2, b3⟩ := body p e s m args below meth c s₁ B hml hP s₁ hh0 (Stand.of_body B)
    exact ⟨t, o, a1, b1, b2, ⟨b3.1, b3.2⟩⟩
theorem mj_met_of {D : va_G} {cA : Nat → ClassId} {A : Nat → Prop} {el : Nat → Nat} {X : mj_X} {l : Launch} {n a : Nat} {K : mj_J} {as : List mj_V} {σ σ1 : mj_H} {r1 : Option mj_V} (hF : mj_FrS D cA A el X l n) (hr : mj_run mj_Y X n a 0 (mj_in mj_Y a as) [] σ = some (r1, σ1)) (hK : mj_ms[a]? = some K) (ha : ¬ a = 150) (hmx : as.length ≤ mj_mx mj_Y a) (loc : Nat × Nat → Nat) (hl : ∀ v ∈ as, mj_lv σ.1 v) : mj_Met D cA A el X l a K loc as σ r1 σ1 := by
  have hg := mj_grow_le (mj_run_grow _ _ _ _ _ _ _ _ hr)
  unfold mj_Met
  refine mj_ofW (cc := K.2.1) (maxL := mj_mx mj_Y a) (ret := K.2.2.1) (mj_Jw hK ha).1 rfl ?_
  intro p e s m args below meth c s₁ B hml hv
  obtain ⟨rfl, hFx, hWd, hAup⟩ := hv
  have hts := atoms_spec (ws := mj_wsm K a) B.pre
  have hAt : mj_At D cA A el X K a p (headSpec (mj_wsm K a) (mj_rm K (σ1.1.length - σ.1.length) (mj_sl σ1.1 - mj_sl σ.1))).room s m (as.map (mj_vc loc)).toArray meth c σ.1 σ1.1 := by
    refine ⟨B.exec, B.bytes, hml, findClass_of_methodNamed B.named, fun w hw => hts w (List.mem_cons_of_mem _ hw), hFx, B.notSynchronized, fun hn => (name_of_methodNamed B.named B.method).1.trans hn, ⟨Nat.le_refl _, Nat.le_refl _⟩, hAup, ?_, ?_⟩
    · show σ1.1.length ≤ (σ1.1.length - σ.1.length) + σ.1.length
      omega
    · show mj_sl σ1.1 ≤ (mj_sl σ1.1 - mj_sl σ.1) + mj_sl σ.1
      omega
  rw [lg_entry_eq]
  have hlr := mj_lr_in (loc := loc) hmx
  generalize (lg_sl (as.map (mj_vc loc)) ++ List.replicate (mj_mx mj_Y a - (lg_sl (as.map (mj_vc loc))).length) Slot.unset).toArray = lj at hlr ⊢
  refine hF a 0 K _ [] σ r1 σ1 p e _ s m _ below meth c _ σ.1 loc hr hK hAt ?_ 0 s.heap [] 0 0 loc lj (mj_pc_0 a (mj_ms_lt hK)) ⟨hWd, va_S.rf, hlr, mj_in_live hl, (fun v hv => by cases hv), ⟨by omega, by omega⟩, fun q hq => ⟨hq, rfl⟩⟩
  intro pc H locs cells slots loc' lj' ls' hI hend
  obtain ⟨c1, c2⟩ := hI.2.2.2.2.2.1
  have e1 : σ1.1.length - σ.1.length = cells := by omega
  have e2 : mj_sl σ1.1 - mj_sl σ.1 = slots := by omega
  rw [e1, e2]
  have hQ : ∀ t : State, t.heap = H → mj_Qc D cA A el loc σ r1 σ1 (as.map (mj_vc loc)).toArray s (.returned (r1.map (mj_vc loc'))) t := by
    intro t ht
    exact ⟨⟨loc', rfl, by rw [ht]; exact hI.1, hI.2.2.2.2.2.2, fun v hv => hI.2.2.2.2.1 v (by rw [hv]; exact List.mem_cons_self)⟩, hI.2.1.F ht⟩
  have hlk := B.notSynchronized
  rcases hend with ⟨x, ty, rfl, hd, hrt, hnr⟩ | ⟨x, nm, rfl, hd, hrt⟩ | ⟨rfl, hd, hrt⟩
  · exact W.zret B.exec B.bytes (B.returns.trans hrt) hnr (fun t ht _ => hQ t ht) hI.2.1.2.2 hd
  · exact W.aret B.exec B.bytes (B.returns.trans hrt) (Or.inl ⟨nm, rfl⟩) (Or.inr ⟨_, rfl⟩) (fun t ht _ => hQ t ht) hI.2.1.2.2 hd
  · exact W.vret B.exec B.bytes (B.returns.trans hrt) (fun t ht _ => hQ t ht) hI.2.1.2.2 hd
/-- EVERY RUN OF THE SMALL MACHINE IS ONE OF THE MACHINE -/
theorem mj_frame (D : va_G) (cA : Nat → ClassId) (A : Nat → Prop) (el : Nat → Nat) (X : mj_X) (l : Launch) : ∀ n, mj_FrS D cA A el X l n := by
  intro n
  induction n with
  | zero => intro mm k J ls st σ r σf p e R s m args below meth c Q L0 loc0 h; cases h
  | succ n ih =>
    intro mm k J ls st σ r σf p e R s m args below meth c Q L0 loc0 h hJ hA hE
    unfold mj_run at h
    cases hst : mj_stp mj_Y X mm k ls st σ with
    | none => rw [hst] at h; cases h
    | some d =>
      rw [hst] at h
      obtain ⟨en, he, hdo⟩ := mj_stp_ent hst
      obtain ⟨J', hJ', hok⟩ := mj_ok he
      cases hJ.symm.trans hJ'
      obtain ⟨pc0, len, ins, a, b, cc, v, ts⟩ := en
      have hk : mj_pc mm k = some pc0 := by
        unfold mj_pc
        have he' : (mj_cd mj_Y mm)[k]? = some (pc0, len, ins, a, b, cc, v, ts) := he
        rw [he']
        rfl
      cases d with
      | inl d =>
        have hg := mj_grow_le (mj_run_grow _ _ _ _ _ _ _ _ h)
        exact mj_step_c hA hk hok hdo hg.1 hg.2 (ih mm d.1 J d.2.1 d.2.2.1 d.2.2.2 r σf p e R s m args below meth c Q L0 loc0 h hJ hA hE)
      | inr d =>
        cases d with
        | inl r' =>
          cases h
          exact mj_step_r hk hok hdo hE
        | inr q =>
          dsimp only at h
          cases h1 : mj_run mj_Y X n q.1 0 (mj_in mj_Y q.1 q.2.1) [] σ with
          | none => rw [h1] at h; cases h
          | some r1 =>
            obtain ⟨r1, σ1⟩ := r1
            rw [h1] at h
            obtain ⟨rfl, hst2, hb, hr8, hrc, hn, hd, i, sta, K, hC, hK, hins⟩ := mj_step_l hok hdo
            obtain ⟨q1, as, rest⟩ := q
            have hst2 : st = as.reverse ++ rest := hst2
            subst hst2
            have hg := mj_grow_le (mj_run_grow _ _ _ _ _ _ _ _ h)
            have hg1 := mj_grow_le (mj_run_grow _ _ _ _ _ _ _ _ h1)
            obtain ⟨K', hK', -, ha, -, -, -, -, -, hbm⟩ := mj_okC_of hC
            exact mj_s_call hA hk hd (mj_nxt hn) hC hK hins hb hr8 hrc (fun loc hl => mj_met_of ih h1 hK ha (by rw [hb]; exact hbm) loc hl) hg1 hg.1 hg.2 (ih mm (k + 1) J ls (r1.toList ++ rest) σ1 r σf p e R s m args below meth c Q L0 loc0 h hJ hA hE)
end
