section
-- ===== PART A: goes FIRST, ahead of the names: the tables' words, and 'selects' of the private methods out of them =====
/-- a private method of a class that the tables say can be made, by its rows of tables_1 -/
def lw_okq (q : MethodName × Nat) : Prop := (q.1.cls ≠ "java/lang/invoke/MethodHandle" ∧ q.1.cls ≠ "java/lang/invoke/VarHandle") ∧ Cond.instantiable q.1.cls q.2 ∈ tables_1 ∧ Cond.privateMethod q.1 ∈ tables_1 ∧ Cond.instanceMethod q.1 ∈ tables_1
theorem lw_p0 : lw_okq (⟨"CockWar$Reader", "append", "(I)I"⟩, 6) := ⟨⟨by decide +kernel, by decide +kernel⟩, List.mem_of_getElem? (i := 20) (by decide +kernel), List.mem_of_getElem? (i := 251) (by decide +kernel), List.mem_of_getElem? (i := 252) (by decide +kernel)⟩
theorem lw_p1 : lw_okq (⟨"CockWar$Reader", "firstFault", "()I"⟩, 6) := ⟨⟨by decide +kernel, by decide +kernel⟩, List.mem_of_getElem? (i := 20) (by decide +kernel), List.mem_of_getElem? (i := 266) (by decide +kernel), List.mem_of_getElem? (i := 267) (by decide +kernel)⟩
theorem lw_p2 : lw_okq (⟨"CockWar$Hill", "clear", "()V"⟩, 11) := ⟨⟨by decide +kernel, by decide +kernel⟩, List.mem_of_getElem? (i := 26) (by decide +kernel), List.mem_of_getElem? (i := 270) (by decide +kernel), List.mem_of_getElem? (i := 271) (by decide +kernel)⟩
theorem lw_p3 : lw_okq (⟨"CockWar$Reader", "readPart", "()V"⟩, 6) := ⟨⟨by decide +kernel, by decide +kernel⟩, List.mem_of_getElem? (i := 20) (by decide +kernel), List.mem_of_getElem? (i := 277) (by decide +kernel), List.mem_of_getElem? (i := 278) (by decide +kernel)⟩
theorem lw_p4 : lw_okq (⟨"CockWar$Hill", "treeCells", "()I"⟩, 11) := ⟨⟨by decide +kernel, by decide +kernel⟩, List.mem_of_getElem? (i := 26) (by decide +kernel), List.mem_of_getElem? (i := 281) (by decide +kernel), List.mem_of_getElem? (i := 282) (by decide +kernel)⟩
theorem lw_p5 : lw_okq (⟨"CockWar$Reader", "readTree", "(I)V"⟩, 6) := ⟨⟨by decide +kernel, by decide +kernel⟩, List.mem_of_getElem? (i := 20) (by decide +kernel), List.mem_of_getElem? (i := 285) (by decide +kernel), List.mem_of_getElem? (i := 286) (by decide +kernel)⟩
theorem lw_p6 : lw_okq (⟨"CockWar$Reader", "figure", "(I)I"⟩, 6) := ⟨⟨by decide +kernel, by decide +kernel⟩, List.mem_of_getElem? (i := 20) (by decide +kernel), List.mem_of_getElem? (i := 289) (by decide +kernel), List.mem_of_getElem? (i := 290) (by decide +kernel)⟩
theorem lw_p7 : lw_okq (⟨"CockWar$Reader", "readCock", "()V"⟩, 6) := ⟨⟨by decide +kernel, by decide +kernel⟩, List.mem_of_getElem? (i := 20) (by decide +kernel), List.mem_of_getElem? (i := 296) (by decide +kernel), List.mem_of_getElem? (i := 297) (by decide +kernel)⟩
theorem lw_p8 : lw_okq (⟨"CockWar$Hill", "takenCells", "()I"⟩, 11) := ⟨⟨by decide +kernel, by decide +kernel⟩, List.mem_of_getElem? (i := 26) (by decide +kernel), List.mem_of_getElem? (i := 300) (by decide +kernel), List.mem_of_getElem? (i := 301) (by decide +kernel)⟩
theorem lw_p9 : lw_okq (⟨"CockWar$Hill", "addCock", "(IIIIII)V"⟩, 11) := ⟨⟨by decide +kernel, by decide +kernel⟩, List.mem_of_getElem? (i := 26) (by decide +kernel), List.mem_of_getElem? (i := 305) (by decide +kernel), List.mem_of_getElem? (i := 306) (by decide +kernel)⟩
theorem lw_p10 : lw_okq (⟨"CockWar$Reader", "readWind", "()V"⟩, 6) := ⟨⟨by decide +kernel, by decide +kernel⟩, List.mem_of_getElem? (i := 20) (by decide +kernel), List.mem_of_getElem? (i := 310) (by decide +kernel), List.mem_of_getElem? (i := 311) (by decide +kernel)⟩
theorem lw_p11 : lw_okq (⟨"CockWar$Air", "addWind", "(III)V"⟩, 4) := ⟨⟨by decide +kernel, by decide +kernel⟩, List.mem_of_getElem? (i := 89) (by decide +kernel), List.mem_of_getElem? (i := 314) (by decide +kernel), List.mem_of_getElem? (i := 315) (by decide +kernel)⟩
theorem lw_p12 : lw_okq (⟨"CockWar$Hill", "copyFrom", "(LCockWar$Hill;)V"⟩, 11) := ⟨⟨by decide +kernel, by decide +kernel⟩, List.mem_of_getElem? (i := 26) (by decide +kernel), List.mem_of_getElem? (i := 323) (by decide +kernel), List.mem_of_getElem? (i := 324) (by decide +kernel)⟩
theorem lw_p13 : lw_okq (⟨"CockWar$Air", "copyFrom", "(LCockWar$Air;)V"⟩, 4) := ⟨⟨by decide +kernel, by decide +kernel⟩, List.mem_of_getElem? (i := 89) (by decide +kernel), List.mem_of_getElem? (i := 330) (by decide +kernel), List.mem_of_getElem? (i := 331) (by decide +kernel)⟩
theorem lw_p14 : lw_okq (⟨"CockWar$ActRow", "forget", "()V"⟩, 3) := ⟨⟨by decide +kernel, by decide +kernel⟩, List.mem_of_getElem? (i := 139) (by decide +kernel), List.mem_of_getElem? (i := 335) (by decide +kernel), List.mem_of_getElem? (i := 336) (by decide +kernel)⟩
theorem lw_p15 : lw_okq (⟨"CockWar$Slots", "forget", "()V"⟩, 2) := ⟨⟨by decide +kernel, by decide +kernel⟩, List.mem_of_getElem? (i := 176) (by decide +kernel), List.mem_of_getElem? (i := 339) (by decide +kernel), List.mem_of_getElem? (i := 340) (by decide +kernel)⟩
def lw_privs_1 : List (MethodName × Nat) := [(⟨"CockWar$Reader", "append", "(I)I"⟩, 6), (⟨"CockWar$Reader", "firstFault", "()I"⟩, 6), (⟨"CockWar$Hill", "clear", "()V"⟩, 11), (⟨"CockWar$Reader", "readPart", "()V"⟩, 6), (⟨"CockWar$Hill", "treeCells", "()I"⟩, 11), (⟨"CockWar$Reader", "readTree", "(I)V"⟩, 6), (⟨"CockWar$Reader", "figure", "(I)I"⟩, 6), (⟨"CockWar$Reader", "readCock", "()V"⟩, 6), (⟨"CockWar$Hill", "takenCells", "()I"⟩, 11), (⟨"CockWar$Hill", "addCock", "(IIIIII)V"⟩, 11), (⟨"CockWar$Reader", "readWind", "()V"⟩, 6), (⟨"CockWar$Air", "addWind", "(III)V"⟩, 4), (⟨"CockWar$Hill", "copyFrom", "(LCockWar$Hill;)V"⟩, 11), (⟨"CockWar$Air", "copyFrom", "(LCockWar$Air;)V"⟩, 4), (⟨"CockWar$ActRow", "forget", "()V"⟩, 3), (⟨"CockWar$Slots", "forget", "()V"⟩, 2)]
theorem lw_r1 : ∀ q ∈ lw_privs_1, lw_okq q := List.forall_mem_cons.mpr ⟨lw_p0, List.forall_mem_cons.mpr ⟨lw_p1, List.forall_mem_cons.mpr ⟨lw_p2, List.forall_mem_cons.mpr ⟨lw_p3, List.forall_mem_cons.mpr ⟨lw_p4, List.forall_mem_cons.mpr ⟨lw_p5, List.forall_mem_cons.mpr ⟨lw_p6, List.forall_mem_cons.mpr ⟨lw_p7, List.forall_mem_cons.mpr ⟨lw_p8, List.forall_mem_cons.mpr ⟨lw_p9, List.forall_mem_cons.mpr ⟨lw_p10, List.forall_mem_cons.mpr ⟨lw_p11, List.forall_mem_cons.mpr ⟨lw_p12, List.forall_mem_cons.mpr ⟨lw_p13, List.forall_mem_cons.mpr ⟨lw_p14, List.forall_mem_cons.mpr ⟨lw_p15, fun _ h => absurd h List.not_mem_nil⟩⟩⟩⟩⟩⟩⟩⟩⟩⟩⟩⟩⟩⟩⟩⟩
theorem lw_p16 : lw_okq (⟨"CockWar$Hill", "hasCock", "(I)Z"⟩, 11) := ⟨⟨by decide +kernel, by decide +kernel⟩, List.mem_of_getElem? (i := 26) (by decide +kernel), List.mem_of_getElem? (i := 355) (by decide +kernel), List.mem_of_getElem? (i := 356) (by decide +kernel)⟩
theorem lw_p17 : lw_okq (⟨"CockWar$Air", "hasWind", "(I)Z"⟩, 4) := ⟨⟨by decide +kernel, by decide +kernel⟩, List.mem_of_getElem? (i := 89) (by decide +kernel), List.mem_of_getElem? (i := 364) (by decide +kernel), List.mem_of_getElem? (i := 365) (by decide +kernel)⟩
theorem lw_p18 : lw_okq (⟨"CockWar$Air", "waysBehind", "(LCockWar$Hill;III)I"⟩, 4) := ⟨⟨by decide +kernel, by decide +kernel⟩, List.mem_of_getElem? (i := 89) (by decide +kernel), List.mem_of_getElem? (i := 368) (by decide +kernel), List.mem_of_getElem? (i := 369) (by decide +kernel)⟩
theorem lw_p19 : lw_okq (⟨"CockWar$Hill", "yieldingTo", "(III)I"⟩, 11) := ⟨⟨by decide +kernel, by decide +kernel⟩, List.mem_of_getElem? (i := 26) (by decide +kernel), List.mem_of_getElem? (i := 373) (by decide +kernel), List.mem_of_getElem? (i := 374) (by decide +kernel)⟩
theorem lw_p20 : lw_okq (⟨"CockWar$ActRow", "remember", "(LCockWar$Hill;)V"⟩, 3) := ⟨⟨by decide +kernel, by decide +kernel⟩, List.mem_of_getElem? (i := 139) (by decide +kernel), List.mem_of_getElem? (i := 382) (by decide +kernel), List.mem_of_getElem? (i := 383) (by decide +kernel)⟩
theorem lw_p21 : lw_okq (⟨"CockWar$Air", "blowOver", "(LCockWar$Hill;I)I"⟩, 4) := ⟨⟨by decide +kernel, by decide +kernel⟩, List.mem_of_getElem? (i := 89) (by decide +kernel), List.mem_of_getElem? (i := 387) (by decide +kernel), List.mem_of_getElem? (i := 388) (by decide +kernel)⟩
theorem lw_p22 : lw_okq (⟨"CockWar$Hill", "brookBy", "(I)I"⟩, 11) := ⟨⟨by decide +kernel, by decide +kernel⟩, List.mem_of_getElem? (i := 26) (by decide +kernel), List.mem_of_getElem? (i := 392) (by decide +kernel), List.mem_of_getElem? (i := 393) (by decide +kernel)⟩
theorem lw_p23 : lw_okq (⟨"CockWar$ActRow", "takeBack", "(LCockWar$Hill;)I"⟩, 3) := ⟨⟨by decide +kernel, by decide +kernel⟩, List.mem_of_getElem? (i := 139) (by decide +kernel), List.mem_of_getElem? (i := 422) (by decide +kernel), List.mem_of_getElem? (i := 423) (by decide +kernel)⟩
theorem lw_p24 : lw_okq (⟨"CockWar$Air", "brookUnder", "(LCockWar$Hill;III)I"⟩, 4) := ⟨⟨by decide +kernel, by decide +kernel⟩, List.mem_of_getElem? (i := 89) (by decide +kernel), List.mem_of_getElem? (i := 430) (by decide +kernel), List.mem_of_getElem? (i := 431) (by decide +kernel)⟩
theorem lw_p25 : lw_okq (⟨"CockWar$Air", "yearOf", "(LCockWar$Hill;II)I"⟩, 4) := ⟨⟨by decide +kernel, by decide +kernel⟩, List.mem_of_getElem? (i := 89) (by decide +kernel), List.mem_of_getElem? (i := 441) (by decide +kernel), List.mem_of_getElem? (i := 442) (by decide +kernel)⟩
theorem lw_p26 : lw_okq (⟨"CockWar$Plan", "seek", "(LCockWar$Hill;LCockWar$Air;I)V"⟩, 5) := ⟨⟨by decide +kernel, by decide +kernel⟩, List.mem_of_getElem? (i := 191) (by decide +kernel), List.mem_of_getElem? (i := 450) (by decide +kernel), List.mem_of_getElem? (i := 451) (by decide +kernel)⟩
theorem lw_p27 : lw_okq (⟨"CockWar$Plan", "tryTrees", "(LCockWar$Air;III)V"⟩, 5) := ⟨⟨by decide +kernel, by decide +kernel⟩, List.mem_of_getElem? (i := 191) (by decide +kernel), List.mem_of_getElem? (i := 455) (by decide +kernel), List.mem_of_getElem? (i := 456) (by decide +kernel)⟩
theorem lw_p28 : lw_okq (⟨"CockWar$Plan", "tryOne", "(IIII)V"⟩, 5) := ⟨⟨by decide +kernel, by decide +kernel⟩, List.mem_of_getElem? (i := 191) (by decide +kernel), List.mem_of_getElem? (i := 460) (by decide +kernel), List.mem_of_getElem? (i := 461) (by decide +kernel)⟩
theorem lw_p29 : lw_okq (⟨"CockWar$Hill", "everyCock", "()I"⟩, 11) := ⟨⟨by decide +kernel, by decide +kernel⟩, List.mem_of_getElem? (i := 26) (by decide +kernel), List.mem_of_getElem? (i := 488) (by decide +kernel), List.mem_of_getElem? (i := 489) (by decide +kernel)⟩
theorem lw_p30 : lw_okq (⟨"CockWar$Sights", "add", "(II)I"⟩, 3) := ⟨⟨by decide +kernel, by decide +kernel⟩, List.mem_of_getElem? (i := 159) (by decide +kernel), List.mem_of_getElem? (i := 503) (by decide +kernel), List.mem_of_getElem? (i := 504) (by decide +kernel)⟩
theorem lw_p31 : lw_okq (⟨"CockWar$Sights", "agree", "(LCockWar$Hill;I)Z"⟩, 3) := ⟨⟨by decide +kernel, by decide +kernel⟩, List.mem_of_getElem? (i := 159) (by decide +kernel), List.mem_of_getElem? (i := 516) (by decide +kernel), List.mem_of_getElem? (i := 517) (by decide +kernel)⟩
def lw_privs_2 : List (MethodName × Nat) := [(⟨"CockWar$Hill", "hasCock", "(I)Z"⟩, 11), (⟨"CockWar$Air", "hasWind", "(I)Z"⟩, 4), (⟨"CockWar$Air", "waysBehind", "(LCockWar$Hill;III)I"⟩, 4), (⟨"CockWar$Hill", "yieldingTo", "(III)I"⟩, 11), (⟨"CockWar$ActRow", "remember", "(LCockWar$Hill;)V"⟩, 3), (⟨"CockWar$Air", "blowOver", "(LCockWar$Hill;I)I"⟩, 4), (⟨"CockWar$Hill", "brookBy", "(I)I"⟩, 11), (⟨"CockWar$ActRow", "takeBack", "(LCockWar$Hill;)I"⟩, 3), (⟨"CockWar$Air", "brookUnder", "(LCockWar$Hill;III)I"⟩, 4), (⟨"CockWar$Air", "yearOf", "(LCockWar$Hill;II)I"⟩, 4), (⟨"CockWar$Plan", "seek", "(LCockWar$Hill;LCockWar$Air;I)V"⟩, 5), (⟨"CockWar$Plan", "tryTrees", "(LCockWar$Air;III)V"⟩, 5), (⟨"CockWar$Plan", "tryOne", "(IIII)V"⟩, 5), (⟨"CockWar$Hill", "everyCock", "()I"⟩, 11), (⟨"CockWar$Sights", "add", "(II)I"⟩, 3), (⟨"CockWar$Sights", "agree", "(LCockWar$Hill;I)Z"⟩, 3)]
theorem lw_r2 : ∀ q ∈ lw_privs_2, lw_okq q := List.forall_mem_cons.mpr ⟨lw_p16, List.forall_mem_cons.mpr ⟨lw_p17, List.forall_mem_cons.mpr ⟨lw_p18, List.forall_mem_cons.mpr ⟨lw_p19, List.forall_mem_cons.mpr ⟨lw_p20, List.forall_mem_cons.mpr ⟨lw_p21, List.forall_mem_cons.mpr ⟨lw_p22, List.forall_mem_cons.mpr ⟨lw_p23, List.forall_mem_cons.mpr ⟨lw_p24, List.forall_mem_cons.mpr ⟨lw_p25, List.forall_mem_cons.mpr ⟨lw_p26, List.forall_mem_cons.mpr ⟨lw_p27, List.forall_mem_cons.mpr ⟨lw_p28, List.forall_mem_cons.mpr ⟨lw_p29, List.forall_mem_cons.mpr ⟨lw_p30, List.forall_mem_cons.mpr ⟨lw_p31, fun _ h => absurd h List.not_mem_nil⟩⟩⟩⟩⟩⟩⟩⟩⟩⟩⟩⟩⟩⟩⟩⟩
theorem lw_p32 : lw_okq (⟨"CockWar", "mayHold", "(II)Z"⟩, 9) := ⟨⟨by decide +kernel, by decide +kernel⟩, List.mem_of_getElem? (i := 12) (by decide +kernel), List.mem_of_getElem? (i := 531) (by decide +kernel), List.mem_of_getElem? (i := 532) (by decide +kernel)⟩
theorem lw_p33 : lw_okq (⟨"CockWar", "isAtRest", "(III)Z"⟩, 9) := ⟨⟨by decide +kernel, by decide +kernel⟩, List.mem_of_getElem? (i := 12) (by decide +kernel), List.mem_of_getElem? (i := 535) (by decide +kernel), List.mem_of_getElem? (i := 536) (by decide +kernel)⟩
theorem lw_p34 : lw_okq (⟨"CockWar", "brookHeld", "(III)I"⟩, 9) := ⟨⟨by decide +kernel, by decide +kernel⟩, List.mem_of_getElem? (i := 12) (by decide +kernel), List.mem_of_getElem? (i := 539) (by decide +kernel), List.mem_of_getElem? (i := 540) (by decide +kernel)⟩
theorem lw_p35 : lw_okq (⟨"CockWar", "waysToFreeze", "(II)I"⟩, 9) := ⟨⟨by decide +kernel, by decide +kernel⟩, List.mem_of_getElem? (i := 12) (by decide +kernel), List.mem_of_getElem? (i := 547) (by decide +kernel), List.mem_of_getElem? (i := 548) (by decide +kernel)⟩
theorem lw_p36 : lw_okq (⟨"CockWar$Air", "daysInAll", "()I"⟩, 4) := ⟨⟨by decide +kernel, by decide +kernel⟩, List.mem_of_getElem? (i := 89) (by decide +kernel), List.mem_of_getElem? (i := 562) (by decide +kernel), List.mem_of_getElem? (i := 563) (by decide +kernel)⟩
theorem lw_p37 : lw_okq (⟨"CockWar$Air", "windOfDay", "(I)I"⟩, 4) := ⟨⟨by decide +kernel, by decide +kernel⟩, List.mem_of_getElem? (i := 89) (by decide +kernel), List.mem_of_getElem? (i := 568) (by decide +kernel), List.mem_of_getElem? (i := 569) (by decide +kernel)⟩
theorem lw_p38 : lw_okq (⟨"CockWar$Slots", "store", "(ILCockWar$Hill;)I"⟩, 2) := ⟨⟨by decide +kernel, by decide +kernel⟩, List.mem_of_getElem? (i := 176) (by decide +kernel), List.mem_of_getElem? (i := 576) (by decide +kernel), List.mem_of_getElem? (i := 577) (by decide +kernel)⟩
theorem lw_p39 : lw_okq (⟨"CockWar$Slots", "fetch", "(ILCockWar$Hill;)I"⟩, 2) := ⟨⟨by decide +kernel, by decide +kernel⟩, List.mem_of_getElem? (i := 176) (by decide +kernel), List.mem_of_getElem? (i := 585) (by decide +kernel), List.mem_of_getElem? (i := 586) (by decide +kernel)⟩
theorem lw_p40 : lw_okq (⟨"CockWar$Hill", "weightFor", "(I)I"⟩, 11) := ⟨⟨by decide +kernel, by decide +kernel⟩, List.mem_of_getElem? (i := 26) (by decide +kernel), List.mem_of_getElem? (i := 594) (by decide +kernel), List.mem_of_getElem? (i := 595) (by decide +kernel)⟩
theorem lw_p41 : lw_okq (⟨"CockWarModel", "readText", "()I"⟩, 31) := ⟨⟨by decide +kernel, by decide +kernel⟩, List.mem_of_getElem? (i := 598) (by decide +kernel), List.mem_of_getElem? (i := 715) (by decide +kernel), List.mem_of_getElem? (i := 716) (by decide +kernel)⟩
theorem lw_p42 : lw_okq (⟨"CockWarModel", "readPart", "(I)V"⟩, 31) := ⟨⟨by decide +kernel, by decide +kernel⟩, List.mem_of_getElem? (i := 598) (by decide +kernel), List.mem_of_getElem? (i := 719) (by decide +kernel), List.mem_of_getElem? (i := 720) (by decide +kernel)⟩
theorem lw_p43 : lw_okq (⟨"CockWarModel", "figureOf", "(I)I"⟩, 31) := ⟨⟨by decide +kernel, by decide +kernel⟩, List.mem_of_getElem? (i := 598) (by decide +kernel), List.mem_of_getElem? (i := 723) (by decide +kernel), List.mem_of_getElem? (i := 724) (by decide +kernel)⟩
theorem lw_p44 : lw_okq (⟨"CockWarModel", "figure", "(II)I"⟩, 31) := ⟨⟨by decide +kernel, by decide +kernel⟩, List.mem_of_getElem? (i := 598) (by decide +kernel), List.mem_of_getElem? (i := 731) (by decide +kernel), List.mem_of_getElem? (i := 732) (by decide +kernel)⟩
theorem lw_p45 : lw_okq (⟨"CockWarModel", "readCock", "()V"⟩, 31) := ⟨⟨by decide +kernel, by decide +kernel⟩, List.mem_of_getElem? (i := 598) (by decide +kernel), List.mem_of_getElem? (i := 735) (by decide +kernel), List.mem_of_getElem? (i := 736) (by decide +kernel)⟩
theorem lw_p46 : lw_okq (⟨"CockWarModel", "isCock", "(I)Z"⟩, 31) := ⟨⟨by decide +kernel, by decide +kernel⟩, List.mem_of_getElem? (i := 598) (by decide +kernel), List.mem_of_getElem? (i := 751) (by decide +kernel), List.mem_of_getElem? (i := 752) (by decide +kernel)⟩
theorem lw_p47 : lw_okq (⟨"CockWarModel", "isWind", "(I)Z"⟩, 31) := ⟨⟨by decide +kernel, by decide +kernel⟩, List.mem_of_getElem? (i := 598) (by decide +kernel), List.mem_of_getElem? (i := 759) (by decide +kernel), List.mem_of_getElem? (i := 760) (by decide +kernel)⟩
def lw_privs_3 : List (MethodName × Nat) := [(⟨"CockWar", "mayHold", "(II)Z"⟩, 9), (⟨"CockWar", "isAtRest", "(III)Z"⟩, 9), (⟨"CockWar", "brookHeld", "(III)I"⟩, 9), (⟨"CockWar", "waysToFreeze", "(II)I"⟩, 9), (⟨"CockWar$Air", "daysInAll", "()I"⟩, 4), (⟨"CockWar$Air", "windOfDay", "(I)I"⟩, 4), (⟨"CockWar$Slots", "store", "(ILCockWar$Hill;)I"⟩, 2), (⟨"CockWar$Slots", "fetch", "(ILCockWar$Hill;)I"⟩, 2), (⟨"CockWar$Hill", "weightFor", "(I)I"⟩, 11), (⟨"CockWarModel", "readText", "()I"⟩, 31), (⟨"CockWarModel", "readPart", "(I)V"⟩, 31), (⟨"CockWarModel", "figureOf", "(I)I"⟩, 31), (⟨"CockWarModel", "figure", "(II)I"⟩, 31), (⟨"CockWarModel", "readCock", "()V"⟩, 31), (⟨"CockWarModel", "isCock", "(I)Z"⟩, 31), (⟨"CockWarModel", "isWind", "(I)Z"⟩, 31)]
theorem lw_r3 : ∀ q ∈ lw_privs_3, lw_okq q := List.forall_mem_cons.mpr ⟨lw_p32, List.forall_mem_cons.mpr ⟨lw_p33, List.forall_mem_cons.mpr ⟨lw_p34, List.forall_mem_cons.mpr ⟨lw_p35, List.forall_mem_cons.mpr ⟨lw_p36, List.forall_mem_cons.mpr ⟨lw_p37, List.forall_mem_cons.mpr ⟨lw_p38, List.forall_mem_cons.mpr ⟨lw_p39, List.forall_mem_cons.mpr ⟨lw_p40, List.forall_mem_cons.mpr ⟨lw_p41, List.forall_mem_cons.mpr ⟨lw_p42, List.forall_mem_cons.mpr ⟨lw_p43, List.forall_mem_cons.mpr ⟨lw_p44, List.forall_mem_cons.mpr ⟨lw_p45, List.forall_mem_cons.mpr ⟨lw_p46, List.forall_mem_cons.mpr ⟨lw_p47, fun _ h => absurd h List.not_mem_nil⟩⟩⟩⟩⟩⟩⟩⟩⟩⟩⟩⟩⟩⟩⟩⟩
theorem lw_p48 : lw_okq (⟨"CockWarModel", "pointsBy", "(III)I"⟩, 31) := ⟨⟨by decide +kernel, by decide +kernel⟩, List.mem_of_getElem? (i := 598) (by decide +kernel), List.mem_of_getElem? (i := 764) (by decide +kernel), List.mem_of_getElem? (i := 765) (by decide +kernel)⟩
theorem lw_p49 : lw_okq (⟨"CockWarModel", "isSheltered", "(III)Z"⟩, 31) := ⟨⟨by decide +kernel, by decide +kernel⟩, List.mem_of_getElem? (i := 598) (by decide +kernel), List.mem_of_getElem? (i := 768) (by decide +kernel), List.mem_of_getElem? (i := 769) (by decide +kernel)⟩
theorem lw_p50 : lw_okq (⟨"CockWarModel", "keepAct", "()V"⟩, 31) := ⟨⟨by decide +kernel, by decide +kernel⟩, List.mem_of_getElem? (i := 598) (by decide +kernel), List.mem_of_getElem? (i := 776) (by decide +kernel), List.mem_of_getElem? (i := 777) (by decide +kernel)⟩
theorem lw_p51 : lw_okq (⟨"CockWarModel", "blowOn", "(II)V"⟩, 31) := ⟨⟨by decide +kernel, by decide +kernel⟩, List.mem_of_getElem? (i := 598) (by decide +kernel), List.mem_of_getElem? (i := 780) (by decide +kernel), List.mem_of_getElem? (i := 781) (by decide +kernel)⟩
theorem lw_p52 : lw_okq (⟨"CockWarModel", "brookBy", "(II)I"⟩, 31) := ⟨⟨by decide +kernel, by decide +kernel⟩, List.mem_of_getElem? (i := 598) (by decide +kernel), List.mem_of_getElem? (i := 784) (by decide +kernel), List.mem_of_getElem? (i := 785) (by decide +kernel)⟩
theorem lw_p53 : lw_okq (⟨"CockWarModel", "weightOf", "(III)I"⟩, 31) := ⟨⟨by decide +kernel, by decide +kernel⟩, List.mem_of_getElem? (i := 598) (by decide +kernel), List.mem_of_getElem? (i := 788) (by decide +kernel), List.mem_of_getElem? (i := 789) (by decide +kernel)⟩
theorem lw_p54 : lw_okq (⟨"CockWarModel", "isCockOn", "(I)Z"⟩, 31) := ⟨⟨by decide +kernel, by decide +kernel⟩, List.mem_of_getElem? (i := 598) (by decide +kernel), List.mem_of_getElem? (i := 800) (by decide +kernel), List.mem_of_getElem? (i := 801) (by decide +kernel)⟩
theorem lw_p55 : lw_okq (⟨"CockWarModel", "underOf", "(III)I"⟩, 31) := ⟨⟨by decide +kernel, by decide +kernel⟩, List.mem_of_getElem? (i := 598) (by decide +kernel), List.mem_of_getElem? (i := 824) (by decide +kernel), List.mem_of_getElem? (i := 825) (by decide +kernel)⟩
theorem lw_p56 : lw_okq (⟨"CockWarModel", "yearOf", "(I)I"⟩, 31) := ⟨⟨by decide +kernel, by decide +kernel⟩, List.mem_of_getElem? (i := 598) (by decide +kernel), List.mem_of_getElem? (i := 832) (by decide +kernel), List.mem_of_getElem? (i := 833) (by decide +kernel)⟩
theorem lw_p57 : lw_okq (⟨"CockWarModel", "tryTrees", "(III)V"⟩, 31) := ⟨⟨by decide +kernel, by decide +kernel⟩, List.mem_of_getElem? (i := 598) (by decide +kernel), List.mem_of_getElem? (i := 841) (by decide +kernel), List.mem_of_getElem? (i := 842) (by decide +kernel)⟩
theorem lw_p58 : lw_okq (⟨"CockWarModel", "treesNow", "()I"⟩, 31) := ⟨⟨by decide +kernel, by decide +kernel⟩, List.mem_of_getElem? (i := 598) (by decide +kernel), List.mem_of_getElem? (i := 849) (by decide +kernel), List.mem_of_getElem? (i := 850) (by decide +kernel)⟩
theorem lw_p59 : lw_okq (⟨"CockWarModel", "layTrial", "()V"⟩, 31) := ⟨⟨by decide +kernel, by decide +kernel⟩, List.mem_of_getElem? (i := 598) (by decide +kernel), List.mem_of_getElem? (i := 856) (by decide +kernel), List.mem_of_getElem? (i := 857) (by decide +kernel)⟩
theorem lw_p60 : lw_okq (⟨"CockWarModel", "isSeen", "(II)Z"⟩, 31) := ⟨⟨by decide +kernel, by decide +kernel⟩, List.mem_of_getElem? (i := 598) (by decide +kernel), List.mem_of_getElem? (i := 888) (by decide +kernel), List.mem_of_getElem? (i := 889) (by decide +kernel)⟩
theorem lw_p61 : lw_okq (⟨"CockWarModel", "isChoice", "(II)Z"⟩, 31) := ⟨⟨by decide +kernel, by decide +kernel⟩, List.mem_of_getElem? (i := 598) (by decide +kernel), List.mem_of_getElem? (i := 900) (by decide +kernel), List.mem_of_getElem? (i := 901) (by decide +kernel)⟩
theorem lw_p62 : lw_okq (⟨"CockWarModel", "isRest", "(III)Z"⟩, 31) := ⟨⟨by decide +kernel, by decide +kernel⟩, List.mem_of_getElem? (i := 598) (by decide +kernel), List.mem_of_getElem? (i := 904) (by decide +kernel), List.mem_of_getElem? (i := 905) (by decide +kernel)⟩
theorem lw_p63 : lw_okq (⟨"CockWarModel", "heldBy", "(III)I"⟩, 31) := ⟨⟨by decide +kernel, by decide +kernel⟩, List.mem_of_getElem? (i := 598) (by decide +kernel), List.mem_of_getElem? (i := 908) (by decide +kernel), List.mem_of_getElem? (i := 909) (by decide +kernel)⟩
def lw_privs_4 : List (MethodName × Nat) := [(⟨"CockWarModel", "pointsBy", "(III)I"⟩, 31), (⟨"CockWarModel", "isSheltered", "(III)Z"⟩, 31), (⟨"CockWarModel", "keepAct", "()V"⟩, 31), (⟨"CockWarModel", "blowOn", "(II)V"⟩, 31), (⟨"CockWarModel", "brookBy", "(II)I"⟩, 31), (⟨"CockWarModel", "weightOf", "(III)I"⟩, 31), (⟨"CockWarModel", "isCockOn", "(I)Z"⟩, 31), (⟨"CockWarModel", "underOf", "(III)I"⟩, 31), (⟨"CockWarModel", "yearOf", "(I)I"⟩, 31), (⟨"CockWarModel", "tryTrees", "(III)V"⟩, 31), (⟨"CockWarModel", "treesNow", "()I"⟩, 31), (⟨"CockWarModel", "layTrial", "()V"⟩, 31), (⟨"CockWarModel", "isSeen", "(II)Z"⟩, 31), (⟨"CockWarModel", "isChoice", "(II)Z"⟩, 31), (⟨"CockWarModel", "isRest", "(III)Z"⟩, 31), (⟨"CockWarModel", "heldBy", "(III)I"⟩, 31)]
theorem lw_r4 : ∀ q ∈ lw_privs_4, lw_okq q := List.forall_mem_cons.mpr ⟨lw_p48, List.forall_mem_cons.mpr ⟨lw_p49, List.forall_mem_cons.mpr ⟨lw_p50, List.forall_mem_cons.mpr ⟨lw_p51, List.forall_mem_cons.mpr ⟨lw_p52, List.forall_mem_cons.mpr ⟨lw_p53, List.forall_mem_cons.mpr ⟨lw_p54, List.forall_mem_cons.mpr ⟨lw_p55, List.forall_mem_cons.mpr ⟨lw_p56, List.forall_mem_cons.mpr ⟨lw_p57, List.forall_mem_cons.mpr ⟨lw_p58, List.forall_mem_cons.mpr ⟨lw_p59, List.forall_mem_cons.mpr ⟨lw_p60, List.forall_mem_cons.mpr ⟨lw_p61, List.forall_mem_cons.mpr ⟨lw_p62, List.forall_mem_cons.mpr ⟨lw_p63, fun _ h => absurd h List.not_mem_nil⟩⟩⟩⟩⟩⟩⟩⟩⟩⟩⟩⟩⟩⟩⟩⟩
def lw_privs : List (MethodName × Nat) := lw_privs_1 ++ (lw_privs_2 ++ (lw_privs_3 ++ (lw_privs_4)))
def lw_tbl : List Cond := k2_sels lw_privs ++ tables_1
theorem lw_privs_ok : ∀ q ∈ lw_privs, lw_okq q := by
  show ∀ q ∈ lw_privs_1 ++ (lw_privs_2 ++ (lw_privs_3 ++ (lw_privs_4))), lw_okq q
  exact List.forall_mem_append.mpr ⟨lw_r1, List.forall_mem_append.mpr ⟨lw_r2, List.forall_mem_append.mpr ⟨lw_r3, lw_r4⟩⟩⟩
end
section
/-! ===== BEGIN words of one list among another's, by their places ===== -/
theorem goodIn_r {big : List Cond} (ws : List Cond) (ps : List Nat) (hp : ws = ps.filterMap (fun i => big[i]?)) (h : ws.all goodWord = true) : GoodIn big ws := by
  intro w hw
  have h1 := List.all_eq_true.mp h w hw
  rw [hp] at hw
  obtain ⟨i, -, hi⟩ := List.mem_filterMap.mp hw
  have hm : w ∈ big := by first | exact List.mem_of_getElem? hi | exact List.getElem?_mem hi
  exact ⟨hm, good_of_word h1⟩
theorem goodIn_app {big a b : List Cond} (ha : GoodIn big a) (hb : GoodIn big b) : GoodIn big (a ++ b) := fun w h => (List.mem_append.mp h).elim (ha w) (hb w)
theorem goodIn_ca {big a b : List Cond} {c : Cond} (ha : GoodIn big (c :: a)) (hb : GoodIn big b) : GoodIn big (c :: (a ++ b)) := fun w h => (List.mem_cons.mp h).elim (fun e => ha w (List.mem_cons.mpr (Or.inl e))) (fun h => (List.mem_append.mp h).elim (fun h => ha w (List.mem_cons.mpr (Or.inr h))) (hb w))
theorem goodIn_sub {big ws : List Cond} (hm : ∀ w ∈ ws, w ∈ big) (h : ws.all goodWord = true) : GoodIn big ws := fun w hw => ⟨hm w hw, good_of_word (List.all_eq_true.mp h w hw)⟩
/-! ===== END ===== -/

/-! ===== BEGIN printed: names, fields, word lists, decode rows ===== -/
def RX0 : String := "CockWar$ActRow"
def TX0 : u_T := fun k => match k with
  | 0 => ("CockWar$ActRow", "before", "[LCockWar$Hill;", true)
  | 1 => ("CockWar$ActRow", "oldest", "I", false)
  | _ => ("CockWar$ActRow", "number", "I", false)
def tyX0 : Nat → FieldType := fun k => match k with
  | 0 => .array (.object "CockWar$Hill")
  | 1 => .int
  | _ => .int
abbrev wsX00 : List Cond := u_ws RX0 TX0 3
theorem nmX0 : ∀ a, a < 3 → ∀ b, b < 3 → a ≠ b → (TX0 a).2.1 ≠ (TX0 b).2.1 := by decide +kernel
theorem tyX0_ok : ∀ k, k < 3 → parseFieldDescriptor (TX0 k).2.2.1 = some (tyX0 k) := by decide +kernel
abbrev cX0_init : ByteArray := prog_2_method_1_code
def yX0_init : MethodName := ⟨RX0, "<init>", "()V"⟩
abbrev cX0_forget : ByteArray := prog_2_method_2_code
def yX0_forget : MethodName := ⟨RX0, "forget", "()V"⟩
abbrev cX0_remember : ByteArray := prog_2_method_3_code
def yX0_remember : MethodName := ⟨RX0, "remember", "(LCockWar$Hill;)V"⟩
abbrev cX0_takeBack : ByteArray := prog_2_method_4_code
def yX0_takeBack : MethodName := ⟨RX0, "takeBack", "(LCockWar$Hill;)I"⟩
def RX1 : String := "CockWar$Air"
def TX1 : u_T := fun k => match k with
  | 0 => ("CockWar$Air", "goals", "[I", true)
  | 1 => ("CockWar$Air", "strengths", "[I", true)
  | 2 => ("CockWar$Air", "days", "[I", true)
  | _ => ("CockWar$Air", "winds", "I", false)
def tyX1 : Nat → FieldType := fun k => match k with
  | 0 => .array .int
  | 1 => .array .int
  | 2 => .array .int
  | _ => .int
abbrev wsX10 : List Cond := u_ws RX1 TX1 4
theorem nmX1 : ∀ a, a < 4 → ∀ b, b < 4 → a ≠ b → (TX1 a).2.1 ≠ (TX1 b).2.1 := by decide +kernel
theorem tyX1_ok : ∀ k, k < 4 → parseFieldDescriptor (TX1 k).2.2.1 = some (tyX1 k) := by decide +kernel
abbrev cX1_init : ByteArray := prog_3_method_1_code
def yX1_init : MethodName := ⟨RX1, "<init>", "()V"⟩
abbrev cX1_copyFrom : ByteArray := prog_3_method_2_code
def yX1_copyFrom : MethodName := ⟨RX1, "copyFrom", "(LCockWar$Air;)V"⟩
abbrev cX1_addWind : ByteArray := prog_3_method_3_code
def yX1_addWind : MethodName := ⟨RX1, "addWind", "(III)V"⟩
abbrev cX1_hasWind : ByteArray := prog_3_method_4_code
def yX1_hasWind : MethodName := ⟨RX1, "hasWind", "(I)Z"⟩
abbrev cX1_waysBehind : ByteArray := prog_3_method_5_code
def yX1_waysBehind : MethodName := ⟨RX1, "waysBehind", "(LCockWar$Hill;III)I"⟩
abbrev cX1_brookUnder : ByteArray := prog_3_method_6_code
def yX1_brookUnder : MethodName := ⟨RX1, "brookUnder", "(LCockWar$Hill;III)I"⟩
abbrev cX1_blowOver : ByteArray := prog_3_method_7_code
def yX1_blowOver : MethodName := ⟨RX1, "blowOver", "(LCockWar$Hill;I)I"⟩
abbrev cX1_yearOf : ByteArray := prog_3_method_8_code
def yX1_yearOf : MethodName := ⟨RX1, "yearOf", "(LCockWar$Hill;II)I"⟩
abbrev cX1_daysInAll : ByteArray := prog_3_method_9_code
def yX1_daysInAll : MethodName := ⟨RX1, "daysInAll", "()I"⟩
abbrev cX1_windOfDay : ByteArray := prog_3_method_10_code
def yX1_windOfDay : MethodName := ⟨RX1, "windOfDay", "(I)I"⟩
def RX2 : String := "CockWar$Hill"
def TX2 : u_T := fun k => match k with
  | 0 => ("CockWar$Hill", "trees", "[I", true)
  | 1 => ("CockWar$Hill", "cells", "[I", true)
  | 2 => ("CockWar$Hill", "heights", "[I", true)
  | 3 => ("CockWar$Hill", "rusts", "[I", true)
  | 4 => ("CockWar$Hill", "weights", "[I", true)
  | 5 => ("CockWar$Hill", "cocks", "I", false)
  | 6 => ("CockWar$Hill", "parishes", "I", false)
  | 7 => ("CockWar$Hill", "ways", "I", false)
  | 8 => ("CockWar$Hill", "held", "I", false)
  | 9 => ("CockWar$Hill", "brook", "I", false)
  | _ => ("CockWar$Hill", "days", "I", false)
def tyX2 : Nat → FieldType := fun k => match k with
  | 0 => .array .int
  | 1 => .array .int
  | 2 => .array .int
  | 3 => .array .int
  | 4 => .array .int
  | 5 => .int
  | 6 => .int
  | 7 => .int
  | 8 => .int
  | 9 => .int
  | _ => .int
abbrev wsX20 : List Cond := u_ws RX2 TX2 11
theorem nmX2 : ∀ a, a < 11 → ∀ b, b < 11 → a ≠ b → (TX2 a).2.1 ≠ (TX2 b).2.1 := by decide +kernel
theorem tyX2_ok : ∀ k, k < 11 → parseFieldDescriptor (TX2 k).2.2.1 = some (tyX2 k) := by decide +kernel
abbrev cX2_init : ByteArray := prog_4_method_1_code
def yX2_init : MethodName := ⟨RX2, "<init>", "()V"⟩
abbrev cX2_clear : ByteArray := prog_4_method_2_code
def yX2_clear : MethodName := ⟨RX2, "clear", "()V"⟩
abbrev cX2_copyFrom : ByteArray := prog_4_method_3_code
def yX2_copyFrom : MethodName := ⟨RX2, "copyFrom", "(LCockWar$Hill;)V"⟩
abbrev cX2_addCock : ByteArray := prog_4_method_4_code
def yX2_addCock : MethodName := ⟨RX2, "addCock", "(IIIIII)V"⟩
abbrev cX2_hasCock : ByteArray := prog_4_method_5_code
def yX2_hasCock : MethodName := ⟨RX2, "hasCock", "(I)Z"⟩
abbrev cX2_everyCock : ByteArray := prog_4_method_6_code
def yX2_everyCock : MethodName := ⟨RX2, "everyCock", "()I"⟩
abbrev cX2_treeCells : ByteArray := prog_4_method_7_code
def yX2_treeCells : MethodName := ⟨RX2, "treeCells", "()I"⟩
abbrev cX2_takenCells : ByteArray := prog_4_method_8_code
def yX2_takenCells : MethodName := ⟨RX2, "takenCells", "()I"⟩
abbrev cX2_yieldingTo : ByteArray := prog_4_method_9_code
def yX2_yieldingTo : MethodName := ⟨RX2, "yieldingTo", "(III)I"⟩
abbrev cX2_brookBy : ByteArray := prog_4_method_10_code
def yX2_brookBy : MethodName := ⟨RX2, "brookBy", "(I)I"⟩
abbrev cX2_weightFor : ByteArray := prog_4_method_11_code
def yX2_weightFor : MethodName := ⟨RX2, "weightFor", "(I)I"⟩
def RX3 : String := "CockWar$Plan"
def TX3 : u_T := fun k => match k with
  | 0 => ("CockWar$Plan", "trial", "LCockWar$Hill;", true)
  | 1 => ("CockWar$Plan", "days", "I", false)
  | 2 => ("CockWar$Plan", "cock", "I", false)
  | 3 => ("CockWar$Plan", "cell", "I", false)
  | _ => ("CockWar$Plan", "tree", "I", false)
def tyX3 : Nat → FieldType := fun k => match k with
  | 0 => .object "CockWar$Hill"
  | 1 => .int
  | 2 => .int
  | 3 => .int
  | _ => .int
abbrev wsX30 : List Cond := u_ws RX3 TX3 5
theorem nmX3 : ∀ a, a < 5 → ∀ b, b < 5 → a ≠ b → (TX3 a).2.1 ≠ (TX3 b).2.1 := by decide +kernel
theorem tyX3_ok : ∀ k, k < 5 → parseFieldDescriptor (TX3 k).2.2.1 = some (tyX3 k) := by decide +kernel
abbrev cX3_init : ByteArray := prog_5_method_1_code
def yX3_init : MethodName := ⟨RX3, "<init>", "()V"⟩
abbrev cX3_seek : ByteArray := prog_5_method_2_code
def yX3_seek : MethodName := ⟨RX3, "seek", "(LCockWar$Hill;LCockWar$Air;I)V"⟩
abbrev cX3_tryTrees : ByteArray := prog_5_method_3_code
def yX3_tryTrees : MethodName := ⟨RX3, "tryTrees", "(LCockWar$Air;III)V"⟩
abbrev cX3_tryOne : ByteArray := prog_5_method_4_code
def yX3_tryOne : MethodName := ⟨RX3, "tryOne", "(IIII)V"⟩
def RX4 : String := "CockWar$Reader"
def TX4 : u_T := fun k => match k with
  | 0 => ("CockWar$Reader", "letters", "[I", true)
  | 1 => ("CockWar$Reader", "ground", "LCockWar$Hill;", true)
  | 2 => ("CockWar$Reader", "air", "LCockWar$Air;", true)
  | 3 => ("CockWar$Reader", "length", "I", false)
  | 4 => ("CockWar$Reader", "place", "I", false)
  | _ => ("CockWar$Reader", "broken", "Z", false)
def tyX4 : Nat → FieldType := fun k => match k with
  | 0 => .array .int
  | 1 => .object "CockWar$Hill"
  | 2 => .object "CockWar$Air"
  | 3 => .int
  | 4 => .int
  | _ => .boolean
abbrev wsX40 : List Cond := u_ws RX4 TX4 6
theorem nmX4 : ∀ a, a < 6 → ∀ b, b < 6 → a ≠ b → (TX4 a).2.1 ≠ (TX4 b).2.1 := by decide +kernel
theorem tyX4_ok : ∀ k, k < 6 → parseFieldDescriptor (TX4 k).2.2.1 = some (tyX4 k) := by decide +kernel
abbrev cX4_init : ByteArray := prog_6_method_1_code
def yX4_init : MethodName := ⟨RX4, "<init>", "()V"⟩
abbrev cX4_append : ByteArray := prog_6_method_2_code
def yX4_append : MethodName := ⟨RX4, "append", "(I)I"⟩
abbrev cX4_firstFault : ByteArray := prog_6_method_3_code
def yX4_firstFault : MethodName := ⟨RX4, "firstFault", "()I"⟩
abbrev cX4_readPart : ByteArray := prog_6_method_4_code
def yX4_readPart : MethodName := ⟨RX4, "readPart", "()V"⟩
abbrev cX4_readTree : ByteArray := prog_6_method_5_code
def yX4_readTree : MethodName := ⟨RX4, "readTree", "(I)V"⟩
abbrev cX4_readCock : ByteArray := prog_6_method_6_code
def yX4_readCock : MethodName := ⟨RX4, "readCock", "()V"⟩
abbrev cX4_readWind : ByteArray := prog_6_method_7_code
def yX4_readWind : MethodName := ⟨RX4, "readWind", "()V"⟩
abbrev cX4_figure : ByteArray := prog_6_method_8_code
def yX4_figure : MethodName := ⟨RX4, "figure", "(I)I"⟩
def RX5 : String := "CockWar$Sights"
def TX5 : u_T := fun k => match k with
  | 0 => ("CockWar$Sights", "cocks", "[I", true)
  | 1 => ("CockWar$Sights", "ways", "[I", true)
  | _ => ("CockWar$Sights", "number", "I", false)
def tyX5 : Nat → FieldType := fun k => match k with
  | 0 => .array .int
  | 1 => .array .int
  | _ => .int
abbrev wsX50 : List Cond := u_ws RX5 TX5 3
theorem nmX5 : ∀ a, a < 3 → ∀ b, b < 3 → a ≠ b → (TX5 a).2.1 ≠ (TX5 b).2.1 := by decide +kernel
theorem tyX5_ok : ∀ k, k < 3 → parseFieldDescriptor (TX5 k).2.2.1 = some (tyX5 k) := by decide +kernel
abbrev cX5_init : ByteArray := prog_7_method_1_code
def yX5_init : MethodName := ⟨RX5, "<init>", "()V"⟩
abbrev cX5_add : ByteArray := prog_7_method_2_code
def yX5_add : MethodName := ⟨RX5, "add", "(II)I"⟩
abbrev cX5_agree : ByteArray := prog_7_method_3_code
def yX5_agree : MethodName := ⟨RX5, "agree", "(LCockWar$Hill;I)Z"⟩
def RX6 : String := "CockWar$Slots"
def TX6 : u_T := fun k => match k with
  | 0 => ("CockWar$Slots", "kept", "[LCockWar$Hill;", true)
  | _ => ("CockWar$Slots", "filled", "I", false)
def tyX6 : Nat → FieldType := fun k => match k with
  | 0 => .array (.object "CockWar$Hill")
  | _ => .int
abbrev wsX60 : List Cond := u_ws RX6 TX6 2
theorem nmX6 : ∀ a, a < 2 → ∀ b, b < 2 → a ≠ b → (TX6 a).2.1 ≠ (TX6 b).2.1 := by decide +kernel
theorem tyX6_ok : ∀ k, k < 2 → parseFieldDescriptor (TX6 k).2.2.1 = some (tyX6 k) := by decide +kernel
abbrev cX6_init : ByteArray := prog_8_method_1_code
def yX6_init : MethodName := ⟨RX6, "<init>", "()V"⟩
abbrev cX6_forget : ByteArray := prog_8_method_2_code
def yX6_forget : MethodName := ⟨RX6, "forget", "()V"⟩
abbrev cX6_store : ByteArray := prog_8_method_3_code
def yX6_store : MethodName := ⟨RX6, "store", "(ILCockWar$Hill;)I"⟩
abbrev cX6_fetch : ByteArray := prog_8_method_4_code
def yX6_fetch : MethodName := ⟨RX6, "fetch", "(ILCockWar$Hill;)I"⟩
def RX7 : String := "CockWar"
def TX7 : u_T := fun k => match k with
  | 0 => ("CockWar", "reader", "LCockWar$Reader;", true)
  | 1 => ("CockWar", "now", "LCockWar$Hill;", true)
  | 2 => ("CockWar", "air", "LCockWar$Air;", true)
  | 3 => ("CockWar", "acts", "LCockWar$ActRow;", true)
  | 4 => ("CockWar", "sights", "LCockWar$Sights;", true)
  | 5 => ("CockWar", "slots", "LCockWar$Slots;", true)
  | 6 => ("CockWar", "plan", "LCockWar$Plan;", true)
  | 7 => ("CockWar", "trial", "LCockWar$Hill;", true)
  | _ => ("CockWar", "drawn", "J", false)
def tyX7 : Nat → FieldType := fun k => match k with
  | 0 => .object "CockWar$Reader"
  | 1 => .object "CockWar$Hill"
  | 2 => .object "CockWar$Air"
  | 3 => .object "CockWar$ActRow"
  | 4 => .object "CockWar$Sights"
  | 5 => .object "CockWar$Slots"
  | 6 => .object "CockWar$Plan"
  | 7 => .object "CockWar$Hill"
  | _ => .long
abbrev wsX70 : List Cond := u_ws RX7 TX7 9
theorem nmX7 : ∀ a, a < 9 → ∀ b, b < 9 → a ≠ b → (TX7 a).2.1 ≠ (TX7 b).2.1 := by decide +kernel
theorem tyX7_ok : ∀ k, k < 9 → parseFieldDescriptor (TX7 k).2.2.1 = some (tyX7 k) := by decide +kernel
abbrev cX7_init : ByteArray := prog_1_method_1_code
def yX7_init : MethodName := ⟨RX7, "<init>", "()V"⟩
abbrev cX7_write : ByteArray := prog_1_method_2_code
def yX7_write : MethodName := ⟨RX7, "write", "(I)I"⟩
abbrev cX7_wipe : ByteArray := prog_1_method_3_code
def yX7_wipe : MethodName := ⟨RX7, "wipe", "()I"⟩
abbrev cX7_fault : ByteArray := prog_1_method_4_code
def yX7_fault : MethodName := ⟨RX7, "fault", "()I"⟩
abbrev cX7_hill : ByteArray := prog_1_method_5_code
def yX7_hill : MethodName := ⟨RX7, "hill", "()I"⟩
abbrev cX7_tree : ByteArray := prog_1_method_6_code
def yX7_tree : MethodName := ⟨RX7, "tree", "(I)I"⟩
abbrev cX7_cock : ByteArray := prog_1_method_7_code
def yX7_cock : MethodName := ⟨RX7, "cock", "(II)I"⟩
abbrev cX7_wind : ByteArray := prog_1_method_8_code
def yX7_wind : MethodName := ⟨RX7, "wind", "(II)I"⟩
abbrev cX7_blow : ByteArray := prog_1_method_9_code
def yX7_blow : MethodName := ⟨RX7, "blow", "(I)I"⟩
abbrev cX7_fell : ByteArray := prog_1_method_10_code
def yX7_fell : MethodName := ⟨RX7, "fell", "(I)I"⟩
abbrev cX7_move : ByteArray := prog_1_method_11_code
def yX7_move : MethodName := ⟨RX7, "move", "(II)I"⟩
abbrev cX7_grease : ByteArray := prog_1_method_12_code
def yX7_grease : MethodName := ⟨RX7, "grease", "(I)I"⟩
abbrev cX7_capture : ByteArray := prog_1_method_13_code
def yX7_capture : MethodName := ⟨RX7, "capture", "(I)I"⟩
abbrev cX7_hold : ByteArray := prog_1_method_14_code
def yX7_hold : MethodName := ⟨RX7, "hold", "(I)I"⟩
abbrev cX7_undo : ByteArray := prog_1_method_15_code
def yX7_undo : MethodName := ⟨RX7, "undo", "()I"⟩
abbrev cX7_under : ByteArray := prog_1_method_16_code
def yX7_under : MethodName := ⟨RX7, "under", "(I)I"⟩
abbrev cX7_year : ByteArray := prog_1_method_17_code
def yX7_year : MethodName := ⟨RX7, "year", "(I)I"⟩
abbrev cX7_placing : ByteArray := prog_1_method_18_code
def yX7_placing : MethodName := ⟨RX7, "placing", "(II)I"⟩
abbrev cX7_trees : ByteArray := prog_1_method_19_code
def yX7_trees : MethodName := ⟨RX7, "trees", "(II)I"⟩
abbrev cX7_decides : ByteArray := prog_1_method_20_code
def yX7_decides : MethodName := ⟨RX7, "decides", "(I)I"⟩
abbrev cX7_power : ByteArray := prog_1_method_21_code
def yX7_power : MethodName := ⟨RX7, "power", "(I)I"⟩
abbrev cX7_judge : ByteArray := prog_1_method_22_code
def yX7_judge : MethodName := ⟨RX7, "judge", "(II)I"⟩
abbrev cX7_see : ByteArray := prog_1_method_23_code
def yX7_see : MethodName := ⟨RX7, "see", "(II)I"⟩
abbrev cX7_unsee : ByteArray := prog_1_method_24_code
def yX7_unsee : MethodName := ⟨RX7, "unsee", "()I"⟩
abbrev cX7_strings : ByteArray := prog_1_method_25_code
def yX7_strings : MethodName := ⟨RX7, "strings", "(II)I"⟩
abbrev cX7_winds : ByteArray := prog_1_method_26_code
def yX7_winds : MethodName := ⟨RX7, "winds", "()I"⟩
abbrev cX7_rests : ByteArray := prog_1_method_27_code
def yX7_rests : MethodName := ⟨RX7, "rests", "(II)I"⟩
abbrev cX7_frost : ByteArray := prog_1_method_28_code
def yX7_frost : MethodName := ⟨RX7, "frost", "(IIZ)I"⟩
abbrev cX7_seed : ByteArray := prog_1_method_29_code
def yX7_seed : MethodName := ⟨RX7, "seed", "(J)J"⟩
abbrev cX7_years : ByteArray := prog_1_method_30_code
def yX7_years : MethodName := ⟨RX7, "years", "(I)I"⟩
abbrev cX7_keep : ByteArray := prog_1_method_31_code
def yX7_keep : MethodName := ⟨RX7, "keep", "(I)I"⟩
abbrev cX7_again : ByteArray := prog_1_method_32_code
def yX7_again : MethodName := ⟨RX7, "again", "(I)I"⟩
abbrev cX7_count : ByteArray := prog_1_method_33_code
def yX7_count : MethodName := ⟨RX7, "count", "(I)I"⟩
abbrev cX7_mayHold : ByteArray := prog_1_method_34_code
def yX7_mayHold : MethodName := ⟨RX7, "mayHold", "(II)Z"⟩
abbrev cX7_brookHeld : ByteArray := prog_1_method_35_code
def yX7_brookHeld : MethodName := ⟨RX7, "brookHeld", "(III)I"⟩
abbrev cX7_isAtRest : ByteArray := prog_1_method_36_code
def yX7_isAtRest : MethodName := ⟨RX7, "isAtRest", "(III)Z"⟩
abbrev cX7_waysToFreeze : ByteArray := prog_1_method_37_code
def yX7_waysToFreeze : MethodName := ⟨RX7, "waysToFreeze", "(II)I"⟩
abbrev cX7_commonDivisor : ByteArray := prog_1_method_38_code
def yX7_commonDivisor : MethodName := ⟨RX7, "commonDivisor", "(II)I"⟩
abbrev cX7_cutFigures : ByteArray := prog_1_method_39_code
def yX7_cutFigures : MethodName := ⟨RX7, "cutFigures", "(II)I"⟩
abbrev cX7_isCell : ByteArray := prog_1_method_40_code
def yX7_isCell : MethodName := ⟨RX7, "isCell", "(I)Z"⟩
abbrev cX7_isParish : ByteArray := prog_1_method_41_code
def yX7_isParish : MethodName := ⟨RX7, "isParish", "(I)Z"⟩
abbrev cX7_bit : ByteArray := prog_1_method_42_code
def yX7_bit : MethodName := ⟨RX7, "bit", "(II)I"⟩
abbrev cX7_at : ByteArray := prog_1_method_43_code
def yX7_at : MethodName := ⟨RX7, "at", "([II)I"⟩
abbrev cX7_put : ByteArray := prog_1_method_44_code
def yX7_put : MethodName := ⟨RX7, "put", "([III)V"⟩
abbrev cX7_copyRow : ByteArray := prog_1_method_45_code
def yX7_copyRow : MethodName := ⟨RX7, "copyRow", "([I[I)V"⟩
def RX8 : String := "CockWarModel"
def TX8 : u_T := fun k => match k with
  | 0 => ("CockWarModel", "cocks", "I", false)
  | 1 => ("CockWarModel", "winds", "I", false)
  | 2 => ("CockWarModel", "high", "[I", true)
  | 3 => ("CockWarModel", "weight", "[I", true)
  | 4 => ("CockWarModel", "wind", "[I", true)
  | 5 => ("CockWarModel", "now", "[I", true)
  | 6 => ("CockWarModel", "read", "[I", true)
  | 7 => ("CockWarModel", "readHigh", "[I", true)
  | 8 => ("CockWarModel", "readWeight", "[I", true)
  | 9 => ("CockWarModel", "readWind", "[I", true)
  | 10 => ("CockWarModel", "readCocks", "I", false)
  | 11 => ("CockWarModel", "readWinds", "I", false)
  | 12 => ("CockWarModel", "readTrees", "I", false)
  | 13 => ("CockWarModel", "readCells", "I", false)
  | 14 => ("CockWarModel", "text", "[I", true)
  | 15 => ("CockWarModel", "length", "I", false)
  | 16 => ("CockWarModel", "at", "I", false)
  | 17 => ("CockWarModel", "faultAt", "I", false)
  | 18 => ("CockWarModel", "acts", "I", false)
  | 19 => ("CockWarModel", "next", "I", false)
  | 20 => ("CockWarModel", "row", "[I", true)
  | 21 => ("CockWarModel", "bestYear", "I", false)
  | 22 => ("CockWarModel", "bestCock", "I", false)
  | 23 => ("CockWarModel", "bestCell", "I", false)
  | 24 => ("CockWarModel", "bestTree", "I", false)
  | 25 => ("CockWarModel", "seen", "I", false)
  | 26 => ("CockWarModel", "seenOf", "[I", true)
  | 27 => ("CockWarModel", "seenTo", "[I", true)
  | 28 => ("CockWarModel", "seed", "J", false)
  | 29 => ("CockWarModel", "isKept", "[Z", true)
  | _ => ("CockWarModel", "kept", "[I", true)
def tyX8 : Nat → FieldType := fun k => match k with
  | 0 => .int
  | 1 => .int
  | 2 => .array .int
  | 3 => .array .int
  | 4 => .array .int
  | 5 => .array .int
  | 6 => .array .int
  | 7 => .array .int
  | 8 => .array .int
  | 9 => .array .int
  | 10 => .int
  | 11 => .int
  | 12 => .int
  | 13 => .int
  | 14 => .array .int
  | 15 => .int
  | 16 => .int
  | 17 => .int
  | 18 => .int
  | 19 => .int
  | 20 => .array .int
  | 21 => .int
  | 22 => .int
  | 23 => .int
  | 24 => .int
  | 25 => .int
  | 26 => .array .int
  | 27 => .array .int
  | 28 => .long
  | 29 => .array .boolean
  | _ => .array .int
abbrev wsX80 : List Cond := u_ws RX8 TX8 31
theorem nmX8 : ∀ a, a < 31 → ∀ b, b < 31 → a ≠ b → (TX8 a).2.1 ≠ (TX8 b).2.1 := by decide +kernel
theorem tyX8_ok : ∀ k, k < 31 → parseFieldDescriptor (TX8 k).2.2.1 = some (tyX8 k) := by decide +kernel
abbrev cX8_init : ByteArray := prog_10_method_1_code
def yX8_init : MethodName := ⟨RX8, "<init>", "()V"⟩
abbrev cX8_in : ByteArray := prog_10_method_3_code
def yX8_in : MethodName := ⟨RX8, "in", "(JJJ)Z"⟩
abbrev cX8_has : ByteArray := prog_10_method_4_code
def yX8_has : MethodName := ⟨RX8, "has", "(II)Z"⟩
abbrev cX8_ones : ByteArray := prog_10_method_5_code
def yX8_ones : MethodName := ⟨RX8, "ones", "(I)I"⟩
abbrev cX8_write : ByteArray := prog_10_method_6_code
def yX8_write : MethodName := ⟨RX8, "write", "(I)I"⟩
abbrev cX8_wipe : ByteArray := prog_10_method_7_code
def yX8_wipe : MethodName := ⟨RX8, "wipe", "()I"⟩
abbrev cX8_figure : ByteArray := prog_10_method_8_code
def yX8_figure : MethodName := ⟨RX8, "figure", "(II)I"⟩
abbrev cX8_figureOf : ByteArray := prog_10_method_9_code
def yX8_figureOf : MethodName := ⟨RX8, "figureOf", "(I)I"⟩
abbrev cX8_readText : ByteArray := prog_10_method_10_code
def yX8_readText : MethodName := ⟨RX8, "readText", "()I"⟩
abbrev cX8_readPart : ByteArray := prog_10_method_11_code
def yX8_readPart : MethodName := ⟨RX8, "readPart", "(I)V"⟩
abbrev cX8_readCock : ByteArray := prog_10_method_12_code
def yX8_readCock : MethodName := ⟨RX8, "readCock", "()V"⟩
abbrev cX8_fault : ByteArray := prog_10_method_13_code
def yX8_fault : MethodName := ⟨RX8, "fault", "()I"⟩
abbrev cX8_hill : ByteArray := prog_10_method_14_code
def yX8_hill : MethodName := ⟨RX8, "hill", "()I"⟩
abbrev cX8_isCock : ByteArray := prog_10_method_15_code
def yX8_isCock : MethodName := ⟨RX8, "isCock", "(I)Z"⟩
abbrev cX8_isWind : ByteArray := prog_10_method_16_code
def yX8_isWind : MethodName := ⟨RX8, "isWind", "(I)Z"⟩
abbrev cX8_tree : ByteArray := prog_10_method_17_code
def yX8_tree : MethodName := ⟨RX8, "tree", "(I)I"⟩
abbrev cX8_cock : ByteArray := prog_10_method_18_code
def yX8_cock : MethodName := ⟨RX8, "cock", "(II)I"⟩
abbrev cX8_isSheltered : ByteArray := prog_10_method_19_code
def yX8_isSheltered : MethodName := ⟨RX8, "isSheltered", "(III)Z"⟩
abbrev cX8_pointsBy : ByteArray := prog_10_method_20_code
def yX8_pointsBy : MethodName := ⟨RX8, "pointsBy", "(III)I"⟩
abbrev cX8_weightOf : ByteArray := prog_10_method_21_code
def yX8_weightOf : MethodName := ⟨RX8, "weightOf", "(III)I"⟩
abbrev cX8_brookBy : ByteArray := prog_10_method_22_code
def yX8_brookBy : MethodName := ⟨RX8, "brookBy", "(II)I"⟩
abbrev cX8_blowOn : ByteArray := prog_10_method_23_code
def yX8_blowOn : MethodName := ⟨RX8, "blowOn", "(II)V"⟩
abbrev cX8_wind : ByteArray := prog_10_method_24_code
def yX8_wind : MethodName := ⟨RX8, "wind", "(II)I"⟩
abbrev cX8_keepAct : ByteArray := prog_10_method_25_code
def yX8_keepAct : MethodName := ⟨RX8, "keepAct", "()V"⟩
abbrev cX8_blow : ByteArray := prog_10_method_26_code
def yX8_blow : MethodName := ⟨RX8, "blow", "(I)I"⟩
abbrev cX8_fell : ByteArray := prog_10_method_27_code
def yX8_fell : MethodName := ⟨RX8, "fell", "(I)I"⟩
abbrev cX8_isCockOn : ByteArray := prog_10_method_28_code
def yX8_isCockOn : MethodName := ⟨RX8, "isCockOn", "(I)Z"⟩
abbrev cX8_move : ByteArray := prog_10_method_29_code
def yX8_move : MethodName := ⟨RX8, "move", "(II)I"⟩
abbrev cX8_grease : ByteArray := prog_10_method_30_code
def yX8_grease : MethodName := ⟨RX8, "grease", "(I)I"⟩
abbrev cX8_capture : ByteArray := prog_10_method_31_code
def yX8_capture : MethodName := ⟨RX8, "capture", "(I)I"⟩
abbrev cX8_hold : ByteArray := prog_10_method_32_code
def yX8_hold : MethodName := ⟨RX8, "hold", "(I)I"⟩
abbrev cX8_undo : ByteArray := prog_10_method_33_code
def yX8_undo : MethodName := ⟨RX8, "undo", "()I"⟩
abbrev cX8_underOf : ByteArray := prog_10_method_34_code
def yX8_underOf : MethodName := ⟨RX8, "underOf", "(III)I"⟩
abbrev cX8_under : ByteArray := prog_10_method_35_code
def yX8_under : MethodName := ⟨RX8, "under", "(I)I"⟩
abbrev cX8_yearOf : ByteArray := prog_10_method_36_code
def yX8_yearOf : MethodName := ⟨RX8, "yearOf", "(I)I"⟩
abbrev cX8_year : ByteArray := prog_10_method_37_code
def yX8_year : MethodName := ⟨RX8, "year", "(I)I"⟩
abbrev cX8_tryTrees : ByteArray := prog_10_method_38_code
def yX8_tryTrees : MethodName := ⟨RX8, "tryTrees", "(III)V"⟩
abbrev cX8_placing : ByteArray := prog_10_method_39_code
def yX8_placing : MethodName := ⟨RX8, "placing", "(II)I"⟩
abbrev cX8_layTrial : ByteArray := prog_10_method_40_code
def yX8_layTrial : MethodName := ⟨RX8, "layTrial", "()V"⟩
abbrev cX8_treesNow : ByteArray := prog_10_method_41_code
def yX8_treesNow : MethodName := ⟨RX8, "treesNow", "()I"⟩
abbrev cX8_trees : ByteArray := prog_10_method_42_code
def yX8_trees : MethodName := ⟨RX8, "trees", "(II)I"⟩
abbrev cX8_decides : ByteArray := prog_10_method_43_code
def yX8_decides : MethodName := ⟨RX8, "decides", "(I)I"⟩
abbrev cX8_power : ByteArray := prog_10_method_44_code
def yX8_power : MethodName := ⟨RX8, "power", "(I)I"⟩
abbrev cX8_tenTo : ByteArray := prog_10_method_45_code
def yX8_tenTo : MethodName := ⟨RX8, "tenTo", "(I)I"⟩
abbrev cX8_judge : ByteArray := prog_10_method_46_code
def yX8_judge : MethodName := ⟨RX8, "judge", "(II)I"⟩
abbrev cX8_see : ByteArray := prog_10_method_47_code
def yX8_see : MethodName := ⟨RX8, "see", "(II)I"⟩
abbrev cX8_unsee : ByteArray := prog_10_method_48_code
def yX8_unsee : MethodName := ⟨RX8, "unsee", "()I"⟩
abbrev cX8_isSeen : ByteArray := prog_10_method_49_code
def yX8_isSeen : MethodName := ⟨RX8, "isSeen", "(II)Z"⟩
abbrev cX8_strings : ByteArray := prog_10_method_50_code
def yX8_strings : MethodName := ⟨RX8, "strings", "(II)I"⟩
abbrev cX8_winds : ByteArray := prog_10_method_51_code
def yX8_winds : MethodName := ⟨RX8, "winds", "()I"⟩
abbrev cX8_isChoice : ByteArray := prog_10_method_52_code
def yX8_isChoice : MethodName := ⟨RX8, "isChoice", "(II)Z"⟩
abbrev cX8_heldBy : ByteArray := prog_10_method_53_code
def yX8_heldBy : MethodName := ⟨RX8, "heldBy", "(III)I"⟩
abbrev cX8_isRest : ByteArray := prog_10_method_54_code
def yX8_isRest : MethodName := ⟨RX8, "isRest", "(III)Z"⟩
abbrev cX8_rests : ByteArray := prog_10_method_55_code
def yX8_rests : MethodName := ⟨RX8, "rests", "(II)I"⟩
abbrev cX8_common : ByteArray := prog_10_method_56_code
def yX8_common : MethodName := ⟨RX8, "common", "(II)I"⟩
abbrev cX8_frost : ByteArray := prog_10_method_57_code
def yX8_frost : MethodName := ⟨RX8, "frost", "(IIZ)I"⟩
abbrev cX8_seed : ByteArray := prog_10_method_58_code
def yX8_seed : MethodName := ⟨RX8, "seed", "(J)J"⟩
abbrev cX8_years : ByteArray := prog_10_method_59_code
def yX8_years : MethodName := ⟨RX8, "years", "(I)I"⟩
abbrev cX8_keep : ByteArray := prog_10_method_60_code
def yX8_keep : MethodName := ⟨RX8, "keep", "(I)I"⟩
abbrev cX8_again : ByteArray := prog_10_method_61_code
def yX8_again : MethodName := ⟨RX8, "again", "(I)I"⟩
abbrev cX8_count : ByteArray := prog_10_method_62_code
def yX8_count : MethodName := ⟨RX8, "count", "(I)I"⟩
def RJ6 : String := "java/lang/Integer"
def TJ6 : u_T := fun k => match k with
  | _ => ("", "", "", false)
def tyJ6 : Nat → FieldType := fun k => match k with
  | _ => .int
abbrev wsJ60 : List Cond := u_ws RJ6 TJ6 0
theorem nmJ6 : ∀ a, a < 0 → ∀ b, b < 0 → a ≠ b → (TJ6 a).2.1 ≠ (TJ6 b).2.1 := by decide +kernel
theorem tyJ6_ok : ∀ k, k < 0 → parseFieldDescriptor (TJ6 k).2.2.1 = some (tyJ6 k) := by decide +kernel
abbrev cJ6_bitCount_0f7a4 : ByteArray := prog_11_method_49_code
def yJ6_bitCount_0f7a4 : MethodName := ⟨RJ6, "bitCount", "(I)I"⟩
def RL : String := "CockWarLaw"
abbrev cL_law : ByteArray := code
def yL_law : MethodName := ⟨RL, "law", "([I)Z"⟩
def wsX2_init : List Cond := .code yX2_init cX2_init 1 none :: ([.methodLink RX2 3 objectInit, .instanceMethod objectInit, .code objectInit ⟨#[0xb1]⟩ 1 none, .arrayClass .int, .fieldLink RX2 9 "CockWar$Hill" "trees" "[I", .fieldLink RX2 15 "CockWar$Hill" "cells" "[I", .fieldLink RX2 18 "CockWar$Hill" "heights" "[I", .fieldLink RX2 21 "CockWar$Hill" "rusts" "[I", .fieldLink RX2 24 "CockWar$Hill" "weights" "[I"] ++ wsX20)
def wsX0_init : List Cond := .code yX0_init cX0_init 2 none :: ([.methodLink RX0 3 objectInit, .instanceMethod objectInit, .code objectInit ⟨#[0xb1]⟩ 1 none, .classLink RX0 9 RX2, .fieldLink RX0 11 "CockWar$ActRow" "before" "[LCockWar$Hill;", .instantiable RX2 11, .initialized RX2, .instanceMethod yX2_init, .code yX2_init cX2_init 1 none, .methodLink RX2 3 objectInit, .arrayClass .int, .fieldLink RX2 9 "CockWar$Hill" "trees" "[I", .fieldLink RX2 15 "CockWar$Hill" "cells" "[I", .fieldLink RX2 18 "CockWar$Hill" "heights" "[I", .fieldLink RX2 21 "CockWar$Hill" "rusts" "[I", .fieldLink RX2 24 "CockWar$Hill" "weights" "[I"] ++ wsX00 ++ wsX20)
def wsX0_forget : List Cond := .code yX0_forget cX0_forget 1 none :: ([.fieldLink RX0 18 "CockWar$ActRow" "number" "I"] ++ wsX00)
def wsX7_copyRow : List Cond := .code yX7_copyRow cX7_copyRow 3 none :: ([])
def wsX2_copyFrom : List Cond := .code yX2_copyFrom cX2_copyFrom 2 none :: ([.fieldLink RX2 9 "CockWar$Hill" "trees" "[I", .fieldLink RX2 15 "CockWar$Hill" "cells" "[I", .fieldLink RX2 18 "CockWar$Hill" "heights" "[I", .fieldLink RX2 21 "CockWar$Hill" "rusts" "[I", .fieldLink RX2 24 "CockWar$Hill" "weights" "[I", .fieldLink RX2 27 "CockWar$Hill" "cocks" "I", .fieldLink RX2 31 "CockWar$Hill" "parishes" "I", .fieldLink RX2 34 "CockWar$Hill" "ways" "I", .fieldLink RX2 37 "CockWar$Hill" "held" "I", .fieldLink RX2 40 "CockWar$Hill" "brook" "I", .fieldLink RX2 43 "CockWar$Hill" "days" "I", .static yX7_copyRow, .initialized RX7, .code yX7_copyRow cX7_copyRow 3 none] ++ wsX20)
def wsX0_remember : List Cond := .code yX0_remember cX0_remember 3 none :: ([.fieldLink RX0 18 "CockWar$ActRow" "number" "I", .fieldLink RX0 22 "CockWar$ActRow" "oldest" "I", .fieldLink RX0 11 "CockWar$ActRow" "before" "[LCockWar$Hill;", .instanceMethod yX2_copyFrom, .initialized RX2, .selects RX2 yX2_copyFrom yX2_copyFrom, .code yX2_copyFrom cX2_copyFrom 2 none, .fieldLink RX2 9 "CockWar$Hill" "trees" "[I", .fieldLink RX2 15 "CockWar$Hill" "cells" "[I", .fieldLink RX2 18 "CockWar$Hill" "heights" "[I", .fieldLink RX2 21 "CockWar$Hill" "rusts" "[I", .fieldLink RX2 24 "CockWar$Hill" "weights" "[I", .fieldLink RX2 27 "CockWar$Hill" "cocks" "I", .fieldLink RX2 31 "CockWar$Hill" "parishes" "I", .fieldLink RX2 34 "CockWar$Hill" "ways" "I", .fieldLink RX2 37 "CockWar$Hill" "held" "I", .fieldLink RX2 40 "CockWar$Hill" "brook" "I", .fieldLink RX2 43 "CockWar$Hill" "days" "I", .static yX7_copyRow, .initialized RX7, .code yX7_copyRow cX7_copyRow 3 none] ++ wsX00 ++ wsX20)
def wsX0_takeBack : List Cond := .code yX0_takeBack cX0_takeBack 3 (some .int) :: ([.fieldLink RX0 18 "CockWar$ActRow" "number" "I", .fieldLink RX0 22 "CockWar$ActRow" "oldest" "I", .fieldLink RX0 11 "CockWar$ActRow" "before" "[LCockWar$Hill;", .instanceMethod yX2_copyFrom, .initialized RX2, .selects RX2 yX2_copyFrom yX2_copyFrom, .code yX2_copyFrom cX2_copyFrom 2 none, .fieldLink RX2 9 "CockWar$Hill" "trees" "[I", .fieldLink RX2 15 "CockWar$Hill" "cells" "[I", .fieldLink RX2 18 "CockWar$Hill" "heights" "[I", .fieldLink RX2 21 "CockWar$Hill" "rusts" "[I", .fieldLink RX2 24 "CockWar$Hill" "weights" "[I", .fieldLink RX2 27 "CockWar$Hill" "cocks" "I", .fieldLink RX2 31 "CockWar$Hill" "parishes" "I", .fieldLink RX2 34 "CockWar$Hill" "ways" "I", .fieldLink RX2 37 "CockWar$Hill" "held" "I", .fieldLink RX2 40 "CockWar$Hill" "brook" "I", .fieldLink RX2 43 "CockWar$Hill" "days" "I", .static yX7_copyRow, .initialized RX7, .code yX7_copyRow cX7_copyRow 3 none] ++ wsX00 ++ wsX20)
def wsX1_init : List Cond := .code yX1_init cX1_init 1 none :: ([.methodLink RX1 3 objectInit, .instanceMethod objectInit, .code objectInit ⟨#[0xb1]⟩ 1 none, .arrayClass .int, .fieldLink RX1 9 "CockWar$Air" "goals" "[I", .fieldLink RX1 15 "CockWar$Air" "strengths" "[I", .fieldLink RX1 18 "CockWar$Air" "days" "[I"] ++ wsX10)
def wsX1_copyFrom : List Cond := .code yX1_copyFrom cX1_copyFrom 2 none :: ([.fieldLink RX1 9 "CockWar$Air" "goals" "[I", .fieldLink RX1 15 "CockWar$Air" "strengths" "[I", .fieldLink RX1 18 "CockWar$Air" "days" "[I", .fieldLink RX1 25 "CockWar$Air" "winds" "I", .static yX7_copyRow, .initialized RX7, .code yX7_copyRow cX7_copyRow 3 none] ++ wsX10)
def wsX7_put : List Cond := .code yX7_put cX7_put 3 none :: ([])
def wsX1_addWind : List Cond := .code yX1_addWind cX1_addWind 4 none :: ([.fieldLink RX1 9 "CockWar$Air" "goals" "[I", .fieldLink RX1 25 "CockWar$Air" "winds" "I", .fieldLink RX1 15 "CockWar$Air" "strengths" "[I", .fieldLink RX1 18 "CockWar$Air" "days" "[I", .static yX7_put, .initialized RX7, .code yX7_put cX7_put 3 none] ++ wsX10)
def wsX1_hasWind : List Cond := .code yX1_hasWind cX1_hasWind 2 (some .boolean) :: ([.fieldLink RX1 25 "CockWar$Air" "winds" "I"] ++ wsX10)
def wsX7_at : List Cond := .code yX7_at cX7_at 2 (some .int) :: ([])
def wsX7_bit : List Cond := .code yX7_bit cX7_bit 2 (some .int) :: ([])
def wsX2_yieldingTo : List Cond := .code yX2_yieldingTo cX2_yieldingTo 8 (some .int) :: ([.fieldLink RX2 27 "CockWar$Hill" "cocks" "I", .fieldLink RX2 15 "CockWar$Hill" "cells" "[I", .fieldLink RX2 9 "CockWar$Hill" "trees" "[I", .fieldLink RX2 21 "CockWar$Hill" "rusts" "[I", .fieldLink RX2 18 "CockWar$Hill" "heights" "[I", .static yX7_at, .initialized RX7, .code yX7_at cX7_at 2 (some .int), .static yX7_bit, .code yX7_bit cX7_bit 2 (some .int)] ++ wsX20)
def wsX1_waysBehind : List Cond := .code yX1_waysBehind cX1_waysBehind 7 (some .int) :: ([.fieldLink RX1 9 "CockWar$Air" "goals" "[I", .fieldLink RX1 15 "CockWar$Air" "strengths" "[I", .static yX7_at, .initialized RX7, .code yX7_at cX7_at 2 (some .int), .instanceMethod yX2_yieldingTo, .initialized RX2, .selects RX2 yX2_yieldingTo yX2_yieldingTo, .code yX2_yieldingTo cX2_yieldingTo 8 (some .int), .fieldLink RX2 27 "CockWar$Hill" "cocks" "I", .fieldLink RX2 15 "CockWar$Hill" "cells" "[I", .fieldLink RX2 9 "CockWar$Hill" "trees" "[I", .fieldLink RX2 21 "CockWar$Hill" "rusts" "[I", .fieldLink RX2 18 "CockWar$Hill" "heights" "[I", .static yX7_bit, .code yX7_bit cX7_bit 2 (some .int)] ++ wsX10 ++ wsX20)
def wsX2_brookBy : List Cond := .code yX2_brookBy cX2_brookBy 6 (some .int) :: ([.fieldLink RX2 31 "CockWar$Hill" "parishes" "I", .fieldLink RX2 27 "CockWar$Hill" "cocks" "I", .fieldLink RX2 24 "CockWar$Hill" "weights" "[I", .fieldLink RX2 40 "CockWar$Hill" "brook" "I", .static yX7_bit, .initialized RX7, .code yX7_bit cX7_bit 2 (some .int), .static yX7_at, .code yX7_at cX7_at 2 (some .int)] ++ wsX20)
def wsX1_brookUnder_r1 : List Cond := [Cond.methodLink RX1 46 yX1_waysBehind, Cond.instanceMethod yX1_waysBehind, Cond.selects RX1 yX1_waysBehind yX1_waysBehind, Cond.initialized RX1, Cond.code yX1_waysBehind cX1_waysBehind 7 (some .int), Cond.fieldLink RX1 9 "CockWar$Air" "goals" "[I", Cond.fieldLink RX1 15 "CockWar$Air" "strengths" "[I", Cond.static yX7_at, Cond.initialized RX7, Cond.code yX7_at cX7_at 2 (some .int), Cond.instanceMethod yX2_yieldingTo, Cond.initialized RX2, Cond.selects RX2 yX2_yieldingTo yX2_yieldingTo, Cond.code yX2_yieldingTo cX2_yieldingTo 8 (some .int), Cond.fieldLink RX2 27 "CockWar$Hill" "cocks" "I", Cond.fieldLink RX2 15 "CockWar$Hill" "cells" "[I", Cond.fieldLink RX2 9 "CockWar$Hill" "trees" "[I", Cond.fieldLink RX2 21 "CockWar$Hill" "rusts" "[I", Cond.fieldLink RX2 18 "CockWar$Hill" "heights" "[I", Cond.static yX7_bit, Cond.code yX7_bit cX7_bit 2 (some .int), Cond.instanceMethod yX2_brookBy, Cond.selects RX2 yX2_brookBy yX2_brookBy, Cond.code yX2_brookBy cX2_brookBy 6 (some .int)]
def wsX1_brookUnder_r2 : List Cond := [Cond.fieldLink RX2 31 "CockWar$Hill" "parishes" "I", Cond.fieldLink RX2 24 "CockWar$Hill" "weights" "[I", Cond.fieldLink RX2 40 "CockWar$Hill" "brook" "I"]
def wsX1_brookUnder : List Cond := .code yX1_brookUnder cX1_brookUnder 5 (some .int) :: ((wsX1_brookUnder_r1 ++ wsX1_brookUnder_r2) ++ wsX10 ++ wsX20)
def wsX1_blowOver_r1 : List Cond := [Cond.methodLink RX1 46 yX1_waysBehind, Cond.instanceMethod yX1_waysBehind, Cond.selects RX1 yX1_waysBehind yX1_waysBehind, Cond.initialized RX1, Cond.code yX1_waysBehind cX1_waysBehind 7 (some .int), Cond.fieldLink RX1 9 "CockWar$Air" "goals" "[I", Cond.fieldLink RX1 15 "CockWar$Air" "strengths" "[I", Cond.static yX7_at, Cond.initialized RX7, Cond.code yX7_at cX7_at 2 (some .int), Cond.instanceMethod yX2_yieldingTo, Cond.initialized RX2, Cond.selects RX2 yX2_yieldingTo yX2_yieldingTo, Cond.code yX2_yieldingTo cX2_yieldingTo 8 (some .int), Cond.fieldLink RX2 27 "CockWar$Hill" "cocks" "I", Cond.fieldLink RX2 15 "CockWar$Hill" "cells" "[I", Cond.fieldLink RX2 9 "CockWar$Hill" "trees" "[I", Cond.fieldLink RX2 21 "CockWar$Hill" "rusts" "[I", Cond.fieldLink RX2 18 "CockWar$Hill" "heights" "[I", Cond.static yX7_bit, Cond.code yX7_bit cX7_bit 2 (some .int), Cond.instanceMethod yX2_brookBy, Cond.selects RX2 yX2_brookBy yX2_brookBy, Cond.code yX2_brookBy cX2_brookBy 6 (some .int)]
def wsX1_blowOver_r2 : List Cond := [Cond.fieldLink RX2 31 "CockWar$Hill" "parishes" "I", Cond.fieldLink RX2 24 "CockWar$Hill" "weights" "[I", Cond.fieldLink RX2 40 "CockWar$Hill" "brook" "I"]
def wsX1_blowOver : List Cond := .code yX1_blowOver cX1_blowOver 3 (some .int) :: ((wsX1_blowOver_r1 ++ wsX1_blowOver_r2) ++ wsX20 ++ wsX10)
def wsX1_yearOf_r1 : List Cond := [Cond.fieldLink RX1 25 "CockWar$Air" "winds" "I", Cond.fieldLink RX1 18 "CockWar$Air" "days" "[I", Cond.methodLink RX1 62 yX1_brookUnder, Cond.instanceMethod yX1_brookUnder, Cond.selects RX1 yX1_brookUnder yX1_brookUnder, Cond.initialized RX1, Cond.code yX1_brookUnder cX1_brookUnder 5 (some .int), Cond.methodLink RX1 46 yX1_waysBehind, Cond.instanceMethod yX1_waysBehind, Cond.selects RX1 yX1_waysBehind yX1_waysBehind, Cond.code yX1_waysBehind cX1_waysBehind 7 (some .int), Cond.fieldLink RX1 9 "CockWar$Air" "goals" "[I", Cond.fieldLink RX1 15 "CockWar$Air" "strengths" "[I", Cond.static yX7_at, Cond.initialized RX7, Cond.code yX7_at cX7_at 2 (some .int), Cond.instanceMethod yX2_yieldingTo, Cond.initialized RX2, Cond.selects RX2 yX2_yieldingTo yX2_yieldingTo, Cond.code yX2_yieldingTo cX2_yieldingTo 8 (some .int), Cond.fieldLink RX2 27 "CockWar$Hill" "cocks" "I", Cond.fieldLink RX2 15 "CockWar$Hill" "cells" "[I", Cond.fieldLink RX2 9 "CockWar$Hill" "trees" "[I", Cond.fieldLink RX2 21 "CockWar$Hill" "rusts" "[I"]
def wsX1_yearOf_r2 : List Cond := [Cond.fieldLink RX2 18 "CockWar$Hill" "heights" "[I", Cond.static yX7_bit, Cond.code yX7_bit cX7_bit 2 (some .int), Cond.instanceMethod yX2_brookBy, Cond.selects RX2 yX2_brookBy yX2_brookBy, Cond.code yX2_brookBy cX2_brookBy 6 (some .int), Cond.fieldLink RX2 31 "CockWar$Hill" "parishes" "I", Cond.fieldLink RX2 24 "CockWar$Hill" "weights" "[I", Cond.fieldLink RX2 40 "CockWar$Hill" "brook" "I"]
def wsX1_yearOf : List Cond := .code yX1_yearOf cX1_yearOf 6 (some .int) :: ((wsX1_yearOf_r1 ++ wsX1_yearOf_r2) ++ wsX10 ++ wsX20)
def wsX1_daysInAll : List Cond := .code yX1_daysInAll cX1_daysInAll 3 (some .int) :: ([.fieldLink RX1 25 "CockWar$Air" "winds" "I", .fieldLink RX1 18 "CockWar$Air" "days" "[I", .static yX7_at, .initialized RX7, .code yX7_at cX7_at 2 (some .int)] ++ wsX10)
def wsX1_windOfDay : List Cond := .code yX1_windOfDay cX1_windOfDay 4 (some .int) :: ([.fieldLink RX1 25 "CockWar$Air" "winds" "I", .fieldLink RX1 18 "CockWar$Air" "days" "[I", .static yX7_at, .initialized RX7, .code yX7_at cX7_at 2 (some .int)] ++ wsX10)
def wsX2_clear : List Cond := .code yX2_clear cX2_clear 2 none :: ([.fieldLink RX2 9 "CockWar$Hill" "trees" "[I", .fieldLink RX2 27 "CockWar$Hill" "cocks" "I", .fieldLink RX2 31 "CockWar$Hill" "parishes" "I", .fieldLink RX2 34 "CockWar$Hill" "ways" "I", .fieldLink RX2 37 "CockWar$Hill" "held" "I", .fieldLink RX2 40 "CockWar$Hill" "brook" "I", .fieldLink RX2 43 "CockWar$Hill" "days" "I"] ++ wsX20)
def wsX2_addCock : List Cond := .code yX2_addCock cX2_addCock 7 none :: ([.fieldLink RX2 15 "CockWar$Hill" "cells" "[I", .fieldLink RX2 27 "CockWar$Hill" "cocks" "I", .fieldLink RX2 18 "CockWar$Hill" "heights" "[I", .fieldLink RX2 21 "CockWar$Hill" "rusts" "[I", .fieldLink RX2 24 "CockWar$Hill" "weights" "[I", .fieldLink RX2 31 "CockWar$Hill" "parishes" "I", .fieldLink RX2 34 "CockWar$Hill" "ways" "I", .static yX7_put, .initialized RX7, .code yX7_put cX7_put 3 none] ++ wsX20)
def wsX2_hasCock : List Cond := .code yX2_hasCock cX2_hasCock 2 (some .boolean) :: ([.fieldLink RX2 27 "CockWar$Hill" "cocks" "I"] ++ wsX20)
def wsX2_everyCock : List Cond := .code yX2_everyCock cX2_everyCock 1 (some .int) :: ([.fieldLink RX2 27 "CockWar$Hill" "cocks" "I"] ++ wsX20)
def wsX2_treeCells : List Cond := .code yX2_treeCells cX2_treeCells 3 (some .int) :: ([.fieldLink RX2 9 "CockWar$Hill" "trees" "[I"] ++ wsX20)
def wsX2_takenCells : List Cond := .code yX2_takenCells cX2_takenCells 3 (some .int) :: ([.fieldLink RX2 27 "CockWar$Hill" "cocks" "I", .fieldLink RX2 15 "CockWar$Hill" "cells" "[I", .static yX7_at, .initialized RX7, .code yX7_at cX7_at 2 (some .int)] ++ wsX20)
def wsX2_weightFor : List Cond := .code yX2_weightFor cX2_weightFor 4 (some .int) :: ([.fieldLink RX2 27 "CockWar$Hill" "cocks" "I", .fieldLink RX2 31 "CockWar$Hill" "parishes" "I", .fieldLink RX2 34 "CockWar$Hill" "ways" "I", .fieldLink RX2 24 "CockWar$Hill" "weights" "[I", .static yX7_bit, .initialized RX7, .code yX7_bit cX7_bit 2 (some .int), .static yX7_at, .code yX7_at cX7_at 2 (some .int)] ++ wsX20)
def wsX3_init : List Cond := .code yX3_init cX3_init 1 none :: ([.methodLink RX3 3 objectInit, .instanceMethod objectInit, .code objectInit ⟨#[0xb1]⟩ 1 none, .classLink RX3 9 RX2, .instantiable RX2 11, .initialized RX2, .fieldLink RX3 12 "CockWar$Plan" "trial" "LCockWar$Hill;", .instanceMethod yX2_init, .code yX2_init cX2_init 1 none, .methodLink RX2 3 objectInit, .arrayClass .int, .fieldLink RX2 9 "CockWar$Hill" "trees" "[I", .fieldLink RX2 15 "CockWar$Hill" "cells" "[I", .fieldLink RX2 18 "CockWar$Hill" "heights" "[I", .fieldLink RX2 21 "CockWar$Hill" "rusts" "[I", .fieldLink RX2 24 "CockWar$Hill" "weights" "[I"] ++ wsX20 ++ wsX30)
def wsX3_tryOne : List Cond := .code yX3_tryOne cX3_tryOne 5 none :: ([.fieldLink RX3 18 "CockWar$Plan" "days" "I", .fieldLink RX3 69 "CockWar$Plan" "cock" "I", .fieldLink RX3 72 "CockWar$Plan" "cell" "I", .fieldLink RX3 75 "CockWar$Plan" "tree" "I"] ++ wsX30)
def wsX3_tryTrees_r1 : List Cond := [Cond.fieldLink RX3 12 "CockWar$Plan" "trial" "LCockWar$Hill;", Cond.instanceMethod yX1_yearOf, Cond.initialized RX1, Cond.selects RX1 yX1_yearOf yX1_yearOf, Cond.code yX1_yearOf cX1_yearOf 6 (some .int), Cond.fieldLink RX1 25 "CockWar$Air" "winds" "I", Cond.fieldLink RX1 18 "CockWar$Air" "days" "[I", Cond.methodLink RX1 62 yX1_brookUnder, Cond.instanceMethod yX1_brookUnder, Cond.selects RX1 yX1_brookUnder yX1_brookUnder, Cond.code yX1_brookUnder cX1_brookUnder 5 (some .int), Cond.methodLink RX1 46 yX1_waysBehind, Cond.instanceMethod yX1_waysBehind, Cond.selects RX1 yX1_waysBehind yX1_waysBehind, Cond.code yX1_waysBehind cX1_waysBehind 7 (some .int), Cond.fieldLink RX1 9 "CockWar$Air" "goals" "[I", Cond.fieldLink RX1 15 "CockWar$Air" "strengths" "[I", Cond.static yX7_at, Cond.initialized RX7, Cond.code yX7_at cX7_at 2 (some .int), Cond.instanceMethod yX2_yieldingTo, Cond.initialized RX2, Cond.selects RX2 yX2_yieldingTo yX2_yieldingTo, Cond.code yX2_yieldingTo cX2_yieldingTo 8 (some .int)]
def wsX3_tryTrees_r2 : List Cond := [Cond.fieldLink RX2 27 "CockWar$Hill" "cocks" "I", Cond.fieldLink RX2 15 "CockWar$Hill" "cells" "[I", Cond.fieldLink RX2 9 "CockWar$Hill" "trees" "[I", Cond.fieldLink RX2 21 "CockWar$Hill" "rusts" "[I", Cond.fieldLink RX2 18 "CockWar$Hill" "heights" "[I", Cond.static yX7_bit, Cond.code yX7_bit cX7_bit 2 (some .int), Cond.instanceMethod yX2_brookBy, Cond.selects RX2 yX2_brookBy yX2_brookBy, Cond.code yX2_brookBy cX2_brookBy 6 (some .int), Cond.fieldLink RX2 31 "CockWar$Hill" "parishes" "I", Cond.fieldLink RX2 24 "CockWar$Hill" "weights" "[I", Cond.fieldLink RX2 40 "CockWar$Hill" "brook" "I", Cond.methodLink RX3 62 yX3_tryOne, Cond.instanceMethod yX3_tryOne, Cond.selects RX3 yX3_tryOne yX3_tryOne, Cond.initialized RX3, Cond.code yX3_tryOne cX3_tryOne 5 none, Cond.fieldLink RX3 18 "CockWar$Plan" "days" "I", Cond.fieldLink RX3 69 "CockWar$Plan" "cock" "I", Cond.fieldLink RX3 72 "CockWar$Plan" "cell" "I", Cond.fieldLink RX3 75 "CockWar$Plan" "tree" "I"]
def wsX3_tryTrees : List Cond := .code yX3_tryTrees cX3_tryTrees 6 none :: ((wsX3_tryTrees_r1 ++ wsX3_tryTrees_r2) ++ wsX30 ++ wsX20 ++ wsX10)
def wsX3_seek_r1 : List Cond := [Cond.fieldLink RX3 18 "CockWar$Plan" "days" "I", Cond.fieldLink RX3 12 "CockWar$Plan" "trial" "LCockWar$Hill;", Cond.instanceMethod yX2_copyFrom, Cond.initialized RX2, Cond.selects RX2 yX2_copyFrom yX2_copyFrom, Cond.code yX2_copyFrom cX2_copyFrom 2 none, Cond.fieldLink RX2 9 "CockWar$Hill" "trees" "[I", Cond.fieldLink RX2 15 "CockWar$Hill" "cells" "[I", Cond.fieldLink RX2 18 "CockWar$Hill" "heights" "[I", Cond.fieldLink RX2 21 "CockWar$Hill" "rusts" "[I", Cond.fieldLink RX2 24 "CockWar$Hill" "weights" "[I", Cond.fieldLink RX2 27 "CockWar$Hill" "cocks" "I", Cond.fieldLink RX2 31 "CockWar$Hill" "parishes" "I", Cond.fieldLink RX2 34 "CockWar$Hill" "ways" "I", Cond.fieldLink RX2 37 "CockWar$Hill" "held" "I", Cond.fieldLink RX2 40 "CockWar$Hill" "brook" "I", Cond.fieldLink RX2 43 "CockWar$Hill" "days" "I", Cond.static yX7_copyRow, Cond.initialized RX7, Cond.code yX7_copyRow cX7_copyRow 3 none, Cond.methodLink RX3 26 yX3_tryTrees, Cond.instanceMethod yX3_tryTrees, Cond.selects RX3 yX3_tryTrees yX3_tryTrees, Cond.initialized RX3]
def wsX3_seek_r2 : List Cond := [Cond.code yX3_tryTrees cX3_tryTrees 6 none, Cond.instanceMethod yX1_yearOf, Cond.initialized RX1, Cond.selects RX1 yX1_yearOf yX1_yearOf, Cond.code yX1_yearOf cX1_yearOf 6 (some .int), Cond.fieldLink RX1 25 "CockWar$Air" "winds" "I", Cond.fieldLink RX1 18 "CockWar$Air" "days" "[I", Cond.methodLink RX1 62 yX1_brookUnder, Cond.instanceMethod yX1_brookUnder, Cond.selects RX1 yX1_brookUnder yX1_brookUnder, Cond.code yX1_brookUnder cX1_brookUnder 5 (some .int), Cond.methodLink RX1 46 yX1_waysBehind, Cond.instanceMethod yX1_waysBehind, Cond.selects RX1 yX1_waysBehind yX1_waysBehind, Cond.code yX1_waysBehind cX1_waysBehind 7 (some .int), Cond.fieldLink RX1 9 "CockWar$Air" "goals" "[I", Cond.fieldLink RX1 15 "CockWar$Air" "strengths" "[I", Cond.static yX7_at, Cond.code yX7_at cX7_at 2 (some .int), Cond.instanceMethod yX2_yieldingTo, Cond.selects RX2 yX2_yieldingTo yX2_yieldingTo, Cond.code yX2_yieldingTo cX2_yieldingTo 8 (some .int), Cond.static yX7_bit, Cond.code yX7_bit cX7_bit 2 (some .int)]
def wsX3_seek_r3 : List Cond := [Cond.instanceMethod yX2_brookBy, Cond.selects RX2 yX2_brookBy yX2_brookBy, Cond.code yX2_brookBy cX2_brookBy 6 (some .int), Cond.methodLink RX3 62 yX3_tryOne, Cond.instanceMethod yX3_tryOne, Cond.selects RX3 yX3_tryOne yX3_tryOne, Cond.code yX3_tryOne cX3_tryOne 5 none, Cond.fieldLink RX3 69 "CockWar$Plan" "cock" "I", Cond.fieldLink RX3 72 "CockWar$Plan" "cell" "I", Cond.fieldLink RX3 75 "CockWar$Plan" "tree" "I", Cond.instanceMethod yX2_takenCells, Cond.selects RX2 yX2_takenCells yX2_takenCells, Cond.code yX2_takenCells cX2_takenCells 3 (some .int), Cond.static yX7_put, Cond.code yX7_put cX7_put 3 none]
def wsX3_seek : List Cond := .code yX3_seek cX3_seek 7 none :: ((wsX3_seek_r1 ++ (wsX3_seek_r2 ++ wsX3_seek_r3)) ++ wsX30 ++ wsX20 ++ wsX10)
def wsX4_init_r1 : List Cond := [Cond.methodLink RX4 3 objectInit, Cond.instanceMethod objectInit, Cond.code objectInit ⟨#[0xb1]⟩ 1 none, Cond.arrayClass .int, Cond.fieldLink RX4 9 "CockWar$Reader" "letters" "[I", Cond.classLink RX4 15 RX2, Cond.instantiable RX2 11, Cond.initialized RX2, Cond.fieldLink RX4 18 "CockWar$Reader" "ground" "LCockWar$Hill;", Cond.classLink RX4 22 RX1, Cond.instantiable RX1 4, Cond.initialized RX1, Cond.fieldLink RX4 25 "CockWar$Reader" "air" "LCockWar$Air;", Cond.instanceMethod yX2_init, Cond.code yX2_init cX2_init 1 none, Cond.methodLink RX2 3 objectInit, Cond.fieldLink RX2 9 "CockWar$Hill" "trees" "[I", Cond.fieldLink RX2 15 "CockWar$Hill" "cells" "[I", Cond.fieldLink RX2 18 "CockWar$Hill" "heights" "[I", Cond.fieldLink RX2 21 "CockWar$Hill" "rusts" "[I", Cond.fieldLink RX2 24 "CockWar$Hill" "weights" "[I", Cond.instanceMethod yX1_init, Cond.code yX1_init cX1_init 1 none, Cond.methodLink RX1 3 objectInit]
def wsX4_init_r2 : List Cond := [Cond.fieldLink RX1 9 "CockWar$Air" "goals" "[I", Cond.fieldLink RX1 15 "CockWar$Air" "strengths" "[I", Cond.fieldLink RX1 18 "CockWar$Air" "days" "[I"]
def wsX4_init : List Cond := .code yX4_init cX4_init 1 none :: ((wsX4_init_r1 ++ wsX4_init_r2) ++ wsX40 ++ wsX20 ++ wsX10)
def wsX4_append : List Cond := .code yX4_append cX4_append 2 (some .int) :: ([.fieldLink RX4 29 "CockWar$Reader" "length" "I", .fieldLink RX4 9 "CockWar$Reader" "letters" "[I", .static yX7_put, .initialized RX7, .code yX7_put cX7_put 3 none] ++ wsX40)
def wsX4_figure : List Cond := .code yX4_figure cX4_figure 3 (some .int) :: ([.fieldLink RX4 9 "CockWar$Reader" "letters" "[I", .fieldLink RX4 43 "CockWar$Reader" "place" "I", .fieldLink RX4 50 "CockWar$Reader" "broken" "Z", .fieldLink RX4 29 "CockWar$Reader" "length" "I", .static yX7_at, .initialized RX7, .code yX7_at cX7_at 2 (some .int), .static yX7_bit, .code yX7_bit cX7_bit 2 (some .int)] ++ wsX40)
def wsX4_readTree : List Cond := .code yX4_readTree cX4_readTree 4 none :: ([.fieldLink RX4 50 "CockWar$Reader" "broken" "Z", .fieldLink RX4 18 "CockWar$Reader" "ground" "LCockWar$Hill;", .methodLink RX4 74 yX4_figure, .instanceMethod yX4_figure, .selects RX4 yX4_figure yX4_figure, .initialized RX4, .code yX4_figure cX4_figure 3 (some .int), .fieldLink RX4 9 "CockWar$Reader" "letters" "[I", .fieldLink RX4 43 "CockWar$Reader" "place" "I", .fieldLink RX4 29 "CockWar$Reader" "length" "I", .static yX7_at, .initialized RX7, .code yX7_at cX7_at 2 (some .int), .static yX7_bit, .code yX7_bit cX7_bit 2 (some .int), .static yX7_put, .code yX7_put cX7_put 3 none] ++ wsX40 ++ wsX20)
def wsX4_readCock_r1 : List Cond := [Cond.fieldLink RX4 18 "CockWar$Reader" "ground" "LCockWar$Hill;", Cond.fieldLink RX4 50 "CockWar$Reader" "broken" "Z", Cond.instanceMethod yX2_takenCells, Cond.initialized RX2, Cond.selects RX2 yX2_takenCells yX2_takenCells, Cond.code yX2_takenCells cX2_takenCells 3 (some .int), Cond.fieldLink RX2 27 "CockWar$Hill" "cocks" "I", Cond.fieldLink RX2 15 "CockWar$Hill" "cells" "[I", Cond.static yX7_at, Cond.initialized RX7, Cond.code yX7_at cX7_at 2 (some .int), Cond.methodLink RX4 74 yX4_figure, Cond.instanceMethod yX4_figure, Cond.selects RX4 yX4_figure yX4_figure, Cond.initialized RX4, Cond.code yX4_figure cX4_figure 3 (some .int), Cond.fieldLink RX4 9 "CockWar$Reader" "letters" "[I", Cond.fieldLink RX4 43 "CockWar$Reader" "place" "I", Cond.fieldLink RX4 29 "CockWar$Reader" "length" "I", Cond.static yX7_bit, Cond.code yX7_bit cX7_bit 2 (some .int), Cond.instanceMethod yX2_addCock, Cond.selects RX2 yX2_addCock yX2_addCock, Cond.code yX2_addCock cX2_addCock 7 none]
def wsX4_readCock_r2 : List Cond := [Cond.fieldLink RX2 18 "CockWar$Hill" "heights" "[I", Cond.fieldLink RX2 21 "CockWar$Hill" "rusts" "[I", Cond.fieldLink RX2 24 "CockWar$Hill" "weights" "[I", Cond.fieldLink RX2 31 "CockWar$Hill" "parishes" "I", Cond.fieldLink RX2 34 "CockWar$Hill" "ways" "I", Cond.static yX7_put, Cond.code yX7_put cX7_put 3 none]
def wsX4_readCock : List Cond := .code yX4_readCock cX4_readCock 7 none :: ((wsX4_readCock_r1 ++ wsX4_readCock_r2) ++ wsX40 ++ wsX20)
def wsX4_readWind_r1 : List Cond := [Cond.fieldLink RX4 50 "CockWar$Reader" "broken" "Z", Cond.fieldLink RX4 25 "CockWar$Reader" "air" "LCockWar$Air;", Cond.methodLink RX4 74 yX4_figure, Cond.instanceMethod yX4_figure, Cond.selects RX4 yX4_figure yX4_figure, Cond.initialized RX4, Cond.code yX4_figure cX4_figure 3 (some .int), Cond.fieldLink RX4 9 "CockWar$Reader" "letters" "[I", Cond.fieldLink RX4 43 "CockWar$Reader" "place" "I", Cond.fieldLink RX4 29 "CockWar$Reader" "length" "I", Cond.static yX7_at, Cond.initialized RX7, Cond.code yX7_at cX7_at 2 (some .int), Cond.static yX7_bit, Cond.code yX7_bit cX7_bit 2 (some .int), Cond.instanceMethod yX1_addWind, Cond.initialized RX1, Cond.selects RX1 yX1_addWind yX1_addWind, Cond.code yX1_addWind cX1_addWind 4 none, Cond.fieldLink RX1 9 "CockWar$Air" "goals" "[I", Cond.fieldLink RX1 25 "CockWar$Air" "winds" "I", Cond.fieldLink RX1 15 "CockWar$Air" "strengths" "[I", Cond.fieldLink RX1 18 "CockWar$Air" "days" "[I", Cond.static yX7_put]
def wsX4_readWind_r2 : List Cond := [Cond.code yX7_put cX7_put 3 none]
def wsX4_readWind : List Cond := .code yX4_readWind cX4_readWind 4 none :: ((wsX4_readWind_r1 ++ wsX4_readWind_r2) ++ wsX40 ++ wsX10)
def wsX4_readPart_r1 : List Cond := [Cond.fieldLink RX4 9 "CockWar$Reader" "letters" "[I", Cond.fieldLink RX4 43 "CockWar$Reader" "place" "I", Cond.fieldLink RX4 18 "CockWar$Reader" "ground" "LCockWar$Hill;", Cond.fieldLink RX4 25 "CockWar$Reader" "air" "LCockWar$Air;", Cond.fieldLink RX4 50 "CockWar$Reader" "broken" "Z", Cond.static yX7_at, Cond.initialized RX7, Cond.code yX7_at cX7_at 2 (some .int), Cond.instanceMethod yX2_treeCells, Cond.initialized RX2, Cond.selects RX2 yX2_treeCells yX2_treeCells, Cond.code yX2_treeCells cX2_treeCells 3 (some .int), Cond.fieldLink RX2 9 "CockWar$Hill" "trees" "[I", Cond.methodLink RX4 61 yX4_readTree, Cond.instanceMethod yX4_readTree, Cond.selects RX4 yX4_readTree yX4_readTree, Cond.initialized RX4, Cond.code yX4_readTree cX4_readTree 4 none, Cond.methodLink RX4 74 yX4_figure, Cond.instanceMethod yX4_figure, Cond.selects RX4 yX4_figure yX4_figure, Cond.code yX4_figure cX4_figure 3 (some .int), Cond.fieldLink RX4 29 "CockWar$Reader" "length" "I", Cond.static yX7_bit]
def wsX4_readPart_r2 : List Cond := [Cond.code yX7_bit cX7_bit 2 (some .int), Cond.static yX7_put, Cond.code yX7_put cX7_put 3 none, Cond.methodLink RX4 68 yX4_readCock, Cond.instanceMethod yX4_readCock, Cond.selects RX4 yX4_readCock yX4_readCock, Cond.code yX4_readCock cX4_readCock 7 none, Cond.instanceMethod yX2_takenCells, Cond.selects RX2 yX2_takenCells yX2_takenCells, Cond.code yX2_takenCells cX2_takenCells 3 (some .int), Cond.fieldLink RX2 27 "CockWar$Hill" "cocks" "I", Cond.fieldLink RX2 15 "CockWar$Hill" "cells" "[I", Cond.instanceMethod yX2_addCock, Cond.selects RX2 yX2_addCock yX2_addCock, Cond.code yX2_addCock cX2_addCock 7 none, Cond.fieldLink RX2 18 "CockWar$Hill" "heights" "[I", Cond.fieldLink RX2 21 "CockWar$Hill" "rusts" "[I", Cond.fieldLink RX2 24 "CockWar$Hill" "weights" "[I", Cond.fieldLink RX2 31 "CockWar$Hill" "parishes" "I", Cond.fieldLink RX2 34 "CockWar$Hill" "ways" "I", Cond.methodLink RX4 71 yX4_readWind, Cond.instanceMethod yX4_readWind, Cond.selects RX4 yX4_readWind yX4_readWind, Cond.code yX4_readWind cX4_readWind 4 none]
def wsX4_readPart_r3 : List Cond := [Cond.instanceMethod yX1_addWind, Cond.initialized RX1, Cond.selects RX1 yX1_addWind yX1_addWind, Cond.code yX1_addWind cX1_addWind 4 none, Cond.fieldLink RX1 9 "CockWar$Air" "goals" "[I", Cond.fieldLink RX1 25 "CockWar$Air" "winds" "I", Cond.fieldLink RX1 15 "CockWar$Air" "strengths" "[I", Cond.fieldLink RX1 18 "CockWar$Air" "days" "[I"]
def wsX4_readPart : List Cond := .code yX4_readPart cX4_readPart 3 none :: ((wsX4_readPart_r1 ++ (wsX4_readPart_r2 ++ wsX4_readPart_r3)) ++ wsX40 ++ wsX20 ++ wsX10)
def wsX4_firstFault_r1 : List Cond := [Cond.fieldLink RX4 18 "CockWar$Reader" "ground" "LCockWar$Hill;", Cond.fieldLink RX4 25 "CockWar$Reader" "air" "LCockWar$Air;", Cond.fieldLink RX4 43 "CockWar$Reader" "place" "I", Cond.fieldLink RX4 29 "CockWar$Reader" "length" "I", Cond.fieldLink RX4 9 "CockWar$Reader" "letters" "[I", Cond.fieldLink RX4 50 "CockWar$Reader" "broken" "Z", Cond.instanceMethod yX2_clear, Cond.initialized RX2, Cond.selects RX2 yX2_clear yX2_clear, Cond.code yX2_clear cX2_clear 2 none, Cond.fieldLink RX2 9 "CockWar$Hill" "trees" "[I", Cond.fieldLink RX2 27 "CockWar$Hill" "cocks" "I", Cond.fieldLink RX2 31 "CockWar$Hill" "parishes" "I", Cond.fieldLink RX2 34 "CockWar$Hill" "ways" "I", Cond.fieldLink RX2 37 "CockWar$Hill" "held" "I", Cond.fieldLink RX2 40 "CockWar$Hill" "brook" "I", Cond.fieldLink RX2 43 "CockWar$Hill" "days" "I", Cond.static yX7_at, Cond.initialized RX7, Cond.code yX7_at cX7_at 2 (some .int), Cond.methodLink RX4 54 yX4_readPart, Cond.instanceMethod yX4_readPart, Cond.selects RX4 yX4_readPart yX4_readPart, Cond.initialized RX4]
def wsX4_firstFault_r2 : List Cond := [Cond.code yX4_readPart cX4_readPart 3 none, Cond.instanceMethod yX2_treeCells, Cond.selects RX2 yX2_treeCells yX2_treeCells, Cond.code yX2_treeCells cX2_treeCells 3 (some .int), Cond.methodLink RX4 61 yX4_readTree, Cond.instanceMethod yX4_readTree, Cond.selects RX4 yX4_readTree yX4_readTree, Cond.code yX4_readTree cX4_readTree 4 none, Cond.methodLink RX4 74 yX4_figure, Cond.instanceMethod yX4_figure, Cond.selects RX4 yX4_figure yX4_figure, Cond.code yX4_figure cX4_figure 3 (some .int), Cond.static yX7_bit, Cond.code yX7_bit cX7_bit 2 (some .int), Cond.static yX7_put, Cond.code yX7_put cX7_put 3 none, Cond.methodLink RX4 68 yX4_readCock, Cond.instanceMethod yX4_readCock, Cond.selects RX4 yX4_readCock yX4_readCock, Cond.code yX4_readCock cX4_readCock 7 none, Cond.instanceMethod yX2_takenCells, Cond.selects RX2 yX2_takenCells yX2_takenCells, Cond.code yX2_takenCells cX2_takenCells 3 (some .int), Cond.fieldLink RX2 15 "CockWar$Hill" "cells" "[I"]
def wsX4_firstFault_r3 : List Cond := [Cond.instanceMethod yX2_addCock, Cond.selects RX2 yX2_addCock yX2_addCock, Cond.code yX2_addCock cX2_addCock 7 none, Cond.fieldLink RX2 18 "CockWar$Hill" "heights" "[I", Cond.fieldLink RX2 21 "CockWar$Hill" "rusts" "[I", Cond.fieldLink RX2 24 "CockWar$Hill" "weights" "[I", Cond.methodLink RX4 71 yX4_readWind, Cond.instanceMethod yX4_readWind, Cond.selects RX4 yX4_readWind yX4_readWind, Cond.code yX4_readWind cX4_readWind 4 none, Cond.instanceMethod yX1_addWind, Cond.initialized RX1, Cond.selects RX1 yX1_addWind yX1_addWind, Cond.code yX1_addWind cX1_addWind 4 none, Cond.fieldLink RX1 9 "CockWar$Air" "goals" "[I", Cond.fieldLink RX1 25 "CockWar$Air" "winds" "I", Cond.fieldLink RX1 15 "CockWar$Air" "strengths" "[I", Cond.fieldLink RX1 18 "CockWar$Air" "days" "[I"]
def wsX4_firstFault : List Cond := .code yX4_firstFault cX4_firstFault 2 (some .int) :: ((wsX4_firstFault_r1 ++ (wsX4_firstFault_r2 ++ wsX4_firstFault_r3)) ++ wsX40 ++ wsX10 ++ wsX20)
def wsX5_init : List Cond := .code yX5_init cX5_init 1 none :: ([.methodLink RX5 3 objectInit, .instanceMethod objectInit, .code objectInit ⟨#[0xb1]⟩ 1 none, .arrayClass .int, .fieldLink RX5 9 "CockWar$Sights" "cocks" "[I", .fieldLink RX5 15 "CockWar$Sights" "ways" "[I"] ++ wsX50)
def wsX5_add : List Cond := .code yX5_add cX5_add 3 (some .int) :: ([.fieldLink RX5 18 "CockWar$Sights" "number" "I", .fieldLink RX5 9 "CockWar$Sights" "cocks" "[I", .fieldLink RX5 15 "CockWar$Sights" "ways" "[I", .static yX7_put, .initialized RX7, .code yX7_put cX7_put 3 none] ++ wsX50)
def wsX5_agree : List Cond := .code yX5_agree cX5_agree 5 (some .boolean) :: ([.fieldLink RX5 18 "CockWar$Sights" "number" "I", .fieldLink RX5 9 "CockWar$Sights" "cocks" "[I", .fieldLink RX5 15 "CockWar$Sights" "ways" "[I", .static yX7_at, .initialized RX7, .code yX7_at cX7_at 2 (some .int), .instanceMethod yX2_hasCock, .initialized RX2, .selects RX2 yX2_hasCock yX2_hasCock, .code yX2_hasCock cX2_hasCock 2 (some .boolean), .fieldLink RX2 27 "CockWar$Hill" "cocks" "I", .static yX7_bit, .code yX7_bit cX7_bit 2 (some .int)] ++ wsX50 ++ wsX20)
def wsX6_init : List Cond := .code yX6_init cX6_init 2 none :: ([.methodLink RX6 3 objectInit, .instanceMethod objectInit, .code objectInit ⟨#[0xb1]⟩ 1 none, .classLink RX6 9 RX2, .fieldLink RX6 11 "CockWar$Slots" "kept" "[LCockWar$Hill;", .instantiable RX2 11, .initialized RX2, .instanceMethod yX2_init, .code yX2_init cX2_init 1 none, .methodLink RX2 3 objectInit, .arrayClass .int, .fieldLink RX2 9 "CockWar$Hill" "trees" "[I", .fieldLink RX2 15 "CockWar$Hill" "cells" "[I", .fieldLink RX2 18 "CockWar$Hill" "heights" "[I", .fieldLink RX2 21 "CockWar$Hill" "rusts" "[I", .fieldLink RX2 24 "CockWar$Hill" "weights" "[I"] ++ wsX60 ++ wsX20)
def wsX6_forget : List Cond := .code yX6_forget cX6_forget 1 none :: ([.fieldLink RX6 18 "CockWar$Slots" "filled" "I"] ++ wsX60)
def wsX6_store : List Cond := .code yX6_store cX6_store 3 (some .int) :: ([.fieldLink RX6 11 "CockWar$Slots" "kept" "[LCockWar$Hill;", .fieldLink RX6 18 "CockWar$Slots" "filled" "I", .instanceMethod yX2_copyFrom, .initialized RX2, .selects RX2 yX2_copyFrom yX2_copyFrom, .code yX2_copyFrom cX2_copyFrom 2 none, .fieldLink RX2 9 "CockWar$Hill" "trees" "[I", .fieldLink RX2 15 "CockWar$Hill" "cells" "[I", .fieldLink RX2 18 "CockWar$Hill" "heights" "[I", .fieldLink RX2 21 "CockWar$Hill" "rusts" "[I", .fieldLink RX2 24 "CockWar$Hill" "weights" "[I", .fieldLink RX2 27 "CockWar$Hill" "cocks" "I", .fieldLink RX2 31 "CockWar$Hill" "parishes" "I", .fieldLink RX2 34 "CockWar$Hill" "ways" "I", .fieldLink RX2 37 "CockWar$Hill" "held" "I", .fieldLink RX2 40 "CockWar$Hill" "brook" "I", .fieldLink RX2 43 "CockWar$Hill" "days" "I", .static yX7_copyRow, .initialized RX7, .code yX7_copyRow cX7_copyRow 3 none] ++ wsX60 ++ wsX20)
def wsX6_fetch : List Cond := .code yX6_fetch cX6_fetch 3 (some .int) :: ([.fieldLink RX6 11 "CockWar$Slots" "kept" "[LCockWar$Hill;", .fieldLink RX6 18 "CockWar$Slots" "filled" "I", .static yX7_bit, .initialized RX7, .code yX7_bit cX7_bit 2 (some .int), .instanceMethod yX2_copyFrom, .initialized RX2, .selects RX2 yX2_copyFrom yX2_copyFrom, .code yX2_copyFrom cX2_copyFrom 2 none, .fieldLink RX2 9 "CockWar$Hill" "trees" "[I", .fieldLink RX2 15 "CockWar$Hill" "cells" "[I", .fieldLink RX2 18 "CockWar$Hill" "heights" "[I", .fieldLink RX2 21 "CockWar$Hill" "rusts" "[I", .fieldLink RX2 24 "CockWar$Hill" "weights" "[I", .fieldLink RX2 27 "CockWar$Hill" "cocks" "I", .fieldLink RX2 31 "CockWar$Hill" "parishes" "I", .fieldLink RX2 34 "CockWar$Hill" "ways" "I", .fieldLink RX2 37 "CockWar$Hill" "held" "I", .fieldLink RX2 40 "CockWar$Hill" "brook" "I", .fieldLink RX2 43 "CockWar$Hill" "days" "I", .static yX7_copyRow, .code yX7_copyRow cX7_copyRow 3 none] ++ wsX60 ++ wsX20)
def wsX7_init_r1 : List Cond := [Cond.methodLink RX7 3 objectInit, Cond.instanceMethod objectInit, Cond.code objectInit ⟨#[0xb1]⟩ 1 none, Cond.classLink RX7 9 RX4, Cond.instantiable RX4 6, Cond.initialized RX4, Cond.fieldLink RX7 12 "CockWar" "reader" "LCockWar$Reader;", Cond.classLink RX7 16 RX2, Cond.instantiable RX2 11, Cond.initialized RX2, Cond.fieldLink RX7 19 "CockWar" "now" "LCockWar$Hill;", Cond.classLink RX7 23 RX1, Cond.instantiable RX1 4, Cond.initialized RX1, Cond.fieldLink RX7 26 "CockWar" "air" "LCockWar$Air;", Cond.classLink RX7 30 RX0, Cond.instantiable RX0 3, Cond.initialized RX0, Cond.fieldLink RX7 33 "CockWar" "acts" "LCockWar$ActRow;", Cond.classLink RX7 37 RX5, Cond.instantiable RX5 3, Cond.initialized RX5, Cond.fieldLink RX7 40 "CockWar" "sights" "LCockWar$Sights;", Cond.classLink RX7 44 RX6]
def wsX7_init_r2 : List Cond := [Cond.instantiable RX6 2, Cond.initialized RX6, Cond.fieldLink RX7 47 "CockWar" "slots" "LCockWar$Slots;", Cond.classLink RX7 51 RX3, Cond.instantiable RX3 5, Cond.initialized RX3, Cond.fieldLink RX7 54 "CockWar" "plan" "LCockWar$Plan;", Cond.fieldLink RX7 58 "CockWar" "trial" "LCockWar$Hill;", Cond.fieldLink RX7 61 "CockWar" "drawn" "J", Cond.instanceMethod yX4_init, Cond.code yX4_init cX4_init 1 none, Cond.methodLink RX4 3 objectInit, Cond.arrayClass .int, Cond.fieldLink RX4 9 "CockWar$Reader" "letters" "[I", Cond.classLink RX4 15 RX2, Cond.fieldLink RX4 18 "CockWar$Reader" "ground" "LCockWar$Hill;", Cond.classLink RX4 22 RX1, Cond.fieldLink RX4 25 "CockWar$Reader" "air" "LCockWar$Air;", Cond.instanceMethod yX2_init, Cond.code yX2_init cX2_init 1 none, Cond.methodLink RX2 3 objectInit, Cond.fieldLink RX2 9 "CockWar$Hill" "trees" "[I", Cond.fieldLink RX2 15 "CockWar$Hill" "cells" "[I", Cond.fieldLink RX2 18 "CockWar$Hill" "heights" "[I"]
def wsX7_init_r3 : List Cond := [Cond.fieldLink RX2 21 "CockWar$Hill" "rusts" "[I", Cond.fieldLink RX2 24 "CockWar$Hill" "weights" "[I", Cond.instanceMethod yX1_init, Cond.code yX1_init cX1_init 1 none, Cond.methodLink RX1 3 objectInit, Cond.fieldLink RX1 9 "CockWar$Air" "goals" "[I", Cond.fieldLink RX1 15 "CockWar$Air" "strengths" "[I", Cond.fieldLink RX1 18 "CockWar$Air" "days" "[I", Cond.instanceMethod yX0_init, Cond.code yX0_init cX0_init 2 none, Cond.methodLink RX0 3 objectInit, Cond.classLink RX0 9 RX2, Cond.fieldLink RX0 11 "CockWar$ActRow" "before" "[LCockWar$Hill;", Cond.instanceMethod yX5_init, Cond.code yX5_init cX5_init 1 none, Cond.methodLink RX5 3 objectInit, Cond.fieldLink RX5 9 "CockWar$Sights" "cocks" "[I", Cond.fieldLink RX5 15 "CockWar$Sights" "ways" "[I", Cond.instanceMethod yX6_init, Cond.code yX6_init cX6_init 2 none, Cond.methodLink RX6 3 objectInit, Cond.classLink RX6 9 RX2, Cond.fieldLink RX6 11 "CockWar$Slots" "kept" "[LCockWar$Hill;", Cond.instanceMethod yX3_init]
def wsX7_init_r4 : List Cond := [Cond.code yX3_init cX3_init 1 none, Cond.methodLink RX3 3 objectInit, Cond.classLink RX3 9 RX2, Cond.fieldLink RX3 12 "CockWar$Plan" "trial" "LCockWar$Hill;"]
def wsX7_init : List Cond := .code yX7_init cX7_init 1 none :: ((wsX7_init_r1 ++ (wsX7_init_r2 ++ (wsX7_init_r3 ++ wsX7_init_r4))) ++ wsX40 ++ wsX70 ++ wsX20 ++ wsX10 ++ wsX00 ++ wsX50 ++ wsX60 ++ wsX30)
def wsX7_write : List Cond := .code yX7_write cX7_write 2 (some .int) :: ([.fieldLink RX7 12 "CockWar" "reader" "LCockWar$Reader;", .instanceMethod yX4_append, .initialized RX4, .selects RX4 yX4_append yX4_append, .code yX4_append cX4_append 2 (some .int), .fieldLink RX4 29 "CockWar$Reader" "length" "I", .fieldLink RX4 9 "CockWar$Reader" "letters" "[I", .static yX7_put, .initialized RX7, .code yX7_put cX7_put 3 none] ++ wsX70 ++ wsX40)
def wsX7_wipe : List Cond := .code yX7_wipe cX7_wipe 2 (some .int) :: ([.fieldLink RX7 12 "CockWar" "reader" "LCockWar$Reader;"] ++ wsX70 ++ wsX40)
def wsX7_fault_r1 : List Cond := [Cond.fieldLink RX7 12 "CockWar" "reader" "LCockWar$Reader;", Cond.instanceMethod yX4_firstFault, Cond.initialized RX4, Cond.selects RX4 yX4_firstFault yX4_firstFault, Cond.code yX4_firstFault cX4_firstFault 2 (some .int), Cond.fieldLink RX4 18 "CockWar$Reader" "ground" "LCockWar$Hill;", Cond.fieldLink RX4 25 "CockWar$Reader" "air" "LCockWar$Air;", Cond.fieldLink RX4 43 "CockWar$Reader" "place" "I", Cond.fieldLink RX4 29 "CockWar$Reader" "length" "I", Cond.fieldLink RX4 9 "CockWar$Reader" "letters" "[I", Cond.fieldLink RX4 50 "CockWar$Reader" "broken" "Z", Cond.instanceMethod yX2_clear, Cond.initialized RX2, Cond.selects RX2 yX2_clear yX2_clear, Cond.code yX2_clear cX2_clear 2 none, Cond.fieldLink RX2 9 "CockWar$Hill" "trees" "[I", Cond.fieldLink RX2 27 "CockWar$Hill" "cocks" "I", Cond.fieldLink RX2 31 "CockWar$Hill" "parishes" "I", Cond.fieldLink RX2 34 "CockWar$Hill" "ways" "I", Cond.fieldLink RX2 37 "CockWar$Hill" "held" "I", Cond.fieldLink RX2 40 "CockWar$Hill" "brook" "I", Cond.fieldLink RX2 43 "CockWar$Hill" "days" "I", Cond.static yX7_at, Cond.initialized RX7]
def wsX7_fault_r2 : List Cond := [Cond.code yX7_at cX7_at 2 (some .int), Cond.methodLink RX4 54 yX4_readPart, Cond.instanceMethod yX4_readPart, Cond.selects RX4 yX4_readPart yX4_readPart, Cond.code yX4_readPart cX4_readPart 3 none, Cond.instanceMethod yX2_treeCells, Cond.selects RX2 yX2_treeCells yX2_treeCells, Cond.code yX2_treeCells cX2_treeCells 3 (some .int), Cond.methodLink RX4 61 yX4_readTree, Cond.instanceMethod yX4_readTree, Cond.selects RX4 yX4_readTree yX4_readTree, Cond.code yX4_readTree cX4_readTree 4 none, Cond.methodLink RX4 74 yX4_figure, Cond.instanceMethod yX4_figure, Cond.selects RX4 yX4_figure yX4_figure, Cond.code yX4_figure cX4_figure 3 (some .int), Cond.static yX7_bit, Cond.code yX7_bit cX7_bit 2 (some .int), Cond.static yX7_put, Cond.code yX7_put cX7_put 3 none, Cond.methodLink RX4 68 yX4_readCock, Cond.instanceMethod yX4_readCock, Cond.selects RX4 yX4_readCock yX4_readCock, Cond.code yX4_readCock cX4_readCock 7 none]
def wsX7_fault_r3 : List Cond := [Cond.instanceMethod yX2_takenCells, Cond.selects RX2 yX2_takenCells yX2_takenCells, Cond.code yX2_takenCells cX2_takenCells 3 (some .int), Cond.fieldLink RX2 15 "CockWar$Hill" "cells" "[I", Cond.instanceMethod yX2_addCock, Cond.selects RX2 yX2_addCock yX2_addCock, Cond.code yX2_addCock cX2_addCock 7 none, Cond.fieldLink RX2 18 "CockWar$Hill" "heights" "[I", Cond.fieldLink RX2 21 "CockWar$Hill" "rusts" "[I", Cond.fieldLink RX2 24 "CockWar$Hill" "weights" "[I", Cond.methodLink RX4 71 yX4_readWind, Cond.instanceMethod yX4_readWind, Cond.selects RX4 yX4_readWind yX4_readWind, Cond.code yX4_readWind cX4_readWind 4 none, Cond.instanceMethod yX1_addWind, Cond.initialized RX1, Cond.selects RX1 yX1_addWind yX1_addWind, Cond.code yX1_addWind cX1_addWind 4 none, Cond.fieldLink RX1 9 "CockWar$Air" "goals" "[I", Cond.fieldLink RX1 25 "CockWar$Air" "winds" "I", Cond.fieldLink RX1 15 "CockWar$Air" "strengths" "[I", Cond.fieldLink RX1 18 "CockWar$Air" "days" "[I"]
def wsX7_fault : List Cond := .code yX7_fault cX7_fault 1 (some .int) :: ((wsX7_fault_r1 ++ (wsX7_fault_r2 ++ wsX7_fault_r3)) ++ wsX70 ++ wsX40 ++ wsX10 ++ wsX20)
def wsX7_hill_r1 : List Cond := [Cond.fieldLink RX7 12 "CockWar" "reader" "LCockWar$Reader;", Cond.fieldLink RX7 19 "CockWar" "now" "LCockWar$Hill;", Cond.fieldLink RX7 26 "CockWar" "air" "LCockWar$Air;", Cond.fieldLink RX7 33 "CockWar" "acts" "LCockWar$ActRow;", Cond.fieldLink RX7 47 "CockWar" "slots" "LCockWar$Slots;", Cond.instanceMethod yX4_firstFault, Cond.initialized RX4, Cond.selects RX4 yX4_firstFault yX4_firstFault, Cond.code yX4_firstFault cX4_firstFault 2 (some .int), Cond.fieldLink RX4 18 "CockWar$Reader" "ground" "LCockWar$Hill;", Cond.fieldLink RX4 25 "CockWar$Reader" "air" "LCockWar$Air;", Cond.fieldLink RX4 43 "CockWar$Reader" "place" "I", Cond.fieldLink RX4 29 "CockWar$Reader" "length" "I", Cond.fieldLink RX4 9 "CockWar$Reader" "letters" "[I", Cond.fieldLink RX4 50 "CockWar$Reader" "broken" "Z", Cond.instanceMethod yX2_clear, Cond.initialized RX2, Cond.selects RX2 yX2_clear yX2_clear, Cond.code yX2_clear cX2_clear 2 none, Cond.fieldLink RX2 9 "CockWar$Hill" "trees" "[I", Cond.fieldLink RX2 27 "CockWar$Hill" "cocks" "I", Cond.fieldLink RX2 31 "CockWar$Hill" "parishes" "I", Cond.fieldLink RX2 34 "CockWar$Hill" "ways" "I", Cond.fieldLink RX2 37 "CockWar$Hill" "held" "I"]
def wsX7_hill_r2 : List Cond := [Cond.fieldLink RX2 40 "CockWar$Hill" "brook" "I", Cond.fieldLink RX2 43 "CockWar$Hill" "days" "I", Cond.static yX7_at, Cond.initialized RX7, Cond.code yX7_at cX7_at 2 (some .int), Cond.methodLink RX4 54 yX4_readPart, Cond.instanceMethod yX4_readPart, Cond.selects RX4 yX4_readPart yX4_readPart, Cond.code yX4_readPart cX4_readPart 3 none, Cond.instanceMethod yX2_treeCells, Cond.selects RX2 yX2_treeCells yX2_treeCells, Cond.code yX2_treeCells cX2_treeCells 3 (some .int), Cond.methodLink RX4 61 yX4_readTree, Cond.instanceMethod yX4_readTree, Cond.selects RX4 yX4_readTree yX4_readTree, Cond.code yX4_readTree cX4_readTree 4 none, Cond.methodLink RX4 74 yX4_figure, Cond.instanceMethod yX4_figure, Cond.selects RX4 yX4_figure yX4_figure, Cond.code yX4_figure cX4_figure 3 (some .int), Cond.static yX7_bit, Cond.code yX7_bit cX7_bit 2 (some .int), Cond.static yX7_put, Cond.code yX7_put cX7_put 3 none]
def wsX7_hill_r3 : List Cond := [Cond.methodLink RX4 68 yX4_readCock, Cond.instanceMethod yX4_readCock, Cond.selects RX4 yX4_readCock yX4_readCock, Cond.code yX4_readCock cX4_readCock 7 none, Cond.instanceMethod yX2_takenCells, Cond.selects RX2 yX2_takenCells yX2_takenCells, Cond.code yX2_takenCells cX2_takenCells 3 (some .int), Cond.fieldLink RX2 15 "CockWar$Hill" "cells" "[I", Cond.instanceMethod yX2_addCock, Cond.selects RX2 yX2_addCock yX2_addCock, Cond.code yX2_addCock cX2_addCock 7 none, Cond.fieldLink RX2 18 "CockWar$Hill" "heights" "[I", Cond.fieldLink RX2 21 "CockWar$Hill" "rusts" "[I", Cond.fieldLink RX2 24 "CockWar$Hill" "weights" "[I", Cond.methodLink RX4 71 yX4_readWind, Cond.instanceMethod yX4_readWind, Cond.selects RX4 yX4_readWind yX4_readWind, Cond.code yX4_readWind cX4_readWind 4 none, Cond.instanceMethod yX1_addWind, Cond.initialized RX1, Cond.selects RX1 yX1_addWind yX1_addWind, Cond.code yX1_addWind cX1_addWind 4 none, Cond.fieldLink RX1 9 "CockWar$Air" "goals" "[I", Cond.fieldLink RX1 25 "CockWar$Air" "winds" "I"]
def wsX7_hill_r4 : List Cond := [Cond.fieldLink RX1 15 "CockWar$Air" "strengths" "[I", Cond.fieldLink RX1 18 "CockWar$Air" "days" "[I", Cond.instanceMethod yX2_copyFrom, Cond.selects RX2 yX2_copyFrom yX2_copyFrom, Cond.code yX2_copyFrom cX2_copyFrom 2 none, Cond.static yX7_copyRow, Cond.code yX7_copyRow cX7_copyRow 3 none, Cond.instanceMethod yX1_copyFrom, Cond.selects RX1 yX1_copyFrom yX1_copyFrom, Cond.code yX1_copyFrom cX1_copyFrom 2 none, Cond.instanceMethod yX0_forget, Cond.initialized RX0, Cond.selects RX0 yX0_forget yX0_forget, Cond.code yX0_forget cX0_forget 1 none, Cond.fieldLink RX0 18 "CockWar$ActRow" "number" "I", Cond.instanceMethod yX6_forget, Cond.initialized RX6, Cond.selects RX6 yX6_forget yX6_forget, Cond.code yX6_forget cX6_forget 1 none, Cond.fieldLink RX6 18 "CockWar$Slots" "filled" "I"]
def wsX7_hill : List Cond := .code yX7_hill cX7_hill 1 (some .int) :: ((wsX7_hill_r1 ++ (wsX7_hill_r2 ++ (wsX7_hill_r3 ++ wsX7_hill_r4))) ++ wsX70 ++ wsX40 ++ wsX20 ++ wsX10 ++ wsX00 ++ wsX60)
def wsX7_isCell : List Cond := .code yX7_isCell cX7_isCell 1 (some .boolean) :: ([])
def wsX7_tree : List Cond := .code yX7_tree cX7_tree 2 (some .int) :: ([.fieldLink RX7 19 "CockWar" "now" "LCockWar$Hill;", .methodLink RX7 98 yX7_isCell, .static yX7_isCell, .initialized RX7, .code yX7_isCell cX7_isCell 1 (some .boolean), .methodLink RX7 106 yX7_at, .static yX7_at, .code yX7_at cX7_at 2 (some .int)] ++ wsX70 ++ wsX20)
def wsX7_cock : List Cond := .code yX7_cock cX7_cock 3 (some .int) :: ([.fieldLink RX7 19 "CockWar" "now" "LCockWar$Hill;", .instanceMethod yX2_hasCock, .initialized RX2, .selects RX2 yX2_hasCock yX2_hasCock, .code yX2_hasCock cX2_hasCock 2 (some .boolean), .fieldLink RX2 27 "CockWar$Hill" "cocks" "I", .methodLink RX7 106 yX7_at, .static yX7_at, .initialized RX7, .code yX7_at cX7_at 2 (some .int), .methodLink RX7 119 yX7_bit, .static yX7_bit, .code yX7_bit cX7_bit 2 (some .int)] ++ wsX70 ++ wsX20)
def wsX7_wind_r1 : List Cond := [Cond.fieldLink RX7 26 "CockWar" "air" "LCockWar$Air;", Cond.fieldLink RX7 19 "CockWar" "now" "LCockWar$Hill;", Cond.instanceMethod yX1_hasWind, Cond.initialized RX1, Cond.selects RX1 yX1_hasWind yX1_hasWind, Cond.code yX1_hasWind cX1_hasWind 2 (some .boolean), Cond.fieldLink RX1 25 "CockWar$Air" "winds" "I", Cond.methodLink RX7 106 yX7_at, Cond.static yX7_at, Cond.initialized RX7, Cond.code yX7_at cX7_at 2 (some .int), Cond.instanceMethod yX1_waysBehind, Cond.selects RX1 yX1_waysBehind yX1_waysBehind, Cond.code yX1_waysBehind cX1_waysBehind 7 (some .int), Cond.fieldLink RX1 9 "CockWar$Air" "goals" "[I", Cond.fieldLink RX1 15 "CockWar$Air" "strengths" "[I", Cond.instanceMethod yX2_yieldingTo, Cond.initialized RX2, Cond.selects RX2 yX2_yieldingTo yX2_yieldingTo, Cond.code yX2_yieldingTo cX2_yieldingTo 8 (some .int), Cond.fieldLink RX2 27 "CockWar$Hill" "cocks" "I", Cond.fieldLink RX2 15 "CockWar$Hill" "cells" "[I", Cond.fieldLink RX2 9 "CockWar$Hill" "trees" "[I", Cond.fieldLink RX2 21 "CockWar$Hill" "rusts" "[I"]
def wsX7_wind_r2 : List Cond := [Cond.fieldLink RX2 18 "CockWar$Hill" "heights" "[I", Cond.static yX7_bit, Cond.code yX7_bit cX7_bit 2 (some .int)]
def wsX7_wind : List Cond := .code yX7_wind cX7_wind 3 (some .int) :: ((wsX7_wind_r1 ++ wsX7_wind_r2) ++ wsX70 ++ wsX10 ++ wsX20)
def wsX7_blow_r1 : List Cond := [Cond.fieldLink RX7 26 "CockWar" "air" "LCockWar$Air;", Cond.fieldLink RX7 33 "CockWar" "acts" "LCockWar$ActRow;", Cond.fieldLink RX7 19 "CockWar" "now" "LCockWar$Hill;", Cond.instanceMethod yX1_hasWind, Cond.initialized RX1, Cond.selects RX1 yX1_hasWind yX1_hasWind, Cond.code yX1_hasWind cX1_hasWind 2 (some .boolean), Cond.fieldLink RX1 25 "CockWar$Air" "winds" "I", Cond.instanceMethod yX0_remember, Cond.initialized RX0, Cond.selects RX0 yX0_remember yX0_remember, Cond.code yX0_remember cX0_remember 3 none, Cond.fieldLink RX0 18 "CockWar$ActRow" "number" "I", Cond.fieldLink RX0 22 "CockWar$ActRow" "oldest" "I", Cond.fieldLink RX0 11 "CockWar$ActRow" "before" "[LCockWar$Hill;", Cond.instanceMethod yX2_copyFrom, Cond.initialized RX2, Cond.selects RX2 yX2_copyFrom yX2_copyFrom, Cond.code yX2_copyFrom cX2_copyFrom 2 none, Cond.fieldLink RX2 9 "CockWar$Hill" "trees" "[I", Cond.fieldLink RX2 15 "CockWar$Hill" "cells" "[I", Cond.fieldLink RX2 18 "CockWar$Hill" "heights" "[I", Cond.fieldLink RX2 21 "CockWar$Hill" "rusts" "[I", Cond.fieldLink RX2 24 "CockWar$Hill" "weights" "[I"]
def wsX7_blow_r2 : List Cond := [Cond.fieldLink RX2 27 "CockWar$Hill" "cocks" "I", Cond.fieldLink RX2 31 "CockWar$Hill" "parishes" "I", Cond.fieldLink RX2 34 "CockWar$Hill" "ways" "I", Cond.fieldLink RX2 37 "CockWar$Hill" "held" "I", Cond.fieldLink RX2 40 "CockWar$Hill" "brook" "I", Cond.fieldLink RX2 43 "CockWar$Hill" "days" "I", Cond.static yX7_copyRow, Cond.initialized RX7, Cond.code yX7_copyRow cX7_copyRow 3 none, Cond.instanceMethod yX1_blowOver, Cond.selects RX1 yX1_blowOver yX1_blowOver, Cond.code yX1_blowOver cX1_blowOver 3 (some .int), Cond.methodLink RX1 46 yX1_waysBehind, Cond.instanceMethod yX1_waysBehind, Cond.selects RX1 yX1_waysBehind yX1_waysBehind, Cond.code yX1_waysBehind cX1_waysBehind 7 (some .int), Cond.fieldLink RX1 9 "CockWar$Air" "goals" "[I", Cond.fieldLink RX1 15 "CockWar$Air" "strengths" "[I", Cond.static yX7_at, Cond.code yX7_at cX7_at 2 (some .int), Cond.instanceMethod yX2_yieldingTo, Cond.selects RX2 yX2_yieldingTo yX2_yieldingTo, Cond.code yX2_yieldingTo cX2_yieldingTo 8 (some .int), Cond.static yX7_bit]
def wsX7_blow_r3 : List Cond := [Cond.code yX7_bit cX7_bit 2 (some .int), Cond.instanceMethod yX2_brookBy, Cond.selects RX2 yX2_brookBy yX2_brookBy, Cond.code yX2_brookBy cX2_brookBy 6 (some .int)]
def wsX7_blow : List Cond := .code yX7_blow cX7_blow 2 (some .int) :: ((wsX7_blow_r1 ++ (wsX7_blow_r2 ++ wsX7_blow_r3)) ++ wsX70 ++ wsX10 ++ wsX00 ++ wsX20)
def wsX7_fell_r1 : List Cond := [Cond.fieldLink RX7 19 "CockWar" "now" "LCockWar$Hill;", Cond.fieldLink RX7 33 "CockWar" "acts" "LCockWar$ActRow;", Cond.methodLink RX7 98 yX7_isCell, Cond.static yX7_isCell, Cond.initialized RX7, Cond.code yX7_isCell cX7_isCell 1 (some .boolean), Cond.methodLink RX7 106 yX7_at, Cond.static yX7_at, Cond.code yX7_at cX7_at 2 (some .int), Cond.instanceMethod yX0_remember, Cond.initialized RX0, Cond.selects RX0 yX0_remember yX0_remember, Cond.code yX0_remember cX0_remember 3 none, Cond.fieldLink RX0 18 "CockWar$ActRow" "number" "I", Cond.fieldLink RX0 22 "CockWar$ActRow" "oldest" "I", Cond.fieldLink RX0 11 "CockWar$ActRow" "before" "[LCockWar$Hill;", Cond.instanceMethod yX2_copyFrom, Cond.initialized RX2, Cond.selects RX2 yX2_copyFrom yX2_copyFrom, Cond.code yX2_copyFrom cX2_copyFrom 2 none, Cond.fieldLink RX2 9 "CockWar$Hill" "trees" "[I", Cond.fieldLink RX2 15 "CockWar$Hill" "cells" "[I", Cond.fieldLink RX2 18 "CockWar$Hill" "heights" "[I", Cond.fieldLink RX2 21 "CockWar$Hill" "rusts" "[I"]
def wsX7_fell_r2 : List Cond := [Cond.fieldLink RX2 24 "CockWar$Hill" "weights" "[I", Cond.fieldLink RX2 27 "CockWar$Hill" "cocks" "I", Cond.fieldLink RX2 31 "CockWar$Hill" "parishes" "I", Cond.fieldLink RX2 34 "CockWar$Hill" "ways" "I", Cond.fieldLink RX2 37 "CockWar$Hill" "held" "I", Cond.fieldLink RX2 40 "CockWar$Hill" "brook" "I", Cond.fieldLink RX2 43 "CockWar$Hill" "days" "I", Cond.static yX7_copyRow, Cond.code yX7_copyRow cX7_copyRow 3 none, Cond.methodLink RX7 161 yX7_put, Cond.static yX7_put, Cond.code yX7_put cX7_put 3 none]
def wsX7_fell : List Cond := .code yX7_fell cX7_fell 3 (some .int) :: ((wsX7_fell_r1 ++ wsX7_fell_r2) ++ wsX70 ++ wsX20 ++ wsX00)
def wsX7_move_r1 : List Cond := [Cond.fieldLink RX7 19 "CockWar" "now" "LCockWar$Hill;", Cond.fieldLink RX7 33 "CockWar" "acts" "LCockWar$ActRow;", Cond.instanceMethod yX2_hasCock, Cond.initialized RX2, Cond.selects RX2 yX2_hasCock yX2_hasCock, Cond.code yX2_hasCock cX2_hasCock 2 (some .boolean), Cond.fieldLink RX2 27 "CockWar$Hill" "cocks" "I", Cond.methodLink RX7 98 yX7_isCell, Cond.static yX7_isCell, Cond.initialized RX7, Cond.code yX7_isCell cX7_isCell 1 (some .boolean), Cond.instanceMethod yX2_takenCells, Cond.selects RX2 yX2_takenCells yX2_takenCells, Cond.code yX2_takenCells cX2_takenCells 3 (some .int), Cond.fieldLink RX2 15 "CockWar$Hill" "cells" "[I", Cond.static yX7_at, Cond.code yX7_at cX7_at 2 (some .int), Cond.methodLink RX7 119 yX7_bit, Cond.static yX7_bit, Cond.code yX7_bit cX7_bit 2 (some .int), Cond.instanceMethod yX0_remember, Cond.initialized RX0, Cond.selects RX0 yX0_remember yX0_remember, Cond.code yX0_remember cX0_remember 3 none]
def wsX7_move_r2 : List Cond := [Cond.fieldLink RX0 18 "CockWar$ActRow" "number" "I", Cond.fieldLink RX0 22 "CockWar$ActRow" "oldest" "I", Cond.fieldLink RX0 11 "CockWar$ActRow" "before" "[LCockWar$Hill;", Cond.instanceMethod yX2_copyFrom, Cond.selects RX2 yX2_copyFrom yX2_copyFrom, Cond.code yX2_copyFrom cX2_copyFrom 2 none, Cond.fieldLink RX2 9 "CockWar$Hill" "trees" "[I", Cond.fieldLink RX2 18 "CockWar$Hill" "heights" "[I", Cond.fieldLink RX2 21 "CockWar$Hill" "rusts" "[I", Cond.fieldLink RX2 24 "CockWar$Hill" "weights" "[I", Cond.fieldLink RX2 31 "CockWar$Hill" "parishes" "I", Cond.fieldLink RX2 34 "CockWar$Hill" "ways" "I", Cond.fieldLink RX2 37 "CockWar$Hill" "held" "I", Cond.fieldLink RX2 40 "CockWar$Hill" "brook" "I", Cond.fieldLink RX2 43 "CockWar$Hill" "days" "I", Cond.static yX7_copyRow, Cond.code yX7_copyRow cX7_copyRow 3 none, Cond.methodLink RX7 106 yX7_at, Cond.methodLink RX7 161 yX7_put, Cond.static yX7_put, Cond.code yX7_put cX7_put 3 none]
def wsX7_move : List Cond := .code yX7_move cX7_move 4 (some .int) :: ((wsX7_move_r1 ++ wsX7_move_r2) ++ wsX70 ++ wsX20 ++ wsX00)
def wsX7_grease_r1 : List Cond := [Cond.fieldLink RX7 19 "CockWar" "now" "LCockWar$Hill;", Cond.fieldLink RX7 33 "CockWar" "acts" "LCockWar$ActRow;", Cond.instanceMethod yX2_hasCock, Cond.initialized RX2, Cond.selects RX2 yX2_hasCock yX2_hasCock, Cond.code yX2_hasCock cX2_hasCock 2 (some .boolean), Cond.fieldLink RX2 27 "CockWar$Hill" "cocks" "I", Cond.methodLink RX7 106 yX7_at, Cond.static yX7_at, Cond.initialized RX7, Cond.code yX7_at cX7_at 2 (some .int), Cond.instanceMethod yX0_remember, Cond.initialized RX0, Cond.selects RX0 yX0_remember yX0_remember, Cond.code yX0_remember cX0_remember 3 none, Cond.fieldLink RX0 18 "CockWar$ActRow" "number" "I", Cond.fieldLink RX0 22 "CockWar$ActRow" "oldest" "I", Cond.fieldLink RX0 11 "CockWar$ActRow" "before" "[LCockWar$Hill;", Cond.instanceMethod yX2_copyFrom, Cond.selects RX2 yX2_copyFrom yX2_copyFrom, Cond.code yX2_copyFrom cX2_copyFrom 2 none, Cond.fieldLink RX2 9 "CockWar$Hill" "trees" "[I", Cond.fieldLink RX2 15 "CockWar$Hill" "cells" "[I", Cond.fieldLink RX2 18 "CockWar$Hill" "heights" "[I"]
def wsX7_grease_r2 : List Cond := [Cond.fieldLink RX2 21 "CockWar$Hill" "rusts" "[I", Cond.fieldLink RX2 24 "CockWar$Hill" "weights" "[I", Cond.fieldLink RX2 31 "CockWar$Hill" "parishes" "I", Cond.fieldLink RX2 34 "CockWar$Hill" "ways" "I", Cond.fieldLink RX2 37 "CockWar$Hill" "held" "I", Cond.fieldLink RX2 40 "CockWar$Hill" "brook" "I", Cond.fieldLink RX2 43 "CockWar$Hill" "days" "I", Cond.static yX7_copyRow, Cond.code yX7_copyRow cX7_copyRow 3 none, Cond.methodLink RX7 161 yX7_put, Cond.static yX7_put, Cond.code yX7_put cX7_put 3 none]
def wsX7_grease : List Cond := .code yX7_grease cX7_grease 3 (some .int) :: ((wsX7_grease_r1 ++ wsX7_grease_r2) ++ wsX70 ++ wsX20 ++ wsX00)
def wsX7_capture_r1 : List Cond := [Cond.fieldLink RX7 19 "CockWar" "now" "LCockWar$Hill;", Cond.fieldLink RX7 33 "CockWar" "acts" "LCockWar$ActRow;", Cond.instanceMethod yX2_hasCock, Cond.initialized RX2, Cond.selects RX2 yX2_hasCock yX2_hasCock, Cond.code yX2_hasCock cX2_hasCock 2 (some .boolean), Cond.fieldLink RX2 27 "CockWar$Hill" "cocks" "I", Cond.instanceMethod yX0_remember, Cond.initialized RX0, Cond.selects RX0 yX0_remember yX0_remember, Cond.code yX0_remember cX0_remember 3 none, Cond.fieldLink RX0 18 "CockWar$ActRow" "number" "I", Cond.fieldLink RX0 22 "CockWar$ActRow" "oldest" "I", Cond.fieldLink RX0 11 "CockWar$ActRow" "before" "[LCockWar$Hill;", Cond.instanceMethod yX2_copyFrom, Cond.selects RX2 yX2_copyFrom yX2_copyFrom, Cond.code yX2_copyFrom cX2_copyFrom 2 none, Cond.fieldLink RX2 9 "CockWar$Hill" "trees" "[I", Cond.fieldLink RX2 15 "CockWar$Hill" "cells" "[I", Cond.fieldLink RX2 18 "CockWar$Hill" "heights" "[I", Cond.fieldLink RX2 21 "CockWar$Hill" "rusts" "[I", Cond.fieldLink RX2 24 "CockWar$Hill" "weights" "[I", Cond.fieldLink RX2 31 "CockWar$Hill" "parishes" "I", Cond.fieldLink RX2 34 "CockWar$Hill" "ways" "I"]
def wsX7_capture_r2 : List Cond := [Cond.fieldLink RX2 37 "CockWar$Hill" "held" "I", Cond.fieldLink RX2 40 "CockWar$Hill" "brook" "I", Cond.fieldLink RX2 43 "CockWar$Hill" "days" "I", Cond.static yX7_copyRow, Cond.initialized RX7, Cond.code yX7_copyRow cX7_copyRow 3 none, Cond.methodLink RX7 119 yX7_bit, Cond.static yX7_bit, Cond.code yX7_bit cX7_bit 2 (some .int)]
def wsX7_capture : List Cond := .code yX7_capture cX7_capture 2 (some .int) :: ((wsX7_capture_r1 ++ wsX7_capture_r2) ++ wsX70 ++ wsX20 ++ wsX00)
def wsX7_hold_r1 : List Cond := [Cond.fieldLink RX7 19 "CockWar" "now" "LCockWar$Hill;", Cond.fieldLink RX7 33 "CockWar" "acts" "LCockWar$ActRow;", Cond.instanceMethod yX2_hasCock, Cond.initialized RX2, Cond.selects RX2 yX2_hasCock yX2_hasCock, Cond.code yX2_hasCock cX2_hasCock 2 (some .boolean), Cond.fieldLink RX2 27 "CockWar$Hill" "cocks" "I", Cond.instanceMethod yX0_remember, Cond.initialized RX0, Cond.selects RX0 yX0_remember yX0_remember, Cond.code yX0_remember cX0_remember 3 none, Cond.fieldLink RX0 18 "CockWar$ActRow" "number" "I", Cond.fieldLink RX0 22 "CockWar$ActRow" "oldest" "I", Cond.fieldLink RX0 11 "CockWar$ActRow" "before" "[LCockWar$Hill;", Cond.instanceMethod yX2_copyFrom, Cond.selects RX2 yX2_copyFrom yX2_copyFrom, Cond.code yX2_copyFrom cX2_copyFrom 2 none, Cond.fieldLink RX2 9 "CockWar$Hill" "trees" "[I", Cond.fieldLink RX2 15 "CockWar$Hill" "cells" "[I", Cond.fieldLink RX2 18 "CockWar$Hill" "heights" "[I", Cond.fieldLink RX2 21 "CockWar$Hill" "rusts" "[I", Cond.fieldLink RX2 24 "CockWar$Hill" "weights" "[I", Cond.fieldLink RX2 31 "CockWar$Hill" "parishes" "I", Cond.fieldLink RX2 34 "CockWar$Hill" "ways" "I"]
def wsX7_hold_r2 : List Cond := [Cond.fieldLink RX2 37 "CockWar$Hill" "held" "I", Cond.fieldLink RX2 40 "CockWar$Hill" "brook" "I", Cond.fieldLink RX2 43 "CockWar$Hill" "days" "I", Cond.static yX7_copyRow, Cond.initialized RX7, Cond.code yX7_copyRow cX7_copyRow 3 none, Cond.methodLink RX7 119 yX7_bit, Cond.static yX7_bit, Cond.code yX7_bit cX7_bit 2 (some .int)]
def wsX7_hold : List Cond := .code yX7_hold cX7_hold 2 (some .int) :: ((wsX7_hold_r1 ++ wsX7_hold_r2) ++ wsX70 ++ wsX20 ++ wsX00)
def wsX7_undo_r1 : List Cond := [Cond.fieldLink RX7 33 "CockWar" "acts" "LCockWar$ActRow;", Cond.fieldLink RX7 19 "CockWar" "now" "LCockWar$Hill;", Cond.instanceMethod yX0_takeBack, Cond.initialized RX0, Cond.selects RX0 yX0_takeBack yX0_takeBack, Cond.code yX0_takeBack cX0_takeBack 3 (some .int), Cond.fieldLink RX0 18 "CockWar$ActRow" "number" "I", Cond.fieldLink RX0 22 "CockWar$ActRow" "oldest" "I", Cond.fieldLink RX0 11 "CockWar$ActRow" "before" "[LCockWar$Hill;", Cond.instanceMethod yX2_copyFrom, Cond.initialized RX2, Cond.selects RX2 yX2_copyFrom yX2_copyFrom, Cond.code yX2_copyFrom cX2_copyFrom 2 none, Cond.fieldLink RX2 9 "CockWar$Hill" "trees" "[I", Cond.fieldLink RX2 15 "CockWar$Hill" "cells" "[I", Cond.fieldLink RX2 18 "CockWar$Hill" "heights" "[I", Cond.fieldLink RX2 21 "CockWar$Hill" "rusts" "[I", Cond.fieldLink RX2 24 "CockWar$Hill" "weights" "[I", Cond.fieldLink RX2 27 "CockWar$Hill" "cocks" "I", Cond.fieldLink RX2 31 "CockWar$Hill" "parishes" "I", Cond.fieldLink RX2 34 "CockWar$Hill" "ways" "I", Cond.fieldLink RX2 37 "CockWar$Hill" "held" "I", Cond.fieldLink RX2 40 "CockWar$Hill" "brook" "I", Cond.fieldLink RX2 43 "CockWar$Hill" "days" "I"]
def wsX7_undo_r2 : List Cond := [Cond.static yX7_copyRow, Cond.initialized RX7, Cond.code yX7_copyRow cX7_copyRow 3 none]
def wsX7_undo : List Cond := .code yX7_undo cX7_undo 1 (some .int) :: ((wsX7_undo_r1 ++ wsX7_undo_r2) ++ wsX70 ++ wsX00 ++ wsX20)
def wsX7_under_r1 : List Cond := [Cond.fieldLink RX7 26 "CockWar" "air" "LCockWar$Air;", Cond.fieldLink RX7 19 "CockWar" "now" "LCockWar$Hill;", Cond.instanceMethod yX1_hasWind, Cond.initialized RX1, Cond.selects RX1 yX1_hasWind yX1_hasWind, Cond.code yX1_hasWind cX1_hasWind 2 (some .boolean), Cond.fieldLink RX1 25 "CockWar$Air" "winds" "I", Cond.instanceMethod yX1_brookUnder, Cond.selects RX1 yX1_brookUnder yX1_brookUnder, Cond.code yX1_brookUnder cX1_brookUnder 5 (some .int), Cond.methodLink RX1 46 yX1_waysBehind, Cond.instanceMethod yX1_waysBehind, Cond.selects RX1 yX1_waysBehind yX1_waysBehind, Cond.code yX1_waysBehind cX1_waysBehind 7 (some .int), Cond.fieldLink RX1 9 "CockWar$Air" "goals" "[I", Cond.fieldLink RX1 15 "CockWar$Air" "strengths" "[I", Cond.static yX7_at, Cond.initialized RX7, Cond.code yX7_at cX7_at 2 (some .int), Cond.instanceMethod yX2_yieldingTo, Cond.initialized RX2, Cond.selects RX2 yX2_yieldingTo yX2_yieldingTo, Cond.code yX2_yieldingTo cX2_yieldingTo 8 (some .int), Cond.fieldLink RX2 27 "CockWar$Hill" "cocks" "I"]
def wsX7_under_r2 : List Cond := [Cond.fieldLink RX2 15 "CockWar$Hill" "cells" "[I", Cond.fieldLink RX2 9 "CockWar$Hill" "trees" "[I", Cond.fieldLink RX2 21 "CockWar$Hill" "rusts" "[I", Cond.fieldLink RX2 18 "CockWar$Hill" "heights" "[I", Cond.static yX7_bit, Cond.code yX7_bit cX7_bit 2 (some .int), Cond.instanceMethod yX2_brookBy, Cond.selects RX2 yX2_brookBy yX2_brookBy, Cond.code yX2_brookBy cX2_brookBy 6 (some .int), Cond.fieldLink RX2 31 "CockWar$Hill" "parishes" "I", Cond.fieldLink RX2 24 "CockWar$Hill" "weights" "[I", Cond.fieldLink RX2 40 "CockWar$Hill" "brook" "I"]
def wsX7_under : List Cond := .code yX7_under cX7_under 2 (some .int) :: ((wsX7_under_r1 ++ wsX7_under_r2) ++ wsX70 ++ wsX20 ++ wsX10)
def wsX7_isParish : List Cond := .code yX7_isParish cX7_isParish 1 (some .boolean) :: ([])
def wsX7_year_r1 : List Cond := [Cond.fieldLink RX7 26 "CockWar" "air" "LCockWar$Air;", Cond.fieldLink RX7 19 "CockWar" "now" "LCockWar$Hill;", Cond.methodLink RX7 175 yX7_isParish, Cond.static yX7_isParish, Cond.initialized RX7, Cond.code yX7_isParish cX7_isParish 1 (some .boolean), Cond.instanceMethod yX1_yearOf, Cond.initialized RX1, Cond.selects RX1 yX1_yearOf yX1_yearOf, Cond.code yX1_yearOf cX1_yearOf 6 (some .int), Cond.fieldLink RX1 25 "CockWar$Air" "winds" "I", Cond.fieldLink RX1 18 "CockWar$Air" "days" "[I", Cond.methodLink RX1 62 yX1_brookUnder, Cond.instanceMethod yX1_brookUnder, Cond.selects RX1 yX1_brookUnder yX1_brookUnder, Cond.code yX1_brookUnder cX1_brookUnder 5 (some .int), Cond.methodLink RX1 46 yX1_waysBehind, Cond.instanceMethod yX1_waysBehind, Cond.selects RX1 yX1_waysBehind yX1_waysBehind, Cond.code yX1_waysBehind cX1_waysBehind 7 (some .int), Cond.fieldLink RX1 9 "CockWar$Air" "goals" "[I", Cond.fieldLink RX1 15 "CockWar$Air" "strengths" "[I", Cond.static yX7_at, Cond.code yX7_at cX7_at 2 (some .int)]
def wsX7_year_r2 : List Cond := [Cond.instanceMethod yX2_yieldingTo, Cond.initialized RX2, Cond.selects RX2 yX2_yieldingTo yX2_yieldingTo, Cond.code yX2_yieldingTo cX2_yieldingTo 8 (some .int), Cond.fieldLink RX2 27 "CockWar$Hill" "cocks" "I", Cond.fieldLink RX2 15 "CockWar$Hill" "cells" "[I", Cond.fieldLink RX2 9 "CockWar$Hill" "trees" "[I", Cond.fieldLink RX2 21 "CockWar$Hill" "rusts" "[I", Cond.fieldLink RX2 18 "CockWar$Hill" "heights" "[I", Cond.static yX7_bit, Cond.code yX7_bit cX7_bit 2 (some .int), Cond.instanceMethod yX2_brookBy, Cond.selects RX2 yX2_brookBy yX2_brookBy, Cond.code yX2_brookBy cX2_brookBy 6 (some .int), Cond.fieldLink RX2 31 "CockWar$Hill" "parishes" "I", Cond.fieldLink RX2 24 "CockWar$Hill" "weights" "[I", Cond.fieldLink RX2 40 "CockWar$Hill" "brook" "I"]
def wsX7_year : List Cond := .code yX7_year cX7_year 2 (some .int) :: ((wsX7_year_r1 ++ wsX7_year_r2) ++ wsX70 ++ wsX10 ++ wsX20)
def wsX7_placing_r1 : List Cond := [Cond.fieldLink RX7 54 "CockWar" "plan" "LCockWar$Plan;", Cond.fieldLink RX7 19 "CockWar" "now" "LCockWar$Hill;", Cond.fieldLink RX7 26 "CockWar" "air" "LCockWar$Air;", Cond.methodLink RX7 175 yX7_isParish, Cond.static yX7_isParish, Cond.initialized RX7, Cond.code yX7_isParish cX7_isParish 1 (some .boolean), Cond.instanceMethod yX3_seek, Cond.initialized RX3, Cond.selects RX3 yX3_seek yX3_seek, Cond.code yX3_seek cX3_seek 7 none, Cond.fieldLink RX3 18 "CockWar$Plan" "days" "I", Cond.fieldLink RX3 12 "CockWar$Plan" "trial" "LCockWar$Hill;", Cond.instanceMethod yX2_copyFrom, Cond.initialized RX2, Cond.selects RX2 yX2_copyFrom yX2_copyFrom, Cond.code yX2_copyFrom cX2_copyFrom 2 none, Cond.fieldLink RX2 9 "CockWar$Hill" "trees" "[I", Cond.fieldLink RX2 15 "CockWar$Hill" "cells" "[I", Cond.fieldLink RX2 18 "CockWar$Hill" "heights" "[I", Cond.fieldLink RX2 21 "CockWar$Hill" "rusts" "[I", Cond.fieldLink RX2 24 "CockWar$Hill" "weights" "[I", Cond.fieldLink RX2 27 "CockWar$Hill" "cocks" "I", Cond.fieldLink RX2 31 "CockWar$Hill" "parishes" "I"]
def wsX7_placing_r2 : List Cond := [Cond.fieldLink RX2 34 "CockWar$Hill" "ways" "I", Cond.fieldLink RX2 37 "CockWar$Hill" "held" "I", Cond.fieldLink RX2 40 "CockWar$Hill" "brook" "I", Cond.fieldLink RX2 43 "CockWar$Hill" "days" "I", Cond.static yX7_copyRow, Cond.code yX7_copyRow cX7_copyRow 3 none, Cond.methodLink RX3 26 yX3_tryTrees, Cond.instanceMethod yX3_tryTrees, Cond.selects RX3 yX3_tryTrees yX3_tryTrees, Cond.code yX3_tryTrees cX3_tryTrees 6 none, Cond.instanceMethod yX1_yearOf, Cond.initialized RX1, Cond.selects RX1 yX1_yearOf yX1_yearOf, Cond.code yX1_yearOf cX1_yearOf 6 (some .int), Cond.fieldLink RX1 25 "CockWar$Air" "winds" "I", Cond.fieldLink RX1 18 "CockWar$Air" "days" "[I", Cond.methodLink RX1 62 yX1_brookUnder, Cond.instanceMethod yX1_brookUnder, Cond.selects RX1 yX1_brookUnder yX1_brookUnder, Cond.code yX1_brookUnder cX1_brookUnder 5 (some .int), Cond.methodLink RX1 46 yX1_waysBehind, Cond.instanceMethod yX1_waysBehind, Cond.selects RX1 yX1_waysBehind yX1_waysBehind, Cond.code yX1_waysBehind cX1_waysBehind 7 (some .int)]
def wsX7_placing_r3 : List Cond := [Cond.fieldLink RX1 9 "CockWar$Air" "goals" "[I", Cond.fieldLink RX1 15 "CockWar$Air" "strengths" "[I", Cond.static yX7_at, Cond.code yX7_at cX7_at 2 (some .int), Cond.instanceMethod yX2_yieldingTo, Cond.selects RX2 yX2_yieldingTo yX2_yieldingTo, Cond.code yX2_yieldingTo cX2_yieldingTo 8 (some .int), Cond.static yX7_bit, Cond.code yX7_bit cX7_bit 2 (some .int), Cond.instanceMethod yX2_brookBy, Cond.selects RX2 yX2_brookBy yX2_brookBy, Cond.code yX2_brookBy cX2_brookBy 6 (some .int), Cond.methodLink RX3 62 yX3_tryOne, Cond.instanceMethod yX3_tryOne, Cond.selects RX3 yX3_tryOne yX3_tryOne, Cond.code yX3_tryOne cX3_tryOne 5 none, Cond.fieldLink RX3 69 "CockWar$Plan" "cock" "I", Cond.fieldLink RX3 72 "CockWar$Plan" "cell" "I", Cond.fieldLink RX3 75 "CockWar$Plan" "tree" "I", Cond.instanceMethod yX2_takenCells, Cond.selects RX2 yX2_takenCells yX2_takenCells, Cond.code yX2_takenCells cX2_takenCells 3 (some .int), Cond.static yX7_put, Cond.code yX7_put cX7_put 3 none]
def wsX7_placing : List Cond := .code yX7_placing cX7_placing 3 (some .int) :: ((wsX7_placing_r1 ++ (wsX7_placing_r2 ++ wsX7_placing_r3)) ++ wsX70 ++ wsX30 ++ wsX20 ++ wsX10)
def wsJ6_bitCount_0f7a4 : List Cond := .code yJ6_bitCount_0f7a4 cJ6_bitCount_0f7a4 1 (some .int) :: ([.constant RJ6 265 (1431655765), .constant RJ6 266 (858993459), .constant RJ6 267 (252645135)])
def wsX7_trees_r1 : List Cond := [Cond.fieldLink RX7 26 "CockWar" "air" "LCockWar$Air;", Cond.fieldLink RX7 19 "CockWar" "now" "LCockWar$Hill;", Cond.methodLink RX7 175 yX7_isParish, Cond.static yX7_isParish, Cond.initialized RX7, Cond.code yX7_isParish cX7_isParish 1 (some .boolean), Cond.instanceMethod yX1_hasWind, Cond.initialized RX1, Cond.selects RX1 yX1_hasWind yX1_hasWind, Cond.code yX1_hasWind cX1_hasWind 2 (some .boolean), Cond.fieldLink RX1 25 "CockWar$Air" "winds" "I", Cond.instanceMethod yX2_treeCells, Cond.initialized RX2, Cond.selects RX2 yX2_treeCells yX2_treeCells, Cond.code yX2_treeCells cX2_treeCells 3 (some .int), Cond.fieldLink RX2 9 "CockWar$Hill" "trees" "[I", Cond.methodLink RX7 200 yJ6_bitCount_0f7a4, Cond.static yJ6_bitCount_0f7a4, Cond.initialized RJ6, Cond.code yJ6_bitCount_0f7a4 cJ6_bitCount_0f7a4 1 (some .int), Cond.constant RJ6 265 (1431655765), Cond.constant RJ6 266 (858993459), Cond.constant RJ6 267 (252645135), Cond.instanceMethod yX1_brookUnder]
def wsX7_trees_r2 : List Cond := [Cond.selects RX1 yX1_brookUnder yX1_brookUnder, Cond.code yX1_brookUnder cX1_brookUnder 5 (some .int), Cond.methodLink RX1 46 yX1_waysBehind, Cond.instanceMethod yX1_waysBehind, Cond.selects RX1 yX1_waysBehind yX1_waysBehind, Cond.code yX1_waysBehind cX1_waysBehind 7 (some .int), Cond.fieldLink RX1 9 "CockWar$Air" "goals" "[I", Cond.fieldLink RX1 15 "CockWar$Air" "strengths" "[I", Cond.static yX7_at, Cond.code yX7_at cX7_at 2 (some .int), Cond.instanceMethod yX2_yieldingTo, Cond.selects RX2 yX2_yieldingTo yX2_yieldingTo, Cond.code yX2_yieldingTo cX2_yieldingTo 8 (some .int), Cond.fieldLink RX2 27 "CockWar$Hill" "cocks" "I", Cond.fieldLink RX2 15 "CockWar$Hill" "cells" "[I", Cond.fieldLink RX2 21 "CockWar$Hill" "rusts" "[I", Cond.fieldLink RX2 18 "CockWar$Hill" "heights" "[I", Cond.static yX7_bit, Cond.code yX7_bit cX7_bit 2 (some .int), Cond.instanceMethod yX2_brookBy, Cond.selects RX2 yX2_brookBy yX2_brookBy, Cond.code yX2_brookBy cX2_brookBy 6 (some .int), Cond.fieldLink RX2 31 "CockWar$Hill" "parishes" "I", Cond.fieldLink RX2 24 "CockWar$Hill" "weights" "[I"]
def wsX7_trees_r3 : List Cond := [Cond.fieldLink RX2 40 "CockWar$Hill" "brook" "I"]
def wsX7_trees : List Cond := .code yX7_trees cX7_trees 7 (some .int) :: ((wsX7_trees_r1 ++ (wsX7_trees_r2 ++ wsX7_trees_r3)) ++ wsX70 ++ wsX20 ++ wsX10)
def wsX7_decides_r1 : List Cond := [Cond.fieldLink RX7 26 "CockWar" "air" "LCockWar$Air;", Cond.fieldLink RX7 19 "CockWar" "now" "LCockWar$Hill;", Cond.instanceMethod yX1_hasWind, Cond.initialized RX1, Cond.selects RX1 yX1_hasWind yX1_hasWind, Cond.code yX1_hasWind cX1_hasWind 2 (some .boolean), Cond.fieldLink RX1 25 "CockWar$Air" "winds" "I", Cond.instanceMethod yX1_waysBehind, Cond.selects RX1 yX1_waysBehind yX1_waysBehind, Cond.code yX1_waysBehind cX1_waysBehind 7 (some .int), Cond.fieldLink RX1 9 "CockWar$Air" "goals" "[I", Cond.fieldLink RX1 15 "CockWar$Air" "strengths" "[I", Cond.static yX7_at, Cond.initialized RX7, Cond.code yX7_at cX7_at 2 (some .int), Cond.instanceMethod yX2_yieldingTo, Cond.initialized RX2, Cond.selects RX2 yX2_yieldingTo yX2_yieldingTo, Cond.code yX2_yieldingTo cX2_yieldingTo 8 (some .int), Cond.fieldLink RX2 27 "CockWar$Hill" "cocks" "I", Cond.fieldLink RX2 15 "CockWar$Hill" "cells" "[I", Cond.fieldLink RX2 9 "CockWar$Hill" "trees" "[I", Cond.fieldLink RX2 21 "CockWar$Hill" "rusts" "[I", Cond.fieldLink RX2 18 "CockWar$Hill" "heights" "[I"]
def wsX7_decides_r2 : List Cond := [Cond.static yX7_bit, Cond.code yX7_bit cX7_bit 2 (some .int), Cond.instanceMethod yX2_brookBy, Cond.selects RX2 yX2_brookBy yX2_brookBy, Cond.code yX2_brookBy cX2_brookBy 6 (some .int), Cond.fieldLink RX2 31 "CockWar$Hill" "parishes" "I", Cond.fieldLink RX2 24 "CockWar$Hill" "weights" "[I", Cond.fieldLink RX2 40 "CockWar$Hill" "brook" "I"]
def wsX7_decides : List Cond := .code yX7_decides cX7_decides 6 (some .int) :: ((wsX7_decides_r1 ++ wsX7_decides_r2) ++ wsX70 ++ wsX20 ++ wsX10)
def wsX7_power : List Cond := .code yX7_power cX7_power 6 (some .int) :: ([.fieldLink RX7 19 "CockWar" "now" "LCockWar$Hill;", .instanceMethod yX2_hasCock, .initialized RX2, .selects RX2 yX2_hasCock yX2_hasCock, .code yX2_hasCock cX2_hasCock 2 (some .boolean), .fieldLink RX2 27 "CockWar$Hill" "cocks" "I", .instanceMethod yX2_everyCock, .selects RX2 yX2_everyCock yX2_everyCock, .code yX2_everyCock cX2_everyCock 1 (some .int), .instanceMethod yX2_brookBy, .selects RX2 yX2_brookBy yX2_brookBy, .code yX2_brookBy cX2_brookBy 6 (some .int), .fieldLink RX2 31 "CockWar$Hill" "parishes" "I", .fieldLink RX2 24 "CockWar$Hill" "weights" "[I", .fieldLink RX2 40 "CockWar$Hill" "brook" "I", .static yX7_bit, .initialized RX7, .code yX7_bit cX7_bit 2 (some .int), .static yX7_at, .code yX7_at cX7_at 2 (some .int)] ++ wsX70 ++ wsX20)
def wsX7_cutFigures : List Cond := .code yX7_cutFigures cX7_cutFigures 4 (some .int) :: ([])
def wsX7_judge_r1 : List Cond := [Cond.fieldLink RX7 58 "CockWar" "trial" "LCockWar$Hill;", Cond.fieldLink RX7 19 "CockWar" "now" "LCockWar$Hill;", Cond.fieldLink RX7 26 "CockWar" "air" "LCockWar$Air;", Cond.methodLink RX7 211 yX7_cutFigures, Cond.static yX7_cutFigures, Cond.initialized RX7, Cond.code yX7_cutFigures cX7_cutFigures 4 (some .int), Cond.instanceMethod yX2_copyFrom, Cond.initialized RX2, Cond.selects RX2 yX2_copyFrom yX2_copyFrom, Cond.code yX2_copyFrom cX2_copyFrom 2 none, Cond.fieldLink RX2 9 "CockWar$Hill" "trees" "[I", Cond.fieldLink RX2 15 "CockWar$Hill" "cells" "[I", Cond.fieldLink RX2 18 "CockWar$Hill" "heights" "[I", Cond.fieldLink RX2 21 "CockWar$Hill" "rusts" "[I", Cond.fieldLink RX2 24 "CockWar$Hill" "weights" "[I", Cond.fieldLink RX2 27 "CockWar$Hill" "cocks" "I", Cond.fieldLink RX2 31 "CockWar$Hill" "parishes" "I", Cond.fieldLink RX2 34 "CockWar$Hill" "ways" "I", Cond.fieldLink RX2 37 "CockWar$Hill" "held" "I", Cond.fieldLink RX2 40 "CockWar$Hill" "brook" "I", Cond.fieldLink RX2 43 "CockWar$Hill" "days" "I", Cond.static yX7_copyRow, Cond.code yX7_copyRow cX7_copyRow 3 none]
def wsX7_judge_r2 : List Cond := [Cond.instanceMethod yX1_hasWind, Cond.initialized RX1, Cond.selects RX1 yX1_hasWind yX1_hasWind, Cond.code yX1_hasWind cX1_hasWind 2 (some .boolean), Cond.fieldLink RX1 25 "CockWar$Air" "winds" "I", Cond.instanceMethod yX1_blowOver, Cond.selects RX1 yX1_blowOver yX1_blowOver, Cond.code yX1_blowOver cX1_blowOver 3 (some .int), Cond.methodLink RX1 46 yX1_waysBehind, Cond.instanceMethod yX1_waysBehind, Cond.selects RX1 yX1_waysBehind yX1_waysBehind, Cond.code yX1_waysBehind cX1_waysBehind 7 (some .int), Cond.fieldLink RX1 9 "CockWar$Air" "goals" "[I", Cond.fieldLink RX1 15 "CockWar$Air" "strengths" "[I", Cond.static yX7_at, Cond.code yX7_at cX7_at 2 (some .int), Cond.instanceMethod yX2_yieldingTo, Cond.selects RX2 yX2_yieldingTo yX2_yieldingTo, Cond.code yX2_yieldingTo cX2_yieldingTo 8 (some .int), Cond.static yX7_bit, Cond.code yX7_bit cX7_bit 2 (some .int), Cond.instanceMethod yX2_brookBy, Cond.selects RX2 yX2_brookBy yX2_brookBy, Cond.code yX2_brookBy cX2_brookBy 6 (some .int)]
def wsX7_judge : List Cond := .code yX7_judge cX7_judge 5 (some .int) :: ((wsX7_judge_r1 ++ wsX7_judge_r2) ++ wsX70 ++ wsX20 ++ wsX10)
def wsX7_see : List Cond := .code yX7_see cX7_see 3 (some .int) :: ([.fieldLink RX7 19 "CockWar" "now" "LCockWar$Hill;", .fieldLink RX7 40 "CockWar" "sights" "LCockWar$Sights;", .instanceMethod yX2_hasCock, .initialized RX2, .selects RX2 yX2_hasCock yX2_hasCock, .code yX2_hasCock cX2_hasCock 2 (some .boolean), .fieldLink RX2 27 "CockWar$Hill" "cocks" "I", .instanceMethod yX5_add, .initialized RX5, .selects RX5 yX5_add yX5_add, .code yX5_add cX5_add 3 (some .int), .fieldLink RX5 18 "CockWar$Sights" "number" "I", .fieldLink RX5 9 "CockWar$Sights" "cocks" "[I", .fieldLink RX5 15 "CockWar$Sights" "ways" "[I", .static yX7_put, .initialized RX7, .code yX7_put cX7_put 3 none] ++ wsX70 ++ wsX20 ++ wsX50)
def wsX7_unsee : List Cond := .code yX7_unsee cX7_unsee 2 (some .int) :: ([.fieldLink RX7 40 "CockWar" "sights" "LCockWar$Sights;"] ++ wsX70 ++ wsX50)
def wsX7_strings_r1 : List Cond := [Cond.fieldLink RX7 26 "CockWar" "air" "LCockWar$Air;", Cond.fieldLink RX7 19 "CockWar" "now" "LCockWar$Hill;", Cond.fieldLink RX7 40 "CockWar" "sights" "LCockWar$Sights;", Cond.instanceMethod yX1_hasWind, Cond.initialized RX1, Cond.selects RX1 yX1_hasWind yX1_hasWind, Cond.code yX1_hasWind cX1_hasWind 2 (some .boolean), Cond.fieldLink RX1 25 "CockWar$Air" "winds" "I", Cond.instanceMethod yX2_everyCock, Cond.initialized RX2, Cond.selects RX2 yX2_everyCock yX2_everyCock, Cond.code yX2_everyCock cX2_everyCock 1 (some .int), Cond.fieldLink RX2 27 "CockWar$Hill" "cocks" "I", Cond.instanceMethod yX1_waysBehind, Cond.selects RX1 yX1_waysBehind yX1_waysBehind, Cond.code yX1_waysBehind cX1_waysBehind 7 (some .int), Cond.fieldLink RX1 9 "CockWar$Air" "goals" "[I", Cond.fieldLink RX1 15 "CockWar$Air" "strengths" "[I", Cond.static yX7_at, Cond.initialized RX7, Cond.code yX7_at cX7_at 2 (some .int), Cond.instanceMethod yX2_yieldingTo, Cond.selects RX2 yX2_yieldingTo yX2_yieldingTo, Cond.code yX2_yieldingTo cX2_yieldingTo 8 (some .int)]
def wsX7_strings_r2 : List Cond := [Cond.fieldLink RX2 15 "CockWar$Hill" "cells" "[I", Cond.fieldLink RX2 9 "CockWar$Hill" "trees" "[I", Cond.fieldLink RX2 21 "CockWar$Hill" "rusts" "[I", Cond.fieldLink RX2 18 "CockWar$Hill" "heights" "[I", Cond.static yX7_bit, Cond.code yX7_bit cX7_bit 2 (some .int), Cond.instanceMethod yX5_agree, Cond.initialized RX5, Cond.selects RX5 yX5_agree yX5_agree, Cond.code yX5_agree cX5_agree 5 (some .boolean), Cond.fieldLink RX5 18 "CockWar$Sights" "number" "I", Cond.fieldLink RX5 9 "CockWar$Sights" "cocks" "[I", Cond.fieldLink RX5 15 "CockWar$Sights" "ways" "[I", Cond.instanceMethod yX2_hasCock, Cond.selects RX2 yX2_hasCock yX2_hasCock, Cond.code yX2_hasCock cX2_hasCock 2 (some .boolean)]
def wsX7_strings : List Cond := .code yX7_strings cX7_strings 8 (some .int) :: ((wsX7_strings_r1 ++ wsX7_strings_r2) ++ wsX70 ++ wsX10 ++ wsX20 ++ wsX50)
def wsX7_winds_r1 : List Cond := [Cond.fieldLink RX7 26 "CockWar" "air" "LCockWar$Air;", Cond.fieldLink RX7 40 "CockWar" "sights" "LCockWar$Sights;", Cond.fieldLink RX7 19 "CockWar" "now" "LCockWar$Hill;", Cond.instanceMethod yX1_waysBehind, Cond.initialized RX1, Cond.selects RX1 yX1_waysBehind yX1_waysBehind, Cond.code yX1_waysBehind cX1_waysBehind 7 (some .int), Cond.fieldLink RX1 9 "CockWar$Air" "goals" "[I", Cond.fieldLink RX1 15 "CockWar$Air" "strengths" "[I", Cond.static yX7_at, Cond.initialized RX7, Cond.code yX7_at cX7_at 2 (some .int), Cond.instanceMethod yX2_yieldingTo, Cond.initialized RX2, Cond.selects RX2 yX2_yieldingTo yX2_yieldingTo, Cond.code yX2_yieldingTo cX2_yieldingTo 8 (some .int), Cond.fieldLink RX2 27 "CockWar$Hill" "cocks" "I", Cond.fieldLink RX2 15 "CockWar$Hill" "cells" "[I", Cond.fieldLink RX2 9 "CockWar$Hill" "trees" "[I", Cond.fieldLink RX2 21 "CockWar$Hill" "rusts" "[I", Cond.fieldLink RX2 18 "CockWar$Hill" "heights" "[I", Cond.static yX7_bit, Cond.code yX7_bit cX7_bit 2 (some .int), Cond.instanceMethod yX5_agree]
def wsX7_winds_r2 : List Cond := [Cond.initialized RX5, Cond.selects RX5 yX5_agree yX5_agree, Cond.code yX5_agree cX5_agree 5 (some .boolean), Cond.fieldLink RX5 18 "CockWar$Sights" "number" "I", Cond.fieldLink RX5 9 "CockWar$Sights" "cocks" "[I", Cond.fieldLink RX5 15 "CockWar$Sights" "ways" "[I", Cond.instanceMethod yX2_hasCock, Cond.selects RX2 yX2_hasCock yX2_hasCock, Cond.code yX2_hasCock cX2_hasCock 2 (some .boolean)]
def wsX7_winds : List Cond := .code yX7_winds cX7_winds 3 (some .int) :: ((wsX7_winds_r1 ++ wsX7_winds_r2) ++ wsX70 ++ wsX10 ++ wsX20 ++ wsX50)
def wsX7_mayHold : List Cond := .code yX7_mayHold cX7_mayHold 3 (some .boolean) :: ([.fieldLink RX7 19 "CockWar" "now" "LCockWar$Hill;", .methodLink RX7 119 yX7_bit, .static yX7_bit, .initialized RX7, .code yX7_bit cX7_bit 2 (some .int)] ++ wsX70 ++ wsX20)
def wsX7_brookHeld_r1 : List Cond := [Cond.fieldLink RX7 26 "CockWar" "air" "LCockWar$Air;", Cond.fieldLink RX7 19 "CockWar" "now" "LCockWar$Hill;", Cond.instanceMethod yX1_brookUnder, Cond.initialized RX1, Cond.selects RX1 yX1_brookUnder yX1_brookUnder, Cond.code yX1_brookUnder cX1_brookUnder 5 (some .int), Cond.methodLink RX1 46 yX1_waysBehind, Cond.instanceMethod yX1_waysBehind, Cond.selects RX1 yX1_waysBehind yX1_waysBehind, Cond.code yX1_waysBehind cX1_waysBehind 7 (some .int), Cond.fieldLink RX1 9 "CockWar$Air" "goals" "[I", Cond.fieldLink RX1 15 "CockWar$Air" "strengths" "[I", Cond.static yX7_at, Cond.initialized RX7, Cond.code yX7_at cX7_at 2 (some .int), Cond.instanceMethod yX2_yieldingTo, Cond.initialized RX2, Cond.selects RX2 yX2_yieldingTo yX2_yieldingTo, Cond.code yX2_yieldingTo cX2_yieldingTo 8 (some .int), Cond.fieldLink RX2 27 "CockWar$Hill" "cocks" "I", Cond.fieldLink RX2 15 "CockWar$Hill" "cells" "[I", Cond.fieldLink RX2 9 "CockWar$Hill" "trees" "[I", Cond.fieldLink RX2 21 "CockWar$Hill" "rusts" "[I", Cond.fieldLink RX2 18 "CockWar$Hill" "heights" "[I"]
def wsX7_brookHeld_r2 : List Cond := [Cond.static yX7_bit, Cond.code yX7_bit cX7_bit 2 (some .int), Cond.instanceMethod yX2_brookBy, Cond.selects RX2 yX2_brookBy yX2_brookBy, Cond.code yX2_brookBy cX2_brookBy 6 (some .int), Cond.fieldLink RX2 31 "CockWar$Hill" "parishes" "I", Cond.fieldLink RX2 24 "CockWar$Hill" "weights" "[I", Cond.fieldLink RX2 40 "CockWar$Hill" "brook" "I"]
def wsX7_brookHeld : List Cond := .code yX7_brookHeld cX7_brookHeld 4 (some .int) :: ((wsX7_brookHeld_r1 ++ wsX7_brookHeld_r2) ++ wsX70 ++ wsX10 ++ wsX20)
def wsX7_isAtRest_r1 : List Cond := [Cond.fieldLink RX7 19 "CockWar" "now" "LCockWar$Hill;", Cond.methodLink RX7 263 yX7_brookHeld, Cond.instanceMethod yX7_brookHeld, Cond.selects RX7 yX7_brookHeld yX7_brookHeld, Cond.initialized RX7, Cond.code yX7_brookHeld cX7_brookHeld 4 (some .int), Cond.fieldLink RX7 26 "CockWar" "air" "LCockWar$Air;", Cond.instanceMethod yX1_brookUnder, Cond.initialized RX1, Cond.selects RX1 yX1_brookUnder yX1_brookUnder, Cond.code yX1_brookUnder cX1_brookUnder 5 (some .int), Cond.methodLink RX1 46 yX1_waysBehind, Cond.instanceMethod yX1_waysBehind, Cond.selects RX1 yX1_waysBehind yX1_waysBehind, Cond.code yX1_waysBehind cX1_waysBehind 7 (some .int), Cond.fieldLink RX1 9 "CockWar$Air" "goals" "[I", Cond.fieldLink RX1 15 "CockWar$Air" "strengths" "[I", Cond.static yX7_at, Cond.code yX7_at cX7_at 2 (some .int), Cond.instanceMethod yX2_yieldingTo, Cond.initialized RX2, Cond.selects RX2 yX2_yieldingTo yX2_yieldingTo, Cond.code yX2_yieldingTo cX2_yieldingTo 8 (some .int), Cond.fieldLink RX2 27 "CockWar$Hill" "cocks" "I"]
def wsX7_isAtRest_r2 : List Cond := [Cond.fieldLink RX2 15 "CockWar$Hill" "cells" "[I", Cond.fieldLink RX2 9 "CockWar$Hill" "trees" "[I", Cond.fieldLink RX2 21 "CockWar$Hill" "rusts" "[I", Cond.fieldLink RX2 18 "CockWar$Hill" "heights" "[I", Cond.static yX7_bit, Cond.code yX7_bit cX7_bit 2 (some .int), Cond.instanceMethod yX2_brookBy, Cond.selects RX2 yX2_brookBy yX2_brookBy, Cond.code yX2_brookBy cX2_brookBy 6 (some .int), Cond.fieldLink RX2 31 "CockWar$Hill" "parishes" "I", Cond.fieldLink RX2 24 "CockWar$Hill" "weights" "[I", Cond.fieldLink RX2 40 "CockWar$Hill" "brook" "I", Cond.methodLink RX7 224 yX7_mayHold, Cond.instanceMethod yX7_mayHold, Cond.selects RX7 yX7_mayHold yX7_mayHold, Cond.code yX7_mayHold cX7_mayHold 3 (some .boolean), Cond.methodLink RX7 119 yX7_bit]
def wsX7_isAtRest : List Cond := .code yX7_isAtRest cX7_isAtRest 6 (some .boolean) :: ((wsX7_isAtRest_r1 ++ wsX7_isAtRest_r2) ++ wsX70 ++ wsX20 ++ wsX10)
def wsX7_rests_r1 : List Cond := [Cond.fieldLink RX7 26 "CockWar" "air" "LCockWar$Air;", Cond.fieldLink RX7 19 "CockWar" "now" "LCockWar$Hill;", Cond.instanceMethod yX1_hasWind, Cond.initialized RX1, Cond.selects RX1 yX1_hasWind yX1_hasWind, Cond.code yX1_hasWind cX1_hasWind 2 (some .boolean), Cond.fieldLink RX1 25 "CockWar$Air" "winds" "I", Cond.methodLink RX7 224 yX7_mayHold, Cond.instanceMethod yX7_mayHold, Cond.selects RX7 yX7_mayHold yX7_mayHold, Cond.initialized RX7, Cond.code yX7_mayHold cX7_mayHold 3 (some .boolean), Cond.methodLink RX7 119 yX7_bit, Cond.static yX7_bit, Cond.code yX7_bit cX7_bit 2 (some .int), Cond.methodLink RX7 228 yX7_isAtRest, Cond.instanceMethod yX7_isAtRest, Cond.selects RX7 yX7_isAtRest yX7_isAtRest, Cond.code yX7_isAtRest cX7_isAtRest 6 (some .boolean), Cond.methodLink RX7 263 yX7_brookHeld, Cond.instanceMethod yX7_brookHeld, Cond.selects RX7 yX7_brookHeld yX7_brookHeld, Cond.code yX7_brookHeld cX7_brookHeld 4 (some .int), Cond.instanceMethod yX1_brookUnder]
def wsX7_rests_r2 : List Cond := [Cond.selects RX1 yX1_brookUnder yX1_brookUnder, Cond.code yX1_brookUnder cX1_brookUnder 5 (some .int), Cond.methodLink RX1 46 yX1_waysBehind, Cond.instanceMethod yX1_waysBehind, Cond.selects RX1 yX1_waysBehind yX1_waysBehind, Cond.code yX1_waysBehind cX1_waysBehind 7 (some .int), Cond.fieldLink RX1 9 "CockWar$Air" "goals" "[I", Cond.fieldLink RX1 15 "CockWar$Air" "strengths" "[I", Cond.static yX7_at, Cond.code yX7_at cX7_at 2 (some .int), Cond.instanceMethod yX2_yieldingTo, Cond.initialized RX2, Cond.selects RX2 yX2_yieldingTo yX2_yieldingTo, Cond.code yX2_yieldingTo cX2_yieldingTo 8 (some .int), Cond.fieldLink RX2 27 "CockWar$Hill" "cocks" "I", Cond.fieldLink RX2 15 "CockWar$Hill" "cells" "[I", Cond.fieldLink RX2 9 "CockWar$Hill" "trees" "[I", Cond.fieldLink RX2 21 "CockWar$Hill" "rusts" "[I", Cond.fieldLink RX2 18 "CockWar$Hill" "heights" "[I", Cond.instanceMethod yX2_brookBy, Cond.selects RX2 yX2_brookBy yX2_brookBy, Cond.code yX2_brookBy cX2_brookBy 6 (some .int), Cond.fieldLink RX2 31 "CockWar$Hill" "parishes" "I", Cond.fieldLink RX2 24 "CockWar$Hill" "weights" "[I"]
def wsX7_rests_r3 : List Cond := [Cond.fieldLink RX2 40 "CockWar$Hill" "brook" "I"]
def wsX7_rests : List Cond := .code yX7_rests cX7_rests 7 (some .int) :: ((wsX7_rests_r1 ++ (wsX7_rests_r2 ++ wsX7_rests_r3)) ++ wsX70 ++ wsX20 ++ wsX10)
def wsX7_waysToFreeze : List Cond := .code yX7_waysToFreeze cX7_waysToFreeze 5 (some .int) :: ([.fieldLink RX7 19 "CockWar" "now" "LCockWar$Hill;", .methodLink RX7 119 yX7_bit, .static yX7_bit, .initialized RX7, .code yX7_bit cX7_bit 2 (some .int)] ++ wsX70 ++ wsX20)
def wsX7_commonDivisor : List Cond := .code yX7_commonDivisor cX7_commonDivisor 6 (some .int) :: ([])
def wsX7_frost_r1 : List Cond := [Cond.fieldLink RX7 26 "CockWar" "air" "LCockWar$Air;", Cond.fieldLink RX7 19 "CockWar" "now" "LCockWar$Hill;", Cond.instanceMethod yX1_hasWind, Cond.initialized RX1, Cond.selects RX1 yX1_hasWind yX1_hasWind, Cond.code yX1_hasWind cX1_hasWind 2 (some .boolean), Cond.fieldLink RX1 25 "CockWar$Air" "winds" "I", Cond.instanceMethod yX2_everyCock, Cond.initialized RX2, Cond.selects RX2 yX2_everyCock yX2_everyCock, Cond.code yX2_everyCock cX2_everyCock 1 (some .int), Cond.fieldLink RX2 27 "CockWar$Hill" "cocks" "I", Cond.instanceMethod yX1_brookUnder, Cond.selects RX1 yX1_brookUnder yX1_brookUnder, Cond.code yX1_brookUnder cX1_brookUnder 5 (some .int), Cond.methodLink RX1 46 yX1_waysBehind, Cond.instanceMethod yX1_waysBehind, Cond.selects RX1 yX1_waysBehind yX1_waysBehind, Cond.code yX1_waysBehind cX1_waysBehind 7 (some .int), Cond.fieldLink RX1 9 "CockWar$Air" "goals" "[I", Cond.fieldLink RX1 15 "CockWar$Air" "strengths" "[I", Cond.static yX7_at, Cond.initialized RX7, Cond.code yX7_at cX7_at 2 (some .int)]
def wsX7_frost_r2 : List Cond := [Cond.instanceMethod yX2_yieldingTo, Cond.selects RX2 yX2_yieldingTo yX2_yieldingTo, Cond.code yX2_yieldingTo cX2_yieldingTo 8 (some .int), Cond.fieldLink RX2 15 "CockWar$Hill" "cells" "[I", Cond.fieldLink RX2 9 "CockWar$Hill" "trees" "[I", Cond.fieldLink RX2 21 "CockWar$Hill" "rusts" "[I", Cond.fieldLink RX2 18 "CockWar$Hill" "heights" "[I", Cond.static yX7_bit, Cond.code yX7_bit cX7_bit 2 (some .int), Cond.instanceMethod yX2_brookBy, Cond.selects RX2 yX2_brookBy yX2_brookBy, Cond.code yX2_brookBy cX2_brookBy 6 (some .int), Cond.fieldLink RX2 31 "CockWar$Hill" "parishes" "I", Cond.fieldLink RX2 24 "CockWar$Hill" "weights" "[I", Cond.fieldLink RX2 40 "CockWar$Hill" "brook" "I", Cond.methodLink RX7 232 yX7_waysToFreeze, Cond.instanceMethod yX7_waysToFreeze, Cond.selects RX7 yX7_waysToFreeze yX7_waysToFreeze, Cond.code yX7_waysToFreeze cX7_waysToFreeze 5 (some .int), Cond.methodLink RX7 119 yX7_bit, Cond.methodLink RX7 235 yX7_commonDivisor, Cond.static yX7_commonDivisor, Cond.code yX7_commonDivisor cX7_commonDivisor 6 (some .int)]
def wsX7_frost : List Cond := .code yX7_frost cX7_frost 8 (some .int) :: ((wsX7_frost_r1 ++ wsX7_frost_r2) ++ wsX70 ++ wsX20 ++ wsX10)
def wsX7_seed : List Cond := .code yX7_seed cX7_seed 5 (some .long) :: ([.fieldLink RX7 61 "CockWar" "drawn" "J"] ++ wsX70)
def wsX7_years_r1 : List Cond := [Cond.fieldLink RX7 26 "CockWar" "air" "LCockWar$Air;", Cond.fieldLink RX7 58 "CockWar" "trial" "LCockWar$Hill;", Cond.fieldLink RX7 19 "CockWar" "now" "LCockWar$Hill;", Cond.fieldLink RX7 61 "CockWar" "drawn" "J", Cond.constantLong RX7 241 (6364136223846793005), Cond.constantLong RX7 243 (1442695040888963407), Cond.instanceMethod yX1_daysInAll, Cond.initialized RX1, Cond.selects RX1 yX1_daysInAll yX1_daysInAll, Cond.code yX1_daysInAll cX1_daysInAll 3 (some .int), Cond.fieldLink RX1 25 "CockWar$Air" "winds" "I", Cond.fieldLink RX1 18 "CockWar$Air" "days" "[I", Cond.static yX7_at, Cond.initialized RX7, Cond.code yX7_at cX7_at 2 (some .int), Cond.instanceMethod yX2_copyFrom, Cond.initialized RX2, Cond.selects RX2 yX2_copyFrom yX2_copyFrom, Cond.code yX2_copyFrom cX2_copyFrom 2 none, Cond.fieldLink RX2 9 "CockWar$Hill" "trees" "[I", Cond.fieldLink RX2 15 "CockWar$Hill" "cells" "[I", Cond.fieldLink RX2 18 "CockWar$Hill" "heights" "[I", Cond.fieldLink RX2 21 "CockWar$Hill" "rusts" "[I", Cond.fieldLink RX2 24 "CockWar$Hill" "weights" "[I"]
def wsX7_years_r2 : List Cond := [Cond.fieldLink RX2 27 "CockWar$Hill" "cocks" "I", Cond.fieldLink RX2 31 "CockWar$Hill" "parishes" "I", Cond.fieldLink RX2 34 "CockWar$Hill" "ways" "I", Cond.fieldLink RX2 37 "CockWar$Hill" "held" "I", Cond.fieldLink RX2 40 "CockWar$Hill" "brook" "I", Cond.fieldLink RX2 43 "CockWar$Hill" "days" "I", Cond.static yX7_copyRow, Cond.code yX7_copyRow cX7_copyRow 3 none, Cond.instanceMethod yX1_windOfDay, Cond.selects RX1 yX1_windOfDay yX1_windOfDay, Cond.code yX1_windOfDay cX1_windOfDay 4 (some .int), Cond.instanceMethod yX1_blowOver, Cond.selects RX1 yX1_blowOver yX1_blowOver, Cond.code yX1_blowOver cX1_blowOver 3 (some .int), Cond.methodLink RX1 46 yX1_waysBehind, Cond.instanceMethod yX1_waysBehind, Cond.selects RX1 yX1_waysBehind yX1_waysBehind, Cond.code yX1_waysBehind cX1_waysBehind 7 (some .int), Cond.fieldLink RX1 9 "CockWar$Air" "goals" "[I", Cond.fieldLink RX1 15 "CockWar$Air" "strengths" "[I", Cond.instanceMethod yX2_yieldingTo, Cond.selects RX2 yX2_yieldingTo yX2_yieldingTo, Cond.code yX2_yieldingTo cX2_yieldingTo 8 (some .int), Cond.static yX7_bit]
def wsX7_years_r3 : List Cond := [Cond.code yX7_bit cX7_bit 2 (some .int), Cond.instanceMethod yX2_brookBy, Cond.selects RX2 yX2_brookBy yX2_brookBy, Cond.code yX2_brookBy cX2_brookBy 6 (some .int)]
def wsX7_years : List Cond := .code yX7_years cX7_years 6 (some .int) :: ((wsX7_years_r1 ++ (wsX7_years_r2 ++ wsX7_years_r3)) ++ wsX70 ++ wsX10 ++ wsX20)
def wsX7_keep_r1 : List Cond := [Cond.fieldLink RX7 47 "CockWar" "slots" "LCockWar$Slots;", Cond.fieldLink RX7 19 "CockWar" "now" "LCockWar$Hill;", Cond.instanceMethod yX6_store, Cond.initialized RX6, Cond.selects RX6 yX6_store yX6_store, Cond.code yX6_store cX6_store 3 (some .int), Cond.fieldLink RX6 11 "CockWar$Slots" "kept" "[LCockWar$Hill;", Cond.fieldLink RX6 18 "CockWar$Slots" "filled" "I", Cond.instanceMethod yX2_copyFrom, Cond.initialized RX2, Cond.selects RX2 yX2_copyFrom yX2_copyFrom, Cond.code yX2_copyFrom cX2_copyFrom 2 none, Cond.fieldLink RX2 9 "CockWar$Hill" "trees" "[I", Cond.fieldLink RX2 15 "CockWar$Hill" "cells" "[I", Cond.fieldLink RX2 18 "CockWar$Hill" "heights" "[I", Cond.fieldLink RX2 21 "CockWar$Hill" "rusts" "[I", Cond.fieldLink RX2 24 "CockWar$Hill" "weights" "[I", Cond.fieldLink RX2 27 "CockWar$Hill" "cocks" "I", Cond.fieldLink RX2 31 "CockWar$Hill" "parishes" "I", Cond.fieldLink RX2 34 "CockWar$Hill" "ways" "I", Cond.fieldLink RX2 37 "CockWar$Hill" "held" "I", Cond.fieldLink RX2 40 "CockWar$Hill" "brook" "I", Cond.fieldLink RX2 43 "CockWar$Hill" "days" "I", Cond.static yX7_copyRow]
def wsX7_keep_r2 : List Cond := [Cond.initialized RX7, Cond.code yX7_copyRow cX7_copyRow 3 none]
def wsX7_keep : List Cond := .code yX7_keep cX7_keep 2 (some .int) :: ((wsX7_keep_r1 ++ wsX7_keep_r2) ++ wsX70 ++ wsX60 ++ wsX20)
def wsX7_again_r1 : List Cond := [Cond.fieldLink RX7 47 "CockWar" "slots" "LCockWar$Slots;", Cond.fieldLink RX7 19 "CockWar" "now" "LCockWar$Hill;", Cond.fieldLink RX7 33 "CockWar" "acts" "LCockWar$ActRow;", Cond.instanceMethod yX6_fetch, Cond.initialized RX6, Cond.selects RX6 yX6_fetch yX6_fetch, Cond.code yX6_fetch cX6_fetch 3 (some .int), Cond.fieldLink RX6 11 "CockWar$Slots" "kept" "[LCockWar$Hill;", Cond.fieldLink RX6 18 "CockWar$Slots" "filled" "I", Cond.static yX7_bit, Cond.initialized RX7, Cond.code yX7_bit cX7_bit 2 (some .int), Cond.instanceMethod yX2_copyFrom, Cond.initialized RX2, Cond.selects RX2 yX2_copyFrom yX2_copyFrom, Cond.code yX2_copyFrom cX2_copyFrom 2 none, Cond.fieldLink RX2 9 "CockWar$Hill" "trees" "[I", Cond.fieldLink RX2 15 "CockWar$Hill" "cells" "[I", Cond.fieldLink RX2 18 "CockWar$Hill" "heights" "[I", Cond.fieldLink RX2 21 "CockWar$Hill" "rusts" "[I", Cond.fieldLink RX2 24 "CockWar$Hill" "weights" "[I", Cond.fieldLink RX2 27 "CockWar$Hill" "cocks" "I", Cond.fieldLink RX2 31 "CockWar$Hill" "parishes" "I", Cond.fieldLink RX2 34 "CockWar$Hill" "ways" "I"]
def wsX7_again_r2 : List Cond := [Cond.fieldLink RX2 37 "CockWar$Hill" "held" "I", Cond.fieldLink RX2 40 "CockWar$Hill" "brook" "I", Cond.fieldLink RX2 43 "CockWar$Hill" "days" "I", Cond.static yX7_copyRow, Cond.code yX7_copyRow cX7_copyRow 3 none, Cond.instanceMethod yX0_forget, Cond.initialized RX0, Cond.selects RX0 yX0_forget yX0_forget, Cond.code yX0_forget cX0_forget 1 none, Cond.fieldLink RX0 18 "CockWar$ActRow" "number" "I"]
def wsX7_again : List Cond := .code yX7_again cX7_again 3 (some .int) :: ((wsX7_again_r1 ++ wsX7_again_r2) ++ wsX70 ++ wsX60 ++ wsX20 ++ wsX00)
def wsX7_count : List Cond := .code yX7_count cX7_count 2 (some .int) :: ([.fieldLink RX7 12 "CockWar" "reader" "LCockWar$Reader;", .fieldLink RX7 19 "CockWar" "now" "LCockWar$Hill;", .fieldLink RX7 26 "CockWar" "air" "LCockWar$Air;", .fieldLink RX7 33 "CockWar" "acts" "LCockWar$ActRow;", .fieldLink RX7 40 "CockWar" "sights" "LCockWar$Sights;", .instanceMethod yX2_weightFor, .initialized RX2, .selects RX2 yX2_weightFor yX2_weightFor, .code yX2_weightFor cX2_weightFor 4 (some .int), .fieldLink RX2 27 "CockWar$Hill" "cocks" "I", .fieldLink RX2 31 "CockWar$Hill" "parishes" "I", .fieldLink RX2 34 "CockWar$Hill" "ways" "I", .fieldLink RX2 24 "CockWar$Hill" "weights" "[I", .static yX7_bit, .initialized RX7, .code yX7_bit cX7_bit 2 (some .int), .static yX7_at, .code yX7_at cX7_at 2 (some .int), .instanceMethod yX2_treeCells, .selects RX2 yX2_treeCells yX2_treeCells, .code yX2_treeCells cX2_treeCells 3 (some .int), .fieldLink RX2 9 "CockWar$Hill" "trees" "[I"] ++ wsX70 ++ wsX40 ++ wsX20 ++ wsX10 ++ wsX00 ++ wsX50)
def wsX8_init : List Cond := .code yX8_init cX8_init 1 none :: ([.methodLink RX8 1 objectInit, .instanceMethod objectInit, .code objectInit ⟨#[0xb1]⟩ 1 none, .arrayClass .int, .fieldLink RX8 7 "CockWarModel" "high" "[I", .fieldLink RX8 13 "CockWarModel" "weight" "[I", .fieldLink RX8 16 "CockWarModel" "wind" "[I", .fieldLink RX8 19 "CockWarModel" "now" "[I", .fieldLink RX8 22 "CockWarModel" "read" "[I", .fieldLink RX8 25 "CockWarModel" "readHigh" "[I", .fieldLink RX8 28 "CockWarModel" "readWeight" "[I", .fieldLink RX8 31 "CockWarModel" "readWind" "[I", .fieldLink RX8 34 "CockWarModel" "text" "[I", .fieldLink RX8 37 "CockWarModel" "row" "[I", .fieldLink RX8 40 "CockWarModel" "seenOf" "[I", .fieldLink RX8 43 "CockWarModel" "seenTo" "[I", .arrayClass .boolean, .fieldLink RX8 46 "CockWarModel" "isKept" "[Z", .fieldLink RX8 50 "CockWarModel" "kept" "[I", .fieldLink RX8 53 "CockWarModel" "cocks" "I"] ++ wsX80)
def wsX8_in : List Cond := .code yX8_in cX8_in 6 (some .boolean) :: ([])
def wsX8_has : List Cond := .code yX8_has cX8_has 2 (some .boolean) :: ([])
def wsX8_ones : List Cond := .code yX8_ones cX8_ones 3 (some .int) :: ([])
def wsX8_write : List Cond := .code yX8_write cX8_write 2 (some .int) :: ([.constantLong RX8 57 (255), .fieldLink RX8 63 "CockWarModel" "length" "I", .fieldLink RX8 34 "CockWarModel" "text" "[I", .methodLink RX8 59 yX8_in, .static yX8_in, .initialized RX8, .code yX8_in cX8_in 6 (some .boolean)] ++ wsX80)
def wsX8_wipe : List Cond := .code yX8_wipe cX8_wipe 2 (some .int) :: ([.fieldLink RX8 63 "CockWarModel" "length" "I"] ++ wsX80)
def wsX8_figure : List Cond := .code yX8_figure cX8_figure 4 (some .int) :: ([.fieldLink RX8 66 "CockWarModel" "faultAt" "I", .fieldLink RX8 69 "CockWarModel" "at" "I", .fieldLink RX8 63 "CockWarModel" "length" "I", .fieldLink RX8 34 "CockWarModel" "text" "[I", .methodLink RX8 59 yX8_in, .static yX8_in, .initialized RX8, .code yX8_in cX8_in 6 (some .boolean)] ++ wsX80)
def wsX8_figureOf : List Cond := .code yX8_figureOf cX8_figureOf 3 (some .int) :: ([.fieldLink RX8 66 "CockWarModel" "faultAt" "I", .fieldLink RX8 69 "CockWarModel" "at" "I", .fieldLink RX8 63 "CockWarModel" "length" "I", .fieldLink RX8 34 "CockWarModel" "text" "[I", .constantLong RX8 72 (9), .methodLink RX8 59 yX8_in, .static yX8_in, .initialized RX8, .code yX8_in cX8_in 6 (some .boolean), .methodLink RX8 74 yX8_has, .static yX8_has, .code yX8_has cX8_has 2 (some .boolean)] ++ wsX80)
def wsX8_readCock_r1 : List Cond := [Cond.fieldLink RX8 78 "CockWarModel" "readCocks" "I", Cond.fieldLink RX8 22 "CockWarModel" "read" "[I", Cond.fieldLink RX8 87 "CockWarModel" "readCells" "I", Cond.fieldLink RX8 25 "CockWarModel" "readHigh" "[I", Cond.fieldLink RX8 28 "CockWarModel" "readWeight" "[I", Cond.methodLink RX8 94 yX8_figureOf, Cond.instanceMethod yX8_figureOf, Cond.selects RX8 yX8_figureOf yX8_figureOf, Cond.initialized RX8, Cond.code yX8_figureOf cX8_figureOf 3 (some .int), Cond.fieldLink RX8 66 "CockWarModel" "faultAt" "I", Cond.fieldLink RX8 69 "CockWarModel" "at" "I", Cond.fieldLink RX8 63 "CockWarModel" "length" "I", Cond.fieldLink RX8 34 "CockWarModel" "text" "[I", Cond.constantLong RX8 72 (9), Cond.methodLink RX8 59 yX8_in, Cond.static yX8_in, Cond.code yX8_in cX8_in 6 (some .boolean), Cond.methodLink RX8 74 yX8_has, Cond.static yX8_has, Cond.code yX8_has cX8_has 2 (some .boolean), Cond.methodLink RX8 98 yX8_figure, Cond.instanceMethod yX8_figure, Cond.selects RX8 yX8_figure yX8_figure]
def wsX8_readCock_r2 : List Cond := [Cond.code yX8_figure cX8_figure 4 (some .int)]
def wsX8_readCock : List Cond := .code yX8_readCock cX8_readCock 4 none :: ((wsX8_readCock_r1 ++ wsX8_readCock_r2) ++ wsX80)
def wsX8_readPart_r1 : List Cond := [Cond.fieldLink RX8 84 "CockWarModel" "readTrees" "I", Cond.fieldLink RX8 69 "CockWarModel" "at" "I", Cond.fieldLink RX8 22 "CockWarModel" "read" "[I", Cond.fieldLink RX8 66 "CockWarModel" "faultAt" "I", Cond.fieldLink RX8 78 "CockWarModel" "readCocks" "I", Cond.fieldLink RX8 81 "CockWarModel" "readWinds" "I", Cond.fieldLink RX8 31 "CockWarModel" "readWind" "[I", Cond.methodLink RX8 94 yX8_figureOf, Cond.instanceMethod yX8_figureOf, Cond.selects RX8 yX8_figureOf yX8_figureOf, Cond.initialized RX8, Cond.code yX8_figureOf cX8_figureOf 3 (some .int), Cond.fieldLink RX8 63 "CockWarModel" "length" "I", Cond.fieldLink RX8 34 "CockWarModel" "text" "[I", Cond.constantLong RX8 72 (9), Cond.methodLink RX8 59 yX8_in, Cond.static yX8_in, Cond.code yX8_in cX8_in 6 (some .boolean), Cond.methodLink RX8 74 yX8_has, Cond.static yX8_has, Cond.code yX8_has cX8_has 2 (some .boolean), Cond.methodLink RX8 98 yX8_figure, Cond.instanceMethod yX8_figure, Cond.selects RX8 yX8_figure yX8_figure]
def wsX8_readPart_r2 : List Cond := [Cond.code yX8_figure cX8_figure 4 (some .int), Cond.methodLink RX8 102 yX8_readCock, Cond.instanceMethod yX8_readCock, Cond.selects RX8 yX8_readCock yX8_readCock, Cond.code yX8_readCock cX8_readCock 4 none, Cond.fieldLink RX8 87 "CockWarModel" "readCells" "I", Cond.fieldLink RX8 25 "CockWarModel" "readHigh" "[I", Cond.fieldLink RX8 28 "CockWarModel" "readWeight" "[I"]
def wsX8_readPart : List Cond := .code yX8_readPart cX8_readPart 4 none :: ((wsX8_readPart_r1 ++ wsX8_readPart_r2) ++ wsX80)
def wsX8_readText_r1 : List Cond := [Cond.fieldLink RX8 69 "CockWarModel" "at" "I", Cond.fieldLink RX8 66 "CockWarModel" "faultAt" "I", Cond.fieldLink RX8 78 "CockWarModel" "readCocks" "I", Cond.fieldLink RX8 81 "CockWarModel" "readWinds" "I", Cond.fieldLink RX8 84 "CockWarModel" "readTrees" "I", Cond.fieldLink RX8 87 "CockWarModel" "readCells" "I", Cond.fieldLink RX8 22 "CockWarModel" "read" "[I", Cond.fieldLink RX8 63 "CockWarModel" "length" "I", Cond.fieldLink RX8 34 "CockWarModel" "text" "[I", Cond.methodLink RX8 90 yX8_readPart, Cond.instanceMethod yX8_readPart, Cond.selects RX8 yX8_readPart yX8_readPart, Cond.initialized RX8, Cond.code yX8_readPart cX8_readPart 4 none, Cond.fieldLink RX8 31 "CockWarModel" "readWind" "[I", Cond.methodLink RX8 94 yX8_figureOf, Cond.instanceMethod yX8_figureOf, Cond.selects RX8 yX8_figureOf yX8_figureOf, Cond.code yX8_figureOf cX8_figureOf 3 (some .int), Cond.constantLong RX8 72 (9), Cond.methodLink RX8 59 yX8_in, Cond.static yX8_in, Cond.code yX8_in cX8_in 6 (some .boolean), Cond.methodLink RX8 74 yX8_has]
def wsX8_readText_r2 : List Cond := [Cond.static yX8_has, Cond.code yX8_has cX8_has 2 (some .boolean), Cond.methodLink RX8 98 yX8_figure, Cond.instanceMethod yX8_figure, Cond.selects RX8 yX8_figure yX8_figure, Cond.code yX8_figure cX8_figure 4 (some .int), Cond.methodLink RX8 102 yX8_readCock, Cond.instanceMethod yX8_readCock, Cond.selects RX8 yX8_readCock yX8_readCock, Cond.code yX8_readCock cX8_readCock 4 none, Cond.fieldLink RX8 25 "CockWarModel" "readHigh" "[I", Cond.fieldLink RX8 28 "CockWarModel" "readWeight" "[I"]
def wsX8_readText : List Cond := .code yX8_readText cX8_readText 2 (some .int) :: ((wsX8_readText_r1 ++ wsX8_readText_r2) ++ wsX80)
def wsX8_fault_r1 : List Cond := [Cond.methodLink RX8 105 yX8_readText, Cond.instanceMethod yX8_readText, Cond.selects RX8 yX8_readText yX8_readText, Cond.initialized RX8, Cond.code yX8_readText cX8_readText 2 (some .int), Cond.fieldLink RX8 69 "CockWarModel" "at" "I", Cond.fieldLink RX8 66 "CockWarModel" "faultAt" "I", Cond.fieldLink RX8 78 "CockWarModel" "readCocks" "I", Cond.fieldLink RX8 81 "CockWarModel" "readWinds" "I", Cond.fieldLink RX8 84 "CockWarModel" "readTrees" "I", Cond.fieldLink RX8 87 "CockWarModel" "readCells" "I", Cond.fieldLink RX8 22 "CockWarModel" "read" "[I", Cond.fieldLink RX8 63 "CockWarModel" "length" "I", Cond.fieldLink RX8 34 "CockWarModel" "text" "[I", Cond.methodLink RX8 90 yX8_readPart, Cond.instanceMethod yX8_readPart, Cond.selects RX8 yX8_readPart yX8_readPart, Cond.code yX8_readPart cX8_readPart 4 none, Cond.fieldLink RX8 31 "CockWarModel" "readWind" "[I", Cond.methodLink RX8 94 yX8_figureOf, Cond.instanceMethod yX8_figureOf, Cond.selects RX8 yX8_figureOf yX8_figureOf, Cond.code yX8_figureOf cX8_figureOf 3 (some .int), Cond.constantLong RX8 72 (9)]
def wsX8_fault_r2 : List Cond := [Cond.methodLink RX8 59 yX8_in, Cond.static yX8_in, Cond.code yX8_in cX8_in 6 (some .boolean), Cond.methodLink RX8 74 yX8_has, Cond.static yX8_has, Cond.code yX8_has cX8_has 2 (some .boolean), Cond.methodLink RX8 98 yX8_figure, Cond.instanceMethod yX8_figure, Cond.selects RX8 yX8_figure yX8_figure, Cond.code yX8_figure cX8_figure 4 (some .int), Cond.methodLink RX8 102 yX8_readCock, Cond.instanceMethod yX8_readCock, Cond.selects RX8 yX8_readCock yX8_readCock, Cond.code yX8_readCock cX8_readCock 4 none, Cond.fieldLink RX8 25 "CockWarModel" "readHigh" "[I", Cond.fieldLink RX8 28 "CockWarModel" "readWeight" "[I"]
def wsX8_fault : List Cond := .code yX8_fault cX8_fault 1 (some .int) :: ((wsX8_fault_r1 ++ wsX8_fault_r2) ++ wsX80)
def wsX8_hill_r1 : List Cond := [Cond.fieldLink RX8 78 "CockWarModel" "readCocks" "I", Cond.fieldLink RX8 53 "CockWarModel" "cocks" "I", Cond.fieldLink RX8 81 "CockWarModel" "readWinds" "I", Cond.fieldLink RX8 109 "CockWarModel" "winds" "I", Cond.fieldLink RX8 7 "CockWarModel" "high" "[I", Cond.fieldLink RX8 25 "CockWarModel" "readHigh" "[I", Cond.fieldLink RX8 13 "CockWarModel" "weight" "[I", Cond.fieldLink RX8 28 "CockWarModel" "readWeight" "[I", Cond.fieldLink RX8 16 "CockWarModel" "wind" "[I", Cond.fieldLink RX8 31 "CockWarModel" "readWind" "[I", Cond.fieldLink RX8 19 "CockWarModel" "now" "[I", Cond.fieldLink RX8 22 "CockWarModel" "read" "[I", Cond.fieldLink RX8 112 "CockWarModel" "acts" "I", Cond.fieldLink RX8 46 "CockWarModel" "isKept" "[Z", Cond.methodLink RX8 105 yX8_readText, Cond.instanceMethod yX8_readText, Cond.selects RX8 yX8_readText yX8_readText, Cond.initialized RX8, Cond.code yX8_readText cX8_readText 2 (some .int), Cond.fieldLink RX8 69 "CockWarModel" "at" "I", Cond.fieldLink RX8 66 "CockWarModel" "faultAt" "I", Cond.fieldLink RX8 84 "CockWarModel" "readTrees" "I", Cond.fieldLink RX8 87 "CockWarModel" "readCells" "I", Cond.fieldLink RX8 63 "CockWarModel" "length" "I"]
def wsX8_hill_r2 : List Cond := [Cond.fieldLink RX8 34 "CockWarModel" "text" "[I", Cond.methodLink RX8 90 yX8_readPart, Cond.instanceMethod yX8_readPart, Cond.selects RX8 yX8_readPart yX8_readPart, Cond.code yX8_readPart cX8_readPart 4 none, Cond.methodLink RX8 94 yX8_figureOf, Cond.instanceMethod yX8_figureOf, Cond.selects RX8 yX8_figureOf yX8_figureOf, Cond.code yX8_figureOf cX8_figureOf 3 (some .int), Cond.constantLong RX8 72 (9), Cond.methodLink RX8 59 yX8_in, Cond.static yX8_in, Cond.code yX8_in cX8_in 6 (some .boolean), Cond.methodLink RX8 74 yX8_has, Cond.static yX8_has, Cond.code yX8_has cX8_has 2 (some .boolean), Cond.methodLink RX8 98 yX8_figure, Cond.instanceMethod yX8_figure, Cond.selects RX8 yX8_figure yX8_figure, Cond.code yX8_figure cX8_figure 4 (some .int), Cond.methodLink RX8 102 yX8_readCock, Cond.instanceMethod yX8_readCock, Cond.selects RX8 yX8_readCock yX8_readCock, Cond.code yX8_readCock cX8_readCock 4 none]
def wsX8_hill : List Cond := .code yX8_hill cX8_hill 2 (some .int) :: ((wsX8_hill_r1 ++ wsX8_hill_r2) ++ wsX80)
def wsX8_isCock : List Cond := .code yX8_isCock cX8_isCock 2 (some .boolean) :: ([.fieldLink RX8 53 "CockWarModel" "cocks" "I", .methodLink RX8 59 yX8_in, .static yX8_in, .initialized RX8, .code yX8_in cX8_in 6 (some .boolean)] ++ wsX80)
def wsX8_isWind : List Cond := .code yX8_isWind cX8_isWind 2 (some .boolean) :: ([.fieldLink RX8 109 "CockWarModel" "winds" "I", .methodLink RX8 59 yX8_in, .static yX8_in, .initialized RX8, .code yX8_in cX8_in 6 (some .boolean)] ++ wsX80)
def wsX8_tree : List Cond := .code yX8_tree cX8_tree 2 (some .int) :: ([.constantLong RX8 72 (9), .fieldLink RX8 19 "CockWarModel" "now" "[I", .methodLink RX8 59 yX8_in, .static yX8_in, .initialized RX8, .code yX8_in cX8_in 6 (some .boolean)] ++ wsX80)
def wsX8_cock : List Cond := .code yX8_cock cX8_cock 3 (some .int) :: ([.fieldLink RX8 19 "CockWarModel" "now" "[I", .fieldLink RX8 7 "CockWarModel" "high" "[I", .fieldLink RX8 13 "CockWarModel" "weight" "[I", .methodLink RX8 115 yX8_isCock, .instanceMethod yX8_isCock, .selects RX8 yX8_isCock yX8_isCock, .initialized RX8, .code yX8_isCock cX8_isCock 2 (some .boolean), .fieldLink RX8 53 "CockWarModel" "cocks" "I", .methodLink RX8 59 yX8_in, .static yX8_in, .code yX8_in cX8_in 6 (some .boolean)] ++ wsX80)
def wsX8_isSheltered : List Cond := .code yX8_isSheltered cX8_isSheltered 5 (some .boolean) :: ([.fieldLink RX8 19 "CockWarModel" "now" "[I", .constantLong RX8 72 (9), .fieldLink RX8 7 "CockWarModel" "high" "[I", .methodLink RX8 59 yX8_in, .static yX8_in, .initialized RX8, .code yX8_in cX8_in 6 (some .boolean)] ++ wsX80)
def wsX8_pointsBy : List Cond := .code yX8_pointsBy cX8_pointsBy 7 (some .int) :: ([.fieldLink RX8 19 "CockWarModel" "now" "[I", .fieldLink RX8 53 "CockWarModel" "cocks" "I", .fieldLink RX8 16 "CockWarModel" "wind" "[I", .methodLink RX8 74 yX8_has, .static yX8_has, .initialized RX8, .code yX8_has cX8_has 2 (some .boolean), .methodLink RX8 119 yX8_isSheltered, .instanceMethod yX8_isSheltered, .selects RX8 yX8_isSheltered yX8_isSheltered, .code yX8_isSheltered cX8_isSheltered 5 (some .boolean), .constantLong RX8 72 (9), .fieldLink RX8 7 "CockWarModel" "high" "[I", .methodLink RX8 59 yX8_in, .static yX8_in, .code yX8_in cX8_in 6 (some .boolean)] ++ wsX80)
def wsX8_weightOf : List Cond := .code yX8_weightOf cX8_weightOf 7 (some .int) :: ([.fieldLink RX8 53 "CockWarModel" "cocks" "I", .fieldLink RX8 19 "CockWarModel" "now" "[I", .fieldLink RX8 13 "CockWarModel" "weight" "[I", .methodLink RX8 74 yX8_has, .static yX8_has, .initialized RX8, .code yX8_has cX8_has 2 (some .boolean)] ++ wsX80)
def wsX8_brookBy : List Cond := .code yX8_brookBy cX8_brookBy 4 (some .int) :: ([.fieldLink RX8 19 "CockWarModel" "now" "[I", .methodLink RX8 123 yX8_weightOf, .instanceMethod yX8_weightOf, .selects RX8 yX8_weightOf yX8_weightOf, .initialized RX8, .code yX8_weightOf cX8_weightOf 7 (some .int), .fieldLink RX8 53 "CockWarModel" "cocks" "I", .fieldLink RX8 13 "CockWarModel" "weight" "[I", .methodLink RX8 74 yX8_has, .static yX8_has, .code yX8_has cX8_has 2 (some .boolean)] ++ wsX80)
def wsX8_blowOn_r1 : List Cond := [Cond.fieldLink RX8 19 "CockWarModel" "now" "[I", Cond.methodLink RX8 127 yX8_pointsBy, Cond.instanceMethod yX8_pointsBy, Cond.selects RX8 yX8_pointsBy yX8_pointsBy, Cond.initialized RX8, Cond.code yX8_pointsBy cX8_pointsBy 7 (some .int), Cond.fieldLink RX8 53 "CockWarModel" "cocks" "I", Cond.fieldLink RX8 16 "CockWarModel" "wind" "[I", Cond.methodLink RX8 74 yX8_has, Cond.static yX8_has, Cond.code yX8_has cX8_has 2 (some .boolean), Cond.methodLink RX8 119 yX8_isSheltered, Cond.instanceMethod yX8_isSheltered, Cond.selects RX8 yX8_isSheltered yX8_isSheltered, Cond.code yX8_isSheltered cX8_isSheltered 5 (some .boolean), Cond.constantLong RX8 72 (9), Cond.fieldLink RX8 7 "CockWarModel" "high" "[I", Cond.methodLink RX8 59 yX8_in, Cond.static yX8_in, Cond.code yX8_in cX8_in 6 (some .boolean), Cond.methodLink RX8 130 yX8_brookBy, Cond.instanceMethod yX8_brookBy, Cond.selects RX8 yX8_brookBy yX8_brookBy, Cond.code yX8_brookBy cX8_brookBy 4 (some .int)]
def wsX8_blowOn_r2 : List Cond := [Cond.methodLink RX8 123 yX8_weightOf, Cond.instanceMethod yX8_weightOf, Cond.selects RX8 yX8_weightOf yX8_weightOf, Cond.code yX8_weightOf cX8_weightOf 7 (some .int), Cond.fieldLink RX8 13 "CockWarModel" "weight" "[I"]
def wsX8_blowOn : List Cond := .code yX8_blowOn cX8_blowOn 5 none :: ((wsX8_blowOn_r1 ++ wsX8_blowOn_r2) ++ wsX80)
def wsX8_wind_r1 : List Cond := [Cond.constantLong RX8 136 (2), Cond.fieldLink RX8 16 "CockWarModel" "wind" "[I", Cond.fieldLink RX8 19 "CockWarModel" "now" "[I", Cond.methodLink RX8 133 yX8_isWind, Cond.instanceMethod yX8_isWind, Cond.selects RX8 yX8_isWind yX8_isWind, Cond.initialized RX8, Cond.code yX8_isWind cX8_isWind 2 (some .boolean), Cond.fieldLink RX8 109 "CockWarModel" "winds" "I", Cond.methodLink RX8 59 yX8_in, Cond.static yX8_in, Cond.code yX8_in cX8_in 6 (some .boolean), Cond.methodLink RX8 127 yX8_pointsBy, Cond.instanceMethod yX8_pointsBy, Cond.selects RX8 yX8_pointsBy yX8_pointsBy, Cond.code yX8_pointsBy cX8_pointsBy 7 (some .int), Cond.fieldLink RX8 53 "CockWarModel" "cocks" "I", Cond.methodLink RX8 74 yX8_has, Cond.static yX8_has, Cond.code yX8_has cX8_has 2 (some .boolean), Cond.methodLink RX8 119 yX8_isSheltered, Cond.instanceMethod yX8_isSheltered, Cond.selects RX8 yX8_isSheltered yX8_isSheltered, Cond.code yX8_isSheltered cX8_isSheltered 5 (some .boolean)]
def wsX8_wind_r2 : List Cond := [Cond.constantLong RX8 72 (9), Cond.fieldLink RX8 7 "CockWarModel" "high" "[I"]
def wsX8_wind : List Cond := .code yX8_wind cX8_wind 3 (some .int) :: ((wsX8_wind_r1 ++ wsX8_wind_r2) ++ wsX80)
def wsX8_keepAct : List Cond := .code yX8_keepAct cX8_keepAct 2 none :: ([.fieldLink RX8 37 "CockWarModel" "row" "[I", .fieldLink RX8 138 "CockWarModel" "next" "I", .fieldLink RX8 19 "CockWarModel" "now" "[I", .fieldLink RX8 112 "CockWarModel" "acts" "I"] ++ wsX80)
def wsX8_blow_r1 : List Cond := [Cond.fieldLink RX8 19 "CockWarModel" "now" "[I", Cond.methodLink RX8 133 yX8_isWind, Cond.instanceMethod yX8_isWind, Cond.selects RX8 yX8_isWind yX8_isWind, Cond.initialized RX8, Cond.code yX8_isWind cX8_isWind 2 (some .boolean), Cond.fieldLink RX8 109 "CockWarModel" "winds" "I", Cond.methodLink RX8 59 yX8_in, Cond.static yX8_in, Cond.code yX8_in cX8_in 6 (some .boolean), Cond.methodLink RX8 141 yX8_keepAct, Cond.instanceMethod yX8_keepAct, Cond.selects RX8 yX8_keepAct yX8_keepAct, Cond.code yX8_keepAct cX8_keepAct 2 none, Cond.fieldLink RX8 37 "CockWarModel" "row" "[I", Cond.fieldLink RX8 138 "CockWarModel" "next" "I", Cond.fieldLink RX8 112 "CockWarModel" "acts" "I", Cond.methodLink RX8 144 yX8_blowOn, Cond.instanceMethod yX8_blowOn, Cond.selects RX8 yX8_blowOn yX8_blowOn, Cond.code yX8_blowOn cX8_blowOn 5 none, Cond.methodLink RX8 127 yX8_pointsBy, Cond.instanceMethod yX8_pointsBy, Cond.selects RX8 yX8_pointsBy yX8_pointsBy]
def wsX8_blow_r2 : List Cond := [Cond.code yX8_pointsBy cX8_pointsBy 7 (some .int), Cond.fieldLink RX8 53 "CockWarModel" "cocks" "I", Cond.fieldLink RX8 16 "CockWarModel" "wind" "[I", Cond.methodLink RX8 74 yX8_has, Cond.static yX8_has, Cond.code yX8_has cX8_has 2 (some .boolean), Cond.methodLink RX8 119 yX8_isSheltered, Cond.instanceMethod yX8_isSheltered, Cond.selects RX8 yX8_isSheltered yX8_isSheltered, Cond.code yX8_isSheltered cX8_isSheltered 5 (some .boolean), Cond.constantLong RX8 72 (9), Cond.fieldLink RX8 7 "CockWarModel" "high" "[I", Cond.methodLink RX8 130 yX8_brookBy, Cond.instanceMethod yX8_brookBy, Cond.selects RX8 yX8_brookBy yX8_brookBy, Cond.code yX8_brookBy cX8_brookBy 4 (some .int), Cond.methodLink RX8 123 yX8_weightOf, Cond.instanceMethod yX8_weightOf, Cond.selects RX8 yX8_weightOf yX8_weightOf, Cond.code yX8_weightOf cX8_weightOf 7 (some .int), Cond.fieldLink RX8 13 "CockWarModel" "weight" "[I"]
def wsX8_blow : List Cond := .code yX8_blow cX8_blow 2 (some .int) :: ((wsX8_blow_r1 ++ wsX8_blow_r2) ++ wsX80)
def wsX8_fell : List Cond := .code yX8_fell cX8_fell 3 (some .int) :: ([.constantLong RX8 72 (9), .fieldLink RX8 19 "CockWarModel" "now" "[I", .methodLink RX8 59 yX8_in, .static yX8_in, .initialized RX8, .code yX8_in cX8_in 6 (some .boolean), .methodLink RX8 141 yX8_keepAct, .instanceMethod yX8_keepAct, .selects RX8 yX8_keepAct yX8_keepAct, .code yX8_keepAct cX8_keepAct 2 none, .fieldLink RX8 37 "CockWarModel" "row" "[I", .fieldLink RX8 138 "CockWarModel" "next" "I", .fieldLink RX8 112 "CockWarModel" "acts" "I"] ++ wsX80)
def wsX8_isCockOn : List Cond := .code yX8_isCockOn cX8_isCockOn 4 (some .boolean) :: ([.fieldLink RX8 53 "CockWarModel" "cocks" "I", .fieldLink RX8 19 "CockWarModel" "now" "[I"] ++ wsX80)
def wsX8_move : List Cond := .code yX8_move cX8_move 4 (some .int) :: ([.constantLong RX8 72 (9), .fieldLink RX8 19 "CockWarModel" "now" "[I", .methodLink RX8 115 yX8_isCock, .instanceMethod yX8_isCock, .selects RX8 yX8_isCock yX8_isCock, .initialized RX8, .code yX8_isCock cX8_isCock 2 (some .boolean), .fieldLink RX8 53 "CockWarModel" "cocks" "I", .methodLink RX8 59 yX8_in, .static yX8_in, .code yX8_in cX8_in 6 (some .boolean), .methodLink RX8 148 yX8_isCockOn, .instanceMethod yX8_isCockOn, .selects RX8 yX8_isCockOn yX8_isCockOn, .code yX8_isCockOn cX8_isCockOn 4 (some .boolean), .methodLink RX8 141 yX8_keepAct, .instanceMethod yX8_keepAct, .selects RX8 yX8_keepAct yX8_keepAct, .code yX8_keepAct cX8_keepAct 2 none, .fieldLink RX8 37 "CockWarModel" "row" "[I", .fieldLink RX8 138 "CockWarModel" "next" "I", .fieldLink RX8 112 "CockWarModel" "acts" "I"] ++ wsX80)
def wsX8_grease : List Cond := .code yX8_grease cX8_grease 3 (some .int) :: ([.fieldLink RX8 19 "CockWarModel" "now" "[I", .methodLink RX8 115 yX8_isCock, .instanceMethod yX8_isCock, .selects RX8 yX8_isCock yX8_isCock, .initialized RX8, .code yX8_isCock cX8_isCock 2 (some .boolean), .fieldLink RX8 53 "CockWarModel" "cocks" "I", .methodLink RX8 59 yX8_in, .static yX8_in, .code yX8_in cX8_in 6 (some .boolean), .methodLink RX8 141 yX8_keepAct, .instanceMethod yX8_keepAct, .selects RX8 yX8_keepAct yX8_keepAct, .code yX8_keepAct cX8_keepAct 2 none, .fieldLink RX8 37 "CockWarModel" "row" "[I", .fieldLink RX8 138 "CockWarModel" "next" "I", .fieldLink RX8 112 "CockWarModel" "acts" "I"] ++ wsX80)
def wsX8_capture : List Cond := .code yX8_capture cX8_capture 2 (some .int) :: ([.fieldLink RX8 19 "CockWarModel" "now" "[I", .methodLink RX8 115 yX8_isCock, .instanceMethod yX8_isCock, .selects RX8 yX8_isCock yX8_isCock, .initialized RX8, .code yX8_isCock cX8_isCock 2 (some .boolean), .fieldLink RX8 53 "CockWarModel" "cocks" "I", .methodLink RX8 59 yX8_in, .static yX8_in, .code yX8_in cX8_in 6 (some .boolean), .methodLink RX8 141 yX8_keepAct, .instanceMethod yX8_keepAct, .selects RX8 yX8_keepAct yX8_keepAct, .code yX8_keepAct cX8_keepAct 2 none, .fieldLink RX8 37 "CockWarModel" "row" "[I", .fieldLink RX8 138 "CockWarModel" "next" "I", .fieldLink RX8 112 "CockWarModel" "acts" "I"] ++ wsX80)
def wsX8_hold : List Cond := .code yX8_hold cX8_hold 2 (some .int) :: ([.fieldLink RX8 19 "CockWarModel" "now" "[I", .methodLink RX8 115 yX8_isCock, .instanceMethod yX8_isCock, .selects RX8 yX8_isCock yX8_isCock, .initialized RX8, .code yX8_isCock cX8_isCock 2 (some .boolean), .fieldLink RX8 53 "CockWarModel" "cocks" "I", .methodLink RX8 59 yX8_in, .static yX8_in, .code yX8_in cX8_in 6 (some .boolean), .methodLink RX8 141 yX8_keepAct, .instanceMethod yX8_keepAct, .selects RX8 yX8_keepAct yX8_keepAct, .code yX8_keepAct cX8_keepAct 2 none, .fieldLink RX8 37 "CockWarModel" "row" "[I", .fieldLink RX8 138 "CockWarModel" "next" "I", .fieldLink RX8 112 "CockWarModel" "acts" "I"] ++ wsX80)
def wsX8_undo : List Cond := .code yX8_undo cX8_undo 2 (some .int) :: ([.fieldLink RX8 112 "CockWarModel" "acts" "I", .fieldLink RX8 138 "CockWarModel" "next" "I", .fieldLink RX8 19 "CockWarModel" "now" "[I", .fieldLink RX8 37 "CockWarModel" "row" "[I"] ++ wsX80)
def wsX8_underOf_r1 : List Cond := [Cond.methodLink RX8 127 yX8_pointsBy, Cond.instanceMethod yX8_pointsBy, Cond.selects RX8 yX8_pointsBy yX8_pointsBy, Cond.initialized RX8, Cond.code yX8_pointsBy cX8_pointsBy 7 (some .int), Cond.fieldLink RX8 19 "CockWarModel" "now" "[I", Cond.fieldLink RX8 53 "CockWarModel" "cocks" "I", Cond.fieldLink RX8 16 "CockWarModel" "wind" "[I", Cond.methodLink RX8 74 yX8_has, Cond.static yX8_has, Cond.code yX8_has cX8_has 2 (some .boolean), Cond.methodLink RX8 119 yX8_isSheltered, Cond.instanceMethod yX8_isSheltered, Cond.selects RX8 yX8_isSheltered yX8_isSheltered, Cond.code yX8_isSheltered cX8_isSheltered 5 (some .boolean), Cond.constantLong RX8 72 (9), Cond.fieldLink RX8 7 "CockWarModel" "high" "[I", Cond.methodLink RX8 59 yX8_in, Cond.static yX8_in, Cond.code yX8_in cX8_in 6 (some .boolean), Cond.methodLink RX8 130 yX8_brookBy, Cond.instanceMethod yX8_brookBy, Cond.selects RX8 yX8_brookBy yX8_brookBy, Cond.code yX8_brookBy cX8_brookBy 4 (some .int)]
def wsX8_underOf_r2 : List Cond := [Cond.methodLink RX8 123 yX8_weightOf, Cond.instanceMethod yX8_weightOf, Cond.selects RX8 yX8_weightOf yX8_weightOf, Cond.code yX8_weightOf cX8_weightOf 7 (some .int), Cond.fieldLink RX8 13 "CockWarModel" "weight" "[I"]
def wsX8_underOf : List Cond := .code yX8_underOf cX8_underOf 4 (some .int) :: ((wsX8_underOf_r1 ++ wsX8_underOf_r2) ++ wsX80)
def wsX8_under_r1 : List Cond := [Cond.fieldLink RX8 19 "CockWarModel" "now" "[I", Cond.methodLink RX8 133 yX8_isWind, Cond.instanceMethod yX8_isWind, Cond.selects RX8 yX8_isWind yX8_isWind, Cond.initialized RX8, Cond.code yX8_isWind cX8_isWind 2 (some .boolean), Cond.fieldLink RX8 109 "CockWarModel" "winds" "I", Cond.methodLink RX8 59 yX8_in, Cond.static yX8_in, Cond.code yX8_in cX8_in 6 (some .boolean), Cond.methodLink RX8 151 yX8_underOf, Cond.instanceMethod yX8_underOf, Cond.selects RX8 yX8_underOf yX8_underOf, Cond.code yX8_underOf cX8_underOf 4 (some .int), Cond.methodLink RX8 127 yX8_pointsBy, Cond.instanceMethod yX8_pointsBy, Cond.selects RX8 yX8_pointsBy yX8_pointsBy, Cond.code yX8_pointsBy cX8_pointsBy 7 (some .int), Cond.fieldLink RX8 53 "CockWarModel" "cocks" "I", Cond.fieldLink RX8 16 "CockWarModel" "wind" "[I", Cond.methodLink RX8 74 yX8_has, Cond.static yX8_has, Cond.code yX8_has cX8_has 2 (some .boolean), Cond.methodLink RX8 119 yX8_isSheltered]
def wsX8_under_r2 : List Cond := [Cond.instanceMethod yX8_isSheltered, Cond.selects RX8 yX8_isSheltered yX8_isSheltered, Cond.code yX8_isSheltered cX8_isSheltered 5 (some .boolean), Cond.constantLong RX8 72 (9), Cond.fieldLink RX8 7 "CockWarModel" "high" "[I", Cond.methodLink RX8 130 yX8_brookBy, Cond.instanceMethod yX8_brookBy, Cond.selects RX8 yX8_brookBy yX8_brookBy, Cond.code yX8_brookBy cX8_brookBy 4 (some .int), Cond.methodLink RX8 123 yX8_weightOf, Cond.instanceMethod yX8_weightOf, Cond.selects RX8 yX8_weightOf yX8_weightOf, Cond.code yX8_weightOf cX8_weightOf 7 (some .int), Cond.fieldLink RX8 13 "CockWarModel" "weight" "[I"]
def wsX8_under : List Cond := .code yX8_under cX8_under 2 (some .int) :: ((wsX8_under_r1 ++ wsX8_under_r2) ++ wsX80)
def wsX8_yearOf_r1 : List Cond := [Cond.fieldLink RX8 109 "CockWarModel" "winds" "I", Cond.fieldLink RX8 19 "CockWarModel" "now" "[I", Cond.fieldLink RX8 16 "CockWarModel" "wind" "[I", Cond.methodLink RX8 151 yX8_underOf, Cond.instanceMethod yX8_underOf, Cond.selects RX8 yX8_underOf yX8_underOf, Cond.initialized RX8, Cond.code yX8_underOf cX8_underOf 4 (some .int), Cond.methodLink RX8 127 yX8_pointsBy, Cond.instanceMethod yX8_pointsBy, Cond.selects RX8 yX8_pointsBy yX8_pointsBy, Cond.code yX8_pointsBy cX8_pointsBy 7 (some .int), Cond.fieldLink RX8 53 "CockWarModel" "cocks" "I", Cond.methodLink RX8 74 yX8_has, Cond.static yX8_has, Cond.code yX8_has cX8_has 2 (some .boolean), Cond.methodLink RX8 119 yX8_isSheltered, Cond.instanceMethod yX8_isSheltered, Cond.selects RX8 yX8_isSheltered yX8_isSheltered, Cond.code yX8_isSheltered cX8_isSheltered 5 (some .boolean), Cond.constantLong RX8 72 (9), Cond.fieldLink RX8 7 "CockWarModel" "high" "[I", Cond.methodLink RX8 59 yX8_in, Cond.static yX8_in]
def wsX8_yearOf_r2 : List Cond := [Cond.code yX8_in cX8_in 6 (some .boolean), Cond.methodLink RX8 130 yX8_brookBy, Cond.instanceMethod yX8_brookBy, Cond.selects RX8 yX8_brookBy yX8_brookBy, Cond.code yX8_brookBy cX8_brookBy 4 (some .int), Cond.methodLink RX8 123 yX8_weightOf, Cond.instanceMethod yX8_weightOf, Cond.selects RX8 yX8_weightOf yX8_weightOf, Cond.code yX8_weightOf cX8_weightOf 7 (some .int), Cond.fieldLink RX8 13 "CockWarModel" "weight" "[I"]
def wsX8_yearOf : List Cond := .code yX8_yearOf cX8_yearOf 4 (some .int) :: ((wsX8_yearOf_r1 ++ wsX8_yearOf_r2) ++ wsX80)
def wsX8_year_r1 : List Cond := [Cond.methodLink RX8 59 yX8_in, Cond.static yX8_in, Cond.initialized RX8, Cond.code yX8_in cX8_in 6 (some .boolean), Cond.methodLink RX8 154 yX8_yearOf, Cond.instanceMethod yX8_yearOf, Cond.selects RX8 yX8_yearOf yX8_yearOf, Cond.code yX8_yearOf cX8_yearOf 4 (some .int), Cond.fieldLink RX8 109 "CockWarModel" "winds" "I", Cond.fieldLink RX8 19 "CockWarModel" "now" "[I", Cond.fieldLink RX8 16 "CockWarModel" "wind" "[I", Cond.methodLink RX8 151 yX8_underOf, Cond.instanceMethod yX8_underOf, Cond.selects RX8 yX8_underOf yX8_underOf, Cond.code yX8_underOf cX8_underOf 4 (some .int), Cond.methodLink RX8 127 yX8_pointsBy, Cond.instanceMethod yX8_pointsBy, Cond.selects RX8 yX8_pointsBy yX8_pointsBy, Cond.code yX8_pointsBy cX8_pointsBy 7 (some .int), Cond.fieldLink RX8 53 "CockWarModel" "cocks" "I", Cond.methodLink RX8 74 yX8_has, Cond.static yX8_has, Cond.code yX8_has cX8_has 2 (some .boolean), Cond.methodLink RX8 119 yX8_isSheltered]
def wsX8_year_r2 : List Cond := [Cond.instanceMethod yX8_isSheltered, Cond.selects RX8 yX8_isSheltered yX8_isSheltered, Cond.code yX8_isSheltered cX8_isSheltered 5 (some .boolean), Cond.constantLong RX8 72 (9), Cond.fieldLink RX8 7 "CockWarModel" "high" "[I", Cond.methodLink RX8 130 yX8_brookBy, Cond.instanceMethod yX8_brookBy, Cond.selects RX8 yX8_brookBy yX8_brookBy, Cond.code yX8_brookBy cX8_brookBy 4 (some .int), Cond.methodLink RX8 123 yX8_weightOf, Cond.instanceMethod yX8_weightOf, Cond.selects RX8 yX8_weightOf yX8_weightOf, Cond.code yX8_weightOf cX8_weightOf 7 (some .int), Cond.fieldLink RX8 13 "CockWarModel" "weight" "[I"]
def wsX8_year : List Cond := .code yX8_year cX8_year 2 (some .int) :: ((wsX8_year_r1 ++ wsX8_year_r2) ++ wsX80)
def wsX8_tryTrees_r1 : List Cond := [Cond.fieldLink RX8 19 "CockWarModel" "now" "[I", Cond.fieldLink RX8 157 "CockWarModel" "bestYear" "I", Cond.fieldLink RX8 160 "CockWarModel" "bestCock" "I", Cond.fieldLink RX8 163 "CockWarModel" "bestCell" "I", Cond.fieldLink RX8 166 "CockWarModel" "bestTree" "I", Cond.methodLink RX8 154 yX8_yearOf, Cond.instanceMethod yX8_yearOf, Cond.selects RX8 yX8_yearOf yX8_yearOf, Cond.initialized RX8, Cond.code yX8_yearOf cX8_yearOf 4 (some .int), Cond.fieldLink RX8 109 "CockWarModel" "winds" "I", Cond.fieldLink RX8 16 "CockWarModel" "wind" "[I", Cond.methodLink RX8 151 yX8_underOf, Cond.instanceMethod yX8_underOf, Cond.selects RX8 yX8_underOf yX8_underOf, Cond.code yX8_underOf cX8_underOf 4 (some .int), Cond.methodLink RX8 127 yX8_pointsBy, Cond.instanceMethod yX8_pointsBy, Cond.selects RX8 yX8_pointsBy yX8_pointsBy, Cond.code yX8_pointsBy cX8_pointsBy 7 (some .int), Cond.fieldLink RX8 53 "CockWarModel" "cocks" "I", Cond.methodLink RX8 74 yX8_has, Cond.static yX8_has, Cond.code yX8_has cX8_has 2 (some .boolean)]
def wsX8_tryTrees_r2 : List Cond := [Cond.methodLink RX8 119 yX8_isSheltered, Cond.instanceMethod yX8_isSheltered, Cond.selects RX8 yX8_isSheltered yX8_isSheltered, Cond.code yX8_isSheltered cX8_isSheltered 5 (some .boolean), Cond.constantLong RX8 72 (9), Cond.fieldLink RX8 7 "CockWarModel" "high" "[I", Cond.methodLink RX8 59 yX8_in, Cond.static yX8_in, Cond.code yX8_in cX8_in 6 (some .boolean), Cond.methodLink RX8 130 yX8_brookBy, Cond.instanceMethod yX8_brookBy, Cond.selects RX8 yX8_brookBy yX8_brookBy, Cond.code yX8_brookBy cX8_brookBy 4 (some .int), Cond.methodLink RX8 123 yX8_weightOf, Cond.instanceMethod yX8_weightOf, Cond.selects RX8 yX8_weightOf yX8_weightOf, Cond.code yX8_weightOf cX8_weightOf 7 (some .int), Cond.fieldLink RX8 13 "CockWarModel" "weight" "[I"]
def wsX8_tryTrees : List Cond := .code yX8_tryTrees cX8_tryTrees 9 none :: ((wsX8_tryTrees_r1 ++ wsX8_tryTrees_r2) ++ wsX80)
def wsX8_placing_r1 : List Cond := [Cond.constantLong RX8 169 (3), Cond.fieldLink RX8 157 "CockWarModel" "bestYear" "I", Cond.fieldLink RX8 53 "CockWarModel" "cocks" "I", Cond.fieldLink RX8 19 "CockWarModel" "now" "[I", Cond.fieldLink RX8 160 "CockWarModel" "bestCock" "I", Cond.fieldLink RX8 163 "CockWarModel" "bestCell" "I", Cond.fieldLink RX8 166 "CockWarModel" "bestTree" "I", Cond.methodLink RX8 59 yX8_in, Cond.static yX8_in, Cond.initialized RX8, Cond.code yX8_in cX8_in 6 (some .boolean), Cond.methodLink RX8 171 yX8_tryTrees, Cond.instanceMethod yX8_tryTrees, Cond.selects RX8 yX8_tryTrees yX8_tryTrees, Cond.code yX8_tryTrees cX8_tryTrees 9 none, Cond.methodLink RX8 154 yX8_yearOf, Cond.instanceMethod yX8_yearOf, Cond.selects RX8 yX8_yearOf yX8_yearOf, Cond.code yX8_yearOf cX8_yearOf 4 (some .int), Cond.fieldLink RX8 109 "CockWarModel" "winds" "I", Cond.fieldLink RX8 16 "CockWarModel" "wind" "[I", Cond.methodLink RX8 151 yX8_underOf, Cond.instanceMethod yX8_underOf, Cond.selects RX8 yX8_underOf yX8_underOf]
def wsX8_placing_r2 : List Cond := [Cond.code yX8_underOf cX8_underOf 4 (some .int), Cond.methodLink RX8 127 yX8_pointsBy, Cond.instanceMethod yX8_pointsBy, Cond.selects RX8 yX8_pointsBy yX8_pointsBy, Cond.code yX8_pointsBy cX8_pointsBy 7 (some .int), Cond.methodLink RX8 74 yX8_has, Cond.static yX8_has, Cond.code yX8_has cX8_has 2 (some .boolean), Cond.methodLink RX8 119 yX8_isSheltered, Cond.instanceMethod yX8_isSheltered, Cond.selects RX8 yX8_isSheltered yX8_isSheltered, Cond.code yX8_isSheltered cX8_isSheltered 5 (some .boolean), Cond.constantLong RX8 72 (9), Cond.fieldLink RX8 7 "CockWarModel" "high" "[I", Cond.methodLink RX8 130 yX8_brookBy, Cond.instanceMethod yX8_brookBy, Cond.selects RX8 yX8_brookBy yX8_brookBy, Cond.code yX8_brookBy cX8_brookBy 4 (some .int), Cond.methodLink RX8 123 yX8_weightOf, Cond.instanceMethod yX8_weightOf, Cond.selects RX8 yX8_weightOf yX8_weightOf, Cond.code yX8_weightOf cX8_weightOf 7 (some .int), Cond.fieldLink RX8 13 "CockWarModel" "weight" "[I", Cond.methodLink RX8 148 yX8_isCockOn]
def wsX8_placing_r3 : List Cond := [Cond.instanceMethod yX8_isCockOn, Cond.selects RX8 yX8_isCockOn yX8_isCockOn, Cond.code yX8_isCockOn cX8_isCockOn 4 (some .boolean)]
def wsX8_placing : List Cond := .code yX8_placing cX8_placing 6 (some .int) :: ((wsX8_placing_r1 ++ (wsX8_placing_r2 ++ wsX8_placing_r3)) ++ wsX80)
def wsX8_layTrial : List Cond := .code yX8_layTrial cX8_layTrial 2 none :: ([.fieldLink RX8 19 "CockWarModel" "now" "[I"] ++ wsX80)
def wsX8_treesNow : List Cond := .code yX8_treesNow cX8_treesNow 3 (some .int) :: ([.fieldLink RX8 19 "CockWarModel" "now" "[I"] ++ wsX80)
def wsX8_trees_r1 : List Cond := [Cond.fieldLink RX8 19 "CockWarModel" "now" "[I", Cond.methodLink RX8 59 yX8_in, Cond.static yX8_in, Cond.initialized RX8, Cond.code yX8_in cX8_in 6 (some .boolean), Cond.methodLink RX8 133 yX8_isWind, Cond.instanceMethod yX8_isWind, Cond.selects RX8 yX8_isWind yX8_isWind, Cond.code yX8_isWind cX8_isWind 2 (some .boolean), Cond.fieldLink RX8 109 "CockWarModel" "winds" "I", Cond.methodLink RX8 175 yX8_treesNow, Cond.instanceMethod yX8_treesNow, Cond.selects RX8 yX8_treesNow yX8_treesNow, Cond.code yX8_treesNow cX8_treesNow 3 (some .int), Cond.methodLink RX8 178 yX8_ones, Cond.static yX8_ones, Cond.code yX8_ones cX8_ones 3 (some .int), Cond.methodLink RX8 181 yX8_layTrial, Cond.instanceMethod yX8_layTrial, Cond.selects RX8 yX8_layTrial yX8_layTrial, Cond.code yX8_layTrial cX8_layTrial 2 none, Cond.methodLink RX8 74 yX8_has, Cond.static yX8_has, Cond.code yX8_has cX8_has 2 (some .boolean)]
def wsX8_trees_r2 : List Cond := [Cond.methodLink RX8 151 yX8_underOf, Cond.instanceMethod yX8_underOf, Cond.selects RX8 yX8_underOf yX8_underOf, Cond.code yX8_underOf cX8_underOf 4 (some .int), Cond.methodLink RX8 127 yX8_pointsBy, Cond.instanceMethod yX8_pointsBy, Cond.selects RX8 yX8_pointsBy yX8_pointsBy, Cond.code yX8_pointsBy cX8_pointsBy 7 (some .int), Cond.fieldLink RX8 53 "CockWarModel" "cocks" "I", Cond.fieldLink RX8 16 "CockWarModel" "wind" "[I", Cond.methodLink RX8 119 yX8_isSheltered, Cond.instanceMethod yX8_isSheltered, Cond.selects RX8 yX8_isSheltered yX8_isSheltered, Cond.code yX8_isSheltered cX8_isSheltered 5 (some .boolean), Cond.constantLong RX8 72 (9), Cond.fieldLink RX8 7 "CockWarModel" "high" "[I", Cond.methodLink RX8 130 yX8_brookBy, Cond.instanceMethod yX8_brookBy, Cond.selects RX8 yX8_brookBy yX8_brookBy, Cond.code yX8_brookBy cX8_brookBy 4 (some .int), Cond.methodLink RX8 123 yX8_weightOf, Cond.instanceMethod yX8_weightOf, Cond.selects RX8 yX8_weightOf yX8_weightOf, Cond.code yX8_weightOf cX8_weightOf 7 (some .int)]
def wsX8_trees_r3 : List Cond := [Cond.fieldLink RX8 13 "CockWarModel" "weight" "[I"]
def wsX8_trees : List Cond := .code yX8_trees cX8_trees 6 (some .int) :: ((wsX8_trees_r1 ++ (wsX8_trees_r2 ++ wsX8_trees_r3)) ++ wsX80)
def wsX8_decides_r1 : List Cond := [Cond.fieldLink RX8 19 "CockWarModel" "now" "[I", Cond.fieldLink RX8 53 "CockWarModel" "cocks" "I", Cond.methodLink RX8 133 yX8_isWind, Cond.instanceMethod yX8_isWind, Cond.selects RX8 yX8_isWind yX8_isWind, Cond.initialized RX8, Cond.code yX8_isWind cX8_isWind 2 (some .boolean), Cond.fieldLink RX8 109 "CockWarModel" "winds" "I", Cond.methodLink RX8 59 yX8_in, Cond.static yX8_in, Cond.code yX8_in cX8_in 6 (some .boolean), Cond.methodLink RX8 127 yX8_pointsBy, Cond.instanceMethod yX8_pointsBy, Cond.selects RX8 yX8_pointsBy yX8_pointsBy, Cond.code yX8_pointsBy cX8_pointsBy 7 (some .int), Cond.fieldLink RX8 16 "CockWarModel" "wind" "[I", Cond.methodLink RX8 74 yX8_has, Cond.static yX8_has, Cond.code yX8_has cX8_has 2 (some .boolean), Cond.methodLink RX8 119 yX8_isSheltered, Cond.instanceMethod yX8_isSheltered, Cond.selects RX8 yX8_isSheltered yX8_isSheltered, Cond.code yX8_isSheltered cX8_isSheltered 5 (some .boolean), Cond.constantLong RX8 72 (9)]
def wsX8_decides_r2 : List Cond := [Cond.fieldLink RX8 7 "CockWarModel" "high" "[I", Cond.methodLink RX8 130 yX8_brookBy, Cond.instanceMethod yX8_brookBy, Cond.selects RX8 yX8_brookBy yX8_brookBy, Cond.code yX8_brookBy cX8_brookBy 4 (some .int), Cond.methodLink RX8 123 yX8_weightOf, Cond.instanceMethod yX8_weightOf, Cond.selects RX8 yX8_weightOf yX8_weightOf, Cond.code yX8_weightOf cX8_weightOf 7 (some .int), Cond.fieldLink RX8 13 "CockWarModel" "weight" "[I"]
def wsX8_decides : List Cond := .code yX8_decides cX8_decides 5 (some .int) :: ((wsX8_decides_r1 ++ wsX8_decides_r2) ++ wsX80)
def wsX8_power : List Cond := .code yX8_power cX8_power 4 (some .int) :: ([.fieldLink RX8 53 "CockWarModel" "cocks" "I", .methodLink RX8 115 yX8_isCock, .instanceMethod yX8_isCock, .selects RX8 yX8_isCock yX8_isCock, .initialized RX8, .code yX8_isCock cX8_isCock 2 (some .boolean), .methodLink RX8 59 yX8_in, .static yX8_in, .code yX8_in cX8_in 6 (some .boolean), .methodLink RX8 74 yX8_has, .static yX8_has, .code yX8_has cX8_has 2 (some .boolean), .methodLink RX8 130 yX8_brookBy, .instanceMethod yX8_brookBy, .selects RX8 yX8_brookBy yX8_brookBy, .code yX8_brookBy cX8_brookBy 4 (some .int), .fieldLink RX8 19 "CockWarModel" "now" "[I", .methodLink RX8 123 yX8_weightOf, .instanceMethod yX8_weightOf, .selects RX8 yX8_weightOf yX8_weightOf, .code yX8_weightOf cX8_weightOf 7 (some .int), .fieldLink RX8 13 "CockWarModel" "weight" "[I"] ++ wsX80)
def wsX8_tenTo : List Cond := .code yX8_tenTo cX8_tenTo 3 (some .int) :: ([])
def wsX8_judge_r1 : List Cond := [Cond.constantLong RX8 184 (6), Cond.fieldLink RX8 19 "CockWarModel" "now" "[I", Cond.methodLink RX8 59 yX8_in, Cond.static yX8_in, Cond.initialized RX8, Cond.code yX8_in cX8_in 6 (some .boolean), Cond.methodLink RX8 186 yX8_tenTo, Cond.static yX8_tenTo, Cond.code yX8_tenTo cX8_tenTo 3 (some .int), Cond.methodLink RX8 181 yX8_layTrial, Cond.instanceMethod yX8_layTrial, Cond.selects RX8 yX8_layTrial yX8_layTrial, Cond.code yX8_layTrial cX8_layTrial 2 none, Cond.methodLink RX8 133 yX8_isWind, Cond.instanceMethod yX8_isWind, Cond.selects RX8 yX8_isWind yX8_isWind, Cond.code yX8_isWind cX8_isWind 2 (some .boolean), Cond.fieldLink RX8 109 "CockWarModel" "winds" "I", Cond.methodLink RX8 144 yX8_blowOn, Cond.instanceMethod yX8_blowOn, Cond.selects RX8 yX8_blowOn yX8_blowOn, Cond.code yX8_blowOn cX8_blowOn 5 none, Cond.methodLink RX8 127 yX8_pointsBy, Cond.instanceMethod yX8_pointsBy]
def wsX8_judge_r2 : List Cond := [Cond.selects RX8 yX8_pointsBy yX8_pointsBy, Cond.code yX8_pointsBy cX8_pointsBy 7 (some .int), Cond.fieldLink RX8 53 "CockWarModel" "cocks" "I", Cond.fieldLink RX8 16 "CockWarModel" "wind" "[I", Cond.methodLink RX8 74 yX8_has, Cond.static yX8_has, Cond.code yX8_has cX8_has 2 (some .boolean), Cond.methodLink RX8 119 yX8_isSheltered, Cond.instanceMethod yX8_isSheltered, Cond.selects RX8 yX8_isSheltered yX8_isSheltered, Cond.code yX8_isSheltered cX8_isSheltered 5 (some .boolean), Cond.constantLong RX8 72 (9), Cond.fieldLink RX8 7 "CockWarModel" "high" "[I", Cond.methodLink RX8 130 yX8_brookBy, Cond.instanceMethod yX8_brookBy, Cond.selects RX8 yX8_brookBy yX8_brookBy, Cond.code yX8_brookBy cX8_brookBy 4 (some .int), Cond.methodLink RX8 123 yX8_weightOf, Cond.instanceMethod yX8_weightOf, Cond.selects RX8 yX8_weightOf yX8_weightOf, Cond.code yX8_weightOf cX8_weightOf 7 (some .int), Cond.fieldLink RX8 13 "CockWarModel" "weight" "[I"]
def wsX8_judge : List Cond := .code yX8_judge cX8_judge 5 (some .int) :: ((wsX8_judge_r1 ++ wsX8_judge_r2) ++ wsX80)
def wsX8_see : List Cond := .code yX8_see cX8_see 3 (some .int) :: ([.fieldLink RX8 189 "CockWarModel" "seen" "I", .fieldLink RX8 40 "CockWarModel" "seenOf" "[I", .fieldLink RX8 43 "CockWarModel" "seenTo" "[I", .methodLink RX8 115 yX8_isCock, .instanceMethod yX8_isCock, .selects RX8 yX8_isCock yX8_isCock, .initialized RX8, .code yX8_isCock cX8_isCock 2 (some .boolean), .fieldLink RX8 53 "CockWarModel" "cocks" "I", .methodLink RX8 59 yX8_in, .static yX8_in, .code yX8_in cX8_in 6 (some .boolean)] ++ wsX80)
def wsX8_unsee : List Cond := .code yX8_unsee cX8_unsee 2 (some .int) :: ([.fieldLink RX8 189 "CockWarModel" "seen" "I"] ++ wsX80)
def wsX8_isSeen_r1 : List Cond := [Cond.fieldLink RX8 189 "CockWarModel" "seen" "I", Cond.fieldLink RX8 40 "CockWarModel" "seenOf" "[I", Cond.fieldLink RX8 43 "CockWarModel" "seenTo" "[I", Cond.methodLink RX8 127 yX8_pointsBy, Cond.instanceMethod yX8_pointsBy, Cond.selects RX8 yX8_pointsBy yX8_pointsBy, Cond.initialized RX8, Cond.code yX8_pointsBy cX8_pointsBy 7 (some .int), Cond.fieldLink RX8 19 "CockWarModel" "now" "[I", Cond.fieldLink RX8 53 "CockWarModel" "cocks" "I", Cond.fieldLink RX8 16 "CockWarModel" "wind" "[I", Cond.methodLink RX8 74 yX8_has, Cond.static yX8_has, Cond.code yX8_has cX8_has 2 (some .boolean), Cond.methodLink RX8 119 yX8_isSheltered, Cond.instanceMethod yX8_isSheltered, Cond.selects RX8 yX8_isSheltered yX8_isSheltered, Cond.code yX8_isSheltered cX8_isSheltered 5 (some .boolean), Cond.constantLong RX8 72 (9), Cond.fieldLink RX8 7 "CockWarModel" "high" "[I", Cond.methodLink RX8 59 yX8_in, Cond.static yX8_in, Cond.code yX8_in cX8_in 6 (some .boolean), Cond.methodLink RX8 115 yX8_isCock]
def wsX8_isSeen_r2 : List Cond := [Cond.instanceMethod yX8_isCock, Cond.selects RX8 yX8_isCock yX8_isCock, Cond.code yX8_isCock cX8_isCock 2 (some .boolean)]
def wsX8_isSeen : List Cond := .code yX8_isSeen cX8_isSeen 6 (some .boolean) :: ((wsX8_isSeen_r1 ++ wsX8_isSeen_r2) ++ wsX80)
def wsX8_strings_r1 : List Cond := [Cond.constantLong RX8 136 (2), Cond.fieldLink RX8 53 "CockWarModel" "cocks" "I", Cond.methodLink RX8 133 yX8_isWind, Cond.instanceMethod yX8_isWind, Cond.selects RX8 yX8_isWind yX8_isWind, Cond.initialized RX8, Cond.code yX8_isWind cX8_isWind 2 (some .boolean), Cond.fieldLink RX8 109 "CockWarModel" "winds" "I", Cond.methodLink RX8 59 yX8_in, Cond.static yX8_in, Cond.code yX8_in cX8_in 6 (some .boolean), Cond.methodLink RX8 192 yX8_isSeen, Cond.instanceMethod yX8_isSeen, Cond.selects RX8 yX8_isSeen yX8_isSeen, Cond.code yX8_isSeen cX8_isSeen 6 (some .boolean), Cond.fieldLink RX8 189 "CockWarModel" "seen" "I", Cond.fieldLink RX8 40 "CockWarModel" "seenOf" "[I", Cond.fieldLink RX8 43 "CockWarModel" "seenTo" "[I", Cond.methodLink RX8 127 yX8_pointsBy, Cond.instanceMethod yX8_pointsBy, Cond.selects RX8 yX8_pointsBy yX8_pointsBy, Cond.code yX8_pointsBy cX8_pointsBy 7 (some .int), Cond.fieldLink RX8 19 "CockWarModel" "now" "[I", Cond.fieldLink RX8 16 "CockWarModel" "wind" "[I"]
def wsX8_strings_r2 : List Cond := [Cond.methodLink RX8 74 yX8_has, Cond.static yX8_has, Cond.code yX8_has cX8_has 2 (some .boolean), Cond.methodLink RX8 119 yX8_isSheltered, Cond.instanceMethod yX8_isSheltered, Cond.selects RX8 yX8_isSheltered yX8_isSheltered, Cond.code yX8_isSheltered cX8_isSheltered 5 (some .boolean), Cond.constantLong RX8 72 (9), Cond.fieldLink RX8 7 "CockWarModel" "high" "[I", Cond.methodLink RX8 115 yX8_isCock, Cond.instanceMethod yX8_isCock, Cond.selects RX8 yX8_isCock yX8_isCock, Cond.code yX8_isCock cX8_isCock 2 (some .boolean)]
def wsX8_strings : List Cond := .code yX8_strings cX8_strings 7 (some .int) :: ((wsX8_strings_r1 ++ wsX8_strings_r2) ++ wsX80)
def wsX8_winds_r1 : List Cond := [Cond.fieldLink RX8 109 "CockWarModel" "winds" "I", Cond.methodLink RX8 192 yX8_isSeen, Cond.instanceMethod yX8_isSeen, Cond.selects RX8 yX8_isSeen yX8_isSeen, Cond.initialized RX8, Cond.code yX8_isSeen cX8_isSeen 6 (some .boolean), Cond.fieldLink RX8 189 "CockWarModel" "seen" "I", Cond.fieldLink RX8 40 "CockWarModel" "seenOf" "[I", Cond.fieldLink RX8 43 "CockWarModel" "seenTo" "[I", Cond.methodLink RX8 127 yX8_pointsBy, Cond.instanceMethod yX8_pointsBy, Cond.selects RX8 yX8_pointsBy yX8_pointsBy, Cond.code yX8_pointsBy cX8_pointsBy 7 (some .int), Cond.fieldLink RX8 19 "CockWarModel" "now" "[I", Cond.fieldLink RX8 53 "CockWarModel" "cocks" "I", Cond.fieldLink RX8 16 "CockWarModel" "wind" "[I", Cond.methodLink RX8 74 yX8_has, Cond.static yX8_has, Cond.code yX8_has cX8_has 2 (some .boolean), Cond.methodLink RX8 119 yX8_isSheltered, Cond.instanceMethod yX8_isSheltered, Cond.selects RX8 yX8_isSheltered yX8_isSheltered, Cond.code yX8_isSheltered cX8_isSheltered 5 (some .boolean), Cond.constantLong RX8 72 (9)]
def wsX8_winds_r2 : List Cond := [Cond.fieldLink RX8 7 "CockWarModel" "high" "[I", Cond.methodLink RX8 59 yX8_in, Cond.static yX8_in, Cond.code yX8_in cX8_in 6 (some .boolean), Cond.methodLink RX8 115 yX8_isCock, Cond.instanceMethod yX8_isCock, Cond.selects RX8 yX8_isCock yX8_isCock, Cond.code yX8_isCock cX8_isCock 2 (some .boolean)]
def wsX8_winds : List Cond := .code yX8_winds cX8_winds 3 (some .int) :: ((wsX8_winds_r1 ++ wsX8_winds_r2) ++ wsX80)
def wsX8_isChoice : List Cond := .code yX8_isChoice cX8_isChoice 3 (some .boolean) :: ([.fieldLink RX8 19 "CockWarModel" "now" "[I", .methodLink RX8 115 yX8_isCock, .instanceMethod yX8_isCock, .selects RX8 yX8_isCock yX8_isCock, .initialized RX8, .code yX8_isCock cX8_isCock 2 (some .boolean), .fieldLink RX8 53 "CockWarModel" "cocks" "I", .methodLink RX8 59 yX8_in, .static yX8_in, .code yX8_in cX8_in 6 (some .boolean)] ++ wsX80)
def wsX8_heldBy_r1 : List Cond := [Cond.methodLink RX8 151 yX8_underOf, Cond.instanceMethod yX8_underOf, Cond.selects RX8 yX8_underOf yX8_underOf, Cond.initialized RX8, Cond.code yX8_underOf cX8_underOf 4 (some .int), Cond.methodLink RX8 127 yX8_pointsBy, Cond.instanceMethod yX8_pointsBy, Cond.selects RX8 yX8_pointsBy yX8_pointsBy, Cond.code yX8_pointsBy cX8_pointsBy 7 (some .int), Cond.fieldLink RX8 19 "CockWarModel" "now" "[I", Cond.fieldLink RX8 53 "CockWarModel" "cocks" "I", Cond.fieldLink RX8 16 "CockWarModel" "wind" "[I", Cond.methodLink RX8 74 yX8_has, Cond.static yX8_has, Cond.code yX8_has cX8_has 2 (some .boolean), Cond.methodLink RX8 119 yX8_isSheltered, Cond.instanceMethod yX8_isSheltered, Cond.selects RX8 yX8_isSheltered yX8_isSheltered, Cond.code yX8_isSheltered cX8_isSheltered 5 (some .boolean), Cond.constantLong RX8 72 (9), Cond.fieldLink RX8 7 "CockWarModel" "high" "[I", Cond.methodLink RX8 59 yX8_in, Cond.static yX8_in, Cond.code yX8_in cX8_in 6 (some .boolean)]
def wsX8_heldBy_r2 : List Cond := [Cond.methodLink RX8 130 yX8_brookBy, Cond.instanceMethod yX8_brookBy, Cond.selects RX8 yX8_brookBy yX8_brookBy, Cond.code yX8_brookBy cX8_brookBy 4 (some .int), Cond.methodLink RX8 123 yX8_weightOf, Cond.instanceMethod yX8_weightOf, Cond.selects RX8 yX8_weightOf yX8_weightOf, Cond.code yX8_weightOf cX8_weightOf 7 (some .int), Cond.fieldLink RX8 13 "CockWarModel" "weight" "[I"]
def wsX8_heldBy : List Cond := .code yX8_heldBy cX8_heldBy 5 (some .int) :: ((wsX8_heldBy_r1 ++ wsX8_heldBy_r2) ++ wsX80)
def wsX8_isRest_r1 : List Cond := [Cond.methodLink RX8 195 yX8_heldBy, Cond.instanceMethod yX8_heldBy, Cond.selects RX8 yX8_heldBy yX8_heldBy, Cond.initialized RX8, Cond.code yX8_heldBy cX8_heldBy 5 (some .int), Cond.methodLink RX8 151 yX8_underOf, Cond.instanceMethod yX8_underOf, Cond.selects RX8 yX8_underOf yX8_underOf, Cond.code yX8_underOf cX8_underOf 4 (some .int), Cond.methodLink RX8 127 yX8_pointsBy, Cond.instanceMethod yX8_pointsBy, Cond.selects RX8 yX8_pointsBy yX8_pointsBy, Cond.code yX8_pointsBy cX8_pointsBy 7 (some .int), Cond.fieldLink RX8 19 "CockWarModel" "now" "[I", Cond.fieldLink RX8 53 "CockWarModel" "cocks" "I", Cond.fieldLink RX8 16 "CockWarModel" "wind" "[I", Cond.methodLink RX8 74 yX8_has, Cond.static yX8_has, Cond.code yX8_has cX8_has 2 (some .boolean), Cond.methodLink RX8 119 yX8_isSheltered, Cond.instanceMethod yX8_isSheltered, Cond.selects RX8 yX8_isSheltered yX8_isSheltered, Cond.code yX8_isSheltered cX8_isSheltered 5 (some .boolean), Cond.constantLong RX8 72 (9)]
def wsX8_isRest_r2 : List Cond := [Cond.fieldLink RX8 7 "CockWarModel" "high" "[I", Cond.methodLink RX8 59 yX8_in, Cond.static yX8_in, Cond.code yX8_in cX8_in 6 (some .boolean), Cond.methodLink RX8 130 yX8_brookBy, Cond.instanceMethod yX8_brookBy, Cond.selects RX8 yX8_brookBy yX8_brookBy, Cond.code yX8_brookBy cX8_brookBy 4 (some .int), Cond.methodLink RX8 123 yX8_weightOf, Cond.instanceMethod yX8_weightOf, Cond.selects RX8 yX8_weightOf yX8_weightOf, Cond.code yX8_weightOf cX8_weightOf 7 (some .int), Cond.fieldLink RX8 13 "CockWarModel" "weight" "[I", Cond.methodLink RX8 198 yX8_isChoice, Cond.instanceMethod yX8_isChoice, Cond.selects RX8 yX8_isChoice yX8_isChoice, Cond.code yX8_isChoice cX8_isChoice 3 (some .boolean), Cond.methodLink RX8 115 yX8_isCock, Cond.instanceMethod yX8_isCock, Cond.selects RX8 yX8_isCock yX8_isCock, Cond.code yX8_isCock cX8_isCock 2 (some .boolean)]
def wsX8_isRest : List Cond := .code yX8_isRest cX8_isRest 7 (some .boolean) :: ((wsX8_isRest_r1 ++ wsX8_isRest_r2) ++ wsX80)
def wsX8_rests_r1 : List Cond := [Cond.methodLink RX8 133 yX8_isWind, Cond.instanceMethod yX8_isWind, Cond.selects RX8 yX8_isWind yX8_isWind, Cond.initialized RX8, Cond.code yX8_isWind cX8_isWind 2 (some .boolean), Cond.fieldLink RX8 109 "CockWarModel" "winds" "I", Cond.methodLink RX8 59 yX8_in, Cond.static yX8_in, Cond.code yX8_in cX8_in 6 (some .boolean), Cond.methodLink RX8 198 yX8_isChoice, Cond.instanceMethod yX8_isChoice, Cond.selects RX8 yX8_isChoice yX8_isChoice, Cond.code yX8_isChoice cX8_isChoice 3 (some .boolean), Cond.fieldLink RX8 19 "CockWarModel" "now" "[I", Cond.methodLink RX8 115 yX8_isCock, Cond.instanceMethod yX8_isCock, Cond.selects RX8 yX8_isCock yX8_isCock, Cond.code yX8_isCock cX8_isCock 2 (some .boolean), Cond.fieldLink RX8 53 "CockWarModel" "cocks" "I", Cond.methodLink RX8 201 yX8_isRest, Cond.instanceMethod yX8_isRest, Cond.selects RX8 yX8_isRest yX8_isRest, Cond.code yX8_isRest cX8_isRest 7 (some .boolean), Cond.methodLink RX8 195 yX8_heldBy]
def wsX8_rests_r2 : List Cond := [Cond.instanceMethod yX8_heldBy, Cond.selects RX8 yX8_heldBy yX8_heldBy, Cond.code yX8_heldBy cX8_heldBy 5 (some .int), Cond.methodLink RX8 151 yX8_underOf, Cond.instanceMethod yX8_underOf, Cond.selects RX8 yX8_underOf yX8_underOf, Cond.code yX8_underOf cX8_underOf 4 (some .int), Cond.methodLink RX8 127 yX8_pointsBy, Cond.instanceMethod yX8_pointsBy, Cond.selects RX8 yX8_pointsBy yX8_pointsBy, Cond.code yX8_pointsBy cX8_pointsBy 7 (some .int), Cond.fieldLink RX8 16 "CockWarModel" "wind" "[I", Cond.methodLink RX8 74 yX8_has, Cond.static yX8_has, Cond.code yX8_has cX8_has 2 (some .boolean), Cond.methodLink RX8 119 yX8_isSheltered, Cond.instanceMethod yX8_isSheltered, Cond.selects RX8 yX8_isSheltered yX8_isSheltered, Cond.code yX8_isSheltered cX8_isSheltered 5 (some .boolean), Cond.constantLong RX8 72 (9), Cond.fieldLink RX8 7 "CockWarModel" "high" "[I", Cond.methodLink RX8 130 yX8_brookBy, Cond.instanceMethod yX8_brookBy, Cond.selects RX8 yX8_brookBy yX8_brookBy]
def wsX8_rests_r3 : List Cond := [Cond.code yX8_brookBy cX8_brookBy 4 (some .int), Cond.methodLink RX8 123 yX8_weightOf, Cond.instanceMethod yX8_weightOf, Cond.selects RX8 yX8_weightOf yX8_weightOf, Cond.code yX8_weightOf cX8_weightOf 7 (some .int), Cond.fieldLink RX8 13 "CockWarModel" "weight" "[I"]
def wsX8_rests : List Cond := .code yX8_rests cX8_rests 7 (some .int) :: ((wsX8_rests_r1 ++ (wsX8_rests_r2 ++ wsX8_rests_r3)) ++ wsX80)
def wsX8_common : List Cond := .code yX8_common cX8_common 5 (some .int) :: ([])
def wsX8_frost_r1 : List Cond := [Cond.constantLong RX8 204 (10), Cond.fieldLink RX8 53 "CockWarModel" "cocks" "I", Cond.fieldLink RX8 19 "CockWarModel" "now" "[I", Cond.methodLink RX8 133 yX8_isWind, Cond.instanceMethod yX8_isWind, Cond.selects RX8 yX8_isWind yX8_isWind, Cond.initialized RX8, Cond.code yX8_isWind cX8_isWind 2 (some .boolean), Cond.fieldLink RX8 109 "CockWarModel" "winds" "I", Cond.methodLink RX8 59 yX8_in, Cond.static yX8_in, Cond.code yX8_in cX8_in 6 (some .boolean), Cond.methodLink RX8 74 yX8_has, Cond.static yX8_has, Cond.code yX8_has cX8_has 2 (some .boolean), Cond.methodLink RX8 151 yX8_underOf, Cond.instanceMethod yX8_underOf, Cond.selects RX8 yX8_underOf yX8_underOf, Cond.code yX8_underOf cX8_underOf 4 (some .int), Cond.methodLink RX8 127 yX8_pointsBy, Cond.instanceMethod yX8_pointsBy, Cond.selects RX8 yX8_pointsBy yX8_pointsBy, Cond.code yX8_pointsBy cX8_pointsBy 7 (some .int), Cond.fieldLink RX8 16 "CockWarModel" "wind" "[I"]
def wsX8_frost_r2 : List Cond := [Cond.methodLink RX8 119 yX8_isSheltered, Cond.instanceMethod yX8_isSheltered, Cond.selects RX8 yX8_isSheltered yX8_isSheltered, Cond.code yX8_isSheltered cX8_isSheltered 5 (some .boolean), Cond.constantLong RX8 72 (9), Cond.fieldLink RX8 7 "CockWarModel" "high" "[I", Cond.methodLink RX8 130 yX8_brookBy, Cond.instanceMethod yX8_brookBy, Cond.selects RX8 yX8_brookBy yX8_brookBy, Cond.code yX8_brookBy cX8_brookBy 4 (some .int), Cond.methodLink RX8 123 yX8_weightOf, Cond.instanceMethod yX8_weightOf, Cond.selects RX8 yX8_weightOf yX8_weightOf, Cond.code yX8_weightOf cX8_weightOf 7 (some .int), Cond.fieldLink RX8 13 "CockWarModel" "weight" "[I", Cond.methodLink RX8 206 yX8_common, Cond.static yX8_common, Cond.code yX8_common cX8_common 5 (some .int)]
def wsX8_frost : List Cond := .code yX8_frost cX8_frost 9 (some .int) :: ((wsX8_frost_r1 ++ wsX8_frost_r2) ++ wsX80)
def wsX8_seed : List Cond := .code yX8_seed cX8_seed 5 (some .long) :: ([.fieldLink RX8 209 "CockWarModel" "seed" "J"] ++ wsX80)
def wsX8_years_r1 : List Cond := [Cond.constantLong RX8 213 (30), Cond.fieldLink RX8 109 "CockWarModel" "winds" "I", Cond.fieldLink RX8 16 "CockWarModel" "wind" "[I", Cond.fieldLink RX8 209 "CockWarModel" "seed" "J", Cond.constantLong RX8 215 (6364136223846793005), Cond.constantLong RX8 217 (1442695040888963407), Cond.fieldLink RX8 19 "CockWarModel" "now" "[I", Cond.methodLink RX8 59 yX8_in, Cond.static yX8_in, Cond.initialized RX8, Cond.code yX8_in cX8_in 6 (some .boolean), Cond.methodLink RX8 181 yX8_layTrial, Cond.instanceMethod yX8_layTrial, Cond.selects RX8 yX8_layTrial yX8_layTrial, Cond.code yX8_layTrial cX8_layTrial 2 none, Cond.methodLink RX8 144 yX8_blowOn, Cond.instanceMethod yX8_blowOn, Cond.selects RX8 yX8_blowOn yX8_blowOn, Cond.code yX8_blowOn cX8_blowOn 5 none, Cond.methodLink RX8 127 yX8_pointsBy, Cond.instanceMethod yX8_pointsBy, Cond.selects RX8 yX8_pointsBy yX8_pointsBy, Cond.code yX8_pointsBy cX8_pointsBy 7 (some .int), Cond.fieldLink RX8 53 "CockWarModel" "cocks" "I"]
def wsX8_years_r2 : List Cond := [Cond.methodLink RX8 74 yX8_has, Cond.static yX8_has, Cond.code yX8_has cX8_has 2 (some .boolean), Cond.methodLink RX8 119 yX8_isSheltered, Cond.instanceMethod yX8_isSheltered, Cond.selects RX8 yX8_isSheltered yX8_isSheltered, Cond.code yX8_isSheltered cX8_isSheltered 5 (some .boolean), Cond.constantLong RX8 72 (9), Cond.fieldLink RX8 7 "CockWarModel" "high" "[I", Cond.methodLink RX8 130 yX8_brookBy, Cond.instanceMethod yX8_brookBy, Cond.selects RX8 yX8_brookBy yX8_brookBy, Cond.code yX8_brookBy cX8_brookBy 4 (some .int), Cond.methodLink RX8 123 yX8_weightOf, Cond.instanceMethod yX8_weightOf, Cond.selects RX8 yX8_weightOf yX8_weightOf, Cond.code yX8_weightOf cX8_weightOf 7 (some .int), Cond.fieldLink RX8 13 "CockWarModel" "weight" "[I"]
def wsX8_years : List Cond := .code yX8_years cX8_years 7 (some .int) :: ((wsX8_years_r1 ++ wsX8_years_r2) ++ wsX80)
def wsX8_keep : List Cond := .code yX8_keep cX8_keep 3 (some .int) :: ([.fieldLink RX8 46 "CockWarModel" "isKept" "[Z", .fieldLink RX8 50 "CockWarModel" "kept" "[I", .fieldLink RX8 19 "CockWarModel" "now" "[I", .methodLink RX8 59 yX8_in, .static yX8_in, .initialized RX8, .code yX8_in cX8_in 6 (some .boolean)] ++ wsX80)
def wsX8_again : List Cond := .code yX8_again cX8_again 3 (some .int) :: ([.fieldLink RX8 46 "CockWarModel" "isKept" "[Z", .fieldLink RX8 19 "CockWarModel" "now" "[I", .fieldLink RX8 50 "CockWarModel" "kept" "[I", .fieldLink RX8 112 "CockWarModel" "acts" "I", .methodLink RX8 59 yX8_in, .static yX8_in, .initialized RX8, .code yX8_in cX8_in 6 (some .boolean)] ++ wsX80)
def wsX8_count : List Cond := .code yX8_count cX8_count 2 (some .int) :: ([.fieldLink RX8 63 "CockWarModel" "length" "I", .fieldLink RX8 53 "CockWarModel" "cocks" "I", .fieldLink RX8 109 "CockWarModel" "winds" "I", .fieldLink RX8 19 "CockWarModel" "now" "[I", .fieldLink RX8 112 "CockWarModel" "acts" "I", .fieldLink RX8 189 "CockWarModel" "seen" "I", .methodLink RX8 123 yX8_weightOf, .instanceMethod yX8_weightOf, .selects RX8 yX8_weightOf yX8_weightOf, .initialized RX8, .code yX8_weightOf cX8_weightOf 7 (some .int), .fieldLink RX8 13 "CockWarModel" "weight" "[I", .methodLink RX8 74 yX8_has, .static yX8_has, .code yX8_has cX8_has 2 (some .boolean), .methodLink RX8 175 yX8_treesNow, .instanceMethod yX8_treesNow, .selects RX8 yX8_treesNow yX8_treesNow, .code yX8_treesNow cX8_treesNow 3 (some .int)] ++ wsX80)
def wsL_law_r1 : List Cond := [Cond.classLink RL 7 RX7, Cond.instantiable RX7 9, Cond.initialized RX7, Cond.classLink RL 10 RX8, Cond.instantiable RX8 31, Cond.initialized RX8, Cond.constantLong RL 125 (4294967295), Cond.methodLink RL 9 yX7_init, Cond.instanceMethod yX7_init, Cond.code yX7_init cX7_init 1 none, Cond.methodLink RX7 3 objectInit, Cond.instanceMethod objectInit, Cond.code objectInit ⟨#[0xb1]⟩ 1 none, Cond.classLink RX7 9 RX4, Cond.instantiable RX4 6, Cond.initialized RX4, Cond.fieldLink RX7 12 "CockWar" "reader" "LCockWar$Reader;", Cond.classLink RX7 16 RX2, Cond.instantiable RX2 11, Cond.initialized RX2, Cond.fieldLink RX7 19 "CockWar" "now" "LCockWar$Hill;", Cond.classLink RX7 23 RX1, Cond.instantiable RX1 4, Cond.initialized RX1]
def wsL_law_r2 : List Cond := [Cond.fieldLink RX7 26 "CockWar" "air" "LCockWar$Air;", Cond.classLink RX7 30 RX0, Cond.instantiable RX0 3, Cond.initialized RX0, Cond.fieldLink RX7 33 "CockWar" "acts" "LCockWar$ActRow;", Cond.classLink RX7 37 RX5, Cond.instantiable RX5 3, Cond.initialized RX5, Cond.fieldLink RX7 40 "CockWar" "sights" "LCockWar$Sights;", Cond.classLink RX7 44 RX6, Cond.instantiable RX6 2, Cond.initialized RX6, Cond.fieldLink RX7 47 "CockWar" "slots" "LCockWar$Slots;", Cond.classLink RX7 51 RX3, Cond.instantiable RX3 5, Cond.initialized RX3, Cond.fieldLink RX7 54 "CockWar" "plan" "LCockWar$Plan;", Cond.fieldLink RX7 58 "CockWar" "trial" "LCockWar$Hill;", Cond.fieldLink RX7 61 "CockWar" "drawn" "J", Cond.instanceMethod yX4_init, Cond.code yX4_init cX4_init 1 none, Cond.methodLink RX4 3 objectInit, Cond.arrayClass .int, Cond.fieldLink RX4 9 "CockWar$Reader" "letters" "[I"]
def wsL_law_r3 : List Cond := [Cond.classLink RX4 15 RX2, Cond.fieldLink RX4 18 "CockWar$Reader" "ground" "LCockWar$Hill;", Cond.classLink RX4 22 RX1, Cond.fieldLink RX4 25 "CockWar$Reader" "air" "LCockWar$Air;", Cond.instanceMethod yX2_init, Cond.code yX2_init cX2_init 1 none, Cond.methodLink RX2 3 objectInit, Cond.fieldLink RX2 9 "CockWar$Hill" "trees" "[I", Cond.fieldLink RX2 15 "CockWar$Hill" "cells" "[I", Cond.fieldLink RX2 18 "CockWar$Hill" "heights" "[I", Cond.fieldLink RX2 21 "CockWar$Hill" "rusts" "[I", Cond.fieldLink RX2 24 "CockWar$Hill" "weights" "[I", Cond.instanceMethod yX1_init, Cond.code yX1_init cX1_init 1 none, Cond.methodLink RX1 3 objectInit, Cond.fieldLink RX1 9 "CockWar$Air" "goals" "[I", Cond.fieldLink RX1 15 "CockWar$Air" "strengths" "[I", Cond.fieldLink RX1 18 "CockWar$Air" "days" "[I", Cond.instanceMethod yX0_init, Cond.code yX0_init cX0_init 2 none, Cond.methodLink RX0 3 objectInit, Cond.classLink RX0 9 RX2, Cond.fieldLink RX0 11 "CockWar$ActRow" "before" "[LCockWar$Hill;", Cond.instanceMethod yX5_init]
def wsL_law_r4 : List Cond := [Cond.code yX5_init cX5_init 1 none, Cond.methodLink RX5 3 objectInit, Cond.fieldLink RX5 9 "CockWar$Sights" "cocks" "[I", Cond.fieldLink RX5 15 "CockWar$Sights" "ways" "[I", Cond.instanceMethod yX6_init, Cond.code yX6_init cX6_init 2 none, Cond.methodLink RX6 3 objectInit, Cond.classLink RX6 9 RX2, Cond.fieldLink RX6 11 "CockWar$Slots" "kept" "[LCockWar$Hill;", Cond.instanceMethod yX3_init, Cond.code yX3_init cX3_init 1 none, Cond.methodLink RX3 3 objectInit, Cond.classLink RX3 9 RX2, Cond.fieldLink RX3 12 "CockWar$Plan" "trial" "LCockWar$Hill;", Cond.methodLink RL 12 yX8_init, Cond.instanceMethod yX8_init, Cond.code yX8_init cX8_init 1 none, Cond.methodLink RX8 1 objectInit, Cond.fieldLink RX8 7 "CockWarModel" "high" "[I", Cond.fieldLink RX8 13 "CockWarModel" "weight" "[I", Cond.fieldLink RX8 16 "CockWarModel" "wind" "[I", Cond.fieldLink RX8 19 "CockWarModel" "now" "[I", Cond.fieldLink RX8 22 "CockWarModel" "read" "[I", Cond.fieldLink RX8 25 "CockWarModel" "readHigh" "[I"]
def wsL_law_r5 : List Cond := [Cond.fieldLink RX8 28 "CockWarModel" "readWeight" "[I", Cond.fieldLink RX8 31 "CockWarModel" "readWind" "[I", Cond.fieldLink RX8 34 "CockWarModel" "text" "[I", Cond.fieldLink RX8 37 "CockWarModel" "row" "[I", Cond.fieldLink RX8 40 "CockWarModel" "seenOf" "[I", Cond.fieldLink RX8 43 "CockWarModel" "seenTo" "[I", Cond.arrayClass .boolean, Cond.fieldLink RX8 46 "CockWarModel" "isKept" "[Z", Cond.fieldLink RX8 50 "CockWarModel" "kept" "[I", Cond.fieldLink RX8 53 "CockWarModel" "cocks" "I", Cond.methodLink RL 13 yX7_write, Cond.instanceMethod yX7_write, Cond.selects RX7 yX7_write yX7_write, Cond.code yX7_write cX7_write 2 (some .int), Cond.instanceMethod yX4_append, Cond.selects RX4 yX4_append yX4_append, Cond.code yX4_append cX4_append 2 (some .int), Cond.fieldLink RX4 29 "CockWar$Reader" "length" "I", Cond.static yX7_put, Cond.code yX7_put cX7_put 3 none, Cond.methodLink RL 17 yX8_write, Cond.instanceMethod yX8_write, Cond.selects RX8 yX8_write yX8_write, Cond.code yX8_write cX8_write 2 (some .int)]
def wsL_law_r6 : List Cond := [Cond.constantLong RX8 57 (255), Cond.fieldLink RX8 63 "CockWarModel" "length" "I", Cond.methodLink RX8 59 yX8_in, Cond.static yX8_in, Cond.code yX8_in cX8_in 6 (some .boolean), Cond.methodLink RL 18 yX7_wipe, Cond.instanceMethod yX7_wipe, Cond.selects RX7 yX7_wipe yX7_wipe, Cond.code yX7_wipe cX7_wipe 2 (some .int), Cond.methodLink RL 22 yX8_wipe, Cond.instanceMethod yX8_wipe, Cond.selects RX8 yX8_wipe yX8_wipe, Cond.code yX8_wipe cX8_wipe 2 (some .int), Cond.methodLink RL 23 yX7_fault, Cond.instanceMethod yX7_fault, Cond.selects RX7 yX7_fault yX7_fault, Cond.code yX7_fault cX7_fault 1 (some .int), Cond.instanceMethod yX4_firstFault, Cond.selects RX4 yX4_firstFault yX4_firstFault, Cond.code yX4_firstFault cX4_firstFault 2 (some .int), Cond.fieldLink RX4 43 "CockWar$Reader" "place" "I", Cond.fieldLink RX4 50 "CockWar$Reader" "broken" "Z", Cond.instanceMethod yX2_clear, Cond.selects RX2 yX2_clear yX2_clear]
def wsL_law_r7 : List Cond := [Cond.code yX2_clear cX2_clear 2 none, Cond.fieldLink RX2 27 "CockWar$Hill" "cocks" "I", Cond.fieldLink RX2 31 "CockWar$Hill" "parishes" "I", Cond.fieldLink RX2 34 "CockWar$Hill" "ways" "I", Cond.fieldLink RX2 37 "CockWar$Hill" "held" "I", Cond.fieldLink RX2 40 "CockWar$Hill" "brook" "I", Cond.fieldLink RX2 43 "CockWar$Hill" "days" "I", Cond.static yX7_at, Cond.code yX7_at cX7_at 2 (some .int), Cond.methodLink RX4 54 yX4_readPart, Cond.instanceMethod yX4_readPart, Cond.selects RX4 yX4_readPart yX4_readPart, Cond.code yX4_readPart cX4_readPart 3 none, Cond.instanceMethod yX2_treeCells, Cond.selects RX2 yX2_treeCells yX2_treeCells, Cond.code yX2_treeCells cX2_treeCells 3 (some .int), Cond.methodLink RX4 61 yX4_readTree, Cond.instanceMethod yX4_readTree, Cond.selects RX4 yX4_readTree yX4_readTree, Cond.code yX4_readTree cX4_readTree 4 none, Cond.methodLink RX4 74 yX4_figure, Cond.instanceMethod yX4_figure, Cond.selects RX4 yX4_figure yX4_figure, Cond.code yX4_figure cX4_figure 3 (some .int)]
def wsL_law_r8 : List Cond := [Cond.static yX7_bit, Cond.code yX7_bit cX7_bit 2 (some .int), Cond.methodLink RX4 68 yX4_readCock, Cond.instanceMethod yX4_readCock, Cond.selects RX4 yX4_readCock yX4_readCock, Cond.code yX4_readCock cX4_readCock 7 none, Cond.instanceMethod yX2_takenCells, Cond.selects RX2 yX2_takenCells yX2_takenCells, Cond.code yX2_takenCells cX2_takenCells 3 (some .int), Cond.instanceMethod yX2_addCock, Cond.selects RX2 yX2_addCock yX2_addCock, Cond.code yX2_addCock cX2_addCock 7 none, Cond.methodLink RX4 71 yX4_readWind, Cond.instanceMethod yX4_readWind, Cond.selects RX4 yX4_readWind yX4_readWind, Cond.code yX4_readWind cX4_readWind 4 none, Cond.instanceMethod yX1_addWind, Cond.selects RX1 yX1_addWind yX1_addWind, Cond.code yX1_addWind cX1_addWind 4 none, Cond.fieldLink RX1 25 "CockWar$Air" "winds" "I", Cond.methodLink RL 26 yX8_fault, Cond.instanceMethod yX8_fault, Cond.selects RX8 yX8_fault yX8_fault, Cond.code yX8_fault cX8_fault 1 (some .int)]
def wsL_law_r9 : List Cond := [Cond.methodLink RX8 105 yX8_readText, Cond.instanceMethod yX8_readText, Cond.selects RX8 yX8_readText yX8_readText, Cond.code yX8_readText cX8_readText 2 (some .int), Cond.fieldLink RX8 69 "CockWarModel" "at" "I", Cond.fieldLink RX8 66 "CockWarModel" "faultAt" "I", Cond.fieldLink RX8 78 "CockWarModel" "readCocks" "I", Cond.fieldLink RX8 81 "CockWarModel" "readWinds" "I", Cond.fieldLink RX8 84 "CockWarModel" "readTrees" "I", Cond.fieldLink RX8 87 "CockWarModel" "readCells" "I", Cond.methodLink RX8 90 yX8_readPart, Cond.instanceMethod yX8_readPart, Cond.selects RX8 yX8_readPart yX8_readPart, Cond.code yX8_readPart cX8_readPart 4 none, Cond.methodLink RX8 94 yX8_figureOf, Cond.instanceMethod yX8_figureOf, Cond.selects RX8 yX8_figureOf yX8_figureOf, Cond.code yX8_figureOf cX8_figureOf 3 (some .int), Cond.constantLong RX8 72 (9), Cond.methodLink RX8 74 yX8_has, Cond.static yX8_has, Cond.code yX8_has cX8_has 2 (some .boolean), Cond.methodLink RX8 98 yX8_figure, Cond.instanceMethod yX8_figure]
def wsL_law_r10 : List Cond := [Cond.selects RX8 yX8_figure yX8_figure, Cond.code yX8_figure cX8_figure 4 (some .int), Cond.methodLink RX8 102 yX8_readCock, Cond.instanceMethod yX8_readCock, Cond.selects RX8 yX8_readCock yX8_readCock, Cond.code yX8_readCock cX8_readCock 4 none, Cond.methodLink RL 27 yX7_hill, Cond.instanceMethod yX7_hill, Cond.selects RX7 yX7_hill yX7_hill, Cond.code yX7_hill cX7_hill 1 (some .int), Cond.instanceMethod yX2_copyFrom, Cond.selects RX2 yX2_copyFrom yX2_copyFrom, Cond.code yX2_copyFrom cX2_copyFrom 2 none, Cond.static yX7_copyRow, Cond.code yX7_copyRow cX7_copyRow 3 none, Cond.instanceMethod yX1_copyFrom, Cond.selects RX1 yX1_copyFrom yX1_copyFrom, Cond.code yX1_copyFrom cX1_copyFrom 2 none, Cond.instanceMethod yX0_forget, Cond.selects RX0 yX0_forget yX0_forget, Cond.code yX0_forget cX0_forget 1 none, Cond.fieldLink RX0 18 "CockWar$ActRow" "number" "I", Cond.instanceMethod yX6_forget, Cond.selects RX6 yX6_forget yX6_forget]
def wsL_law_r11 : List Cond := [Cond.code yX6_forget cX6_forget 1 none, Cond.fieldLink RX6 18 "CockWar$Slots" "filled" "I", Cond.methodLink RL 30 yX8_hill, Cond.instanceMethod yX8_hill, Cond.selects RX8 yX8_hill yX8_hill, Cond.code yX8_hill cX8_hill 2 (some .int), Cond.fieldLink RX8 109 "CockWarModel" "winds" "I", Cond.fieldLink RX8 112 "CockWarModel" "acts" "I", Cond.methodLink RL 31 yX7_tree, Cond.instanceMethod yX7_tree, Cond.selects RX7 yX7_tree yX7_tree, Cond.code yX7_tree cX7_tree 2 (some .int), Cond.methodLink RX7 98 yX7_isCell, Cond.static yX7_isCell, Cond.code yX7_isCell cX7_isCell 1 (some .boolean), Cond.methodLink RX7 106 yX7_at, Cond.methodLink RL 34 yX8_tree, Cond.instanceMethod yX8_tree, Cond.selects RX8 yX8_tree yX8_tree, Cond.code yX8_tree cX8_tree 2 (some .int), Cond.methodLink RL 35 yX7_cock, Cond.instanceMethod yX7_cock, Cond.selects RX7 yX7_cock yX7_cock, Cond.code yX7_cock cX7_cock 3 (some .int)]
def wsL_law_r12 : List Cond := [Cond.instanceMethod yX2_hasCock, Cond.selects RX2 yX2_hasCock yX2_hasCock, Cond.code yX2_hasCock cX2_hasCock 2 (some .boolean), Cond.methodLink RX7 119 yX7_bit, Cond.methodLink RL 39 yX8_cock, Cond.instanceMethod yX8_cock, Cond.selects RX8 yX8_cock yX8_cock, Cond.code yX8_cock cX8_cock 3 (some .int), Cond.methodLink RX8 115 yX8_isCock, Cond.instanceMethod yX8_isCock, Cond.selects RX8 yX8_isCock yX8_isCock, Cond.code yX8_isCock cX8_isCock 2 (some .boolean), Cond.methodLink RL 40 yX7_wind, Cond.instanceMethod yX7_wind, Cond.selects RX7 yX7_wind yX7_wind, Cond.code yX7_wind cX7_wind 3 (some .int), Cond.instanceMethod yX1_hasWind, Cond.selects RX1 yX1_hasWind yX1_hasWind, Cond.code yX1_hasWind cX1_hasWind 2 (some .boolean), Cond.instanceMethod yX1_waysBehind, Cond.selects RX1 yX1_waysBehind yX1_waysBehind, Cond.code yX1_waysBehind cX1_waysBehind 7 (some .int), Cond.instanceMethod yX2_yieldingTo, Cond.selects RX2 yX2_yieldingTo yX2_yieldingTo]
def wsL_law_r13 : List Cond := [Cond.code yX2_yieldingTo cX2_yieldingTo 8 (some .int), Cond.methodLink RL 43 yX8_wind, Cond.instanceMethod yX8_wind, Cond.selects RX8 yX8_wind yX8_wind, Cond.code yX8_wind cX8_wind 3 (some .int), Cond.constantLong RX8 136 (2), Cond.methodLink RX8 133 yX8_isWind, Cond.instanceMethod yX8_isWind, Cond.selects RX8 yX8_isWind yX8_isWind, Cond.code yX8_isWind cX8_isWind 2 (some .boolean), Cond.methodLink RX8 127 yX8_pointsBy, Cond.instanceMethod yX8_pointsBy, Cond.selects RX8 yX8_pointsBy yX8_pointsBy, Cond.code yX8_pointsBy cX8_pointsBy 7 (some .int), Cond.methodLink RX8 119 yX8_isSheltered, Cond.instanceMethod yX8_isSheltered, Cond.selects RX8 yX8_isSheltered yX8_isSheltered, Cond.code yX8_isSheltered cX8_isSheltered 5 (some .boolean), Cond.methodLink RL 44 yX7_blow, Cond.instanceMethod yX7_blow, Cond.selects RX7 yX7_blow yX7_blow, Cond.code yX7_blow cX7_blow 2 (some .int), Cond.instanceMethod yX0_remember, Cond.selects RX0 yX0_remember yX0_remember]
def wsL_law_r14 : List Cond := [Cond.code yX0_remember cX0_remember 3 none, Cond.fieldLink RX0 22 "CockWar$ActRow" "oldest" "I", Cond.instanceMethod yX1_blowOver, Cond.selects RX1 yX1_blowOver yX1_blowOver, Cond.code yX1_blowOver cX1_blowOver 3 (some .int), Cond.methodLink RX1 46 yX1_waysBehind, Cond.instanceMethod yX2_brookBy, Cond.selects RX2 yX2_brookBy yX2_brookBy, Cond.code yX2_brookBy cX2_brookBy 6 (some .int), Cond.methodLink RL 47 yX8_blow, Cond.instanceMethod yX8_blow, Cond.selects RX8 yX8_blow yX8_blow, Cond.code yX8_blow cX8_blow 2 (some .int), Cond.methodLink RX8 141 yX8_keepAct, Cond.instanceMethod yX8_keepAct, Cond.selects RX8 yX8_keepAct yX8_keepAct, Cond.code yX8_keepAct cX8_keepAct 2 none, Cond.fieldLink RX8 138 "CockWarModel" "next" "I", Cond.methodLink RX8 144 yX8_blowOn, Cond.instanceMethod yX8_blowOn, Cond.selects RX8 yX8_blowOn yX8_blowOn, Cond.code yX8_blowOn cX8_blowOn 5 none, Cond.methodLink RX8 130 yX8_brookBy, Cond.instanceMethod yX8_brookBy]
def wsL_law_r15 : List Cond := [Cond.selects RX8 yX8_brookBy yX8_brookBy, Cond.code yX8_brookBy cX8_brookBy 4 (some .int), Cond.methodLink RX8 123 yX8_weightOf, Cond.instanceMethod yX8_weightOf, Cond.selects RX8 yX8_weightOf yX8_weightOf, Cond.code yX8_weightOf cX8_weightOf 7 (some .int), Cond.methodLink RL 48 yX7_fell, Cond.instanceMethod yX7_fell, Cond.selects RX7 yX7_fell yX7_fell, Cond.code yX7_fell cX7_fell 3 (some .int), Cond.methodLink RX7 161 yX7_put, Cond.methodLink RL 51 yX8_fell, Cond.instanceMethod yX8_fell, Cond.selects RX8 yX8_fell yX8_fell, Cond.code yX8_fell cX8_fell 3 (some .int), Cond.methodLink RL 52 yX7_move, Cond.instanceMethod yX7_move, Cond.selects RX7 yX7_move yX7_move, Cond.code yX7_move cX7_move 4 (some .int), Cond.methodLink RL 55 yX8_move, Cond.instanceMethod yX8_move, Cond.selects RX8 yX8_move yX8_move, Cond.code yX8_move cX8_move 4 (some .int), Cond.methodLink RX8 148 yX8_isCockOn]
def wsL_law_r16 : List Cond := [Cond.instanceMethod yX8_isCockOn, Cond.selects RX8 yX8_isCockOn yX8_isCockOn, Cond.code yX8_isCockOn cX8_isCockOn 4 (some .boolean), Cond.methodLink RL 56 yX7_grease, Cond.instanceMethod yX7_grease, Cond.selects RX7 yX7_grease yX7_grease, Cond.code yX7_grease cX7_grease 3 (some .int), Cond.methodLink RL 59 yX8_grease, Cond.instanceMethod yX8_grease, Cond.selects RX8 yX8_grease yX8_grease, Cond.code yX8_grease cX8_grease 3 (some .int), Cond.methodLink RL 60 yX7_capture, Cond.instanceMethod yX7_capture, Cond.selects RX7 yX7_capture yX7_capture, Cond.code yX7_capture cX7_capture 2 (some .int), Cond.methodLink RL 63 yX8_capture, Cond.instanceMethod yX8_capture, Cond.selects RX8 yX8_capture yX8_capture, Cond.code yX8_capture cX8_capture 2 (some .int), Cond.methodLink RL 64 yX7_hold, Cond.instanceMethod yX7_hold, Cond.selects RX7 yX7_hold yX7_hold, Cond.code yX7_hold cX7_hold 2 (some .int), Cond.methodLink RL 67 yX8_hold]
def wsL_law_r17 : List Cond := [Cond.instanceMethod yX8_hold, Cond.selects RX8 yX8_hold yX8_hold, Cond.code yX8_hold cX8_hold 2 (some .int), Cond.methodLink RL 68 yX7_undo, Cond.instanceMethod yX7_undo, Cond.selects RX7 yX7_undo yX7_undo, Cond.code yX7_undo cX7_undo 1 (some .int), Cond.instanceMethod yX0_takeBack, Cond.selects RX0 yX0_takeBack yX0_takeBack, Cond.code yX0_takeBack cX0_takeBack 3 (some .int), Cond.methodLink RL 71 yX8_undo, Cond.instanceMethod yX8_undo, Cond.selects RX8 yX8_undo yX8_undo, Cond.code yX8_undo cX8_undo 2 (some .int), Cond.methodLink RL 72 yX7_under, Cond.instanceMethod yX7_under, Cond.selects RX7 yX7_under yX7_under, Cond.code yX7_under cX7_under 2 (some .int), Cond.instanceMethod yX1_brookUnder, Cond.selects RX1 yX1_brookUnder yX1_brookUnder, Cond.code yX1_brookUnder cX1_brookUnder 5 (some .int), Cond.methodLink RL 75 yX8_under, Cond.instanceMethod yX8_under, Cond.selects RX8 yX8_under yX8_under]
def wsL_law_r18 : List Cond := [Cond.code yX8_under cX8_under 2 (some .int), Cond.methodLink RX8 151 yX8_underOf, Cond.instanceMethod yX8_underOf, Cond.selects RX8 yX8_underOf yX8_underOf, Cond.code yX8_underOf cX8_underOf 4 (some .int), Cond.methodLink RL 76 yX7_year, Cond.instanceMethod yX7_year, Cond.selects RX7 yX7_year yX7_year, Cond.code yX7_year cX7_year 2 (some .int), Cond.methodLink RX7 175 yX7_isParish, Cond.static yX7_isParish, Cond.code yX7_isParish cX7_isParish 1 (some .boolean), Cond.instanceMethod yX1_yearOf, Cond.selects RX1 yX1_yearOf yX1_yearOf, Cond.code yX1_yearOf cX1_yearOf 6 (some .int), Cond.methodLink RX1 62 yX1_brookUnder, Cond.methodLink RL 79 yX8_year, Cond.instanceMethod yX8_year, Cond.selects RX8 yX8_year yX8_year, Cond.code yX8_year cX8_year 2 (some .int), Cond.methodLink RX8 154 yX8_yearOf, Cond.instanceMethod yX8_yearOf, Cond.selects RX8 yX8_yearOf yX8_yearOf, Cond.code yX8_yearOf cX8_yearOf 4 (some .int)]
def wsL_law_r19 : List Cond := [Cond.methodLink RL 80 yX7_placing, Cond.instanceMethod yX7_placing, Cond.selects RX7 yX7_placing yX7_placing, Cond.code yX7_placing cX7_placing 3 (some .int), Cond.instanceMethod yX3_seek, Cond.selects RX3 yX3_seek yX3_seek, Cond.code yX3_seek cX3_seek 7 none, Cond.fieldLink RX3 18 "CockWar$Plan" "days" "I", Cond.methodLink RX3 26 yX3_tryTrees, Cond.instanceMethod yX3_tryTrees, Cond.selects RX3 yX3_tryTrees yX3_tryTrees, Cond.code yX3_tryTrees cX3_tryTrees 6 none, Cond.methodLink RX3 62 yX3_tryOne, Cond.instanceMethod yX3_tryOne, Cond.selects RX3 yX3_tryOne yX3_tryOne, Cond.code yX3_tryOne cX3_tryOne 5 none, Cond.fieldLink RX3 69 "CockWar$Plan" "cock" "I", Cond.fieldLink RX3 72 "CockWar$Plan" "cell" "I", Cond.fieldLink RX3 75 "CockWar$Plan" "tree" "I", Cond.methodLink RL 83 yX8_placing, Cond.instanceMethod yX8_placing, Cond.selects RX8 yX8_placing yX8_placing, Cond.code yX8_placing cX8_placing 6 (some .int), Cond.constantLong RX8 169 (3)]
def wsL_law_r20 : List Cond := [Cond.fieldLink RX8 157 "CockWarModel" "bestYear" "I", Cond.fieldLink RX8 160 "CockWarModel" "bestCock" "I", Cond.fieldLink RX8 163 "CockWarModel" "bestCell" "I", Cond.fieldLink RX8 166 "CockWarModel" "bestTree" "I", Cond.methodLink RX8 171 yX8_tryTrees, Cond.instanceMethod yX8_tryTrees, Cond.selects RX8 yX8_tryTrees yX8_tryTrees, Cond.code yX8_tryTrees cX8_tryTrees 9 none, Cond.methodLink RL 84 yX7_trees, Cond.instanceMethod yX7_trees, Cond.selects RX7 yX7_trees yX7_trees, Cond.code yX7_trees cX7_trees 7 (some .int), Cond.methodLink RX7 200 yJ6_bitCount_0f7a4, Cond.static yJ6_bitCount_0f7a4, Cond.initialized RJ6, Cond.code yJ6_bitCount_0f7a4 cJ6_bitCount_0f7a4 1 (some .int), Cond.constant RJ6 265 (1431655765), Cond.constant RJ6 266 (858993459), Cond.constant RJ6 267 (252645135), Cond.methodLink RL 87 yX8_trees, Cond.instanceMethod yX8_trees, Cond.selects RX8 yX8_trees yX8_trees, Cond.code yX8_trees cX8_trees 6 (some .int), Cond.methodLink RX8 175 yX8_treesNow]
def wsL_law_r21 : List Cond := [Cond.instanceMethod yX8_treesNow, Cond.selects RX8 yX8_treesNow yX8_treesNow, Cond.code yX8_treesNow cX8_treesNow 3 (some .int), Cond.methodLink RX8 178 yX8_ones, Cond.static yX8_ones, Cond.code yX8_ones cX8_ones 3 (some .int), Cond.methodLink RX8 181 yX8_layTrial, Cond.instanceMethod yX8_layTrial, Cond.selects RX8 yX8_layTrial yX8_layTrial, Cond.code yX8_layTrial cX8_layTrial 2 none, Cond.methodLink RL 88 yX7_decides, Cond.instanceMethod yX7_decides, Cond.selects RX7 yX7_decides yX7_decides, Cond.code yX7_decides cX7_decides 6 (some .int), Cond.methodLink RL 91 yX8_decides, Cond.instanceMethod yX8_decides, Cond.selects RX8 yX8_decides yX8_decides, Cond.code yX8_decides cX8_decides 5 (some .int), Cond.methodLink RL 92 yX7_power, Cond.instanceMethod yX7_power, Cond.selects RX7 yX7_power yX7_power, Cond.code yX7_power cX7_power 6 (some .int), Cond.instanceMethod yX2_everyCock, Cond.selects RX2 yX2_everyCock yX2_everyCock]
def wsL_law_r22 : List Cond := [Cond.code yX2_everyCock cX2_everyCock 1 (some .int), Cond.methodLink RL 95 yX8_power, Cond.instanceMethod yX8_power, Cond.selects RX8 yX8_power yX8_power, Cond.code yX8_power cX8_power 4 (some .int), Cond.methodLink RL 96 yX7_judge, Cond.instanceMethod yX7_judge, Cond.selects RX7 yX7_judge yX7_judge, Cond.code yX7_judge cX7_judge 5 (some .int), Cond.methodLink RX7 211 yX7_cutFigures, Cond.static yX7_cutFigures, Cond.code yX7_cutFigures cX7_cutFigures 4 (some .int), Cond.methodLink RL 99 yX8_judge, Cond.instanceMethod yX8_judge, Cond.selects RX8 yX8_judge yX8_judge, Cond.code yX8_judge cX8_judge 5 (some .int), Cond.constantLong RX8 184 (6), Cond.methodLink RX8 186 yX8_tenTo, Cond.static yX8_tenTo, Cond.code yX8_tenTo cX8_tenTo 3 (some .int), Cond.methodLink RL 100 yX7_see, Cond.instanceMethod yX7_see, Cond.selects RX7 yX7_see yX7_see, Cond.code yX7_see cX7_see 3 (some .int)]
def wsL_law_r23 : List Cond := [Cond.instanceMethod yX5_add, Cond.selects RX5 yX5_add yX5_add, Cond.code yX5_add cX5_add 3 (some .int), Cond.fieldLink RX5 18 "CockWar$Sights" "number" "I", Cond.methodLink RL 103 yX8_see, Cond.instanceMethod yX8_see, Cond.selects RX8 yX8_see yX8_see, Cond.code yX8_see cX8_see 3 (some .int), Cond.fieldLink RX8 189 "CockWarModel" "seen" "I", Cond.methodLink RL 104 yX7_unsee, Cond.instanceMethod yX7_unsee, Cond.selects RX7 yX7_unsee yX7_unsee, Cond.code yX7_unsee cX7_unsee 2 (some .int), Cond.methodLink RL 107 yX8_unsee, Cond.instanceMethod yX8_unsee, Cond.selects RX8 yX8_unsee yX8_unsee, Cond.code yX8_unsee cX8_unsee 2 (some .int), Cond.methodLink RL 108 yX7_strings, Cond.instanceMethod yX7_strings, Cond.selects RX7 yX7_strings yX7_strings, Cond.code yX7_strings cX7_strings 8 (some .int), Cond.instanceMethod yX5_agree, Cond.selects RX5 yX5_agree yX5_agree, Cond.code yX5_agree cX5_agree 5 (some .boolean)]
def wsL_law_r24 : List Cond := [Cond.methodLink RL 111 yX8_strings, Cond.instanceMethod yX8_strings, Cond.selects RX8 yX8_strings yX8_strings, Cond.code yX8_strings cX8_strings 7 (some .int), Cond.methodLink RX8 192 yX8_isSeen, Cond.instanceMethod yX8_isSeen, Cond.selects RX8 yX8_isSeen yX8_isSeen, Cond.code yX8_isSeen cX8_isSeen 6 (some .boolean), Cond.methodLink RL 112 yX7_winds, Cond.instanceMethod yX7_winds, Cond.selects RX7 yX7_winds yX7_winds, Cond.code yX7_winds cX7_winds 3 (some .int), Cond.methodLink RL 115 yX8_winds, Cond.instanceMethod yX8_winds, Cond.selects RX8 yX8_winds yX8_winds, Cond.code yX8_winds cX8_winds 3 (some .int), Cond.methodLink RL 116 yX7_rests, Cond.instanceMethod yX7_rests, Cond.selects RX7 yX7_rests yX7_rests, Cond.code yX7_rests cX7_rests 7 (some .int), Cond.methodLink RX7 224 yX7_mayHold, Cond.instanceMethod yX7_mayHold, Cond.selects RX7 yX7_mayHold yX7_mayHold, Cond.code yX7_mayHold cX7_mayHold 3 (some .boolean)]
def wsL_law_r25 : List Cond := [Cond.methodLink RX7 228 yX7_isAtRest, Cond.instanceMethod yX7_isAtRest, Cond.selects RX7 yX7_isAtRest yX7_isAtRest, Cond.code yX7_isAtRest cX7_isAtRest 6 (some .boolean), Cond.methodLink RX7 263 yX7_brookHeld, Cond.instanceMethod yX7_brookHeld, Cond.selects RX7 yX7_brookHeld yX7_brookHeld, Cond.code yX7_brookHeld cX7_brookHeld 4 (some .int), Cond.methodLink RL 119 yX8_rests, Cond.instanceMethod yX8_rests, Cond.selects RX8 yX8_rests yX8_rests, Cond.code yX8_rests cX8_rests 7 (some .int), Cond.methodLink RX8 198 yX8_isChoice, Cond.instanceMethod yX8_isChoice, Cond.selects RX8 yX8_isChoice yX8_isChoice, Cond.code yX8_isChoice cX8_isChoice 3 (some .boolean), Cond.methodLink RX8 201 yX8_isRest, Cond.instanceMethod yX8_isRest, Cond.selects RX8 yX8_isRest yX8_isRest, Cond.code yX8_isRest cX8_isRest 7 (some .boolean), Cond.methodLink RX8 195 yX8_heldBy, Cond.instanceMethod yX8_heldBy, Cond.selects RX8 yX8_heldBy yX8_heldBy, Cond.code yX8_heldBy cX8_heldBy 5 (some .int)]
def wsL_law_r26 : List Cond := [Cond.methodLink RL 120 yX7_frost, Cond.instanceMethod yX7_frost, Cond.selects RX7 yX7_frost yX7_frost, Cond.code yX7_frost cX7_frost 8 (some .int), Cond.methodLink RX7 232 yX7_waysToFreeze, Cond.instanceMethod yX7_waysToFreeze, Cond.selects RX7 yX7_waysToFreeze yX7_waysToFreeze, Cond.code yX7_waysToFreeze cX7_waysToFreeze 5 (some .int), Cond.methodLink RX7 235 yX7_commonDivisor, Cond.static yX7_commonDivisor, Cond.code yX7_commonDivisor cX7_commonDivisor 6 (some .int), Cond.methodLink RL 124 yX8_frost, Cond.instanceMethod yX8_frost, Cond.selects RX8 yX8_frost yX8_frost, Cond.code yX8_frost cX8_frost 9 (some .int), Cond.constantLong RX8 204 (10), Cond.methodLink RX8 206 yX8_common, Cond.static yX8_common, Cond.code yX8_common cX8_common 5 (some .int), Cond.methodLink RL 127 yX7_seed, Cond.instanceMethod yX7_seed, Cond.selects RX7 yX7_seed yX7_seed, Cond.code yX7_seed cX7_seed 5 (some .long), Cond.methodLink RL 131 yX8_seed]
def wsL_law_r27 : List Cond := [Cond.instanceMethod yX8_seed, Cond.selects RX8 yX8_seed yX8_seed, Cond.code yX8_seed cX8_seed 5 (some .long), Cond.fieldLink RX8 209 "CockWarModel" "seed" "J", Cond.methodLink RL 132 yX7_years, Cond.instanceMethod yX7_years, Cond.selects RX7 yX7_years yX7_years, Cond.code yX7_years cX7_years 6 (some .int), Cond.constantLong RX7 241 (6364136223846793005), Cond.constantLong RX7 243 (1442695040888963407), Cond.instanceMethod yX1_daysInAll, Cond.selects RX1 yX1_daysInAll yX1_daysInAll, Cond.code yX1_daysInAll cX1_daysInAll 3 (some .int), Cond.instanceMethod yX1_windOfDay, Cond.selects RX1 yX1_windOfDay yX1_windOfDay, Cond.code yX1_windOfDay cX1_windOfDay 4 (some .int), Cond.methodLink RL 135 yX8_years, Cond.instanceMethod yX8_years, Cond.selects RX8 yX8_years yX8_years, Cond.code yX8_years cX8_years 7 (some .int), Cond.constantLong RX8 213 (30), Cond.constantLong RX8 215 (6364136223846793005), Cond.constantLong RX8 217 (1442695040888963407), Cond.methodLink RL 136 yX7_keep]
def wsL_law_r28 : List Cond := [Cond.instanceMethod yX7_keep, Cond.selects RX7 yX7_keep yX7_keep, Cond.code yX7_keep cX7_keep 2 (some .int), Cond.instanceMethod yX6_store, Cond.selects RX6 yX6_store yX6_store, Cond.code yX6_store cX6_store 3 (some .int), Cond.methodLink RL 139 yX8_keep, Cond.instanceMethod yX8_keep, Cond.selects RX8 yX8_keep yX8_keep, Cond.code yX8_keep cX8_keep 3 (some .int), Cond.methodLink RL 140 yX7_again, Cond.instanceMethod yX7_again, Cond.selects RX7 yX7_again yX7_again, Cond.code yX7_again cX7_again 3 (some .int), Cond.instanceMethod yX6_fetch, Cond.selects RX6 yX6_fetch yX6_fetch, Cond.code yX6_fetch cX6_fetch 3 (some .int), Cond.methodLink RL 143 yX8_again, Cond.instanceMethod yX8_again, Cond.selects RX8 yX8_again yX8_again, Cond.code yX8_again cX8_again 3 (some .int), Cond.methodLink RL 144 yX7_count, Cond.instanceMethod yX7_count, Cond.selects RX7 yX7_count yX7_count]
def wsL_law_r29 : List Cond := [Cond.code yX7_count cX7_count 2 (some .int), Cond.instanceMethod yX2_weightFor, Cond.selects RX2 yX2_weightFor yX2_weightFor, Cond.code yX2_weightFor cX2_weightFor 4 (some .int), Cond.methodLink RL 147 yX8_count, Cond.instanceMethod yX8_count, Cond.selects RX8 yX8_count yX8_count, Cond.code yX8_count cX8_count 2 (some .int)]
def wsL_law : List Cond := (wsL_law_r1 ++ (wsL_law_r2 ++ (wsL_law_r3 ++ (wsL_law_r4 ++ (wsL_law_r5 ++ (wsL_law_r6 ++ (wsL_law_r7 ++ (wsL_law_r8 ++ (wsL_law_r9 ++ (wsL_law_r10 ++ (wsL_law_r11 ++ (wsL_law_r12 ++ (wsL_law_r13 ++ (wsL_law_r14 ++ (wsL_law_r15 ++ (wsL_law_r16 ++ (wsL_law_r17 ++ (wsL_law_r18 ++ (wsL_law_r19 ++ (wsL_law_r20 ++ (wsL_law_r21 ++ (wsL_law_r22 ++ (wsL_law_r23 ++ (wsL_law_r24 ++ (wsL_law_r25 ++ (wsL_law_r26 ++ (wsL_law_r27 ++ (wsL_law_r28 ++ wsL_law_r29)))))))))))))))))))))))))))) ++ wsX70 ++ wsX80 ++ wsX40 ++ wsX20 ++ wsX10 ++ wsX00 ++ wsX50 ++ wsX60 ++ wsX30 ++ ([] : List Cond)
set_option maxRecDepth 20000 in
abbrev vwCl : List vw_C := [(RX0, TX0, 3), (RX1, TX1, 4), (RX2, TX2, 11), (RX3, TX3, 5), (RX4, TX4, 6), (RX5, TX5, 3), (RX6, TX6, 2), (RX7, TX7, 9), (RX8, TX8, 31)]
end
section
set_option maxRecDepth 20000 in
theorem ggX0_init_X2_init : GoodIn wsX0_init wsX2_init := goodIn_r _ [9, 10, 2, 3, 11, 12, 13, 14, 15, 16, 20, 21, 22, 23, 24, 25, 26, 27, 28, 29, 30] (by decide +kernel) (by decide +kernel)
set_option maxRecDepth 20000 in
theorem gX0_init_X2_init_n17 : GoodIn wsX0_init (wsX2_init) := ggX0_init_X2_init
theorem dX0_init_0 : decode cX0_init 0 = .ok (.aload_n 0, 1) := by decide +kernel
theorem dX0_init_1 : decode cX0_init 1 = .ok (.invokespecial 3, 3) := by decide +kernel
theorem dX0_init_4 : decode cX0_init 4 = .ok (.aload_n 0, 1) := by decide +kernel
theorem dX0_init_5 : decode cX0_init 5 = .ok (.bipush 14, 2) := by decide +kernel
theorem dX0_init_7 : decode cX0_init 7 = .ok (.anewarray 9, 3) := by decide +kernel
theorem dX0_init_10 : decode cX0_init 10 = .ok (.putfield 11, 3) := by decide +kernel
theorem dX0_init_13 : decode cX0_init 13 = .ok (.iconst 0, 1) := by decide +kernel
theorem dX0_init_14 : decode cX0_init 14 = .ok (.istore_n 1, 1) := by decide +kernel
theorem dX0_init_15 : decode cX0_init 15 = .ok (.iload_n 1, 1) := by decide +kernel
theorem dX0_init_16 : decode cX0_init 16 = .ok (.aload_n 0, 1) := by decide +kernel
theorem dX0_init_17 : decode cX0_init 17 = .ok (.getfield 11, 3) := by decide +kernel
theorem dX0_init_20 : decode cX0_init 20 = .ok (.arraylength, 1) := by decide +kernel
theorem dX0_init_21 : decode cX0_init 21 = .ok (.if_icmp .ge 22, 3) := by decide +kernel
theorem dX0_init_24 : decode cX0_init 24 = .ok (.aload_n 0, 1) := by decide +kernel
theorem dX0_init_25 : decode cX0_init 25 = .ok (.getfield 11, 3) := by decide +kernel
theorem dX0_init_28 : decode cX0_init 28 = .ok (.iload_n 1, 1) := by decide +kernel
theorem dX0_init_29 : decode cX0_init 29 = .ok (.new 9, 3) := by decide +kernel
theorem dX0_init_32 : decode cX0_init 32 = .ok (.dup, 1) := by decide +kernel
theorem dX0_init_33 : decode cX0_init 33 = .ok (.invokespecial 17, 3) := by decide +kernel
theorem dX0_init_36 : decode cX0_init 36 = .ok (.aastore, 1) := by decide +kernel
theorem dX0_init_37 : decode cX0_init 37 = .ok (.iinc 1 1, 3) := by decide +kernel
theorem dX0_init_40 : decode cX0_init 40 = .ok (.goto (-25), 3) := by decide +kernel
theorem dX0_init_43 : decode cX0_init 43 = .ok (.return_, 1) := by decide +kernel
theorem dX0_forget_0 : decode cX0_forget 0 = .ok (.aload_n 0, 1) := by decide +kernel
theorem dX0_forget_1 : decode cX0_forget 1 = .ok (.iconst 0, 1) := by decide +kernel
theorem dX0_forget_2 : decode cX0_forget 2 = .ok (.putfield 18, 3) := by decide +kernel
theorem dX0_forget_5 : decode cX0_forget 5 = .ok (.return_, 1) := by decide +kernel
set_option maxRecDepth 20000 in
theorem ggX0_remember_X2_copyFrom : GoodIn wsX0_remember wsX2_copyFrom := goodIn_r _ [7, 8, 9, 10, 11, 12, 13, 14, 15, 16, 17, 18, 19, 20, 21, 25, 26, 27, 28, 29, 30, 31, 32, 33, 34, 35] (by decide +kernel) (by decide +kernel)
set_option maxRecDepth 20000 in
theorem gX0_remember_X2_copyFrom_n25 : GoodIn wsX0_remember (wsX2_copyFrom) := ggX0_remember_X2_copyFrom
theorem dX0_remember_0 : decode cX0_remember 0 = .ok (.aload_n 0, 1) := by decide +kernel
theorem dX0_remember_1 : decode cX0_remember 1 = .ok (.getfield 18, 3) := by decide +kernel
theorem dX0_remember_4 : decode cX0_remember 4 = .ok (.bipush 14, 2) := by decide +kernel
theorem dX0_remember_6 : decode cX0_remember 6 = .ok (.if_icmp .ne 26, 3) := by decide +kernel
theorem dX0_remember_9 : decode cX0_remember 9 = .ok (.aload_n 0, 1) := by decide +kernel
theorem dX0_remember_10 : decode cX0_remember 10 = .ok (.aload_n 0, 1) := by decide +kernel
theorem dX0_remember_11 : decode cX0_remember 11 = .ok (.getfield 22, 3) := by decide +kernel
theorem dX0_remember_14 : decode cX0_remember 14 = .ok (.iconst 1, 1) := by decide +kernel
theorem dX0_remember_15 : decode cX0_remember 15 = .ok (.iadd, 1) := by decide +kernel
theorem dX0_remember_16 : decode cX0_remember 16 = .ok (.bipush 14, 2) := by decide +kernel
theorem dX0_remember_18 : decode cX0_remember 18 = .ok (.irem, 1) := by decide +kernel
theorem dX0_remember_19 : decode cX0_remember 19 = .ok (.putfield 22, 3) := by decide +kernel
theorem dX0_remember_22 : decode cX0_remember 22 = .ok (.aload_n 0, 1) := by decide +kernel
theorem dX0_remember_23 : decode cX0_remember 23 = .ok (.dup, 1) := by decide +kernel
theorem dX0_remember_24 : decode cX0_remember 24 = .ok (.getfield 18, 3) := by decide +kernel
theorem dX0_remember_27 : decode cX0_remember 27 = .ok (.iconst 1, 1) := by decide +kernel
theorem dX0_remember_28 : decode cX0_remember 28 = .ok (.isub, 1) := by decide +kernel
theorem dX0_remember_29 : decode cX0_remember 29 = .ok (.putfield 18, 3) := by decide +kernel
theorem dX0_remember_32 : decode cX0_remember 32 = .ok (.aload_n 0, 1) := by decide +kernel
theorem dX0_remember_33 : decode cX0_remember 33 = .ok (.getfield 22, 3) := by decide +kernel
theorem dX0_remember_36 : decode cX0_remember 36 = .ok (.aload_n 0, 1) := by decide +kernel
theorem dX0_remember_37 : decode cX0_remember 37 = .ok (.getfield 18, 3) := by decide +kernel
theorem dX0_remember_40 : decode cX0_remember 40 = .ok (.iadd, 1) := by decide +kernel
theorem dX0_remember_41 : decode cX0_remember 41 = .ok (.bipush 14, 2) := by decide +kernel
theorem dX0_remember_43 : decode cX0_remember 43 = .ok (.irem, 1) := by decide +kernel
theorem dX0_remember_44 : decode cX0_remember 44 = .ok (.istore_n 2, 1) := by decide +kernel
theorem dX0_remember_45 : decode cX0_remember 45 = .ok (.iload_n 2, 1) := by decide +kernel
theorem dX0_remember_46 : decode cX0_remember 46 = .ok (.ifCond .lt 41, 3) := by decide +kernel
theorem dX0_remember_49 : decode cX0_remember 49 = .ok (.iload_n 2, 1) := by decide +kernel
theorem dX0_remember_50 : decode cX0_remember 50 = .ok (.aload_n 0, 1) := by decide +kernel
theorem dX0_remember_51 : decode cX0_remember 51 = .ok (.getfield 11, 3) := by decide +kernel
theorem dX0_remember_54 : decode cX0_remember 54 = .ok (.arraylength, 1) := by decide +kernel
theorem dX0_remember_55 : decode cX0_remember 55 = .ok (.if_icmp .ge 32, 3) := by decide +kernel
theorem dX0_remember_58 : decode cX0_remember 58 = .ok (.aload_n 0, 1) := by decide +kernel
theorem dX0_remember_59 : decode cX0_remember 59 = .ok (.getfield 11, 3) := by decide +kernel
theorem dX0_remember_62 : decode cX0_remember 62 = .ok (.iload_n 2, 1) := by decide +kernel
theorem dX0_remember_63 : decode cX0_remember 63 = .ok (.aaload, 1) := by decide +kernel
theorem dX0_remember_64 : decode cX0_remember 64 = .ok (.ifnull 23, 3) := by decide +kernel
theorem dX0_remember_67 : decode cX0_remember 67 = .ok (.aload_n 0, 1) := by decide +kernel
theorem dX0_remember_68 : decode cX0_remember 68 = .ok (.getfield 11, 3) := by decide +kernel
theorem dX0_remember_71 : decode cX0_remember 71 = .ok (.iload_n 2, 1) := by decide +kernel
theorem dX0_remember_72 : decode cX0_remember 72 = .ok (.aaload, 1) := by decide +kernel
theorem dX0_remember_73 : decode cX0_remember 73 = .ok (.aload_n 1, 1) := by decide +kernel
theorem dX0_remember_74 : decode cX0_remember 74 = .ok (.invokevirtual 25, 3) := by decide +kernel
theorem dX0_remember_77 : decode cX0_remember 77 = .ok (.aload_n 0, 1) := by decide +kernel
theorem dX0_remember_78 : decode cX0_remember 78 = .ok (.dup, 1) := by decide +kernel
theorem dX0_remember_79 : decode cX0_remember 79 = .ok (.getfield 18, 3) := by decide +kernel
theorem dX0_remember_82 : decode cX0_remember 82 = .ok (.iconst 1, 1) := by decide +kernel
theorem dX0_remember_83 : decode cX0_remember 83 = .ok (.iadd, 1) := by decide +kernel
theorem dX0_remember_84 : decode cX0_remember 84 = .ok (.putfield 18, 3) := by decide +kernel
theorem dX0_remember_87 : decode cX0_remember 87 = .ok (.return_, 1) := by decide +kernel
set_option maxRecDepth 20000 in
theorem ggX0_takeBack_X2_copyFrom : GoodIn wsX0_takeBack wsX2_copyFrom := goodIn_r _ [7, 8, 9, 10, 11, 12, 13, 14, 15, 16, 17, 18, 19, 20, 21, 25, 26, 27, 28, 29, 30, 31, 32, 33, 34, 35] (by decide +kernel) (by decide +kernel)
set_option maxRecDepth 20000 in
theorem gX0_takeBack_X2_copyFrom_n25 : GoodIn wsX0_takeBack (wsX2_copyFrom) := ggX0_takeBack_X2_copyFrom
theorem dX0_takeBack_0 : decode cX0_takeBack 0 = .ok (.aload_n 0, 1) := by decide +kernel
theorem dX0_takeBack_1 : decode cX0_takeBack 1 = .ok (.getfield 18, 3) := by decide +kernel
theorem dX0_takeBack_4 : decode cX0_takeBack 4 = .ok (.ifCond .ne 6, 3) := by decide +kernel
theorem dX0_takeBack_7 : decode cX0_takeBack 7 = .ok (.bipush (-3), 2) := by decide +kernel
theorem dX0_takeBack_9 : decode cX0_takeBack 9 = .ok (.ireturn, 1) := by decide +kernel
theorem dX0_takeBack_10 : decode cX0_takeBack 10 = .ok (.aload_n 0, 1) := by decide +kernel
theorem dX0_takeBack_11 : decode cX0_takeBack 11 = .ok (.getfield 22, 3) := by decide +kernel
theorem dX0_takeBack_14 : decode cX0_takeBack 14 = .ok (.aload_n 0, 1) := by decide +kernel
theorem dX0_takeBack_15 : decode cX0_takeBack 15 = .ok (.getfield 18, 3) := by decide +kernel
theorem dX0_takeBack_18 : decode cX0_takeBack 18 = .ok (.iadd, 1) := by decide +kernel
theorem dX0_takeBack_19 : decode cX0_takeBack 19 = .ok (.iconst 1, 1) := by decide +kernel
theorem dX0_takeBack_20 : decode cX0_takeBack 20 = .ok (.isub, 1) := by decide +kernel
theorem dX0_takeBack_21 : decode cX0_takeBack 21 = .ok (.bipush 14, 2) := by decide +kernel
theorem dX0_takeBack_23 : decode cX0_takeBack 23 = .ok (.irem, 1) := by decide +kernel
theorem dX0_takeBack_24 : decode cX0_takeBack 24 = .ok (.istore_n 2, 1) := by decide +kernel
theorem dX0_takeBack_25 : decode cX0_takeBack 25 = .ok (.iload_n 2, 1) := by decide +kernel
theorem dX0_takeBack_26 : decode cX0_takeBack 26 = .ok (.ifCond .lt 41, 3) := by decide +kernel
theorem dX0_takeBack_29 : decode cX0_takeBack 29 = .ok (.iload_n 2, 1) := by decide +kernel
theorem dX0_takeBack_30 : decode cX0_takeBack 30 = .ok (.aload_n 0, 1) := by decide +kernel
theorem dX0_takeBack_31 : decode cX0_takeBack 31 = .ok (.getfield 11, 3) := by decide +kernel
theorem dX0_takeBack_34 : decode cX0_takeBack 34 = .ok (.arraylength, 1) := by decide +kernel
theorem dX0_takeBack_35 : decode cX0_takeBack 35 = .ok (.if_icmp .ge 32, 3) := by decide +kernel
theorem dX0_takeBack_38 : decode cX0_takeBack 38 = .ok (.aload_n 0, 1) := by decide +kernel
theorem dX0_takeBack_39 : decode cX0_takeBack 39 = .ok (.getfield 11, 3) := by decide +kernel
theorem dX0_takeBack_42 : decode cX0_takeBack 42 = .ok (.iload_n 2, 1) := by decide +kernel
theorem dX0_takeBack_43 : decode cX0_takeBack 43 = .ok (.aaload, 1) := by decide +kernel
theorem dX0_takeBack_44 : decode cX0_takeBack 44 = .ok (.ifnull 23, 3) := by decide +kernel
theorem dX0_takeBack_47 : decode cX0_takeBack 47 = .ok (.aload_n 1, 1) := by decide +kernel
theorem dX0_takeBack_48 : decode cX0_takeBack 48 = .ok (.aload_n 0, 1) := by decide +kernel
theorem dX0_takeBack_49 : decode cX0_takeBack 49 = .ok (.getfield 11, 3) := by decide +kernel
theorem dX0_takeBack_52 : decode cX0_takeBack 52 = .ok (.iload_n 2, 1) := by decide +kernel
theorem dX0_takeBack_53 : decode cX0_takeBack 53 = .ok (.aaload, 1) := by decide +kernel
theorem dX0_takeBack_54 : decode cX0_takeBack 54 = .ok (.invokevirtual 25, 3) := by decide +kernel
theorem dX0_takeBack_57 : decode cX0_takeBack 57 = .ok (.aload_n 0, 1) := by decide +kernel
theorem dX0_takeBack_58 : decode cX0_takeBack 58 = .ok (.dup, 1) := by decide +kernel
theorem dX0_takeBack_59 : decode cX0_takeBack 59 = .ok (.getfield 18, 3) := by decide +kernel
theorem dX0_takeBack_62 : decode cX0_takeBack 62 = .ok (.iconst 1, 1) := by decide +kernel
theorem dX0_takeBack_63 : decode cX0_takeBack 63 = .ok (.isub, 1) := by decide +kernel
theorem dX0_takeBack_64 : decode cX0_takeBack 64 = .ok (.putfield 18, 3) := by decide +kernel
theorem dX0_takeBack_67 : decode cX0_takeBack 67 = .ok (.aload_n 0, 1) := by decide +kernel
theorem dX0_takeBack_68 : decode cX0_takeBack 68 = .ok (.getfield 18, 3) := by decide +kernel
theorem dX0_takeBack_71 : decode cX0_takeBack 71 = .ok (.ireturn, 1) := by decide +kernel
theorem dX1_init_0 : decode cX1_init 0 = .ok (.aload_n 0, 1) := by decide +kernel
theorem dX1_init_1 : decode cX1_init 1 = .ok (.invokespecial 3, 3) := by decide +kernel
theorem dX1_init_4 : decode cX1_init 4 = .ok (.aload_n 0, 1) := by decide +kernel
theorem dX1_init_5 : decode cX1_init 5 = .ok (.iconst 4, 1) := by decide +kernel
theorem dX1_init_6 : decode cX1_init 6 = .ok (.newarray .int, 2) := by decide +kernel
theorem dX1_init_8 : decode cX1_init 8 = .ok (.putfield 9, 3) := by decide +kernel
theorem dX1_init_11 : decode cX1_init 11 = .ok (.aload_n 0, 1) := by decide +kernel
theorem dX1_init_12 : decode cX1_init 12 = .ok (.iconst 4, 1) := by decide +kernel
theorem dX1_init_13 : decode cX1_init 13 = .ok (.newarray .int, 2) := by decide +kernel
theorem dX1_init_15 : decode cX1_init 15 = .ok (.putfield 15, 3) := by decide +kernel
theorem dX1_init_18 : decode cX1_init 18 = .ok (.aload_n 0, 1) := by decide +kernel
theorem dX1_init_19 : decode cX1_init 19 = .ok (.iconst 4, 1) := by decide +kernel
theorem dX1_init_20 : decode cX1_init 20 = .ok (.newarray .int, 2) := by decide +kernel
theorem dX1_init_22 : decode cX1_init 22 = .ok (.putfield 18, 3) := by decide +kernel
theorem dX1_init_25 : decode cX1_init 25 = .ok (.return_, 1) := by decide +kernel
set_option maxRecDepth 20000 in
theorem ggX1_copyFrom_X7_copyRow : GoodIn wsX1_copyFrom wsX7_copyRow := goodIn_r _ [7] (by decide +kernel) (by decide +kernel)
set_option maxRecDepth 20000 in
theorem gX1_copyFrom_X7_copyRow_n21 : GoodIn wsX1_copyFrom (wsX7_copyRow) := ggX1_copyFrom_X7_copyRow
theorem dX1_copyFrom_0 : decode cX1_copyFrom 0 = .ok (.aload_n 1, 1) := by decide +kernel
theorem dX1_copyFrom_1 : decode cX1_copyFrom 1 = .ok (.getfield 9, 3) := by decide +kernel
theorem dX1_copyFrom_4 : decode cX1_copyFrom 4 = .ok (.aload_n 0, 1) := by decide +kernel
theorem dX1_copyFrom_5 : decode cX1_copyFrom 5 = .ok (.getfield 9, 3) := by decide +kernel
theorem dX1_copyFrom_8 : decode cX1_copyFrom 8 = .ok (.invokestatic 21, 3) := by decide +kernel
theorem dX1_copyFrom_11 : decode cX1_copyFrom 11 = .ok (.aload_n 1, 1) := by decide +kernel
theorem dX1_copyFrom_12 : decode cX1_copyFrom 12 = .ok (.getfield 15, 3) := by decide +kernel
theorem dX1_copyFrom_15 : decode cX1_copyFrom 15 = .ok (.aload_n 0, 1) := by decide +kernel
theorem dX1_copyFrom_16 : decode cX1_copyFrom 16 = .ok (.getfield 15, 3) := by decide +kernel
theorem dX1_copyFrom_19 : decode cX1_copyFrom 19 = .ok (.invokestatic 21, 3) := by decide +kernel
theorem dX1_copyFrom_22 : decode cX1_copyFrom 22 = .ok (.aload_n 1, 1) := by decide +kernel
theorem dX1_copyFrom_23 : decode cX1_copyFrom 23 = .ok (.getfield 18, 3) := by decide +kernel
theorem dX1_copyFrom_26 : decode cX1_copyFrom 26 = .ok (.aload_n 0, 1) := by decide +kernel
theorem dX1_copyFrom_27 : decode cX1_copyFrom 27 = .ok (.getfield 18, 3) := by decide +kernel
theorem dX1_copyFrom_30 : decode cX1_copyFrom 30 = .ok (.invokestatic 21, 3) := by decide +kernel
theorem dX1_copyFrom_33 : decode cX1_copyFrom 33 = .ok (.aload_n 0, 1) := by decide +kernel
theorem dX1_copyFrom_34 : decode cX1_copyFrom 34 = .ok (.aload_n 1, 1) := by decide +kernel
theorem dX1_copyFrom_35 : decode cX1_copyFrom 35 = .ok (.getfield 25, 3) := by decide +kernel
theorem dX1_copyFrom_38 : decode cX1_copyFrom 38 = .ok (.putfield 25, 3) := by decide +kernel
theorem dX1_copyFrom_41 : decode cX1_copyFrom 41 = .ok (.return_, 1) := by decide +kernel
set_option maxRecDepth 20000 in
theorem ggX1_addWind_X7_put : GoodIn wsX1_addWind wsX7_put := goodIn_r _ [7] (by decide +kernel) (by decide +kernel)
set_option maxRecDepth 20000 in
theorem gX1_addWind_X7_put_n29 : GoodIn wsX1_addWind (wsX7_put) := ggX1_addWind_X7_put
theorem dX1_addWind_0 : decode cX1_addWind 0 = .ok (.aload_n 0, 1) := by decide +kernel
theorem dX1_addWind_1 : decode cX1_addWind 1 = .ok (.getfield 9, 3) := by decide +kernel
theorem dX1_addWind_4 : decode cX1_addWind 4 = .ok (.aload_n 0, 1) := by decide +kernel
theorem dX1_addWind_5 : decode cX1_addWind 5 = .ok (.getfield 25, 3) := by decide +kernel
theorem dX1_addWind_8 : decode cX1_addWind 8 = .ok (.iload_n 1, 1) := by decide +kernel
theorem dX1_addWind_9 : decode cX1_addWind 9 = .ok (.invokestatic 29, 3) := by decide +kernel
theorem dX1_addWind_12 : decode cX1_addWind 12 = .ok (.aload_n 0, 1) := by decide +kernel
theorem dX1_addWind_13 : decode cX1_addWind 13 = .ok (.getfield 15, 3) := by decide +kernel
theorem dX1_addWind_16 : decode cX1_addWind 16 = .ok (.aload_n 0, 1) := by decide +kernel
theorem dX1_addWind_17 : decode cX1_addWind 17 = .ok (.getfield 25, 3) := by decide +kernel
theorem dX1_addWind_20 : decode cX1_addWind 20 = .ok (.iload_n 2, 1) := by decide +kernel
theorem dX1_addWind_21 : decode cX1_addWind 21 = .ok (.invokestatic 29, 3) := by decide +kernel
theorem dX1_addWind_24 : decode cX1_addWind 24 = .ok (.aload_n 0, 1) := by decide +kernel
theorem dX1_addWind_25 : decode cX1_addWind 25 = .ok (.getfield 18, 3) := by decide +kernel
theorem dX1_addWind_28 : decode cX1_addWind 28 = .ok (.aload_n 0, 1) := by decide +kernel
theorem dX1_addWind_29 : decode cX1_addWind 29 = .ok (.getfield 25, 3) := by decide +kernel
theorem dX1_addWind_32 : decode cX1_addWind 32 = .ok (.iload_n 3, 1) := by decide +kernel
theorem dX1_addWind_33 : decode cX1_addWind 33 = .ok (.invokestatic 29, 3) := by decide +kernel
theorem dX1_addWind_36 : decode cX1_addWind 36 = .ok (.aload_n 0, 1) := by decide +kernel
theorem dX1_addWind_37 : decode cX1_addWind 37 = .ok (.dup, 1) := by decide +kernel
theorem dX1_addWind_38 : decode cX1_addWind 38 = .ok (.getfield 25, 3) := by decide +kernel
theorem dX1_addWind_41 : decode cX1_addWind 41 = .ok (.iconst 1, 1) := by decide +kernel
theorem dX1_addWind_42 : decode cX1_addWind 42 = .ok (.iadd, 1) := by decide +kernel
theorem dX1_addWind_43 : decode cX1_addWind 43 = .ok (.putfield 25, 3) := by decide +kernel
theorem dX1_addWind_46 : decode cX1_addWind 46 = .ok (.return_, 1) := by decide +kernel
theorem dX1_hasWind_0 : decode cX1_hasWind 0 = .ok (.iload_n 1, 1) := by decide +kernel
theorem dX1_hasWind_1 : decode cX1_hasWind 1 = .ok (.ifCond .lt 15, 3) := by decide +kernel
theorem dX1_hasWind_4 : decode cX1_hasWind 4 = .ok (.iload_n 1, 1) := by decide +kernel
theorem dX1_hasWind_5 : decode cX1_hasWind 5 = .ok (.aload_n 0, 1) := by decide +kernel
theorem dX1_hasWind_6 : decode cX1_hasWind 6 = .ok (.getfield 25, 3) := by decide +kernel
theorem dX1_hasWind_9 : decode cX1_hasWind 9 = .ok (.if_icmp .ge 7, 3) := by decide +kernel
theorem dX1_hasWind_12 : decode cX1_hasWind 12 = .ok (.iconst 1, 1) := by decide +kernel
theorem dX1_hasWind_13 : decode cX1_hasWind 13 = .ok (.goto 4, 3) := by decide +kernel
theorem dX1_hasWind_16 : decode cX1_hasWind 16 = .ok (.iconst 0, 1) := by decide +kernel
theorem dX1_hasWind_17 : decode cX1_hasWind 17 = .ok (.ireturn, 1) := by decide +kernel
set_option maxRecDepth 20000 in
theorem ggX1_waysBehind_X7_at : GoodIn wsX1_waysBehind wsX7_at := goodIn_r _ [5] (by decide +kernel) (by decide +kernel)
set_option maxRecDepth 20000 in
theorem gX1_waysBehind_X7_at_n33 : GoodIn wsX1_waysBehind (wsX7_at) := ggX1_waysBehind_X7_at
set_option maxRecDepth 20000 in
theorem ggX1_waysBehind_X2_yieldingTo : GoodIn wsX1_waysBehind wsX2_yieldingTo := goodIn_r _ [9, 10, 11, 12, 13, 14, 3, 4, 5, 15, 16, 21, 22, 23, 24, 25, 26, 27, 28, 29, 30, 31] (by decide +kernel) (by decide +kernel)
set_option maxRecDepth 20000 in
theorem gX1_waysBehind_X2_yieldingTo_n37 : GoodIn wsX1_waysBehind (wsX2_yieldingTo) := ggX1_waysBehind_X2_yieldingTo
theorem dX1_waysBehind_0 : decode cX1_waysBehind 0 = .ok (.aload_n 0, 1) := by decide +kernel
theorem dX1_waysBehind_1 : decode cX1_waysBehind 1 = .ok (.getfield 9, 3) := by decide +kernel
theorem dX1_waysBehind_4 : decode cX1_waysBehind 4 = .ok (.iload_n 2, 1) := by decide +kernel
theorem dX1_waysBehind_5 : decode cX1_waysBehind 5 = .ok (.invokestatic 33, 3) := by decide +kernel
theorem dX1_waysBehind_8 : decode cX1_waysBehind 8 = .ok (.istore 5, 2) := by decide +kernel
theorem dX1_waysBehind_10 : decode cX1_waysBehind 10 = .ok (.aload_n 1, 1) := by decide +kernel
theorem dX1_waysBehind_11 : decode cX1_waysBehind 11 = .ok (.iload 5, 2) := by decide +kernel
theorem dX1_waysBehind_13 : decode cX1_waysBehind 13 = .ok (.aload_n 0, 1) := by decide +kernel
theorem dX1_waysBehind_14 : decode cX1_waysBehind 14 = .ok (.getfield 15, 3) := by decide +kernel
theorem dX1_waysBehind_17 : decode cX1_waysBehind 17 = .ok (.iload_n 2, 1) := by decide +kernel
theorem dX1_waysBehind_18 : decode cX1_waysBehind 18 = .ok (.invokestatic 33, 3) := by decide +kernel
theorem dX1_waysBehind_21 : decode cX1_waysBehind 21 = .ok (.iload 4, 2) := by decide +kernel
theorem dX1_waysBehind_23 : decode cX1_waysBehind 23 = .ok (.invokevirtual 37, 3) := by decide +kernel
theorem dX1_waysBehind_26 : decode cX1_waysBehind 26 = .ok (.iload_n 3, 1) := by decide +kernel
theorem dX1_waysBehind_27 : decode cX1_waysBehind 27 = .ok (.iconst (-1), 1) := by decide +kernel
theorem dX1_waysBehind_28 : decode cX1_waysBehind 28 = .ok (.ixor, 1) := by decide +kernel
theorem dX1_waysBehind_29 : decode cX1_waysBehind 29 = .ok (.iand, 1) := by decide +kernel
theorem dX1_waysBehind_30 : decode cX1_waysBehind 30 = .ok (.istore 6, 2) := by decide +kernel
theorem dX1_waysBehind_32 : decode cX1_waysBehind 32 = .ok (.iload 5, 2) := by decide +kernel
theorem dX1_waysBehind_34 : decode cX1_waysBehind 34 = .ok (.iconst 1, 1) := by decide +kernel
theorem dX1_waysBehind_35 : decode cX1_waysBehind 35 = .ok (.if_icmp .ne 13, 3) := by decide +kernel
theorem dX1_waysBehind_38 : decode cX1_waysBehind 38 = .ok (.aload_n 1, 1) := by decide +kernel
theorem dX1_waysBehind_39 : decode cX1_waysBehind 39 = .ok (.getfield 43, 3) := by decide +kernel
theorem dX1_waysBehind_42 : decode cX1_waysBehind 42 = .ok (.iload 6, 2) := by decide +kernel
theorem dX1_waysBehind_44 : decode cX1_waysBehind 44 = .ok (.ior, 1) := by decide +kernel
theorem dX1_waysBehind_45 : decode cX1_waysBehind 45 = .ok (.goto 12, 3) := by decide +kernel
theorem dX1_waysBehind_48 : decode cX1_waysBehind 48 = .ok (.aload_n 1, 1) := by decide +kernel
theorem dX1_waysBehind_49 : decode cX1_waysBehind 49 = .ok (.getfield 43, 3) := by decide +kernel
theorem dX1_waysBehind_52 : decode cX1_waysBehind 52 = .ok (.iload 6, 2) := by decide +kernel
theorem dX1_waysBehind_54 : decode cX1_waysBehind 54 = .ok (.iconst (-1), 1) := by decide +kernel
theorem dX1_waysBehind_55 : decode cX1_waysBehind 55 = .ok (.ixor, 1) := by decide +kernel
theorem dX1_waysBehind_56 : decode cX1_waysBehind 56 = .ok (.iand, 1) := by decide +kernel
theorem dX1_waysBehind_57 : decode cX1_waysBehind 57 = .ok (.ireturn, 1) := by decide +kernel
set_option maxRecDepth 20000 in
theorem ggX1_brookUnder_X1_waysBehind : GoodIn wsX1_brookUnder wsX1_waysBehind := goodIn_r _ [5, 6, 7, 8, 9, 10, 11, 12, 13, 14, 15, 16, 17, 18, 19, 20, 21, 28, 29, 30, 31, 32, 33, 34, 35, 36, 37, 38, 39, 40, 41, 42] (by decide +kernel) (by decide +kernel)
set_option maxRecDepth 20000 in
theorem gX1_brookUnder_X1_waysBehind : GoodIn wsX1_brookUnder (wsV RX1 46 RX1 yX1_waysBehind wsX1_waysBehind) := goodIn_app (goodIn_of _ (by decide +kernel)) ggX1_brookUnder_X1_waysBehind
set_option maxRecDepth 20000 in
theorem ggX1_brookUnder_X2_brookBy : GoodIn wsX1_brookUnder wsX2_brookBy := goodIn_r _ [24, 25, 15, 26, 27, 20, 9, 21, 8, 10, 32, 33, 34, 35, 36, 37, 38, 39, 40, 41, 42] (by decide +kernel) (by decide +kernel)
set_option maxRecDepth 20000 in
theorem gX1_brookUnder_X2_brookBy_n50 : GoodIn wsX1_brookUnder (wsX2_brookBy) := ggX1_brookUnder_X2_brookBy
theorem dX1_brookUnder_0 : decode cX1_brookUnder 0 = .ok (.aload_n 1, 1) := by decide +kernel
theorem dX1_brookUnder_1 : decode cX1_brookUnder 1 = .ok (.aload_n 0, 1) := by decide +kernel
theorem dX1_brookUnder_2 : decode cX1_brookUnder 2 = .ok (.aload_n 1, 1) := by decide +kernel
theorem dX1_brookUnder_3 : decode cX1_brookUnder 3 = .ok (.iload_n 2, 1) := by decide +kernel
theorem dX1_brookUnder_4 : decode cX1_brookUnder 4 = .ok (.iload_n 3, 1) := by decide +kernel
theorem dX1_brookUnder_5 : decode cX1_brookUnder 5 = .ok (.iload 4, 2) := by decide +kernel
theorem dX1_brookUnder_7 : decode cX1_brookUnder 7 = .ok (.invokevirtual 46, 3) := by decide +kernel
theorem dX1_brookUnder_10 : decode cX1_brookUnder 10 = .ok (.invokevirtual 50, 3) := by decide +kernel
theorem dX1_brookUnder_13 : decode cX1_brookUnder 13 = .ok (.ireturn, 1) := by decide +kernel
set_option maxRecDepth 20000 in
theorem ggX1_blowOver_X1_waysBehind : GoodIn wsX1_blowOver wsX1_waysBehind := goodIn_r _ [5, 6, 7, 8, 9, 10, 11, 12, 13, 14, 15, 16, 17, 18, 19, 20, 21, 39, 40, 41, 42, 28, 29, 30, 31, 32, 33, 34, 35, 36, 37, 38] (by decide +kernel) (by decide +kernel)
set_option maxRecDepth 20000 in
theorem gX1_blowOver_X1_waysBehind : GoodIn wsX1_blowOver (wsV RX1 46 RX1 yX1_waysBehind wsX1_waysBehind) := goodIn_app (goodIn_of _ (by decide +kernel)) ggX1_blowOver_X1_waysBehind
set_option maxRecDepth 20000 in
theorem ggX1_blowOver_X2_brookBy : GoodIn wsX1_blowOver wsX2_brookBy := goodIn_r _ [24, 25, 15, 26, 27, 20, 9, 21, 8, 10, 28, 29, 30, 31, 32, 33, 34, 35, 36, 37, 38] (by decide +kernel) (by decide +kernel)
set_option maxRecDepth 20000 in
theorem gX1_blowOver_X2_brookBy_n50 : GoodIn wsX1_blowOver (wsX2_brookBy) := ggX1_blowOver_X2_brookBy
theorem dX1_blowOver_0 : decode cX1_blowOver 0 = .ok (.aload_n 1, 1) := by decide +kernel
theorem dX1_blowOver_1 : decode cX1_blowOver 1 = .ok (.aload_n 0, 1) := by decide +kernel
theorem dX1_blowOver_2 : decode cX1_blowOver 2 = .ok (.aload_n 1, 1) := by decide +kernel
theorem dX1_blowOver_3 : decode cX1_blowOver 3 = .ok (.iload_n 2, 1) := by decide +kernel
theorem dX1_blowOver_4 : decode cX1_blowOver 4 = .ok (.aload_n 1, 1) := by decide +kernel
theorem dX1_blowOver_5 : decode cX1_blowOver 5 = .ok (.getfield 54, 3) := by decide +kernel
theorem dX1_blowOver_8 : decode cX1_blowOver 8 = .ok (.iconst 0, 1) := by decide +kernel
theorem dX1_blowOver_9 : decode cX1_blowOver 9 = .ok (.invokevirtual 46, 3) := by decide +kernel
theorem dX1_blowOver_12 : decode cX1_blowOver 12 = .ok (.putfield 43, 3) := by decide +kernel
theorem dX1_blowOver_15 : decode cX1_blowOver 15 = .ok (.aload_n 1, 1) := by decide +kernel
theorem dX1_blowOver_16 : decode cX1_blowOver 16 = .ok (.aload_n 1, 1) := by decide +kernel
theorem dX1_blowOver_17 : decode cX1_blowOver 17 = .ok (.aload_n 1, 1) := by decide +kernel
theorem dX1_blowOver_18 : decode cX1_blowOver 18 = .ok (.getfield 43, 3) := by decide +kernel
theorem dX1_blowOver_21 : decode cX1_blowOver 21 = .ok (.invokevirtual 50, 3) := by decide +kernel
theorem dX1_blowOver_24 : decode cX1_blowOver 24 = .ok (.putfield 57, 3) := by decide +kernel
theorem dX1_blowOver_27 : decode cX1_blowOver 27 = .ok (.aload_n 1, 1) := by decide +kernel
theorem dX1_blowOver_28 : decode cX1_blowOver 28 = .ok (.iconst 0, 1) := by decide +kernel
theorem dX1_blowOver_29 : decode cX1_blowOver 29 = .ok (.putfield 54, 3) := by decide +kernel
theorem dX1_blowOver_32 : decode cX1_blowOver 32 = .ok (.aload_n 1, 1) := by decide +kernel
theorem dX1_blowOver_33 : decode cX1_blowOver 33 = .ok (.dup, 1) := by decide +kernel
theorem dX1_blowOver_34 : decode cX1_blowOver 34 = .ok (.getfield 60, 3) := by decide +kernel
theorem dX1_blowOver_37 : decode cX1_blowOver 37 = .ok (.iconst 1, 1) := by decide +kernel
theorem dX1_blowOver_38 : decode cX1_blowOver 38 = .ok (.iadd, 1) := by decide +kernel
theorem dX1_blowOver_39 : decode cX1_blowOver 39 = .ok (.putfield 60, 3) := by decide +kernel
theorem dX1_blowOver_42 : decode cX1_blowOver 42 = .ok (.aload_n 1, 1) := by decide +kernel
theorem dX1_blowOver_43 : decode cX1_blowOver 43 = .ok (.getfield 57, 3) := by decide +kernel
theorem dX1_blowOver_46 : decode cX1_blowOver 46 = .ok (.ireturn, 1) := by decide +kernel
set_option maxRecDepth 20000 in
theorem ggX1_yearOf_X1_brookUnder : GoodIn wsX1_yearOf wsX1_brookUnder := goodIn_r _ [7, 8, 9, 10, 6, 11, 12, 13, 14, 15, 16, 17, 18, 19, 20, 21, 22, 23, 24, 25, 26, 27, 28, 29, 30, 31, 32, 33, 34, 35, 36, 37, 38, 39, 40, 41, 42, 43, 44, 45, 46, 47, 48] (by decide +kernel) (by decide +kernel)
set_option maxRecDepth 20000 in
theorem gX1_yearOf_X1_brookUnder : GoodIn wsX1_yearOf (wsV RX1 62 RX1 yX1_brookUnder wsX1_brookUnder) := goodIn_app (goodIn_of _ (by decide +kernel)) ggX1_yearOf_X1_brookUnder
set_option maxRecDepth 20000 in
theorem ggX1_yearOf_X7_at : GoodIn wsX1_yearOf wsX7_at := goodIn_r _ [16] (by decide +kernel) (by decide +kernel)
set_option maxRecDepth 20000 in
theorem gX1_yearOf_X7_at_n33 : GoodIn wsX1_yearOf (wsX7_at) := ggX1_yearOf_X7_at
theorem dX1_yearOf_0 : decode cX1_yearOf 0 = .ok (.iconst 0, 1) := by decide +kernel
theorem dX1_yearOf_1 : decode cX1_yearOf 1 = .ok (.istore 4, 2) := by decide +kernel
theorem dX1_yearOf_3 : decode cX1_yearOf 3 = .ok (.iconst 0, 1) := by decide +kernel
theorem dX1_yearOf_4 : decode cX1_yearOf 4 = .ok (.istore 5, 2) := by decide +kernel
theorem dX1_yearOf_6 : decode cX1_yearOf 6 = .ok (.iload 5, 2) := by decide +kernel
theorem dX1_yearOf_8 : decode cX1_yearOf 8 = .ok (.aload_n 0, 1) := by decide +kernel
theorem dX1_yearOf_9 : decode cX1_yearOf 9 = .ok (.getfield 25, 3) := by decide +kernel
theorem dX1_yearOf_12 : decode cX1_yearOf 12 = .ok (.if_icmp .ge 39, 3) := by decide +kernel
theorem dX1_yearOf_15 : decode cX1_yearOf 15 = .ok (.aload_n 0, 1) := by decide +kernel
theorem dX1_yearOf_16 : decode cX1_yearOf 16 = .ok (.aload_n 1, 1) := by decide +kernel
theorem dX1_yearOf_17 : decode cX1_yearOf 17 = .ok (.iload 5, 2) := by decide +kernel
theorem dX1_yearOf_19 : decode cX1_yearOf 19 = .ok (.aload_n 1, 1) := by decide +kernel
theorem dX1_yearOf_20 : decode cX1_yearOf 20 = .ok (.getfield 54, 3) := by decide +kernel
theorem dX1_yearOf_23 : decode cX1_yearOf 23 = .ok (.iload_n 3, 1) := by decide +kernel
theorem dX1_yearOf_24 : decode cX1_yearOf 24 = .ok (.invokevirtual 62, 3) := by decide +kernel
theorem dX1_yearOf_27 : decode cX1_yearOf 27 = .ok (.iload_n 2, 1) := by decide +kernel
theorem dX1_yearOf_28 : decode cX1_yearOf 28 = .ok (.if_icmp .ne 17, 3) := by decide +kernel
theorem dX1_yearOf_31 : decode cX1_yearOf 31 = .ok (.iload 4, 2) := by decide +kernel
theorem dX1_yearOf_33 : decode cX1_yearOf 33 = .ok (.aload_n 0, 1) := by decide +kernel
theorem dX1_yearOf_34 : decode cX1_yearOf 34 = .ok (.getfield 18, 3) := by decide +kernel
theorem dX1_yearOf_37 : decode cX1_yearOf 37 = .ok (.iload 5, 2) := by decide +kernel
theorem dX1_yearOf_39 : decode cX1_yearOf 39 = .ok (.invokestatic 33, 3) := by decide +kernel
theorem dX1_yearOf_42 : decode cX1_yearOf 42 = .ok (.iadd, 1) := by decide +kernel
theorem dX1_yearOf_43 : decode cX1_yearOf 43 = .ok (.istore 4, 2) := by decide +kernel
theorem dX1_yearOf_45 : decode cX1_yearOf 45 = .ok (.iinc 5 1, 3) := by decide +kernel
theorem dX1_yearOf_48 : decode cX1_yearOf 48 = .ok (.goto (-42), 3) := by decide +kernel
theorem dX1_yearOf_51 : decode cX1_yearOf 51 = .ok (.iload 4, 2) := by decide +kernel
theorem dX1_yearOf_53 : decode cX1_yearOf 53 = .ok (.ireturn, 1) := by decide +kernel
set_option maxRecDepth 20000 in
theorem ggX1_daysInAll_X7_at : GoodIn wsX1_daysInAll wsX7_at := goodIn_r _ [5] (by decide +kernel) (by decide +kernel)
set_option maxRecDepth 20000 in
theorem gX1_daysInAll_X7_at_n33 : GoodIn wsX1_daysInAll (wsX7_at) := ggX1_daysInAll_X7_at
theorem dX1_daysInAll_0 : decode cX1_daysInAll 0 = .ok (.iconst 0, 1) := by decide +kernel
theorem dX1_daysInAll_1 : decode cX1_daysInAll 1 = .ok (.istore_n 1, 1) := by decide +kernel
theorem dX1_daysInAll_2 : decode cX1_daysInAll 2 = .ok (.iconst 0, 1) := by decide +kernel
theorem dX1_daysInAll_3 : decode cX1_daysInAll 3 = .ok (.istore_n 2, 1) := by decide +kernel
theorem dX1_daysInAll_4 : decode cX1_daysInAll 4 = .ok (.iload_n 2, 1) := by decide +kernel
theorem dX1_daysInAll_5 : decode cX1_daysInAll 5 = .ok (.aload_n 0, 1) := by decide +kernel
theorem dX1_daysInAll_6 : decode cX1_daysInAll 6 = .ok (.getfield 25, 3) := by decide +kernel
theorem dX1_daysInAll_9 : decode cX1_daysInAll 9 = .ok (.if_icmp .ge 20, 3) := by decide +kernel
theorem dX1_daysInAll_12 : decode cX1_daysInAll 12 = .ok (.iload_n 1, 1) := by decide +kernel
theorem dX1_daysInAll_13 : decode cX1_daysInAll 13 = .ok (.aload_n 0, 1) := by decide +kernel
theorem dX1_daysInAll_14 : decode cX1_daysInAll 14 = .ok (.getfield 18, 3) := by decide +kernel
theorem dX1_daysInAll_17 : decode cX1_daysInAll 17 = .ok (.iload_n 2, 1) := by decide +kernel
theorem dX1_daysInAll_18 : decode cX1_daysInAll 18 = .ok (.invokestatic 33, 3) := by decide +kernel
theorem dX1_daysInAll_21 : decode cX1_daysInAll 21 = .ok (.iadd, 1) := by decide +kernel
theorem dX1_daysInAll_22 : decode cX1_daysInAll 22 = .ok (.istore_n 1, 1) := by decide +kernel
theorem dX1_daysInAll_23 : decode cX1_daysInAll 23 = .ok (.iinc 2 1, 3) := by decide +kernel
theorem dX1_daysInAll_26 : decode cX1_daysInAll 26 = .ok (.goto (-22), 3) := by decide +kernel
theorem dX1_daysInAll_29 : decode cX1_daysInAll 29 = .ok (.iload_n 1, 1) := by decide +kernel
theorem dX1_daysInAll_30 : decode cX1_daysInAll 30 = .ok (.ireturn, 1) := by decide +kernel
set_option maxRecDepth 20000 in
theorem ggX1_windOfDay_X7_at : GoodIn wsX1_windOfDay wsX7_at := goodIn_r _ [5] (by decide +kernel) (by decide +kernel)
set_option maxRecDepth 20000 in
theorem gX1_windOfDay_X7_at_n33 : GoodIn wsX1_windOfDay (wsX7_at) := ggX1_windOfDay_X7_at
theorem dX1_windOfDay_0 : decode cX1_windOfDay 0 = .ok (.iload_n 1, 1) := by decide +kernel
theorem dX1_windOfDay_1 : decode cX1_windOfDay 1 = .ok (.istore_n 2, 1) := by decide +kernel
theorem dX1_windOfDay_2 : decode cX1_windOfDay 2 = .ok (.iconst 0, 1) := by decide +kernel
theorem dX1_windOfDay_3 : decode cX1_windOfDay 3 = .ok (.istore_n 3, 1) := by decide +kernel
theorem dX1_windOfDay_4 : decode cX1_windOfDay 4 = .ok (.iload_n 3, 1) := by decide +kernel
theorem dX1_windOfDay_5 : decode cX1_windOfDay 5 = .ok (.aload_n 0, 1) := by decide +kernel
theorem dX1_windOfDay_6 : decode cX1_windOfDay 6 = .ok (.getfield 25, 3) := by decide +kernel
theorem dX1_windOfDay_9 : decode cX1_windOfDay 9 = .ok (.if_icmp .ge 26, 3) := by decide +kernel
theorem dX1_windOfDay_12 : decode cX1_windOfDay 12 = .ok (.iload_n 2, 1) := by decide +kernel
theorem dX1_windOfDay_13 : decode cX1_windOfDay 13 = .ok (.aload_n 0, 1) := by decide +kernel
theorem dX1_windOfDay_14 : decode cX1_windOfDay 14 = .ok (.getfield 18, 3) := by decide +kernel
theorem dX1_windOfDay_17 : decode cX1_windOfDay 17 = .ok (.iload_n 3, 1) := by decide +kernel
theorem dX1_windOfDay_18 : decode cX1_windOfDay 18 = .ok (.invokestatic 33, 3) := by decide +kernel
theorem dX1_windOfDay_21 : decode cX1_windOfDay 21 = .ok (.isub, 1) := by decide +kernel
theorem dX1_windOfDay_22 : decode cX1_windOfDay 22 = .ok (.istore_n 2, 1) := by decide +kernel
theorem dX1_windOfDay_23 : decode cX1_windOfDay 23 = .ok (.iload_n 2, 1) := by decide +kernel
theorem dX1_windOfDay_24 : decode cX1_windOfDay 24 = .ok (.ifCond .ge 5, 3) := by decide +kernel
theorem dX1_windOfDay_27 : decode cX1_windOfDay 27 = .ok (.iload_n 3, 1) := by decide +kernel
theorem dX1_windOfDay_28 : decode cX1_windOfDay 28 = .ok (.ireturn, 1) := by decide +kernel
theorem dX1_windOfDay_29 : decode cX1_windOfDay 29 = .ok (.iinc 3 1, 3) := by decide +kernel
theorem dX1_windOfDay_32 : decode cX1_windOfDay 32 = .ok (.goto (-28), 3) := by decide +kernel
theorem dX1_windOfDay_35 : decode cX1_windOfDay 35 = .ok (.iconst 0, 1) := by decide +kernel
theorem dX1_windOfDay_36 : decode cX1_windOfDay 36 = .ok (.ireturn, 1) := by decide +kernel
theorem dX2_init_0 : decode cX2_init 0 = .ok (.aload_n 0, 1) := by decide +kernel
theorem dX2_init_1 : decode cX2_init 1 = .ok (.invokespecial 3, 3) := by decide +kernel
theorem dX2_init_4 : decode cX2_init 4 = .ok (.aload_n 0, 1) := by decide +kernel
theorem dX2_init_5 : decode cX2_init 5 = .ok (.bipush 10, 2) := by decide +kernel
theorem dX2_init_7 : decode cX2_init 7 = .ok (.newarray .int, 2) := by decide +kernel
theorem dX2_init_9 : decode cX2_init 9 = .ok (.putfield 9, 3) := by decide +kernel
theorem dX2_init_12 : decode cX2_init 12 = .ok (.aload_n 0, 1) := by decide +kernel
theorem dX2_init_13 : decode cX2_init 13 = .ok (.bipush 6, 2) := by decide +kernel
theorem dX2_init_15 : decode cX2_init 15 = .ok (.newarray .int, 2) := by decide +kernel
theorem dX2_init_17 : decode cX2_init 17 = .ok (.putfield 15, 3) := by decide +kernel
theorem dX2_init_20 : decode cX2_init 20 = .ok (.aload_n 0, 1) := by decide +kernel
theorem dX2_init_21 : decode cX2_init 21 = .ok (.bipush 6, 2) := by decide +kernel
theorem dX2_init_23 : decode cX2_init 23 = .ok (.newarray .int, 2) := by decide +kernel
theorem dX2_init_25 : decode cX2_init 25 = .ok (.putfield 18, 3) := by decide +kernel
theorem dX2_init_28 : decode cX2_init 28 = .ok (.aload_n 0, 1) := by decide +kernel
theorem dX2_init_29 : decode cX2_init 29 = .ok (.bipush 6, 2) := by decide +kernel
theorem dX2_init_31 : decode cX2_init 31 = .ok (.newarray .int, 2) := by decide +kernel
theorem dX2_init_33 : decode cX2_init 33 = .ok (.putfield 21, 3) := by decide +kernel
theorem dX2_init_36 : decode cX2_init 36 = .ok (.aload_n 0, 1) := by decide +kernel
theorem dX2_init_37 : decode cX2_init 37 = .ok (.bipush 6, 2) := by decide +kernel
theorem dX2_init_39 : decode cX2_init 39 = .ok (.newarray .int, 2) := by decide +kernel
theorem dX2_init_41 : decode cX2_init 41 = .ok (.putfield 24, 3) := by decide +kernel
theorem dX2_init_44 : decode cX2_init 44 = .ok (.return_, 1) := by decide +kernel
theorem dX2_clear_0 : decode cX2_clear 0 = .ok (.iconst 0, 1) := by decide +kernel
theorem dX2_clear_1 : decode cX2_clear 1 = .ok (.istore_n 1, 1) := by decide +kernel
theorem dX2_clear_2 : decode cX2_clear 2 = .ok (.iload_n 1, 1) := by decide +kernel
theorem dX2_clear_3 : decode cX2_clear 3 = .ok (.aload_n 0, 1) := by decide +kernel
theorem dX2_clear_4 : decode cX2_clear 4 = .ok (.getfield 9, 3) := by decide +kernel
theorem dX2_clear_7 : decode cX2_clear 7 = .ok (.arraylength, 1) := by decide +kernel
theorem dX2_clear_8 : decode cX2_clear 8 = .ok (.if_icmp .ge 16, 3) := by decide +kernel
theorem dX2_clear_11 : decode cX2_clear 11 = .ok (.aload_n 0, 1) := by decide +kernel
theorem dX2_clear_12 : decode cX2_clear 12 = .ok (.getfield 9, 3) := by decide +kernel
theorem dX2_clear_15 : decode cX2_clear 15 = .ok (.iload_n 1, 1) := by decide +kernel
theorem dX2_clear_16 : decode cX2_clear 16 = .ok (.iconst 0, 1) := by decide +kernel
theorem dX2_clear_17 : decode cX2_clear 17 = .ok (.iastore, 1) := by decide +kernel
theorem dX2_clear_18 : decode cX2_clear 18 = .ok (.iinc 1 1, 3) := by decide +kernel
theorem dX2_clear_21 : decode cX2_clear 21 = .ok (.goto (-19), 3) := by decide +kernel
theorem dX2_clear_24 : decode cX2_clear 24 = .ok (.aload_n 0, 1) := by decide +kernel
theorem dX2_clear_25 : decode cX2_clear 25 = .ok (.iconst 0, 1) := by decide +kernel
theorem dX2_clear_26 : decode cX2_clear 26 = .ok (.putfield 27, 3) := by decide +kernel
theorem dX2_clear_29 : decode cX2_clear 29 = .ok (.aload_n 0, 1) := by decide +kernel
theorem dX2_clear_30 : decode cX2_clear 30 = .ok (.iconst 0, 1) := by decide +kernel
theorem dX2_clear_31 : decode cX2_clear 31 = .ok (.putfield 31, 3) := by decide +kernel
theorem dX2_clear_34 : decode cX2_clear 34 = .ok (.aload_n 0, 1) := by decide +kernel
theorem dX2_clear_35 : decode cX2_clear 35 = .ok (.iconst 0, 1) := by decide +kernel
theorem dX2_clear_36 : decode cX2_clear 36 = .ok (.putfield 34, 3) := by decide +kernel
theorem dX2_clear_39 : decode cX2_clear 39 = .ok (.aload_n 0, 1) := by decide +kernel
theorem dX2_clear_40 : decode cX2_clear 40 = .ok (.iconst 0, 1) := by decide +kernel
theorem dX2_clear_41 : decode cX2_clear 41 = .ok (.putfield 37, 3) := by decide +kernel
theorem dX2_clear_44 : decode cX2_clear 44 = .ok (.aload_n 0, 1) := by decide +kernel
theorem dX2_clear_45 : decode cX2_clear 45 = .ok (.iconst 0, 1) := by decide +kernel
theorem dX2_clear_46 : decode cX2_clear 46 = .ok (.putfield 40, 3) := by decide +kernel
theorem dX2_clear_49 : decode cX2_clear 49 = .ok (.aload_n 0, 1) := by decide +kernel
theorem dX2_clear_50 : decode cX2_clear 50 = .ok (.iconst 0, 1) := by decide +kernel
theorem dX2_clear_51 : decode cX2_clear 51 = .ok (.putfield 43, 3) := by decide +kernel
theorem dX2_clear_54 : decode cX2_clear 54 = .ok (.return_, 1) := by decide +kernel
set_option maxRecDepth 20000 in
theorem ggX2_copyFrom_X7_copyRow : GoodIn wsX2_copyFrom wsX7_copyRow := goodIn_r _ [14] (by decide +kernel) (by decide +kernel)
set_option maxRecDepth 20000 in
theorem gX2_copyFrom_X7_copyRow_n46 : GoodIn wsX2_copyFrom (wsX7_copyRow) := ggX2_copyFrom_X7_copyRow
theorem dX2_copyFrom_0 : decode cX2_copyFrom 0 = .ok (.aload_n 1, 1) := by decide +kernel
theorem dX2_copyFrom_1 : decode cX2_copyFrom 1 = .ok (.getfield 9, 3) := by decide +kernel
theorem dX2_copyFrom_4 : decode cX2_copyFrom 4 = .ok (.aload_n 0, 1) := by decide +kernel
theorem dX2_copyFrom_5 : decode cX2_copyFrom 5 = .ok (.getfield 9, 3) := by decide +kernel
theorem dX2_copyFrom_8 : decode cX2_copyFrom 8 = .ok (.invokestatic 46, 3) := by decide +kernel
theorem dX2_copyFrom_11 : decode cX2_copyFrom 11 = .ok (.aload_n 1, 1) := by decide +kernel
theorem dX2_copyFrom_12 : decode cX2_copyFrom 12 = .ok (.getfield 15, 3) := by decide +kernel
theorem dX2_copyFrom_15 : decode cX2_copyFrom 15 = .ok (.aload_n 0, 1) := by decide +kernel
theorem dX2_copyFrom_16 : decode cX2_copyFrom 16 = .ok (.getfield 15, 3) := by decide +kernel
theorem dX2_copyFrom_19 : decode cX2_copyFrom 19 = .ok (.invokestatic 46, 3) := by decide +kernel
theorem dX2_copyFrom_22 : decode cX2_copyFrom 22 = .ok (.aload_n 1, 1) := by decide +kernel
theorem dX2_copyFrom_23 : decode cX2_copyFrom 23 = .ok (.getfield 18, 3) := by decide +kernel
theorem dX2_copyFrom_26 : decode cX2_copyFrom 26 = .ok (.aload_n 0, 1) := by decide +kernel
theorem dX2_copyFrom_27 : decode cX2_copyFrom 27 = .ok (.getfield 18, 3) := by decide +kernel
theorem dX2_copyFrom_30 : decode cX2_copyFrom 30 = .ok (.invokestatic 46, 3) := by decide +kernel
theorem dX2_copyFrom_33 : decode cX2_copyFrom 33 = .ok (.aload_n 1, 1) := by decide +kernel
theorem dX2_copyFrom_34 : decode cX2_copyFrom 34 = .ok (.getfield 21, 3) := by decide +kernel
theorem dX2_copyFrom_37 : decode cX2_copyFrom 37 = .ok (.aload_n 0, 1) := by decide +kernel
theorem dX2_copyFrom_38 : decode cX2_copyFrom 38 = .ok (.getfield 21, 3) := by decide +kernel
theorem dX2_copyFrom_41 : decode cX2_copyFrom 41 = .ok (.invokestatic 46, 3) := by decide +kernel
theorem dX2_copyFrom_44 : decode cX2_copyFrom 44 = .ok (.aload_n 1, 1) := by decide +kernel
theorem dX2_copyFrom_45 : decode cX2_copyFrom 45 = .ok (.getfield 24, 3) := by decide +kernel
theorem dX2_copyFrom_48 : decode cX2_copyFrom 48 = .ok (.aload_n 0, 1) := by decide +kernel
theorem dX2_copyFrom_49 : decode cX2_copyFrom 49 = .ok (.getfield 24, 3) := by decide +kernel
theorem dX2_copyFrom_52 : decode cX2_copyFrom 52 = .ok (.invokestatic 46, 3) := by decide +kernel
theorem dX2_copyFrom_55 : decode cX2_copyFrom 55 = .ok (.aload_n 0, 1) := by decide +kernel
theorem dX2_copyFrom_56 : decode cX2_copyFrom 56 = .ok (.aload_n 1, 1) := by decide +kernel
theorem dX2_copyFrom_57 : decode cX2_copyFrom 57 = .ok (.getfield 27, 3) := by decide +kernel
theorem dX2_copyFrom_60 : decode cX2_copyFrom 60 = .ok (.putfield 27, 3) := by decide +kernel
theorem dX2_copyFrom_63 : decode cX2_copyFrom 63 = .ok (.aload_n 0, 1) := by decide +kernel
theorem dX2_copyFrom_64 : decode cX2_copyFrom 64 = .ok (.aload_n 1, 1) := by decide +kernel
theorem dX2_copyFrom_65 : decode cX2_copyFrom 65 = .ok (.getfield 31, 3) := by decide +kernel
theorem dX2_copyFrom_68 : decode cX2_copyFrom 68 = .ok (.putfield 31, 3) := by decide +kernel
theorem dX2_copyFrom_71 : decode cX2_copyFrom 71 = .ok (.aload_n 0, 1) := by decide +kernel
theorem dX2_copyFrom_72 : decode cX2_copyFrom 72 = .ok (.aload_n 1, 1) := by decide +kernel
theorem dX2_copyFrom_73 : decode cX2_copyFrom 73 = .ok (.getfield 34, 3) := by decide +kernel
theorem dX2_copyFrom_76 : decode cX2_copyFrom 76 = .ok (.putfield 34, 3) := by decide +kernel
theorem dX2_copyFrom_79 : decode cX2_copyFrom 79 = .ok (.aload_n 0, 1) := by decide +kernel
theorem dX2_copyFrom_80 : decode cX2_copyFrom 80 = .ok (.aload_n 1, 1) := by decide +kernel
theorem dX2_copyFrom_81 : decode cX2_copyFrom 81 = .ok (.getfield 37, 3) := by decide +kernel
theorem dX2_copyFrom_84 : decode cX2_copyFrom 84 = .ok (.putfield 37, 3) := by decide +kernel
theorem dX2_copyFrom_87 : decode cX2_copyFrom 87 = .ok (.aload_n 0, 1) := by decide +kernel
theorem dX2_copyFrom_88 : decode cX2_copyFrom 88 = .ok (.aload_n 1, 1) := by decide +kernel
theorem dX2_copyFrom_89 : decode cX2_copyFrom 89 = .ok (.getfield 40, 3) := by decide +kernel
theorem dX2_copyFrom_92 : decode cX2_copyFrom 92 = .ok (.putfield 40, 3) := by decide +kernel
theorem dX2_copyFrom_95 : decode cX2_copyFrom 95 = .ok (.aload_n 0, 1) := by decide +kernel
theorem dX2_copyFrom_96 : decode cX2_copyFrom 96 = .ok (.aload_n 1, 1) := by decide +kernel
theorem dX2_copyFrom_97 : decode cX2_copyFrom 97 = .ok (.getfield 43, 3) := by decide +kernel
theorem dX2_copyFrom_100 : decode cX2_copyFrom 100 = .ok (.putfield 43, 3) := by decide +kernel
theorem dX2_copyFrom_103 : decode cX2_copyFrom 103 = .ok (.return_, 1) := by decide +kernel
set_option maxRecDepth 20000 in
theorem ggX2_addCock_X7_put : GoodIn wsX2_addCock wsX7_put := goodIn_r _ [10] (by decide +kernel) (by decide +kernel)
set_option maxRecDepth 20000 in
theorem gX2_addCock_X7_put_n50 : GoodIn wsX2_addCock (wsX7_put) := ggX2_addCock_X7_put
theorem dX2_addCock_0 : decode cX2_addCock 0 = .ok (.aload_n 0, 1) := by decide +kernel
theorem dX2_addCock_1 : decode cX2_addCock 1 = .ok (.getfield 15, 3) := by decide +kernel
theorem dX2_addCock_4 : decode cX2_addCock 4 = .ok (.aload_n 0, 1) := by decide +kernel
theorem dX2_addCock_5 : decode cX2_addCock 5 = .ok (.getfield 27, 3) := by decide +kernel
theorem dX2_addCock_8 : decode cX2_addCock 8 = .ok (.iload_n 1, 1) := by decide +kernel
theorem dX2_addCock_9 : decode cX2_addCock 9 = .ok (.invokestatic 50, 3) := by decide +kernel
theorem dX2_addCock_12 : decode cX2_addCock 12 = .ok (.aload_n 0, 1) := by decide +kernel
theorem dX2_addCock_13 : decode cX2_addCock 13 = .ok (.getfield 18, 3) := by decide +kernel
theorem dX2_addCock_16 : decode cX2_addCock 16 = .ok (.aload_n 0, 1) := by decide +kernel
theorem dX2_addCock_17 : decode cX2_addCock 17 = .ok (.getfield 27, 3) := by decide +kernel
theorem dX2_addCock_20 : decode cX2_addCock 20 = .ok (.iload_n 3, 1) := by decide +kernel
theorem dX2_addCock_21 : decode cX2_addCock 21 = .ok (.invokestatic 50, 3) := by decide +kernel
theorem dX2_addCock_24 : decode cX2_addCock 24 = .ok (.aload_n 0, 1) := by decide +kernel
theorem dX2_addCock_25 : decode cX2_addCock 25 = .ok (.getfield 21, 3) := by decide +kernel
theorem dX2_addCock_28 : decode cX2_addCock 28 = .ok (.aload_n 0, 1) := by decide +kernel
theorem dX2_addCock_29 : decode cX2_addCock 29 = .ok (.getfield 27, 3) := by decide +kernel
theorem dX2_addCock_32 : decode cX2_addCock 32 = .ok (.iload 4, 2) := by decide +kernel
theorem dX2_addCock_34 : decode cX2_addCock 34 = .ok (.invokestatic 50, 3) := by decide +kernel
theorem dX2_addCock_37 : decode cX2_addCock 37 = .ok (.aload_n 0, 1) := by decide +kernel
theorem dX2_addCock_38 : decode cX2_addCock 38 = .ok (.getfield 24, 3) := by decide +kernel
theorem dX2_addCock_41 : decode cX2_addCock 41 = .ok (.aload_n 0, 1) := by decide +kernel
theorem dX2_addCock_42 : decode cX2_addCock 42 = .ok (.getfield 27, 3) := by decide +kernel
theorem dX2_addCock_45 : decode cX2_addCock 45 = .ok (.iload 5, 2) := by decide +kernel
theorem dX2_addCock_47 : decode cX2_addCock 47 = .ok (.invokestatic 50, 3) := by decide +kernel
theorem dX2_addCock_50 : decode cX2_addCock 50 = .ok (.aload_n 0, 1) := by decide +kernel
theorem dX2_addCock_51 : decode cX2_addCock 51 = .ok (.dup, 1) := by decide +kernel
theorem dX2_addCock_52 : decode cX2_addCock 52 = .ok (.getfield 31, 3) := by decide +kernel
theorem dX2_addCock_55 : decode cX2_addCock 55 = .ok (.iload_n 2, 1) := by decide +kernel
theorem dX2_addCock_56 : decode cX2_addCock 56 = .ok (.aload_n 0, 1) := by decide +kernel
theorem dX2_addCock_57 : decode cX2_addCock 57 = .ok (.getfield 27, 3) := by decide +kernel
theorem dX2_addCock_60 : decode cX2_addCock 60 = .ok (.ishl, 1) := by decide +kernel
theorem dX2_addCock_61 : decode cX2_addCock 61 = .ok (.ior, 1) := by decide +kernel
theorem dX2_addCock_62 : decode cX2_addCock 62 = .ok (.putfield 31, 3) := by decide +kernel
theorem dX2_addCock_65 : decode cX2_addCock 65 = .ok (.aload_n 0, 1) := by decide +kernel
theorem dX2_addCock_66 : decode cX2_addCock 66 = .ok (.dup, 1) := by decide +kernel
theorem dX2_addCock_67 : decode cX2_addCock 67 = .ok (.getfield 34, 3) := by decide +kernel
theorem dX2_addCock_70 : decode cX2_addCock 70 = .ok (.iload 6, 2) := by decide +kernel
theorem dX2_addCock_72 : decode cX2_addCock 72 = .ok (.aload_n 0, 1) := by decide +kernel
theorem dX2_addCock_73 : decode cX2_addCock 73 = .ok (.getfield 27, 3) := by decide +kernel
theorem dX2_addCock_76 : decode cX2_addCock 76 = .ok (.ishl, 1) := by decide +kernel
theorem dX2_addCock_77 : decode cX2_addCock 77 = .ok (.ior, 1) := by decide +kernel
theorem dX2_addCock_78 : decode cX2_addCock 78 = .ok (.putfield 34, 3) := by decide +kernel
theorem dX2_addCock_81 : decode cX2_addCock 81 = .ok (.aload_n 0, 1) := by decide +kernel
theorem dX2_addCock_82 : decode cX2_addCock 82 = .ok (.dup, 1) := by decide +kernel
theorem dX2_addCock_83 : decode cX2_addCock 83 = .ok (.getfield 27, 3) := by decide +kernel
theorem dX2_addCock_86 : decode cX2_addCock 86 = .ok (.iconst 1, 1) := by decide +kernel
theorem dX2_addCock_87 : decode cX2_addCock 87 = .ok (.iadd, 1) := by decide +kernel
theorem dX2_addCock_88 : decode cX2_addCock 88 = .ok (.putfield 27, 3) := by decide +kernel
theorem dX2_addCock_91 : decode cX2_addCock 91 = .ok (.return_, 1) := by decide +kernel
theorem dX2_hasCock_0 : decode cX2_hasCock 0 = .ok (.iload_n 1, 1) := by decide +kernel
theorem dX2_hasCock_1 : decode cX2_hasCock 1 = .ok (.ifCond .lt 15, 3) := by decide +kernel
theorem dX2_hasCock_4 : decode cX2_hasCock 4 = .ok (.iload_n 1, 1) := by decide +kernel
theorem dX2_hasCock_5 : decode cX2_hasCock 5 = .ok (.aload_n 0, 1) := by decide +kernel
theorem dX2_hasCock_6 : decode cX2_hasCock 6 = .ok (.getfield 27, 3) := by decide +kernel
theorem dX2_hasCock_9 : decode cX2_hasCock 9 = .ok (.if_icmp .ge 7, 3) := by decide +kernel
theorem dX2_hasCock_12 : decode cX2_hasCock 12 = .ok (.iconst 1, 1) := by decide +kernel
theorem dX2_hasCock_13 : decode cX2_hasCock 13 = .ok (.goto 4, 3) := by decide +kernel
theorem dX2_hasCock_16 : decode cX2_hasCock 16 = .ok (.iconst 0, 1) := by decide +kernel
theorem dX2_hasCock_17 : decode cX2_hasCock 17 = .ok (.ireturn, 1) := by decide +kernel
theorem dX2_everyCock_0 : decode cX2_everyCock 0 = .ok (.iconst 1, 1) := by decide +kernel
theorem dX2_everyCock_1 : decode cX2_everyCock 1 = .ok (.aload_n 0, 1) := by decide +kernel
theorem dX2_everyCock_2 : decode cX2_everyCock 2 = .ok (.getfield 27, 3) := by decide +kernel
theorem dX2_everyCock_5 : decode cX2_everyCock 5 = .ok (.ishl, 1) := by decide +kernel
theorem dX2_everyCock_6 : decode cX2_everyCock 6 = .ok (.iconst 1, 1) := by decide +kernel
theorem dX2_everyCock_7 : decode cX2_everyCock 7 = .ok (.isub, 1) := by decide +kernel
theorem dX2_everyCock_8 : decode cX2_everyCock 8 = .ok (.ireturn, 1) := by decide +kernel
theorem dX2_treeCells_0 : decode cX2_treeCells 0 = .ok (.iconst 0, 1) := by decide +kernel
theorem dX2_treeCells_1 : decode cX2_treeCells 1 = .ok (.istore_n 1, 1) := by decide +kernel
theorem dX2_treeCells_2 : decode cX2_treeCells 2 = .ok (.iconst 0, 1) := by decide +kernel
theorem dX2_treeCells_3 : decode cX2_treeCells 3 = .ok (.istore_n 2, 1) := by decide +kernel
theorem dX2_treeCells_4 : decode cX2_treeCells 4 = .ok (.iload_n 2, 1) := by decide +kernel
theorem dX2_treeCells_5 : decode cX2_treeCells 5 = .ok (.aload_n 0, 1) := by decide +kernel
theorem dX2_treeCells_6 : decode cX2_treeCells 6 = .ok (.getfield 9, 3) := by decide +kernel
theorem dX2_treeCells_9 : decode cX2_treeCells 9 = .ok (.arraylength, 1) := by decide +kernel
theorem dX2_treeCells_10 : decode cX2_treeCells 10 = .ok (.if_icmp .ge 24, 3) := by decide +kernel
theorem dX2_treeCells_13 : decode cX2_treeCells 13 = .ok (.aload_n 0, 1) := by decide +kernel
theorem dX2_treeCells_14 : decode cX2_treeCells 14 = .ok (.getfield 9, 3) := by decide +kernel
theorem dX2_treeCells_17 : decode cX2_treeCells 17 = .ok (.iload_n 2, 1) := by decide +kernel
theorem dX2_treeCells_18 : decode cX2_treeCells 18 = .ok (.iaload, 1) := by decide +kernel
theorem dX2_treeCells_19 : decode cX2_treeCells 19 = .ok (.ifCond .le 9, 3) := by decide +kernel
theorem dX2_treeCells_22 : decode cX2_treeCells 22 = .ok (.iload_n 1, 1) := by decide +kernel
theorem dX2_treeCells_23 : decode cX2_treeCells 23 = .ok (.iconst 1, 1) := by decide +kernel
theorem dX2_treeCells_24 : decode cX2_treeCells 24 = .ok (.iload_n 2, 1) := by decide +kernel
theorem dX2_treeCells_25 : decode cX2_treeCells 25 = .ok (.ishl, 1) := by decide +kernel
theorem dX2_treeCells_26 : decode cX2_treeCells 26 = .ok (.ior, 1) := by decide +kernel
theorem dX2_treeCells_27 : decode cX2_treeCells 27 = .ok (.istore_n 1, 1) := by decide +kernel
theorem dX2_treeCells_28 : decode cX2_treeCells 28 = .ok (.iinc 2 1, 3) := by decide +kernel
theorem dX2_treeCells_31 : decode cX2_treeCells 31 = .ok (.goto (-27), 3) := by decide +kernel
theorem dX2_treeCells_34 : decode cX2_treeCells 34 = .ok (.iload_n 1, 1) := by decide +kernel
theorem dX2_treeCells_35 : decode cX2_treeCells 35 = .ok (.ireturn, 1) := by decide +kernel
set_option maxRecDepth 20000 in
theorem ggX2_takenCells_X7_at : GoodIn wsX2_takenCells wsX7_at := goodIn_r _ [5] (by decide +kernel) (by decide +kernel)
set_option maxRecDepth 20000 in
theorem gX2_takenCells_X7_at_n54 : GoodIn wsX2_takenCells (wsX7_at) := ggX2_takenCells_X7_at
theorem dX2_takenCells_0 : decode cX2_takenCells 0 = .ok (.iconst 0, 1) := by decide +kernel
theorem dX2_takenCells_1 : decode cX2_takenCells 1 = .ok (.istore_n 1, 1) := by decide +kernel
theorem dX2_takenCells_2 : decode cX2_takenCells 2 = .ok (.iconst 0, 1) := by decide +kernel
theorem dX2_takenCells_3 : decode cX2_takenCells 3 = .ok (.istore_n 2, 1) := by decide +kernel
theorem dX2_takenCells_4 : decode cX2_takenCells 4 = .ok (.iload_n 2, 1) := by decide +kernel
theorem dX2_takenCells_5 : decode cX2_takenCells 5 = .ok (.aload_n 0, 1) := by decide +kernel
theorem dX2_takenCells_6 : decode cX2_takenCells 6 = .ok (.getfield 27, 3) := by decide +kernel
theorem dX2_takenCells_9 : decode cX2_takenCells 9 = .ok (.if_icmp .ge 22, 3) := by decide +kernel
theorem dX2_takenCells_12 : decode cX2_takenCells 12 = .ok (.iload_n 1, 1) := by decide +kernel
theorem dX2_takenCells_13 : decode cX2_takenCells 13 = .ok (.iconst 1, 1) := by decide +kernel
theorem dX2_takenCells_14 : decode cX2_takenCells 14 = .ok (.aload_n 0, 1) := by decide +kernel
theorem dX2_takenCells_15 : decode cX2_takenCells 15 = .ok (.getfield 15, 3) := by decide +kernel
theorem dX2_takenCells_18 : decode cX2_takenCells 18 = .ok (.iload_n 2, 1) := by decide +kernel
theorem dX2_takenCells_19 : decode cX2_takenCells 19 = .ok (.invokestatic 54, 3) := by decide +kernel
theorem dX2_takenCells_22 : decode cX2_takenCells 22 = .ok (.ishl, 1) := by decide +kernel
theorem dX2_takenCells_23 : decode cX2_takenCells 23 = .ok (.ior, 1) := by decide +kernel
theorem dX2_takenCells_24 : decode cX2_takenCells 24 = .ok (.istore_n 1, 1) := by decide +kernel
theorem dX2_takenCells_25 : decode cX2_takenCells 25 = .ok (.iinc 2 1, 3) := by decide +kernel
theorem dX2_takenCells_28 : decode cX2_takenCells 28 = .ok (.goto (-24), 3) := by decide +kernel
theorem dX2_takenCells_31 : decode cX2_takenCells 31 = .ok (.iload_n 1, 1) := by decide +kernel
theorem dX2_takenCells_32 : decode cX2_takenCells 32 = .ok (.ireturn, 1) := by decide +kernel
set_option maxRecDepth 20000 in
theorem ggX2_yieldingTo_X7_at : GoodIn wsX2_yieldingTo wsX7_at := goodIn_r _ [8] (by decide +kernel) (by decide +kernel)
set_option maxRecDepth 20000 in
theorem gX2_yieldingTo_X7_at_n54 : GoodIn wsX2_yieldingTo (wsX7_at) := ggX2_yieldingTo_X7_at
set_option maxRecDepth 20000 in
theorem ggX2_yieldingTo_X7_bit : GoodIn wsX2_yieldingTo wsX7_bit := goodIn_r _ [10] (by decide +kernel) (by decide +kernel)
set_option maxRecDepth 20000 in
theorem gX2_yieldingTo_X7_bit_n58 : GoodIn wsX2_yieldingTo (wsX7_bit) := ggX2_yieldingTo_X7_bit
theorem dX2_yieldingTo_0 : decode cX2_yieldingTo 0 = .ok (.iconst 0, 1) := by decide +kernel
theorem dX2_yieldingTo_1 : decode cX2_yieldingTo 1 = .ok (.istore 4, 2) := by decide +kernel
theorem dX2_yieldingTo_3 : decode cX2_yieldingTo 3 = .ok (.iconst 0, 1) := by decide +kernel
theorem dX2_yieldingTo_4 : decode cX2_yieldingTo 4 = .ok (.istore 5, 2) := by decide +kernel
theorem dX2_yieldingTo_6 : decode cX2_yieldingTo 6 = .ok (.iload 5, 2) := by decide +kernel
theorem dX2_yieldingTo_8 : decode cX2_yieldingTo 8 = .ok (.aload_n 0, 1) := by decide +kernel
theorem dX2_yieldingTo_9 : decode cX2_yieldingTo 9 = .ok (.getfield 27, 3) := by decide +kernel
theorem dX2_yieldingTo_12 : decode cX2_yieldingTo 12 = .ok (.if_icmp .ge 92, 3) := by decide +kernel
theorem dX2_yieldingTo_15 : decode cX2_yieldingTo 15 = .ok (.aload_n 0, 1) := by decide +kernel
theorem dX2_yieldingTo_16 : decode cX2_yieldingTo 16 = .ok (.getfield 15, 3) := by decide +kernel
theorem dX2_yieldingTo_19 : decode cX2_yieldingTo 19 = .ok (.iload 5, 2) := by decide +kernel
theorem dX2_yieldingTo_21 : decode cX2_yieldingTo 21 = .ok (.invokestatic 54, 3) := by decide +kernel
theorem dX2_yieldingTo_24 : decode cX2_yieldingTo 24 = .ok (.iload_n 1, 1) := by decide +kernel
theorem dX2_yieldingTo_25 : decode cX2_yieldingTo 25 = .ok (.iconst 1, 1) := by decide +kernel
theorem dX2_yieldingTo_26 : decode cX2_yieldingTo 26 = .ok (.if_icmp .ne 7, 3) := by decide +kernel
theorem dX2_yieldingTo_29 : decode cX2_yieldingTo 29 = .ok (.iconst (-1), 1) := by decide +kernel
theorem dX2_yieldingTo_30 : decode cX2_yieldingTo 30 = .ok (.goto 4, 3) := by decide +kernel
theorem dX2_yieldingTo_33 : decode cX2_yieldingTo 33 = .ok (.iconst 1, 1) := by decide +kernel
theorem dX2_yieldingTo_34 : decode cX2_yieldingTo 34 = .ok (.iadd, 1) := by decide +kernel
theorem dX2_yieldingTo_35 : decode cX2_yieldingTo 35 = .ok (.istore 6, 2) := by decide +kernel
theorem dX2_yieldingTo_37 : decode cX2_yieldingTo 37 = .ok (.iload_n 3, 1) := by decide +kernel
theorem dX2_yieldingTo_38 : decode cX2_yieldingTo 38 = .ok (.iload 6, 2) := by decide +kernel
theorem dX2_yieldingTo_40 : decode cX2_yieldingTo 40 = .ok (.invokestatic 58, 3) := by decide +kernel
theorem dX2_yieldingTo_43 : decode cX2_yieldingTo 43 = .ok (.iconst 1, 1) := by decide +kernel
theorem dX2_yieldingTo_44 : decode cX2_yieldingTo 44 = .ok (.if_icmp .ne 7, 3) := by decide +kernel
theorem dX2_yieldingTo_47 : decode cX2_yieldingTo 47 = .ok (.iconst 0, 1) := by decide +kernel
theorem dX2_yieldingTo_48 : decode cX2_yieldingTo 48 = .ok (.goto 12, 3) := by decide +kernel
theorem dX2_yieldingTo_51 : decode cX2_yieldingTo 51 = .ok (.aload_n 0, 1) := by decide +kernel
theorem dX2_yieldingTo_52 : decode cX2_yieldingTo 52 = .ok (.getfield 9, 3) := by decide +kernel
theorem dX2_yieldingTo_55 : decode cX2_yieldingTo 55 = .ok (.iload 6, 2) := by decide +kernel
theorem dX2_yieldingTo_57 : decode cX2_yieldingTo 57 = .ok (.invokestatic 54, 3) := by decide +kernel
theorem dX2_yieldingTo_60 : decode cX2_yieldingTo 60 = .ok (.istore 7, 2) := by decide +kernel
theorem dX2_yieldingTo_62 : decode cX2_yieldingTo 62 = .ok (.iload_n 2, 1) := by decide +kernel
theorem dX2_yieldingTo_63 : decode cX2_yieldingTo 63 = .ok (.aload_n 0, 1) := by decide +kernel
theorem dX2_yieldingTo_64 : decode cX2_yieldingTo 64 = .ok (.getfield 21, 3) := by decide +kernel
theorem dX2_yieldingTo_67 : decode cX2_yieldingTo 67 = .ok (.iload 5, 2) := by decide +kernel
theorem dX2_yieldingTo_69 : decode cX2_yieldingTo 69 = .ok (.invokestatic 54, 3) := by decide +kernel
theorem dX2_yieldingTo_72 : decode cX2_yieldingTo 72 = .ok (.if_icmp .le 26, 3) := by decide +kernel
theorem dX2_yieldingTo_75 : decode cX2_yieldingTo 75 = .ok (.iload 7, 2) := by decide +kernel
theorem dX2_yieldingTo_77 : decode cX2_yieldingTo 77 = .ok (.aload_n 0, 1) := by decide +kernel
theorem dX2_yieldingTo_78 : decode cX2_yieldingTo 78 = .ok (.getfield 18, 3) := by decide +kernel
theorem dX2_yieldingTo_81 : decode cX2_yieldingTo 81 = .ok (.iload 5, 2) := by decide +kernel
theorem dX2_yieldingTo_83 : decode cX2_yieldingTo 83 = .ok (.invokestatic 54, 3) := by decide +kernel
theorem dX2_yieldingTo_86 : decode cX2_yieldingTo 86 = .ok (.if_icmp .gt 12, 3) := by decide +kernel
theorem dX2_yieldingTo_89 : decode cX2_yieldingTo 89 = .ok (.iload 4, 2) := by decide +kernel
theorem dX2_yieldingTo_91 : decode cX2_yieldingTo 91 = .ok (.iconst 1, 1) := by decide +kernel
theorem dX2_yieldingTo_92 : decode cX2_yieldingTo 92 = .ok (.iload 5, 2) := by decide +kernel
theorem dX2_yieldingTo_94 : decode cX2_yieldingTo 94 = .ok (.ishl, 1) := by decide +kernel
theorem dX2_yieldingTo_95 : decode cX2_yieldingTo 95 = .ok (.ior, 1) := by decide +kernel
theorem dX2_yieldingTo_96 : decode cX2_yieldingTo 96 = .ok (.istore 4, 2) := by decide +kernel
theorem dX2_yieldingTo_98 : decode cX2_yieldingTo 98 = .ok (.iinc 5 1, 3) := by decide +kernel
theorem dX2_yieldingTo_101 : decode cX2_yieldingTo 101 = .ok (.goto (-95), 3) := by decide +kernel
theorem dX2_yieldingTo_104 : decode cX2_yieldingTo 104 = .ok (.iload 4, 2) := by decide +kernel
theorem dX2_yieldingTo_106 : decode cX2_yieldingTo 106 = .ok (.ireturn, 1) := by decide +kernel
set_option maxRecDepth 20000 in
theorem ggX2_brookBy_X7_bit : GoodIn wsX2_brookBy wsX7_bit := goodIn_r _ [7] (by decide +kernel) (by decide +kernel)
set_option maxRecDepth 20000 in
theorem gX2_brookBy_X7_bit_n58 : GoodIn wsX2_brookBy (wsX7_bit) := ggX2_brookBy_X7_bit
set_option maxRecDepth 20000 in
theorem ggX2_brookBy_X7_at : GoodIn wsX2_brookBy wsX7_at := goodIn_r _ [9] (by decide +kernel) (by decide +kernel)
set_option maxRecDepth 20000 in
theorem gX2_brookBy_X7_at_n54 : GoodIn wsX2_brookBy (wsX7_at) := ggX2_brookBy_X7_at
theorem dX2_brookBy_0 : decode cX2_brookBy 0 = .ok (.iconst 0, 1) := by decide +kernel
theorem dX2_brookBy_1 : decode cX2_brookBy 1 = .ok (.istore_n 2, 1) := by decide +kernel
theorem dX2_brookBy_2 : decode cX2_brookBy 2 = .ok (.iload_n 1, 1) := by decide +kernel
theorem dX2_brookBy_3 : decode cX2_brookBy 3 = .ok (.aload_n 0, 1) := by decide +kernel
theorem dX2_brookBy_4 : decode cX2_brookBy 4 = .ok (.getfield 31, 3) := by decide +kernel
theorem dX2_brookBy_7 : decode cX2_brookBy 7 = .ok (.ixor, 1) := by decide +kernel
theorem dX2_brookBy_8 : decode cX2_brookBy 8 = .ok (.istore_n 3, 1) := by decide +kernel
theorem dX2_brookBy_9 : decode cX2_brookBy 9 = .ok (.iconst 0, 1) := by decide +kernel
theorem dX2_brookBy_10 : decode cX2_brookBy 10 = .ok (.istore 4, 2) := by decide +kernel
theorem dX2_brookBy_12 : decode cX2_brookBy 12 = .ok (.iload 4, 2) := by decide +kernel
theorem dX2_brookBy_14 : decode cX2_brookBy 14 = .ok (.aload_n 0, 1) := by decide +kernel
theorem dX2_brookBy_15 : decode cX2_brookBy 15 = .ok (.getfield 27, 3) := by decide +kernel
theorem dX2_brookBy_18 : decode cX2_brookBy 18 = .ok (.if_icmp .ge 57, 3) := by decide +kernel
theorem dX2_brookBy_21 : decode cX2_brookBy 21 = .ok (.iload_n 3, 1) := by decide +kernel
theorem dX2_brookBy_22 : decode cX2_brookBy 22 = .ok (.iload 4, 2) := by decide +kernel
theorem dX2_brookBy_24 : decode cX2_brookBy 24 = .ok (.invokestatic 58, 3) := by decide +kernel
theorem dX2_brookBy_27 : decode cX2_brookBy 27 = .ok (.iconst 1, 1) := by decide +kernel
theorem dX2_brookBy_28 : decode cX2_brookBy 28 = .ok (.if_icmp .ne 15, 3) := by decide +kernel
theorem dX2_brookBy_31 : decode cX2_brookBy 31 = .ok (.aload_n 0, 1) := by decide +kernel
theorem dX2_brookBy_32 : decode cX2_brookBy 32 = .ok (.getfield 24, 3) := by decide +kernel
theorem dX2_brookBy_35 : decode cX2_brookBy 35 = .ok (.iload 4, 2) := by decide +kernel
theorem dX2_brookBy_37 : decode cX2_brookBy 37 = .ok (.invokestatic 54, 3) := by decide +kernel
theorem dX2_brookBy_40 : decode cX2_brookBy 40 = .ok (.goto 4, 3) := by decide +kernel
theorem dX2_brookBy_43 : decode cX2_brookBy 43 = .ok (.iconst 0, 1) := by decide +kernel
theorem dX2_brookBy_44 : decode cX2_brookBy 44 = .ok (.istore 5, 2) := by decide +kernel
theorem dX2_brookBy_46 : decode cX2_brookBy 46 = .ok (.iload_n 2, 1) := by decide +kernel
theorem dX2_brookBy_47 : decode cX2_brookBy 47 = .ok (.aload_n 0, 1) := by decide +kernel
theorem dX2_brookBy_48 : decode cX2_brookBy 48 = .ok (.getfield 31, 3) := by decide +kernel
theorem dX2_brookBy_51 : decode cX2_brookBy 51 = .ok (.iload 4, 2) := by decide +kernel
theorem dX2_brookBy_53 : decode cX2_brookBy 53 = .ok (.invokestatic 58, 3) := by decide +kernel
theorem dX2_brookBy_56 : decode cX2_brookBy 56 = .ok (.ifCond .ne 8, 3) := by decide +kernel
theorem dX2_brookBy_59 : decode cX2_brookBy 59 = .ok (.iload 5, 2) := by decide +kernel
theorem dX2_brookBy_61 : decode cX2_brookBy 61 = .ok (.goto 6, 3) := by decide +kernel
theorem dX2_brookBy_64 : decode cX2_brookBy 64 = .ok (.iload 5, 2) := by decide +kernel
theorem dX2_brookBy_66 : decode cX2_brookBy 66 = .ok (.ineg, 1) := by decide +kernel
theorem dX2_brookBy_67 : decode cX2_brookBy 67 = .ok (.iadd, 1) := by decide +kernel
theorem dX2_brookBy_68 : decode cX2_brookBy 68 = .ok (.istore_n 2, 1) := by decide +kernel
theorem dX2_brookBy_69 : decode cX2_brookBy 69 = .ok (.iinc 4 1, 3) := by decide +kernel
theorem dX2_brookBy_72 : decode cX2_brookBy 72 = .ok (.goto (-60), 3) := by decide +kernel
theorem dX2_brookBy_75 : decode cX2_brookBy 75 = .ok (.iload_n 2, 1) := by decide +kernel
theorem dX2_brookBy_76 : decode cX2_brookBy 76 = .ok (.ifCond .ne 8, 3) := by decide +kernel
theorem dX2_brookBy_79 : decode cX2_brookBy 79 = .ok (.aload_n 0, 1) := by decide +kernel
theorem dX2_brookBy_80 : decode cX2_brookBy 80 = .ok (.getfield 40, 3) := by decide +kernel
theorem dX2_brookBy_83 : decode cX2_brookBy 83 = .ok (.ireturn, 1) := by decide +kernel
theorem dX2_brookBy_84 : decode cX2_brookBy 84 = .ok (.iload_n 2, 1) := by decide +kernel
theorem dX2_brookBy_85 : decode cX2_brookBy 85 = .ok (.ifCond .le 7, 3) := by decide +kernel
theorem dX2_brookBy_88 : decode cX2_brookBy 88 = .ok (.iconst 0, 1) := by decide +kernel
theorem dX2_brookBy_89 : decode cX2_brookBy 89 = .ok (.goto 4, 3) := by decide +kernel
theorem dX2_brookBy_92 : decode cX2_brookBy 92 = .ok (.iconst 1, 1) := by decide +kernel
theorem dX2_brookBy_93 : decode cX2_brookBy 93 = .ok (.ireturn, 1) := by decide +kernel
set_option maxRecDepth 20000 in
theorem ggX2_weightFor_X7_bit : GoodIn wsX2_weightFor wsX7_bit := goodIn_r _ [7] (by decide +kernel) (by decide +kernel)
set_option maxRecDepth 20000 in
theorem gX2_weightFor_X7_bit_n58 : GoodIn wsX2_weightFor (wsX7_bit) := ggX2_weightFor_X7_bit
set_option maxRecDepth 20000 in
theorem ggX2_weightFor_X7_at : GoodIn wsX2_weightFor wsX7_at := goodIn_r _ [9] (by decide +kernel) (by decide +kernel)
set_option maxRecDepth 20000 in
theorem gX2_weightFor_X7_at_n54 : GoodIn wsX2_weightFor (wsX7_at) := ggX2_weightFor_X7_at
theorem dX2_weightFor_0 : decode cX2_weightFor 0 = .ok (.iconst 0, 1) := by decide +kernel
theorem dX2_weightFor_1 : decode cX2_weightFor 1 = .ok (.istore_n 2, 1) := by decide +kernel
theorem dX2_weightFor_2 : decode cX2_weightFor 2 = .ok (.iconst 0, 1) := by decide +kernel
theorem dX2_weightFor_3 : decode cX2_weightFor 3 = .ok (.istore_n 3, 1) := by decide +kernel
theorem dX2_weightFor_4 : decode cX2_weightFor 4 = .ok (.iload_n 3, 1) := by decide +kernel
theorem dX2_weightFor_5 : decode cX2_weightFor 5 = .ok (.aload_n 0, 1) := by decide +kernel
theorem dX2_weightFor_6 : decode cX2_weightFor 6 = .ok (.getfield 27, 3) := by decide +kernel
theorem dX2_weightFor_9 : decode cX2_weightFor 9 = .ok (.if_icmp .ge 44, 3) := by decide +kernel
theorem dX2_weightFor_12 : decode cX2_weightFor 12 = .ok (.aload_n 0, 1) := by decide +kernel
theorem dX2_weightFor_13 : decode cX2_weightFor 13 = .ok (.getfield 31, 3) := by decide +kernel
theorem dX2_weightFor_16 : decode cX2_weightFor 16 = .ok (.iload_n 3, 1) := by decide +kernel
theorem dX2_weightFor_17 : decode cX2_weightFor 17 = .ok (.invokestatic 58, 3) := by decide +kernel
theorem dX2_weightFor_20 : decode cX2_weightFor 20 = .ok (.iload_n 1, 1) := by decide +kernel
theorem dX2_weightFor_21 : decode cX2_weightFor 21 = .ok (.if_icmp .ne 26, 3) := by decide +kernel
theorem dX2_weightFor_24 : decode cX2_weightFor 24 = .ok (.aload_n 0, 1) := by decide +kernel
theorem dX2_weightFor_25 : decode cX2_weightFor 25 = .ok (.getfield 34, 3) := by decide +kernel
theorem dX2_weightFor_28 : decode cX2_weightFor 28 = .ok (.iload_n 3, 1) := by decide +kernel
theorem dX2_weightFor_29 : decode cX2_weightFor 29 = .ok (.invokestatic 58, 3) := by decide +kernel
theorem dX2_weightFor_32 : decode cX2_weightFor 32 = .ok (.iload_n 1, 1) := by decide +kernel
theorem dX2_weightFor_33 : decode cX2_weightFor 33 = .ok (.if_icmp .eq 14, 3) := by decide +kernel
theorem dX2_weightFor_36 : decode cX2_weightFor 36 = .ok (.iload_n 2, 1) := by decide +kernel
theorem dX2_weightFor_37 : decode cX2_weightFor 37 = .ok (.aload_n 0, 1) := by decide +kernel
theorem dX2_weightFor_38 : decode cX2_weightFor 38 = .ok (.getfield 24, 3) := by decide +kernel
theorem dX2_weightFor_41 : decode cX2_weightFor 41 = .ok (.iload_n 3, 1) := by decide +kernel
theorem dX2_weightFor_42 : decode cX2_weightFor 42 = .ok (.invokestatic 54, 3) := by decide +kernel
theorem dX2_weightFor_45 : decode cX2_weightFor 45 = .ok (.iadd, 1) := by decide +kernel
theorem dX2_weightFor_46 : decode cX2_weightFor 46 = .ok (.istore_n 2, 1) := by decide +kernel
theorem dX2_weightFor_47 : decode cX2_weightFor 47 = .ok (.iinc 3 1, 3) := by decide +kernel
theorem dX2_weightFor_50 : decode cX2_weightFor 50 = .ok (.goto (-46), 3) := by decide +kernel
theorem dX2_weightFor_53 : decode cX2_weightFor 53 = .ok (.iload_n 2, 1) := by decide +kernel
theorem dX2_weightFor_54 : decode cX2_weightFor 54 = .ok (.ireturn, 1) := by decide +kernel
set_option maxRecDepth 20000 in
theorem ggX3_init_X2_init : GoodIn wsX3_init wsX2_init := goodIn_r _ [9, 10, 2, 3, 11, 12, 13, 14, 15, 16, 17, 18, 19, 20, 21, 22, 23, 24, 25, 26, 27] (by decide +kernel) (by decide +kernel)
set_option maxRecDepth 20000 in
theorem gX3_init_X2_init_n11 : GoodIn wsX3_init (wsX2_init) := ggX3_init_X2_init
theorem dX3_init_0 : decode cX3_init 0 = .ok (.aload_n 0, 1) := by decide +kernel
theorem dX3_init_1 : decode cX3_init 1 = .ok (.invokespecial 3, 3) := by decide +kernel
theorem dX3_init_4 : decode cX3_init 4 = .ok (.aload_n 0, 1) := by decide +kernel
theorem dX3_init_5 : decode cX3_init 5 = .ok (.new 9, 3) := by decide +kernel
theorem dX3_init_8 : decode cX3_init 8 = .ok (.dup, 1) := by decide +kernel
theorem dX3_init_9 : decode cX3_init 9 = .ok (.invokespecial 11, 3) := by decide +kernel
theorem dX3_init_12 : decode cX3_init 12 = .ok (.putfield 12, 3) := by decide +kernel
theorem dX3_init_15 : decode cX3_init 15 = .ok (.return_, 1) := by decide +kernel
set_option maxRecDepth 20000 in
theorem ggX3_seek_X2_copyFrom : GoodIn wsX3_seek wsX2_copyFrom := goodIn_r _ [6, 7, 8, 9, 10, 11, 12, 13, 14, 15, 16, 17, 18, 19, 20, 69, 70, 71, 72, 73, 74, 75, 76, 77, 78, 79] (by decide +kernel) (by decide +kernel)
set_option maxRecDepth 20000 in
theorem gX3_seek_X2_copyFrom_n22 : GoodIn wsX3_seek (wsX2_copyFrom) := ggX3_seek_X2_copyFrom
set_option maxRecDepth 20000 in
theorem ggX3_seek_X3_tryTrees : GoodIn wsX3_seek wsX3_tryTrees := goodIn_r _ [25, 2, 26, 27, 28, 29, 30, 31, 32, 33, 34, 35, 36, 37, 38, 39, 40, 41, 42, 19, 43, 44, 4, 45, 46, 12, 8, 7, 10, 9, 47, 48, 49, 50, 51, 13, 11, 16, 52, 53, 54, 24, 55, 1, 56, 57, 58, 64, 65, 66, 67, 68, 69, 70, 71, 72, 73, 74, 75, 76, 77, 78, 79, 80, 81, 82, 83] (by decide +kernel) (by decide +kernel)
set_option maxRecDepth 20000 in
theorem gX3_seek_X3_tryTrees : GoodIn wsX3_seek (wsV RX3 26 RX3 yX3_tryTrees wsX3_tryTrees) := goodIn_app (goodIn_of _ (by decide +kernel)) ggX3_seek_X3_tryTrees
set_option maxRecDepth 20000 in
theorem ggX3_seek_X2_takenCells : GoodIn wsX3_seek wsX2_takenCells := goodIn_r _ [61, 12, 8, 42, 19, 43, 69, 70, 71, 72, 73, 74, 75, 76, 77, 78, 79] (by decide +kernel) (by decide +kernel)
set_option maxRecDepth 20000 in
theorem gX3_seek_X2_takenCells_n30 : GoodIn wsX3_seek (wsX2_takenCells) := ggX3_seek_X2_takenCells
set_option maxRecDepth 20000 in
theorem ggX3_seek_X7_bit : GoodIn wsX3_seek wsX7_bit := goodIn_r _ [48] (by decide +kernel) (by decide +kernel)
set_option maxRecDepth 20000 in
theorem gX3_seek_X7_bit_n40 : GoodIn wsX3_seek (wsX7_bit) := ggX3_seek_X7_bit
set_option maxRecDepth 20000 in
theorem ggX3_seek_X7_put : GoodIn wsX3_seek wsX7_put := goodIn_r _ [63] (by decide +kernel) (by decide +kernel)
set_option maxRecDepth 20000 in
theorem gX3_seek_X7_put_n48 : GoodIn wsX3_seek (wsX7_put) := ggX3_seek_X7_put
set_option maxRecDepth 20000 in
theorem ggX3_seek_X7_at : GoodIn wsX3_seek wsX7_at := goodIn_r _ [43] (by decide +kernel) (by decide +kernel)
set_option maxRecDepth 20000 in
theorem gX3_seek_X7_at_n52 : GoodIn wsX3_seek (wsX7_at) := ggX3_seek_X7_at
theorem dX3_seek_0 : decode cX3_seek 0 = .ok (.aload_n 0, 1) := by decide +kernel
theorem dX3_seek_1 : decode cX3_seek 1 = .ok (.iconst (-1), 1) := by decide +kernel
theorem dX3_seek_2 : decode cX3_seek 2 = .ok (.putfield 18, 3) := by decide +kernel
theorem dX3_seek_5 : decode cX3_seek 5 = .ok (.aload_n 0, 1) := by decide +kernel
theorem dX3_seek_6 : decode cX3_seek 6 = .ok (.getfield 12, 3) := by decide +kernel
theorem dX3_seek_9 : decode cX3_seek 9 = .ok (.aload_n 1, 1) := by decide +kernel
theorem dX3_seek_10 : decode cX3_seek 10 = .ok (.invokevirtual 22, 3) := by decide +kernel
theorem dX3_seek_13 : decode cX3_seek 13 = .ok (.aload_n 0, 1) := by decide +kernel
theorem dX3_seek_14 : decode cX3_seek 14 = .ok (.aload_n 2, 1) := by decide +kernel
theorem dX3_seek_15 : decode cX3_seek 15 = .ok (.iload_n 3, 1) := by decide +kernel
theorem dX3_seek_16 : decode cX3_seek 16 = .ok (.bipush (-9), 2) := by decide +kernel
theorem dX3_seek_18 : decode cX3_seek 18 = .ok (.bipush (-9), 2) := by decide +kernel
theorem dX3_seek_20 : decode cX3_seek 20 = .ok (.invokevirtual 26, 3) := by decide +kernel
theorem dX3_seek_23 : decode cX3_seek 23 = .ok (.aload_n 1, 1) := by decide +kernel
theorem dX3_seek_24 : decode cX3_seek 24 = .ok (.invokevirtual 30, 3) := by decide +kernel
theorem dX3_seek_27 : decode cX3_seek 27 = .ok (.istore 4, 2) := by decide +kernel
theorem dX3_seek_29 : decode cX3_seek 29 = .ok (.iconst 0, 1) := by decide +kernel
theorem dX3_seek_30 : decode cX3_seek 30 = .ok (.istore 5, 2) := by decide +kernel
theorem dX3_seek_32 : decode cX3_seek 32 = .ok (.iload 5, 2) := by decide +kernel
theorem dX3_seek_34 : decode cX3_seek 34 = .ok (.aload_n 1, 1) := by decide +kernel
theorem dX3_seek_35 : decode cX3_seek 35 = .ok (.getfield 34, 3) := by decide +kernel
theorem dX3_seek_38 : decode cX3_seek 38 = .ok (.if_icmp .ge 93, 3) := by decide +kernel
theorem dX3_seek_41 : decode cX3_seek 41 = .ok (.iconst 0, 1) := by decide +kernel
theorem dX3_seek_42 : decode cX3_seek 42 = .ok (.istore 6, 2) := by decide +kernel
theorem dX3_seek_44 : decode cX3_seek 44 = .ok (.iload 6, 2) := by decide +kernel
theorem dX3_seek_46 : decode cX3_seek 46 = .ok (.bipush 10, 2) := by decide +kernel
theorem dX3_seek_48 : decode cX3_seek 48 = .ok (.if_icmp .ge 56, 3) := by decide +kernel
theorem dX3_seek_51 : decode cX3_seek 51 = .ok (.aload_n 1, 1) := by decide +kernel
theorem dX3_seek_52 : decode cX3_seek 52 = .ok (.getfield 37, 3) := by decide +kernel
theorem dX3_seek_55 : decode cX3_seek 55 = .ok (.iload 5, 2) := by decide +kernel
theorem dX3_seek_57 : decode cX3_seek 57 = .ok (.invokestatic 40, 3) := by decide +kernel
theorem dX3_seek_60 : decode cX3_seek 60 = .ok (.iload_n 3, 1) := by decide +kernel
theorem dX3_seek_61 : decode cX3_seek 61 = .ok (.if_icmp .ne 37, 3) := by decide +kernel
theorem dX3_seek_64 : decode cX3_seek 64 = .ok (.iload 4, 2) := by decide +kernel
theorem dX3_seek_66 : decode cX3_seek 66 = .ok (.iload 6, 2) := by decide +kernel
theorem dX3_seek_68 : decode cX3_seek 68 = .ok (.invokestatic 40, 3) := by decide +kernel
theorem dX3_seek_71 : decode cX3_seek 71 = .ok (.ifCond .ne 27, 3) := by decide +kernel
theorem dX3_seek_74 : decode cX3_seek 74 = .ok (.aload_n 0, 1) := by decide +kernel
theorem dX3_seek_75 : decode cX3_seek 75 = .ok (.getfield 12, 3) := by decide +kernel
theorem dX3_seek_78 : decode cX3_seek 78 = .ok (.getfield 44, 3) := by decide +kernel
theorem dX3_seek_81 : decode cX3_seek 81 = .ok (.iload 5, 2) := by decide +kernel
theorem dX3_seek_83 : decode cX3_seek 83 = .ok (.iload 6, 2) := by decide +kernel
theorem dX3_seek_85 : decode cX3_seek 85 = .ok (.invokestatic 48, 3) := by decide +kernel
theorem dX3_seek_88 : decode cX3_seek 88 = .ok (.aload_n 0, 1) := by decide +kernel
theorem dX3_seek_89 : decode cX3_seek 89 = .ok (.aload_n 2, 1) := by decide +kernel
theorem dX3_seek_90 : decode cX3_seek 90 = .ok (.iload_n 3, 1) := by decide +kernel
theorem dX3_seek_91 : decode cX3_seek 91 = .ok (.iload 5, 2) := by decide +kernel
theorem dX3_seek_93 : decode cX3_seek 93 = .ok (.iload 6, 2) := by decide +kernel
theorem dX3_seek_95 : decode cX3_seek 95 = .ok (.invokevirtual 26, 3) := by decide +kernel
theorem dX3_seek_98 : decode cX3_seek 98 = .ok (.iinc 6 1, 3) := by decide +kernel
theorem dX3_seek_101 : decode cX3_seek 101 = .ok (.goto (-57), 3) := by decide +kernel
theorem dX3_seek_104 : decode cX3_seek 104 = .ok (.aload_n 0, 1) := by decide +kernel
theorem dX3_seek_105 : decode cX3_seek 105 = .ok (.getfield 12, 3) := by decide +kernel
theorem dX3_seek_108 : decode cX3_seek 108 = .ok (.getfield 44, 3) := by decide +kernel
theorem dX3_seek_111 : decode cX3_seek 111 = .ok (.iload 5, 2) := by decide +kernel
theorem dX3_seek_113 : decode cX3_seek 113 = .ok (.aload_n 1, 1) := by decide +kernel
theorem dX3_seek_114 : decode cX3_seek 114 = .ok (.getfield 44, 3) := by decide +kernel
theorem dX3_seek_117 : decode cX3_seek 117 = .ok (.iload 5, 2) := by decide +kernel
theorem dX3_seek_119 : decode cX3_seek 119 = .ok (.invokestatic 52, 3) := by decide +kernel
theorem dX3_seek_122 : decode cX3_seek 122 = .ok (.invokestatic 48, 3) := by decide +kernel
theorem dX3_seek_125 : decode cX3_seek 125 = .ok (.iinc 5 1, 3) := by decide +kernel
theorem dX3_seek_128 : decode cX3_seek 128 = .ok (.goto (-96), 3) := by decide +kernel
theorem dX3_seek_131 : decode cX3_seek 131 = .ok (.return_, 1) := by decide +kernel
set_option maxRecDepth 20000 in
theorem ggX3_tryTrees_X1_yearOf : GoodIn wsX3_tryTrees wsX1_yearOf := goodIn_r _ [5, 6, 7, 8, 9, 10, 3, 11, 12, 13, 14, 15, 16, 17, 18, 19, 20, 21, 22, 23, 24, 25, 26, 27, 28, 29, 30, 31, 32, 33, 34, 35, 36, 37, 63, 64, 65, 66, 52, 53, 54, 55, 56, 57, 58, 59, 60, 61, 62] (by decide +kernel) (by decide +kernel)
set_option maxRecDepth 20000 in
theorem gX3_tryTrees_X1_yearOf_n56 : GoodIn wsX3_tryTrees (wsX1_yearOf) := ggX3_tryTrees_X1_yearOf
set_option maxRecDepth 20000 in
theorem ggX3_tryTrees_X3_tryOne : GoodIn wsX3_tryTrees wsX3_tryOne := goodIn_r _ [42, 43, 44, 45, 46, 47, 48, 49, 50, 51] (by decide +kernel) (by decide +kernel)
set_option maxRecDepth 20000 in
theorem gX3_tryTrees_X3_tryOne : GoodIn wsX3_tryTrees (wsV RX3 62 RX3 yX3_tryOne wsX3_tryOne) := goodIn_app (goodIn_of _ (by decide +kernel)) ggX3_tryTrees_X3_tryOne
set_option maxRecDepth 20000 in
theorem ggX3_tryTrees_X7_at : GoodIn wsX3_tryTrees wsX7_at := goodIn_r _ [20] (by decide +kernel) (by decide +kernel)
set_option maxRecDepth 20000 in
theorem gX3_tryTrees_X7_at_n52 : GoodIn wsX3_tryTrees (wsX7_at) := ggX3_tryTrees_X7_at
theorem dX3_tryTrees_0 : decode cX3_tryTrees 0 = .ok (.aload_n 0, 1) := by decide +kernel
theorem dX3_tryTrees_1 : decode cX3_tryTrees 1 = .ok (.aload_n 1, 1) := by decide +kernel
theorem dX3_tryTrees_2 : decode cX3_tryTrees 2 = .ok (.aload_n 0, 1) := by decide +kernel
theorem dX3_tryTrees_3 : decode cX3_tryTrees 3 = .ok (.getfield 12, 3) := by decide +kernel
theorem dX3_tryTrees_6 : decode cX3_tryTrees 6 = .ok (.iload_n 2, 1) := by decide +kernel
theorem dX3_tryTrees_7 : decode cX3_tryTrees 7 = .ok (.iconst 0, 1) := by decide +kernel
theorem dX3_tryTrees_8 : decode cX3_tryTrees 8 = .ok (.invokevirtual 56, 3) := by decide +kernel
theorem dX3_tryTrees_11 : decode cX3_tryTrees 11 = .ok (.iload_n 3, 1) := by decide +kernel
theorem dX3_tryTrees_12 : decode cX3_tryTrees 12 = .ok (.iload 4, 2) := by decide +kernel
theorem dX3_tryTrees_14 : decode cX3_tryTrees 14 = .ok (.bipush (-9), 2) := by decide +kernel
theorem dX3_tryTrees_16 : decode cX3_tryTrees 16 = .ok (.invokevirtual 62, 3) := by decide +kernel
theorem dX3_tryTrees_19 : decode cX3_tryTrees 19 = .ok (.iconst 0, 1) := by decide +kernel
theorem dX3_tryTrees_20 : decode cX3_tryTrees 20 = .ok (.istore 5, 2) := by decide +kernel
theorem dX3_tryTrees_22 : decode cX3_tryTrees 22 = .ok (.iload 5, 2) := by decide +kernel
theorem dX3_tryTrees_24 : decode cX3_tryTrees 24 = .ok (.bipush 10, 2) := by decide +kernel
theorem dX3_tryTrees_26 : decode cX3_tryTrees 26 = .ok (.if_icmp .ge 46, 3) := by decide +kernel
theorem dX3_tryTrees_29 : decode cX3_tryTrees 29 = .ok (.aload_n 0, 1) := by decide +kernel
theorem dX3_tryTrees_30 : decode cX3_tryTrees 30 = .ok (.getfield 12, 3) := by decide +kernel
theorem dX3_tryTrees_33 : decode cX3_tryTrees 33 = .ok (.getfield 66, 3) := by decide +kernel
theorem dX3_tryTrees_36 : decode cX3_tryTrees 36 = .ok (.iload 5, 2) := by decide +kernel
theorem dX3_tryTrees_38 : decode cX3_tryTrees 38 = .ok (.invokestatic 52, 3) := by decide +kernel
theorem dX3_tryTrees_41 : decode cX3_tryTrees 41 = .ok (.ifCond .le 25, 3) := by decide +kernel
theorem dX3_tryTrees_44 : decode cX3_tryTrees 44 = .ok (.aload_n 0, 1) := by decide +kernel
theorem dX3_tryTrees_45 : decode cX3_tryTrees 45 = .ok (.aload_n 1, 1) := by decide +kernel
theorem dX3_tryTrees_46 : decode cX3_tryTrees 46 = .ok (.aload_n 0, 1) := by decide +kernel
theorem dX3_tryTrees_47 : decode cX3_tryTrees 47 = .ok (.getfield 12, 3) := by decide +kernel
theorem dX3_tryTrees_50 : decode cX3_tryTrees 50 = .ok (.iload_n 2, 1) := by decide +kernel
theorem dX3_tryTrees_51 : decode cX3_tryTrees 51 = .ok (.iconst 1, 1) := by decide +kernel
theorem dX3_tryTrees_52 : decode cX3_tryTrees 52 = .ok (.iload 5, 2) := by decide +kernel
theorem dX3_tryTrees_54 : decode cX3_tryTrees 54 = .ok (.ishl, 1) := by decide +kernel
theorem dX3_tryTrees_55 : decode cX3_tryTrees 55 = .ok (.invokevirtual 56, 3) := by decide +kernel
theorem dX3_tryTrees_58 : decode cX3_tryTrees 58 = .ok (.iload_n 3, 1) := by decide +kernel
theorem dX3_tryTrees_59 : decode cX3_tryTrees 59 = .ok (.iload 4, 2) := by decide +kernel
theorem dX3_tryTrees_61 : decode cX3_tryTrees 61 = .ok (.iload 5, 2) := by decide +kernel
theorem dX3_tryTrees_63 : decode cX3_tryTrees 63 = .ok (.invokevirtual 62, 3) := by decide +kernel
theorem dX3_tryTrees_66 : decode cX3_tryTrees 66 = .ok (.iinc 5 1, 3) := by decide +kernel
theorem dX3_tryTrees_69 : decode cX3_tryTrees 69 = .ok (.goto (-47), 3) := by decide +kernel
theorem dX3_tryTrees_72 : decode cX3_tryTrees 72 = .ok (.return_, 1) := by decide +kernel
theorem dX3_tryOne_0 : decode cX3_tryOne 0 = .ok (.iload_n 1, 1) := by decide +kernel
theorem dX3_tryOne_1 : decode cX3_tryOne 1 = .ok (.aload_n 0, 1) := by decide +kernel
theorem dX3_tryOne_2 : decode cX3_tryOne 2 = .ok (.getfield 18, 3) := by decide +kernel
theorem dX3_tryOne_5 : decode cX3_tryOne 5 = .ok (.if_icmp .le 24, 3) := by decide +kernel
theorem dX3_tryOne_8 : decode cX3_tryOne 8 = .ok (.aload_n 0, 1) := by decide +kernel
theorem dX3_tryOne_9 : decode cX3_tryOne 9 = .ok (.iload_n 1, 1) := by decide +kernel
theorem dX3_tryOne_10 : decode cX3_tryOne 10 = .ok (.putfield 18, 3) := by decide +kernel
theorem dX3_tryOne_13 : decode cX3_tryOne 13 = .ok (.aload_n 0, 1) := by decide +kernel
theorem dX3_tryOne_14 : decode cX3_tryOne 14 = .ok (.iload_n 2, 1) := by decide +kernel
theorem dX3_tryOne_15 : decode cX3_tryOne 15 = .ok (.putfield 69, 3) := by decide +kernel
theorem dX3_tryOne_18 : decode cX3_tryOne 18 = .ok (.aload_n 0, 1) := by decide +kernel
theorem dX3_tryOne_19 : decode cX3_tryOne 19 = .ok (.iload_n 3, 1) := by decide +kernel
theorem dX3_tryOne_20 : decode cX3_tryOne 20 = .ok (.putfield 72, 3) := by decide +kernel
theorem dX3_tryOne_23 : decode cX3_tryOne 23 = .ok (.aload_n 0, 1) := by decide +kernel
theorem dX3_tryOne_24 : decode cX3_tryOne 24 = .ok (.iload 4, 2) := by decide +kernel
theorem dX3_tryOne_26 : decode cX3_tryOne 26 = .ok (.putfield 75, 3) := by decide +kernel
theorem dX3_tryOne_29 : decode cX3_tryOne 29 = .ok (.return_, 1) := by decide +kernel
set_option maxRecDepth 20000 in
theorem ggX4_init_X2_init : GoodIn wsX4_init wsX2_init := goodIn_r _ [15, 16, 2, 3, 4, 17, 18, 19, 20, 21, 34, 35, 36, 37, 38, 39, 40, 41, 42, 43, 44] (by decide +kernel) (by decide +kernel)
set_option maxRecDepth 20000 in
theorem gX4_init_X2_init_n17 : GoodIn wsX4_init (wsX2_init) := ggX4_init_X2_init
set_option maxRecDepth 20000 in
theorem ggX4_init_X1_init : GoodIn wsX4_init wsX1_init := goodIn_r _ [23, 24, 2, 3, 4, 25, 26, 27, 45, 46, 47, 48] (by decide +kernel) (by decide +kernel)
set_option maxRecDepth 20000 in
theorem gX4_init_X1_init_n24 : GoodIn wsX4_init (wsX1_init) := ggX4_init_X1_init
theorem dX4_init_0 : decode cX4_init 0 = .ok (.aload_n 0, 1) := by decide +kernel
theorem dX4_init_1 : decode cX4_init 1 = .ok (.invokespecial 3, 3) := by decide +kernel
theorem dX4_init_4 : decode cX4_init 4 = .ok (.aload_n 0, 1) := by decide +kernel
theorem dX4_init_5 : decode cX4_init 5 = .ok (.bipush 64, 2) := by decide +kernel
theorem dX4_init_7 : decode cX4_init 7 = .ok (.newarray .int, 2) := by decide +kernel
theorem dX4_init_9 : decode cX4_init 9 = .ok (.putfield 9, 3) := by decide +kernel
theorem dX4_init_12 : decode cX4_init 12 = .ok (.aload_n 0, 1) := by decide +kernel
theorem dX4_init_13 : decode cX4_init 13 = .ok (.new 15, 3) := by decide +kernel
theorem dX4_init_16 : decode cX4_init 16 = .ok (.dup, 1) := by decide +kernel
theorem dX4_init_17 : decode cX4_init 17 = .ok (.invokespecial 17, 3) := by decide +kernel
theorem dX4_init_20 : decode cX4_init 20 = .ok (.putfield 18, 3) := by decide +kernel
theorem dX4_init_23 : decode cX4_init 23 = .ok (.aload_n 0, 1) := by decide +kernel
theorem dX4_init_24 : decode cX4_init 24 = .ok (.new 22, 3) := by decide +kernel
theorem dX4_init_27 : decode cX4_init 27 = .ok (.dup, 1) := by decide +kernel
theorem dX4_init_28 : decode cX4_init 28 = .ok (.invokespecial 24, 3) := by decide +kernel
theorem dX4_init_31 : decode cX4_init 31 = .ok (.putfield 25, 3) := by decide +kernel
theorem dX4_init_34 : decode cX4_init 34 = .ok (.return_, 1) := by decide +kernel
set_option maxRecDepth 20000 in
theorem ggX4_append_X7_put : GoodIn wsX4_append wsX7_put := goodIn_r _ [5] (by decide +kernel) (by decide +kernel)
set_option maxRecDepth 20000 in
theorem gX4_append_X7_put_n33 : GoodIn wsX4_append (wsX7_put) := ggX4_append_X7_put
theorem dX4_append_0 : decode cX4_append 0 = .ok (.aload_n 0, 1) := by decide +kernel
theorem dX4_append_1 : decode cX4_append 1 = .ok (.getfield 29, 3) := by decide +kernel
theorem dX4_append_4 : decode cX4_append 4 = .ok (.bipush 64, 2) := by decide +kernel
theorem dX4_append_6 : decode cX4_append 6 = .ok (.if_icmp .lt 6, 3) := by decide +kernel
theorem dX4_append_9 : decode cX4_append 9 = .ok (.bipush (-4), 2) := by decide +kernel
theorem dX4_append_11 : decode cX4_append 11 = .ok (.ireturn, 1) := by decide +kernel
theorem dX4_append_12 : decode cX4_append 12 = .ok (.aload_n 0, 1) := by decide +kernel
theorem dX4_append_13 : decode cX4_append 13 = .ok (.getfield 9, 3) := by decide +kernel
theorem dX4_append_16 : decode cX4_append 16 = .ok (.aload_n 0, 1) := by decide +kernel
theorem dX4_append_17 : decode cX4_append 17 = .ok (.getfield 29, 3) := by decide +kernel
theorem dX4_append_20 : decode cX4_append 20 = .ok (.iload_n 1, 1) := by decide +kernel
theorem dX4_append_21 : decode cX4_append 21 = .ok (.invokestatic 33, 3) := by decide +kernel
theorem dX4_append_24 : decode cX4_append 24 = .ok (.aload_n 0, 1) := by decide +kernel
theorem dX4_append_25 : decode cX4_append 25 = .ok (.dup, 1) := by decide +kernel
theorem dX4_append_26 : decode cX4_append 26 = .ok (.getfield 29, 3) := by decide +kernel
theorem dX4_append_29 : decode cX4_append 29 = .ok (.iconst 1, 1) := by decide +kernel
theorem dX4_append_30 : decode cX4_append 30 = .ok (.iadd, 1) := by decide +kernel
theorem dX4_append_31 : decode cX4_append 31 = .ok (.putfield 29, 3) := by decide +kernel
theorem dX4_append_34 : decode cX4_append 34 = .ok (.aload_n 0, 1) := by decide +kernel
theorem dX4_append_35 : decode cX4_append 35 = .ok (.getfield 29, 3) := by decide +kernel
theorem dX4_append_38 : decode cX4_append 38 = .ok (.ireturn, 1) := by decide +kernel
set_option maxRecDepth 20000 in
theorem ggX4_firstFault_X2_clear : GoodIn wsX4_firstFault wsX2_clear := goodIn_r _ [10, 11, 12, 13, 14, 15, 16, 17, 77, 78, 79, 80, 81, 82, 83, 84, 85, 86, 87] (by decide +kernel) (by decide +kernel)
set_option maxRecDepth 20000 in
theorem gX4_firstFault_X2_clear_n37 : GoodIn wsX4_firstFault (wsX2_clear) := ggX4_firstFault_X2_clear
set_option maxRecDepth 20000 in
theorem ggX4_firstFault_X7_at : GoodIn wsX4_firstFault wsX7_at := goodIn_r _ [20] (by decide +kernel) (by decide +kernel)
set_option maxRecDepth 20000 in
theorem gX4_firstFault_X7_at_n46 : GoodIn wsX4_firstFault (wsX7_at) := ggX4_firstFault_X7_at
set_option maxRecDepth 20000 in
theorem ggX4_firstFault_X4_readPart : GoodIn wsX4_firstFault wsX4_readPart := goodIn_r _ [25, 5, 3, 1, 2, 6, 18, 19, 20, 26, 8, 27, 28, 11, 29, 30, 31, 24, 32, 33, 34, 35, 36, 4, 37, 38, 39, 40, 41, 42, 43, 44, 45, 46, 47, 12, 48, 49, 50, 51, 52, 53, 54, 13, 14, 55, 56, 57, 58, 59, 60, 61, 62, 63, 64, 65, 66, 67, 68, 69, 70, 71, 72, 77, 78, 79, 80, 81, 82, 83, 84, 85, 86, 87, 73, 74, 75, 76] (by decide +kernel) (by decide +kernel)
set_option maxRecDepth 20000 in
theorem gX4_firstFault_X4_readPart : GoodIn wsX4_firstFault (wsV RX4 54 RX4 yX4_readPart wsX4_readPart) := goodIn_app (goodIn_of _ (by decide +kernel)) ggX4_firstFault_X4_readPart
theorem dX4_firstFault_0 : decode cX4_firstFault 0 = .ok (.aload_n 0, 1) := by decide +kernel
theorem dX4_firstFault_1 : decode cX4_firstFault 1 = .ok (.getfield 18, 3) := by decide +kernel
theorem dX4_firstFault_4 : decode cX4_firstFault 4 = .ok (.invokevirtual 37, 3) := by decide +kernel
theorem dX4_firstFault_7 : decode cX4_firstFault 7 = .ok (.aload_n 0, 1) := by decide +kernel
theorem dX4_firstFault_8 : decode cX4_firstFault 8 = .ok (.getfield 25, 3) := by decide +kernel
theorem dX4_firstFault_11 : decode cX4_firstFault 11 = .ok (.iconst 0, 1) := by decide +kernel
theorem dX4_firstFault_12 : decode cX4_firstFault 12 = .ok (.putfield 40, 3) := by decide +kernel
theorem dX4_firstFault_15 : decode cX4_firstFault 15 = .ok (.aload_n 0, 1) := by decide +kernel
theorem dX4_firstFault_16 : decode cX4_firstFault 16 = .ok (.iconst 0, 1) := by decide +kernel
theorem dX4_firstFault_17 : decode cX4_firstFault 17 = .ok (.putfield 43, 3) := by decide +kernel
theorem dX4_firstFault_20 : decode cX4_firstFault 20 = .ok (.aload_n 0, 1) := by decide +kernel
theorem dX4_firstFault_21 : decode cX4_firstFault 21 = .ok (.aload_n 0, 1) := by decide +kernel
theorem dX4_firstFault_22 : decode cX4_firstFault 22 = .ok (.getfield 29, 3) := by decide +kernel
theorem dX4_firstFault_25 : decode cX4_firstFault 25 = .ok (.ifCond .eq 16, 3) := by decide +kernel
theorem dX4_firstFault_28 : decode cX4_firstFault 28 = .ok (.aload_n 0, 1) := by decide +kernel
theorem dX4_firstFault_29 : decode cX4_firstFault 29 = .ok (.getfield 9, 3) := by decide +kernel
theorem dX4_firstFault_32 : decode cX4_firstFault 32 = .ok (.iconst 0, 1) := by decide +kernel
theorem dX4_firstFault_33 : decode cX4_firstFault 33 = .ok (.invokestatic 46, 3) := by decide +kernel
theorem dX4_firstFault_36 : decode cX4_firstFault 36 = .ok (.bipush 72, 2) := by decide +kernel
theorem dX4_firstFault_38 : decode cX4_firstFault 38 = .ok (.if_icmp .eq 7, 3) := by decide +kernel
theorem dX4_firstFault_41 : decode cX4_firstFault 41 = .ok (.iconst 1, 1) := by decide +kernel
theorem dX4_firstFault_42 : decode cX4_firstFault 42 = .ok (.goto 4, 3) := by decide +kernel
theorem dX4_firstFault_45 : decode cX4_firstFault 45 = .ok (.iconst 0, 1) := by decide +kernel
theorem dX4_firstFault_46 : decode cX4_firstFault 46 = .ok (.putfield 50, 3) := by decide +kernel
theorem dX4_firstFault_49 : decode cX4_firstFault 49 = .ok (.aload_n 0, 1) := by decide +kernel
theorem dX4_firstFault_50 : decode cX4_firstFault 50 = .ok (.getfield 50, 3) := by decide +kernel
theorem dX4_firstFault_53 : decode cX4_firstFault 53 = .ok (.ifCond .ne 13, 3) := by decide +kernel
theorem dX4_firstFault_56 : decode cX4_firstFault 56 = .ok (.aload_n 0, 1) := by decide +kernel
theorem dX4_firstFault_57 : decode cX4_firstFault 57 = .ok (.dup, 1) := by decide +kernel
theorem dX4_firstFault_58 : decode cX4_firstFault 58 = .ok (.getfield 43, 3) := by decide +kernel
theorem dX4_firstFault_61 : decode cX4_firstFault 61 = .ok (.iconst 1, 1) := by decide +kernel
theorem dX4_firstFault_62 : decode cX4_firstFault 62 = .ok (.iadd, 1) := by decide +kernel
theorem dX4_firstFault_63 : decode cX4_firstFault 63 = .ok (.putfield 43, 3) := by decide +kernel
theorem dX4_firstFault_66 : decode cX4_firstFault 66 = .ok (.iconst 0, 1) := by decide +kernel
theorem dX4_firstFault_67 : decode cX4_firstFault 67 = .ok (.istore_n 1, 1) := by decide +kernel
theorem dX4_firstFault_68 : decode cX4_firstFault 68 = .ok (.iload_n 1, 1) := by decide +kernel
theorem dX4_firstFault_69 : decode cX4_firstFault 69 = .ok (.bipush 64, 2) := by decide +kernel
end
section
theorem dX4_firstFault_71 : decode cX4_firstFault 71 = .ok (.if_icmp .ge 31, 3) := by decide +kernel
theorem dX4_firstFault_74 : decode cX4_firstFault 74 = .ok (.aload_n 0, 1) := by decide +kernel
theorem dX4_firstFault_75 : decode cX4_firstFault 75 = .ok (.getfield 50, 3) := by decide +kernel
theorem dX4_firstFault_78 : decode cX4_firstFault 78 = .ok (.ifCond .ne 24, 3) := by decide +kernel
theorem dX4_firstFault_81 : decode cX4_firstFault 81 = .ok (.aload_n 0, 1) := by decide +kernel
theorem dX4_firstFault_82 : decode cX4_firstFault 82 = .ok (.getfield 43, 3) := by decide +kernel
theorem dX4_firstFault_85 : decode cX4_firstFault 85 = .ok (.aload_n 0, 1) := by decide +kernel
theorem dX4_firstFault_86 : decode cX4_firstFault 86 = .ok (.getfield 29, 3) := by decide +kernel
theorem dX4_firstFault_89 : decode cX4_firstFault 89 = .ok (.if_icmp .ge 13, 3) := by decide +kernel
theorem dX4_firstFault_92 : decode cX4_firstFault 92 = .ok (.aload_n 0, 1) := by decide +kernel
theorem dX4_firstFault_93 : decode cX4_firstFault 93 = .ok (.invokevirtual 54, 3) := by decide +kernel
theorem dX4_firstFault_96 : decode cX4_firstFault 96 = .ok (.iinc 1 1, 3) := by decide +kernel
theorem dX4_firstFault_99 : decode cX4_firstFault 99 = .ok (.goto (-31), 3) := by decide +kernel
theorem dX4_firstFault_102 : decode cX4_firstFault 102 = .ok (.aload_n 0, 1) := by decide +kernel
theorem dX4_firstFault_103 : decode cX4_firstFault 103 = .ok (.getfield 50, 3) := by decide +kernel
theorem dX4_firstFault_106 : decode cX4_firstFault 106 = .ok (.ifCond .eq 10, 3) := by decide +kernel
theorem dX4_firstFault_109 : decode cX4_firstFault 109 = .ok (.aload_n 0, 1) := by decide +kernel
theorem dX4_firstFault_110 : decode cX4_firstFault 110 = .ok (.getfield 43, 3) := by decide +kernel
theorem dX4_firstFault_113 : decode cX4_firstFault 113 = .ok (.goto 5, 3) := by decide +kernel
theorem dX4_firstFault_116 : decode cX4_firstFault 116 = .ok (.bipush (-9), 2) := by decide +kernel
theorem dX4_firstFault_118 : decode cX4_firstFault 118 = .ok (.ireturn, 1) := by decide +kernel
set_option maxRecDepth 20000 in
theorem ggX4_readPart_X7_at : GoodIn wsX4_readPart wsX7_at := goodIn_r _ [8] (by decide +kernel) (by decide +kernel)
set_option maxRecDepth 20000 in
theorem gX4_readPart_X7_at_n46 : GoodIn wsX4_readPart (wsX7_at) := ggX4_readPart_X7_at
set_option maxRecDepth 20000 in
theorem ggX4_readPart_X2_treeCells : GoodIn wsX4_readPart wsX2_treeCells := goodIn_r _ [12, 13, 63, 64, 65, 66, 67, 68, 69, 70, 71, 72, 73] (by decide +kernel) (by decide +kernel)
set_option maxRecDepth 20000 in
theorem gX4_readPart_X2_treeCells_n57 : GoodIn wsX4_readPart (wsX2_treeCells) := ggX4_readPart_X2_treeCells
set_option maxRecDepth 20000 in
theorem ggX4_readPart_X4_readTree : GoodIn wsX4_readPart wsX4_readTree := goodIn_r _ [18, 5, 3, 19, 20, 21, 17, 22, 1, 2, 23, 6, 7, 8, 24, 25, 26, 27, 57, 58, 59, 60, 61, 62, 63, 64, 65, 66, 67, 68, 69, 70, 71, 72, 73] (by decide +kernel) (by decide +kernel)
set_option maxRecDepth 20000 in
theorem gX4_readPart_X4_readTree : GoodIn wsX4_readPart (wsV RX4 61 RX4 yX4_readTree wsX4_readTree) := goodIn_app (goodIn_of _ (by decide +kernel)) ggX4_readPart_X4_readTree
set_option maxRecDepth 20000 in
theorem ggX4_readPart_X4_readCock : GoodIn wsX4_readPart wsX4_readCock := goodIn_r _ [31, 3, 5, 32, 10, 33, 34, 35, 36, 6, 7, 8, 19, 20, 21, 17, 22, 1, 2, 23, 24, 25, 37, 38, 39, 40, 41, 42, 43, 44, 26, 27, 57, 58, 59, 60, 61, 62, 63, 64, 65, 66, 67, 68, 69, 70, 71, 72, 73] (by decide +kernel) (by decide +kernel)
set_option maxRecDepth 20000 in
theorem gX4_readPart_X4_readCock : GoodIn wsX4_readPart (wsV RX4 68 RX4 yX4_readCock wsX4_readCock) := goodIn_app (goodIn_of _ (by decide +kernel)) ggX4_readPart_X4_readCock
set_option maxRecDepth 20000 in
theorem ggX4_readPart_X4_readWind : GoodIn wsX4_readPart wsX4_readWind := goodIn_r _ [48, 5, 4, 19, 20, 21, 17, 22, 1, 2, 23, 6, 7, 8, 24, 25, 49, 50, 51, 52, 53, 54, 55, 56, 26, 27, 57, 58, 59, 60, 61, 62, 74, 75, 76, 77] (by decide +kernel) (by decide +kernel)
set_option maxRecDepth 20000 in
theorem gX4_readPart_X4_readWind : GoodIn wsX4_readPart (wsV RX4 71 RX4 yX4_readWind wsX4_readWind) := goodIn_app (goodIn_of _ (by decide +kernel)) ggX4_readPart_X4_readWind
theorem dX4_readPart_0 : decode cX4_readPart 0 = .ok (.aload_n 0, 1) := by decide +kernel
theorem dX4_readPart_1 : decode cX4_readPart 1 = .ok (.getfield 9, 3) := by decide +kernel
theorem dX4_readPart_4 : decode cX4_readPart 4 = .ok (.aload_n 0, 1) := by decide +kernel
theorem dX4_readPart_5 : decode cX4_readPart 5 = .ok (.getfield 43, 3) := by decide +kernel
theorem dX4_readPart_8 : decode cX4_readPart 8 = .ok (.invokestatic 46, 3) := by decide +kernel
theorem dX4_readPart_11 : decode cX4_readPart 11 = .ok (.istore_n 1, 1) := by decide +kernel
theorem dX4_readPart_12 : decode cX4_readPart 12 = .ok (.sipush 1023, 3) := by decide +kernel
theorem dX4_readPart_15 : decode cX4_readPart 15 = .ok (.aload_n 0, 1) := by decide +kernel
theorem dX4_readPart_16 : decode cX4_readPart 16 = .ok (.getfield 18, 3) := by decide +kernel
theorem dX4_readPart_19 : decode cX4_readPart 19 = .ok (.invokevirtual 57, 3) := by decide +kernel
theorem dX4_readPart_22 : decode cX4_readPart 22 = .ok (.iconst (-1), 1) := by decide +kernel
theorem dX4_readPart_23 : decode cX4_readPart 23 = .ok (.ixor, 1) := by decide +kernel
theorem dX4_readPart_24 : decode cX4_readPart 24 = .ok (.iand, 1) := by decide +kernel
theorem dX4_readPart_25 : decode cX4_readPart 25 = .ok (.istore_n 2, 1) := by decide +kernel
theorem dX4_readPart_26 : decode cX4_readPart 26 = .ok (.iload_n 1, 1) := by decide +kernel
theorem dX4_readPart_27 : decode cX4_readPart 27 = .ok (.bipush 84, 2) := by decide +kernel
theorem dX4_readPart_29 : decode cX4_readPart 29 = .ok (.if_icmp .ne 25, 3) := by decide +kernel
theorem dX4_readPart_32 : decode cX4_readPart 32 = .ok (.iload_n 2, 1) := by decide +kernel
theorem dX4_readPart_33 : decode cX4_readPart 33 = .ok (.ifCond .eq 21, 3) := by decide +kernel
theorem dX4_readPart_36 : decode cX4_readPart 36 = .ok (.aload_n 0, 1) := by decide +kernel
theorem dX4_readPart_37 : decode cX4_readPart 37 = .ok (.dup, 1) := by decide +kernel
theorem dX4_readPart_38 : decode cX4_readPart 38 = .ok (.getfield 43, 3) := by decide +kernel
theorem dX4_readPart_41 : decode cX4_readPart 41 = .ok (.iconst 1, 1) := by decide +kernel
theorem dX4_readPart_42 : decode cX4_readPart 42 = .ok (.iadd, 1) := by decide +kernel
theorem dX4_readPart_43 : decode cX4_readPart 43 = .ok (.putfield 43, 3) := by decide +kernel
theorem dX4_readPart_46 : decode cX4_readPart 46 = .ok (.aload_n 0, 1) := by decide +kernel
theorem dX4_readPart_47 : decode cX4_readPart 47 = .ok (.iload_n 2, 1) := by decide +kernel
theorem dX4_readPart_48 : decode cX4_readPart 48 = .ok (.invokevirtual 61, 3) := by decide +kernel
theorem dX4_readPart_51 : decode cX4_readPart 51 = .ok (.goto 77, 3) := by decide +kernel
theorem dX4_readPart_54 : decode cX4_readPart 54 = .ok (.iload_n 1, 1) := by decide +kernel
theorem dX4_readPart_55 : decode cX4_readPart 55 = .ok (.bipush 67, 2) := by decide +kernel
theorem dX4_readPart_57 : decode cX4_readPart 57 = .ok (.if_icmp .ne 32, 3) := by decide +kernel
theorem dX4_readPart_60 : decode cX4_readPart 60 = .ok (.aload_n 0, 1) := by decide +kernel
theorem dX4_readPart_61 : decode cX4_readPart 61 = .ok (.getfield 18, 3) := by decide +kernel
theorem dX4_readPart_64 : decode cX4_readPart 64 = .ok (.getfield 65, 3) := by decide +kernel
theorem dX4_readPart_67 : decode cX4_readPart 67 = .ok (.bipush 6, 2) := by decide +kernel
theorem dX4_readPart_69 : decode cX4_readPart 69 = .ok (.if_icmp .ge 20, 3) := by decide +kernel
theorem dX4_readPart_72 : decode cX4_readPart 72 = .ok (.aload_n 0, 1) := by decide +kernel
theorem dX4_readPart_73 : decode cX4_readPart 73 = .ok (.dup, 1) := by decide +kernel
theorem dX4_readPart_74 : decode cX4_readPart 74 = .ok (.getfield 43, 3) := by decide +kernel
theorem dX4_readPart_77 : decode cX4_readPart 77 = .ok (.iconst 1, 1) := by decide +kernel
theorem dX4_readPart_78 : decode cX4_readPart 78 = .ok (.iadd, 1) := by decide +kernel
theorem dX4_readPart_79 : decode cX4_readPart 79 = .ok (.putfield 43, 3) := by decide +kernel
theorem dX4_readPart_82 : decode cX4_readPart 82 = .ok (.aload_n 0, 1) := by decide +kernel
theorem dX4_readPart_83 : decode cX4_readPart 83 = .ok (.invokevirtual 68, 3) := by decide +kernel
theorem dX4_readPart_86 : decode cX4_readPart 86 = .ok (.goto 42, 3) := by decide +kernel
theorem dX4_readPart_89 : decode cX4_readPart 89 = .ok (.iload_n 1, 1) := by decide +kernel
theorem dX4_readPart_90 : decode cX4_readPart 90 = .ok (.bipush 87, 2) := by decide +kernel
theorem dX4_readPart_92 : decode cX4_readPart 92 = .ok (.if_icmp .ne 31, 3) := by decide +kernel
theorem dX4_readPart_95 : decode cX4_readPart 95 = .ok (.aload_n 0, 1) := by decide +kernel
theorem dX4_readPart_96 : decode cX4_readPart 96 = .ok (.getfield 25, 3) := by decide +kernel
theorem dX4_readPart_99 : decode cX4_readPart 99 = .ok (.getfield 40, 3) := by decide +kernel
theorem dX4_readPart_102 : decode cX4_readPart 102 = .ok (.iconst 4, 1) := by decide +kernel
theorem dX4_readPart_103 : decode cX4_readPart 103 = .ok (.if_icmp .ge 20, 3) := by decide +kernel
theorem dX4_readPart_106 : decode cX4_readPart 106 = .ok (.aload_n 0, 1) := by decide +kernel
theorem dX4_readPart_107 : decode cX4_readPart 107 = .ok (.dup, 1) := by decide +kernel
theorem dX4_readPart_108 : decode cX4_readPart 108 = .ok (.getfield 43, 3) := by decide +kernel
theorem dX4_readPart_111 : decode cX4_readPart 111 = .ok (.iconst 1, 1) := by decide +kernel
theorem dX4_readPart_112 : decode cX4_readPart 112 = .ok (.iadd, 1) := by decide +kernel
theorem dX4_readPart_113 : decode cX4_readPart 113 = .ok (.putfield 43, 3) := by decide +kernel
theorem dX4_readPart_116 : decode cX4_readPart 116 = .ok (.aload_n 0, 1) := by decide +kernel
theorem dX4_readPart_117 : decode cX4_readPart 117 = .ok (.invokevirtual 71, 3) := by decide +kernel
theorem dX4_readPart_120 : decode cX4_readPart 120 = .ok (.goto 8, 3) := by decide +kernel
theorem dX4_readPart_123 : decode cX4_readPart 123 = .ok (.aload_n 0, 1) := by decide +kernel
theorem dX4_readPart_124 : decode cX4_readPart 124 = .ok (.iconst 1, 1) := by decide +kernel
theorem dX4_readPart_125 : decode cX4_readPart 125 = .ok (.putfield 50, 3) := by decide +kernel
theorem dX4_readPart_128 : decode cX4_readPart 128 = .ok (.return_, 1) := by decide +kernel
set_option maxRecDepth 20000 in
theorem ggX4_readTree_X4_figure : GoodIn wsX4_readTree wsX4_figure := goodIn_r _ [7, 8, 9, 1, 10, 11, 12, 13, 14, 15, 18, 19, 20, 21, 22, 23] (by decide +kernel) (by decide +kernel)
set_option maxRecDepth 20000 in
theorem gX4_readTree_X4_figure : GoodIn wsX4_readTree (wsV RX4 74 RX4 yX4_figure wsX4_figure) := goodIn_app (goodIn_of _ (by decide +kernel)) ggX4_readTree_X4_figure
set_option maxRecDepth 20000 in
theorem ggX4_readTree_X7_put : GoodIn wsX4_readTree wsX7_put := goodIn_r _ [17] (by decide +kernel) (by decide +kernel)
set_option maxRecDepth 20000 in
theorem gX4_readTree_X7_put_n33 : GoodIn wsX4_readTree (wsX7_put) := ggX4_readTree_X7_put
theorem dX4_readTree_0 : decode cX4_readTree 0 = .ok (.aload_n 0, 1) := by decide +kernel
theorem dX4_readTree_1 : decode cX4_readTree 1 = .ok (.iload_n 1, 1) := by decide +kernel
theorem dX4_readTree_2 : decode cX4_readTree 2 = .ok (.invokevirtual 74, 3) := by decide +kernel
theorem dX4_readTree_5 : decode cX4_readTree 5 = .ok (.istore_n 2, 1) := by decide +kernel
theorem dX4_readTree_6 : decode cX4_readTree 6 = .ok (.aload_n 0, 1) := by decide +kernel
theorem dX4_readTree_7 : decode cX4_readTree 7 = .ok (.bipush 14, 2) := by decide +kernel
theorem dX4_readTree_9 : decode cX4_readTree 9 = .ok (.invokevirtual 74, 3) := by decide +kernel
theorem dX4_readTree_12 : decode cX4_readTree 12 = .ok (.istore_n 3, 1) := by decide +kernel
theorem dX4_readTree_13 : decode cX4_readTree 13 = .ok (.aload_n 0, 1) := by decide +kernel
theorem dX4_readTree_14 : decode cX4_readTree 14 = .ok (.getfield 50, 3) := by decide +kernel
theorem dX4_readTree_17 : decode cX4_readTree 17 = .ok (.ifCond .ne 15, 3) := by decide +kernel
theorem dX4_readTree_20 : decode cX4_readTree 20 = .ok (.aload_n 0, 1) := by decide +kernel
theorem dX4_readTree_21 : decode cX4_readTree 21 = .ok (.getfield 18, 3) := by decide +kernel
theorem dX4_readTree_24 : decode cX4_readTree 24 = .ok (.getfield 78, 3) := by decide +kernel
theorem dX4_readTree_27 : decode cX4_readTree 27 = .ok (.iload_n 2, 1) := by decide +kernel
theorem dX4_readTree_28 : decode cX4_readTree 28 = .ok (.iload_n 3, 1) := by decide +kernel
theorem dX4_readTree_29 : decode cX4_readTree 29 = .ok (.invokestatic 33, 3) := by decide +kernel
theorem dX4_readTree_32 : decode cX4_readTree 32 = .ok (.return_, 1) := by decide +kernel
set_option maxRecDepth 20000 in
theorem ggX4_readCock_X2_takenCells : GoodIn wsX4_readCock wsX2_takenCells := goodIn_r _ [6, 7, 8, 9, 10, 11, 38, 39, 40, 41, 42, 43, 44, 45, 46, 47, 48] (by decide +kernel) (by decide +kernel)
set_option maxRecDepth 20000 in
theorem gX4_readCock_X2_takenCells_n81 : GoodIn wsX4_readCock (wsX2_takenCells) := ggX4_readCock_X2_takenCells
set_option maxRecDepth 20000 in
theorem ggX4_readCock_X4_figure : GoodIn wsX4_readCock wsX4_figure := goodIn_r _ [16, 17, 18, 2, 19, 9, 10, 11, 20, 21, 32, 33, 34, 35, 36, 37] (by decide +kernel) (by decide +kernel)
set_option maxRecDepth 20000 in
theorem gX4_readCock_X4_figure : GoodIn wsX4_readCock (wsV RX4 74 RX4 yX4_figure wsX4_figure) := goodIn_app (goodIn_of _ (by decide +kernel)) ggX4_readCock_X4_figure
set_option maxRecDepth 20000 in
theorem ggX4_readCock_X2_addCock : GoodIn wsX4_readCock wsX2_addCock := goodIn_r _ [24, 8, 7, 25, 26, 27, 28, 29, 30, 10, 31, 38, 39, 40, 41, 42, 43, 44, 45, 46, 47, 48] (by decide +kernel) (by decide +kernel)
set_option maxRecDepth 20000 in
theorem gX4_readCock_X2_addCock_n84 : GoodIn wsX4_readCock (wsX2_addCock) := ggX4_readCock_X2_addCock
theorem dX4_readCock_0 : decode cX4_readCock 0 = .ok (.aload_n 0, 1) := by decide +kernel
theorem dX4_readCock_1 : decode cX4_readCock 1 = .ok (.sipush 1023, 3) := by decide +kernel
theorem dX4_readCock_4 : decode cX4_readCock 4 = .ok (.aload_n 0, 1) := by decide +kernel
theorem dX4_readCock_5 : decode cX4_readCock 5 = .ok (.getfield 18, 3) := by decide +kernel
theorem dX4_readCock_8 : decode cX4_readCock 8 = .ok (.invokevirtual 81, 3) := by decide +kernel
theorem dX4_readCock_11 : decode cX4_readCock 11 = .ok (.iconst (-1), 1) := by decide +kernel
theorem dX4_readCock_12 : decode cX4_readCock 12 = .ok (.ixor, 1) := by decide +kernel
theorem dX4_readCock_13 : decode cX4_readCock 13 = .ok (.iand, 1) := by decide +kernel
theorem dX4_readCock_14 : decode cX4_readCock 14 = .ok (.invokevirtual 74, 3) := by decide +kernel
theorem dX4_readCock_17 : decode cX4_readCock 17 = .ok (.istore_n 1, 1) := by decide +kernel
theorem dX4_readCock_18 : decode cX4_readCock 18 = .ok (.aload_n 0, 1) := by decide +kernel
theorem dX4_readCock_19 : decode cX4_readCock 19 = .ok (.iconst 3, 1) := by decide +kernel
theorem dX4_readCock_20 : decode cX4_readCock 20 = .ok (.invokevirtual 74, 3) := by decide +kernel
theorem dX4_readCock_23 : decode cX4_readCock 23 = .ok (.istore_n 2, 1) := by decide +kernel
theorem dX4_readCock_24 : decode cX4_readCock 24 = .ok (.aload_n 0, 1) := by decide +kernel
theorem dX4_readCock_25 : decode cX4_readCock 25 = .ok (.bipush 15, 2) := by decide +kernel
theorem dX4_readCock_27 : decode cX4_readCock 27 = .ok (.invokevirtual 74, 3) := by decide +kernel
theorem dX4_readCock_30 : decode cX4_readCock 30 = .ok (.istore_n 3, 1) := by decide +kernel
theorem dX4_readCock_31 : decode cX4_readCock 31 = .ok (.aload_n 0, 1) := by decide +kernel
theorem dX4_readCock_32 : decode cX4_readCock 32 = .ok (.bipush 31, 2) := by decide +kernel
theorem dX4_readCock_34 : decode cX4_readCock 34 = .ok (.invokevirtual 74, 3) := by decide +kernel
theorem dX4_readCock_37 : decode cX4_readCock 37 = .ok (.istore 4, 2) := by decide +kernel
theorem dX4_readCock_39 : decode cX4_readCock 39 = .ok (.aload_n 0, 1) := by decide +kernel
theorem dX4_readCock_40 : decode cX4_readCock 40 = .ok (.sipush 1022, 3) := by decide +kernel
theorem dX4_readCock_43 : decode cX4_readCock 43 = .ok (.invokevirtual 74, 3) := by decide +kernel
theorem dX4_readCock_46 : decode cX4_readCock 46 = .ok (.istore 5, 2) := by decide +kernel
theorem dX4_readCock_48 : decode cX4_readCock 48 = .ok (.aload_n 0, 1) := by decide +kernel
theorem dX4_readCock_49 : decode cX4_readCock 49 = .ok (.iconst 3, 1) := by decide +kernel
theorem dX4_readCock_50 : decode cX4_readCock 50 = .ok (.invokevirtual 74, 3) := by decide +kernel
theorem dX4_readCock_53 : decode cX4_readCock 53 = .ok (.istore 6, 2) := by decide +kernel
theorem dX4_readCock_55 : decode cX4_readCock 55 = .ok (.aload_n 0, 1) := by decide +kernel
theorem dX4_readCock_56 : decode cX4_readCock 56 = .ok (.getfield 50, 3) := by decide +kernel
theorem dX4_readCock_59 : decode cX4_readCock 59 = .ok (.ifCond .ne 19, 3) := by decide +kernel
theorem dX4_readCock_62 : decode cX4_readCock 62 = .ok (.aload_n 0, 1) := by decide +kernel
theorem dX4_readCock_63 : decode cX4_readCock 63 = .ok (.getfield 18, 3) := by decide +kernel
theorem dX4_readCock_66 : decode cX4_readCock 66 = .ok (.iload_n 1, 1) := by decide +kernel
theorem dX4_readCock_67 : decode cX4_readCock 67 = .ok (.iload_n 2, 1) := by decide +kernel
theorem dX4_readCock_68 : decode cX4_readCock 68 = .ok (.iload_n 3, 1) := by decide +kernel
theorem dX4_readCock_69 : decode cX4_readCock 69 = .ok (.iload 4, 2) := by decide +kernel
theorem dX4_readCock_71 : decode cX4_readCock 71 = .ok (.iload 5, 2) := by decide +kernel
theorem dX4_readCock_73 : decode cX4_readCock 73 = .ok (.iload 6, 2) := by decide +kernel
theorem dX4_readCock_75 : decode cX4_readCock 75 = .ok (.invokevirtual 84, 3) := by decide +kernel
theorem dX4_readCock_78 : decode cX4_readCock 78 = .ok (.return_, 1) := by decide +kernel
set_option maxRecDepth 20000 in
theorem ggX4_readWind_X4_figure : GoodIn wsX4_readWind wsX4_figure := goodIn_r _ [7, 8, 9, 1, 10, 11, 12, 13, 14, 15, 26, 27, 28, 29, 30, 31] (by decide +kernel) (by decide +kernel)
set_option maxRecDepth 20000 in
theorem gX4_readWind_X4_figure : GoodIn wsX4_readWind (wsV RX4 74 RX4 yX4_figure wsX4_figure) := goodIn_app (goodIn_of _ (by decide +kernel)) ggX4_readWind_X4_figure
set_option maxRecDepth 20000 in
theorem ggX4_readWind_X1_addWind : GoodIn wsX4_readWind wsX1_addWind := goodIn_r _ [19, 20, 21, 22, 23, 24, 12, 25, 32, 33, 34, 35] (by decide +kernel) (by decide +kernel)
set_option maxRecDepth 20000 in
theorem gX4_readWind_X1_addWind_n88 : GoodIn wsX4_readWind (wsX1_addWind) := ggX4_readWind_X1_addWind
theorem dX4_readWind_0 : decode cX4_readWind 0 = .ok (.aload_n 0, 1) := by decide +kernel
theorem dX4_readWind_1 : decode cX4_readWind 1 = .ok (.iconst 3, 1) := by decide +kernel
theorem dX4_readWind_2 : decode cX4_readWind 2 = .ok (.invokevirtual 74, 3) := by decide +kernel
theorem dX4_readWind_5 : decode cX4_readWind 5 = .ok (.istore_n 1, 1) := by decide +kernel
theorem dX4_readWind_6 : decode cX4_readWind 6 = .ok (.aload_n 0, 1) := by decide +kernel
theorem dX4_readWind_7 : decode cX4_readWind 7 = .ok (.bipush 63, 2) := by decide +kernel
theorem dX4_readWind_9 : decode cX4_readWind 9 = .ok (.invokevirtual 74, 3) := by decide +kernel
theorem dX4_readWind_12 : decode cX4_readWind 12 = .ok (.istore_n 2, 1) := by decide +kernel
theorem dX4_readWind_13 : decode cX4_readWind 13 = .ok (.aload_n 0, 1) := by decide +kernel
theorem dX4_readWind_14 : decode cX4_readWind 14 = .ok (.sipush 1022, 3) := by decide +kernel
theorem dX4_readWind_17 : decode cX4_readWind 17 = .ok (.invokevirtual 74, 3) := by decide +kernel
theorem dX4_readWind_20 : decode cX4_readWind 20 = .ok (.istore_n 3, 1) := by decide +kernel
theorem dX4_readWind_21 : decode cX4_readWind 21 = .ok (.aload_n 0, 1) := by decide +kernel
theorem dX4_readWind_22 : decode cX4_readWind 22 = .ok (.getfield 50, 3) := by decide +kernel
theorem dX4_readWind_25 : decode cX4_readWind 25 = .ok (.ifCond .ne 13, 3) := by decide +kernel
theorem dX4_readWind_28 : decode cX4_readWind 28 = .ok (.aload_n 0, 1) := by decide +kernel
theorem dX4_readWind_29 : decode cX4_readWind 29 = .ok (.getfield 25, 3) := by decide +kernel
theorem dX4_readWind_32 : decode cX4_readWind 32 = .ok (.iload_n 1, 1) := by decide +kernel
theorem dX4_readWind_33 : decode cX4_readWind 33 = .ok (.iload_n 2, 1) := by decide +kernel
theorem dX4_readWind_34 : decode cX4_readWind 34 = .ok (.iload_n 3, 1) := by decide +kernel
theorem dX4_readWind_35 : decode cX4_readWind 35 = .ok (.invokevirtual 88, 3) := by decide +kernel
theorem dX4_readWind_38 : decode cX4_readWind 38 = .ok (.return_, 1) := by decide +kernel
set_option maxRecDepth 20000 in
theorem ggX4_figure_X7_at : GoodIn wsX4_figure wsX7_at := goodIn_r _ [7] (by decide +kernel) (by decide +kernel)
set_option maxRecDepth 20000 in
theorem gX4_figure_X7_at_n46 : GoodIn wsX4_figure (wsX7_at) := ggX4_figure_X7_at
set_option maxRecDepth 20000 in
theorem ggX4_figure_X7_bit : GoodIn wsX4_figure wsX7_bit := goodIn_r _ [9] (by decide +kernel) (by decide +kernel)
set_option maxRecDepth 20000 in
theorem gX4_figure_X7_bit_n92 : GoodIn wsX4_figure (wsX7_bit) := ggX4_figure_X7_bit
theorem dX4_figure_0 : decode cX4_figure 0 = .ok (.aload_n 0, 1) := by decide +kernel
theorem dX4_figure_1 : decode cX4_figure 1 = .ok (.getfield 9, 3) := by decide +kernel
theorem dX4_figure_4 : decode cX4_figure 4 = .ok (.aload_n 0, 1) := by decide +kernel
theorem dX4_figure_5 : decode cX4_figure 5 = .ok (.getfield 43, 3) := by decide +kernel
theorem dX4_figure_8 : decode cX4_figure 8 = .ok (.invokestatic 46, 3) := by decide +kernel
theorem dX4_figure_11 : decode cX4_figure 11 = .ok (.bipush 48, 2) := by decide +kernel
theorem dX4_figure_13 : decode cX4_figure 13 = .ok (.isub, 1) := by decide +kernel
theorem dX4_figure_14 : decode cX4_figure 14 = .ok (.istore_n 2, 1) := by decide +kernel
theorem dX4_figure_15 : decode cX4_figure 15 = .ok (.aload_n 0, 1) := by decide +kernel
theorem dX4_figure_16 : decode cX4_figure 16 = .ok (.getfield 50, 3) := by decide +kernel
theorem dX4_figure_19 : decode cX4_figure 19 = .ok (.ifCond .ne 32, 3) := by decide +kernel
theorem dX4_figure_22 : decode cX4_figure 22 = .ok (.aload_n 0, 1) := by decide +kernel
theorem dX4_figure_23 : decode cX4_figure 23 = .ok (.getfield 43, 3) := by decide +kernel
theorem dX4_figure_26 : decode cX4_figure 26 = .ok (.aload_n 0, 1) := by decide +kernel
theorem dX4_figure_27 : decode cX4_figure 27 = .ok (.getfield 29, 3) := by decide +kernel
theorem dX4_figure_30 : decode cX4_figure 30 = .ok (.if_icmp .ge 21, 3) := by decide +kernel
theorem dX4_figure_33 : decode cX4_figure 33 = .ok (.iload_n 2, 1) := by decide +kernel
theorem dX4_figure_34 : decode cX4_figure 34 = .ok (.ifCond .lt 17, 3) := by decide +kernel
theorem dX4_figure_37 : decode cX4_figure 37 = .ok (.iload_n 2, 1) := by decide +kernel
theorem dX4_figure_38 : decode cX4_figure 38 = .ok (.bipush 9, 2) := by decide +kernel
theorem dX4_figure_40 : decode cX4_figure 40 = .ok (.if_icmp .gt 11, 3) := by decide +kernel
theorem dX4_figure_43 : decode cX4_figure 43 = .ok (.iload_n 1, 1) := by decide +kernel
theorem dX4_figure_44 : decode cX4_figure 44 = .ok (.iload_n 2, 1) := by decide +kernel
theorem dX4_figure_45 : decode cX4_figure 45 = .ok (.invokestatic 92, 3) := by decide +kernel
theorem dX4_figure_48 : decode cX4_figure 48 = .ok (.ifCond .ne 10, 3) := by decide +kernel
theorem dX4_figure_51 : decode cX4_figure 51 = .ok (.aload_n 0, 1) := by decide +kernel
theorem dX4_figure_52 : decode cX4_figure 52 = .ok (.iconst 1, 1) := by decide +kernel
theorem dX4_figure_53 : decode cX4_figure 53 = .ok (.putfield 50, 3) := by decide +kernel
theorem dX4_figure_56 : decode cX4_figure 56 = .ok (.iconst 0, 1) := by decide +kernel
theorem dX4_figure_57 : decode cX4_figure 57 = .ok (.ireturn, 1) := by decide +kernel
theorem dX4_figure_58 : decode cX4_figure 58 = .ok (.aload_n 0, 1) := by decide +kernel
theorem dX4_figure_59 : decode cX4_figure 59 = .ok (.dup, 1) := by decide +kernel
theorem dX4_figure_60 : decode cX4_figure 60 = .ok (.getfield 43, 3) := by decide +kernel
theorem dX4_figure_63 : decode cX4_figure 63 = .ok (.iconst 1, 1) := by decide +kernel
theorem dX4_figure_64 : decode cX4_figure 64 = .ok (.iadd, 1) := by decide +kernel
theorem dX4_figure_65 : decode cX4_figure 65 = .ok (.putfield 43, 3) := by decide +kernel
theorem dX4_figure_68 : decode cX4_figure 68 = .ok (.iload_n 2, 1) := by decide +kernel
theorem dX4_figure_69 : decode cX4_figure 69 = .ok (.ireturn, 1) := by decide +kernel
theorem dX5_init_0 : decode cX5_init 0 = .ok (.aload_n 0, 1) := by decide +kernel
theorem dX5_init_1 : decode cX5_init 1 = .ok (.invokespecial 3, 3) := by decide +kernel
theorem dX5_init_4 : decode cX5_init 4 = .ok (.aload_n 0, 1) := by decide +kernel
theorem dX5_init_5 : decode cX5_init 5 = .ok (.bipush 6, 2) := by decide +kernel
theorem dX5_init_7 : decode cX5_init 7 = .ok (.newarray .int, 2) := by decide +kernel
theorem dX5_init_9 : decode cX5_init 9 = .ok (.putfield 9, 3) := by decide +kernel
theorem dX5_init_12 : decode cX5_init 12 = .ok (.aload_n 0, 1) := by decide +kernel
theorem dX5_init_13 : decode cX5_init 13 = .ok (.bipush 6, 2) := by decide +kernel
theorem dX5_init_15 : decode cX5_init 15 = .ok (.newarray .int, 2) := by decide +kernel
theorem dX5_init_17 : decode cX5_init 17 = .ok (.putfield 15, 3) := by decide +kernel
theorem dX5_init_20 : decode cX5_init 20 = .ok (.return_, 1) := by decide +kernel
set_option maxRecDepth 20000 in
theorem ggX5_add_X7_put : GoodIn wsX5_add wsX7_put := goodIn_r _ [6] (by decide +kernel) (by decide +kernel)
set_option maxRecDepth 20000 in
theorem gX5_add_X7_put_n22 : GoodIn wsX5_add (wsX7_put) := ggX5_add_X7_put
theorem dX5_add_0 : decode cX5_add 0 = .ok (.aload_n 0, 1) := by decide +kernel
theorem dX5_add_1 : decode cX5_add 1 = .ok (.getfield 18, 3) := by decide +kernel
theorem dX5_add_4 : decode cX5_add 4 = .ok (.bipush 6, 2) := by decide +kernel
theorem dX5_add_6 : decode cX5_add 6 = .ok (.if_icmp .lt 6, 3) := by decide +kernel
theorem dX5_add_9 : decode cX5_add 9 = .ok (.bipush (-4), 2) := by decide +kernel
theorem dX5_add_11 : decode cX5_add 11 = .ok (.ireturn, 1) := by decide +kernel
theorem dX5_add_12 : decode cX5_add 12 = .ok (.aload_n 0, 1) := by decide +kernel
theorem dX5_add_13 : decode cX5_add 13 = .ok (.getfield 9, 3) := by decide +kernel
theorem dX5_add_16 : decode cX5_add 16 = .ok (.aload_n 0, 1) := by decide +kernel
theorem dX5_add_17 : decode cX5_add 17 = .ok (.getfield 18, 3) := by decide +kernel
theorem dX5_add_20 : decode cX5_add 20 = .ok (.iload_n 1, 1) := by decide +kernel
theorem dX5_add_21 : decode cX5_add 21 = .ok (.invokestatic 22, 3) := by decide +kernel
theorem dX5_add_24 : decode cX5_add 24 = .ok (.aload_n 0, 1) := by decide +kernel
theorem dX5_add_25 : decode cX5_add 25 = .ok (.getfield 15, 3) := by decide +kernel
theorem dX5_add_28 : decode cX5_add 28 = .ok (.aload_n 0, 1) := by decide +kernel
theorem dX5_add_29 : decode cX5_add 29 = .ok (.getfield 18, 3) := by decide +kernel
theorem dX5_add_32 : decode cX5_add 32 = .ok (.iload_n 2, 1) := by decide +kernel
theorem dX5_add_33 : decode cX5_add 33 = .ok (.invokestatic 22, 3) := by decide +kernel
theorem dX5_add_36 : decode cX5_add 36 = .ok (.aload_n 0, 1) := by decide +kernel
theorem dX5_add_37 : decode cX5_add 37 = .ok (.dup, 1) := by decide +kernel
theorem dX5_add_38 : decode cX5_add 38 = .ok (.getfield 18, 3) := by decide +kernel
theorem dX5_add_41 : decode cX5_add 41 = .ok (.iconst 1, 1) := by decide +kernel
theorem dX5_add_42 : decode cX5_add 42 = .ok (.iadd, 1) := by decide +kernel
theorem dX5_add_43 : decode cX5_add 43 = .ok (.putfield 18, 3) := by decide +kernel
theorem dX5_add_46 : decode cX5_add 46 = .ok (.aload_n 0, 1) := by decide +kernel
theorem dX5_add_47 : decode cX5_add 47 = .ok (.getfield 18, 3) := by decide +kernel
theorem dX5_add_50 : decode cX5_add 50 = .ok (.ireturn, 1) := by decide +kernel
set_option maxRecDepth 20000 in
theorem ggX5_agree_X7_at : GoodIn wsX5_agree wsX7_at := goodIn_r _ [6] (by decide +kernel) (by decide +kernel)
set_option maxRecDepth 20000 in
theorem gX5_agree_X7_at_n26 : GoodIn wsX5_agree (wsX7_at) := ggX5_agree_X7_at
set_option maxRecDepth 20000 in
theorem ggX5_agree_X2_hasCock : GoodIn wsX5_agree wsX2_hasCock := goodIn_r _ [10, 11, 17, 18, 19, 20, 21, 22, 23, 24, 25, 26, 27] (by decide +kernel) (by decide +kernel)
set_option maxRecDepth 20000 in
theorem gX5_agree_X2_hasCock_n30 : GoodIn wsX5_agree (wsX2_hasCock) := ggX5_agree_X2_hasCock
set_option maxRecDepth 20000 in
theorem ggX5_agree_X7_bit : GoodIn wsX5_agree wsX7_bit := goodIn_r _ [13] (by decide +kernel) (by decide +kernel)
set_option maxRecDepth 20000 in
theorem gX5_agree_X7_bit_n36 : GoodIn wsX5_agree (wsX7_bit) := ggX5_agree_X7_bit
theorem dX5_agree_0 : decode cX5_agree 0 = .ok (.iconst 0, 1) := by decide +kernel
theorem dX5_agree_1 : decode cX5_agree 1 = .ok (.istore_n 3, 1) := by decide +kernel
theorem dX5_agree_2 : decode cX5_agree 2 = .ok (.iload_n 3, 1) := by decide +kernel
theorem dX5_agree_3 : decode cX5_agree 3 = .ok (.aload_n 0, 1) := by decide +kernel
theorem dX5_agree_4 : decode cX5_agree 4 = .ok (.getfield 18, 3) := by decide +kernel
theorem dX5_agree_7 : decode cX5_agree 7 = .ok (.if_icmp .ge 47, 3) := by decide +kernel
theorem dX5_agree_10 : decode cX5_agree 10 = .ok (.aload_n 0, 1) := by decide +kernel
theorem dX5_agree_11 : decode cX5_agree 11 = .ok (.getfield 9, 3) := by decide +kernel
theorem dX5_agree_14 : decode cX5_agree 14 = .ok (.iload_n 3, 1) := by decide +kernel
theorem dX5_agree_15 : decode cX5_agree 15 = .ok (.invokestatic 26, 3) := by decide +kernel
theorem dX5_agree_18 : decode cX5_agree 18 = .ok (.istore 4, 2) := by decide +kernel
theorem dX5_agree_20 : decode cX5_agree 20 = .ok (.aload_n 1, 1) := by decide +kernel
theorem dX5_agree_21 : decode cX5_agree 21 = .ok (.iload 4, 2) := by decide +kernel
theorem dX5_agree_23 : decode cX5_agree 23 = .ok (.invokevirtual 30, 3) := by decide +kernel
theorem dX5_agree_26 : decode cX5_agree 26 = .ok (.ifCond .eq 22, 3) := by decide +kernel
theorem dX5_agree_29 : decode cX5_agree 29 = .ok (.iload_n 2, 1) := by decide +kernel
theorem dX5_agree_30 : decode cX5_agree 30 = .ok (.iload 4, 2) := by decide +kernel
theorem dX5_agree_32 : decode cX5_agree 32 = .ok (.invokestatic 36, 3) := by decide +kernel
theorem dX5_agree_35 : decode cX5_agree 35 = .ok (.aload_n 0, 1) := by decide +kernel
theorem dX5_agree_36 : decode cX5_agree 36 = .ok (.getfield 15, 3) := by decide +kernel
theorem dX5_agree_39 : decode cX5_agree 39 = .ok (.iload_n 3, 1) := by decide +kernel
theorem dX5_agree_40 : decode cX5_agree 40 = .ok (.invokestatic 26, 3) := by decide +kernel
theorem dX5_agree_43 : decode cX5_agree 43 = .ok (.if_icmp .eq 5, 3) := by decide +kernel
theorem dX5_agree_46 : decode cX5_agree 46 = .ok (.iconst 0, 1) := by decide +kernel
theorem dX5_agree_47 : decode cX5_agree 47 = .ok (.ireturn, 1) := by decide +kernel
theorem dX5_agree_48 : decode cX5_agree 48 = .ok (.iinc 3 1, 3) := by decide +kernel
theorem dX5_agree_51 : decode cX5_agree 51 = .ok (.goto (-49), 3) := by decide +kernel
theorem dX5_agree_54 : decode cX5_agree 54 = .ok (.iconst 1, 1) := by decide +kernel
theorem dX5_agree_55 : decode cX5_agree 55 = .ok (.ireturn, 1) := by decide +kernel
set_option maxRecDepth 20000 in
theorem ggX6_init_X2_init : GoodIn wsX6_init wsX2_init := goodIn_r _ [9, 10, 2, 3, 11, 12, 13, 14, 15, 16, 19, 20, 21, 22, 23, 24, 25, 26, 27, 28, 29] (by decide +kernel) (by decide +kernel)
set_option maxRecDepth 20000 in
theorem gX6_init_X2_init_n17 : GoodIn wsX6_init (wsX2_init) := ggX6_init_X2_init
theorem dX6_init_0 : decode cX6_init 0 = .ok (.aload_n 0, 1) := by decide +kernel
theorem dX6_init_1 : decode cX6_init 1 = .ok (.invokespecial 3, 3) := by decide +kernel
theorem dX6_init_4 : decode cX6_init 4 = .ok (.aload_n 0, 1) := by decide +kernel
theorem dX6_init_5 : decode cX6_init 5 = .ok (.iconst 2, 1) := by decide +kernel
theorem dX6_init_6 : decode cX6_init 6 = .ok (.anewarray 9, 3) := by decide +kernel
theorem dX6_init_9 : decode cX6_init 9 = .ok (.putfield 11, 3) := by decide +kernel
theorem dX6_init_12 : decode cX6_init 12 = .ok (.iconst 0, 1) := by decide +kernel
theorem dX6_init_13 : decode cX6_init 13 = .ok (.istore_n 1, 1) := by decide +kernel
theorem dX6_init_14 : decode cX6_init 14 = .ok (.iload_n 1, 1) := by decide +kernel
theorem dX6_init_15 : decode cX6_init 15 = .ok (.aload_n 0, 1) := by decide +kernel
theorem dX6_init_16 : decode cX6_init 16 = .ok (.getfield 11, 3) := by decide +kernel
theorem dX6_init_19 : decode cX6_init 19 = .ok (.arraylength, 1) := by decide +kernel
theorem dX6_init_20 : decode cX6_init 20 = .ok (.if_icmp .ge 22, 3) := by decide +kernel
theorem dX6_init_23 : decode cX6_init 23 = .ok (.aload_n 0, 1) := by decide +kernel
theorem dX6_init_24 : decode cX6_init 24 = .ok (.getfield 11, 3) := by decide +kernel
theorem dX6_init_27 : decode cX6_init 27 = .ok (.iload_n 1, 1) := by decide +kernel
theorem dX6_init_28 : decode cX6_init 28 = .ok (.new 9, 3) := by decide +kernel
theorem dX6_init_31 : decode cX6_init 31 = .ok (.dup, 1) := by decide +kernel
theorem dX6_init_32 : decode cX6_init 32 = .ok (.invokespecial 17, 3) := by decide +kernel
theorem dX6_init_35 : decode cX6_init 35 = .ok (.aastore, 1) := by decide +kernel
theorem dX6_init_36 : decode cX6_init 36 = .ok (.iinc 1 1, 3) := by decide +kernel
theorem dX6_init_39 : decode cX6_init 39 = .ok (.goto (-25), 3) := by decide +kernel
theorem dX6_init_42 : decode cX6_init 42 = .ok (.return_, 1) := by decide +kernel
theorem dX6_forget_0 : decode cX6_forget 0 = .ok (.aload_n 0, 1) := by decide +kernel
theorem dX6_forget_1 : decode cX6_forget 1 = .ok (.iconst 0, 1) := by decide +kernel
theorem dX6_forget_2 : decode cX6_forget 2 = .ok (.putfield 18, 3) := by decide +kernel
theorem dX6_forget_5 : decode cX6_forget 5 = .ok (.return_, 1) := by decide +kernel
set_option maxRecDepth 20000 in
theorem ggX6_store_X2_copyFrom : GoodIn wsX6_store wsX2_copyFrom := goodIn_r _ [6, 7, 8, 9, 10, 11, 12, 13, 14, 15, 16, 17, 18, 19, 20, 23, 24, 25, 26, 27, 28, 29, 30, 31, 32, 33] (by decide +kernel) (by decide +kernel)
set_option maxRecDepth 20000 in
theorem gX6_store_X2_copyFrom_n22 : GoodIn wsX6_store (wsX2_copyFrom) := ggX6_store_X2_copyFrom
theorem dX6_store_0 : decode cX6_store 0 = .ok (.iload_n 1, 1) := by decide +kernel
theorem dX6_store_1 : decode cX6_store 1 = .ok (.ifCond .lt 21, 3) := by decide +kernel
theorem dX6_store_4 : decode cX6_store 4 = .ok (.iload_n 1, 1) := by decide +kernel
theorem dX6_store_5 : decode cX6_store 5 = .ok (.aload_n 0, 1) := by decide +kernel
theorem dX6_store_6 : decode cX6_store 6 = .ok (.getfield 11, 3) := by decide +kernel
theorem dX6_store_9 : decode cX6_store 9 = .ok (.arraylength, 1) := by decide +kernel
theorem dX6_store_10 : decode cX6_store 10 = .ok (.if_icmp .ge 12, 3) := by decide +kernel
theorem dX6_store_13 : decode cX6_store 13 = .ok (.aload_n 0, 1) := by decide +kernel
theorem dX6_store_14 : decode cX6_store 14 = .ok (.getfield 11, 3) := by decide +kernel
theorem dX6_store_17 : decode cX6_store 17 = .ok (.iload_n 1, 1) := by decide +kernel
theorem dX6_store_18 : decode cX6_store 18 = .ok (.aaload, 1) := by decide +kernel
theorem dX6_store_19 : decode cX6_store 19 = .ok (.ifnonnull 5, 3) := by decide +kernel
theorem dX6_store_22 : decode cX6_store 22 = .ok (.iconst (-1), 1) := by decide +kernel
theorem dX6_store_23 : decode cX6_store 23 = .ok (.ireturn, 1) := by decide +kernel
theorem dX6_store_24 : decode cX6_store 24 = .ok (.aload_n 0, 1) := by decide +kernel
theorem dX6_store_25 : decode cX6_store 25 = .ok (.getfield 11, 3) := by decide +kernel
theorem dX6_store_28 : decode cX6_store 28 = .ok (.iload_n 1, 1) := by decide +kernel
theorem dX6_store_29 : decode cX6_store 29 = .ok (.aaload, 1) := by decide +kernel
theorem dX6_store_30 : decode cX6_store 30 = .ok (.aload_n 2, 1) := by decide +kernel
theorem dX6_store_31 : decode cX6_store 31 = .ok (.invokevirtual 22, 3) := by decide +kernel
theorem dX6_store_34 : decode cX6_store 34 = .ok (.aload_n 0, 1) := by decide +kernel
theorem dX6_store_35 : decode cX6_store 35 = .ok (.dup, 1) := by decide +kernel
theorem dX6_store_36 : decode cX6_store 36 = .ok (.getfield 18, 3) := by decide +kernel
theorem dX6_store_39 : decode cX6_store 39 = .ok (.iconst 1, 1) := by decide +kernel
theorem dX6_store_40 : decode cX6_store 40 = .ok (.iload_n 1, 1) := by decide +kernel
theorem dX6_store_41 : decode cX6_store 41 = .ok (.ishl, 1) := by decide +kernel
theorem dX6_store_42 : decode cX6_store 42 = .ok (.ior, 1) := by decide +kernel
theorem dX6_store_43 : decode cX6_store 43 = .ok (.putfield 18, 3) := by decide +kernel
theorem dX6_store_46 : decode cX6_store 46 = .ok (.aload_n 2, 1) := by decide +kernel
theorem dX6_store_47 : decode cX6_store 47 = .ok (.getfield 26, 3) := by decide +kernel
theorem dX6_store_50 : decode cX6_store 50 = .ok (.ireturn, 1) := by decide +kernel
set_option maxRecDepth 20000 in
theorem ggX6_fetch_X7_bit : GoodIn wsX6_fetch wsX7_bit := goodIn_r _ [5] (by decide +kernel) (by decide +kernel)
set_option maxRecDepth 20000 in
theorem gX6_fetch_X7_bit_n29 : GoodIn wsX6_fetch (wsX7_bit) := ggX6_fetch_X7_bit
set_option maxRecDepth 20000 in
theorem ggX6_fetch_X2_copyFrom : GoodIn wsX6_fetch wsX2_copyFrom := goodIn_r _ [9, 10, 11, 12, 13, 14, 15, 16, 17, 18, 19, 20, 21, 4, 22, 25, 26, 27, 28, 29, 30, 31, 32, 33, 34, 35] (by decide +kernel) (by decide +kernel)
set_option maxRecDepth 20000 in
theorem gX6_fetch_X2_copyFrom_n22 : GoodIn wsX6_fetch (wsX2_copyFrom) := ggX6_fetch_X2_copyFrom
theorem dX6_fetch_0 : decode cX6_fetch 0 = .ok (.iload_n 1, 1) := by decide +kernel
theorem dX6_fetch_1 : decode cX6_fetch 1 = .ok (.ifCond .lt 21, 3) := by decide +kernel
theorem dX6_fetch_4 : decode cX6_fetch 4 = .ok (.iload_n 1, 1) := by decide +kernel
theorem dX6_fetch_5 : decode cX6_fetch 5 = .ok (.aload_n 0, 1) := by decide +kernel
theorem dX6_fetch_6 : decode cX6_fetch 6 = .ok (.getfield 11, 3) := by decide +kernel
theorem dX6_fetch_9 : decode cX6_fetch 9 = .ok (.arraylength, 1) := by decide +kernel
theorem dX6_fetch_10 : decode cX6_fetch 10 = .ok (.if_icmp .ge 12, 3) := by decide +kernel
theorem dX6_fetch_13 : decode cX6_fetch 13 = .ok (.aload_n 0, 1) := by decide +kernel
theorem dX6_fetch_14 : decode cX6_fetch 14 = .ok (.getfield 11, 3) := by decide +kernel
theorem dX6_fetch_17 : decode cX6_fetch 17 = .ok (.iload_n 1, 1) := by decide +kernel
theorem dX6_fetch_18 : decode cX6_fetch 18 = .ok (.aaload, 1) := by decide +kernel
theorem dX6_fetch_19 : decode cX6_fetch 19 = .ok (.ifnonnull 5, 3) := by decide +kernel
theorem dX6_fetch_22 : decode cX6_fetch 22 = .ok (.iconst (-1), 1) := by decide +kernel
theorem dX6_fetch_23 : decode cX6_fetch 23 = .ok (.ireturn, 1) := by decide +kernel
theorem dX6_fetch_24 : decode cX6_fetch 24 = .ok (.aload_n 0, 1) := by decide +kernel
theorem dX6_fetch_25 : decode cX6_fetch 25 = .ok (.getfield 18, 3) := by decide +kernel
theorem dX6_fetch_28 : decode cX6_fetch 28 = .ok (.iload_n 1, 1) := by decide +kernel
theorem dX6_fetch_29 : decode cX6_fetch 29 = .ok (.invokestatic 29, 3) := by decide +kernel
theorem dX6_fetch_32 : decode cX6_fetch 32 = .ok (.ifCond .ne 6, 3) := by decide +kernel
theorem dX6_fetch_35 : decode cX6_fetch 35 = .ok (.bipush (-3), 2) := by decide +kernel
theorem dX6_fetch_37 : decode cX6_fetch 37 = .ok (.ireturn, 1) := by decide +kernel
theorem dX6_fetch_38 : decode cX6_fetch 38 = .ok (.aload_n 2, 1) := by decide +kernel
theorem dX6_fetch_39 : decode cX6_fetch 39 = .ok (.aload_n 0, 1) := by decide +kernel
theorem dX6_fetch_40 : decode cX6_fetch 40 = .ok (.getfield 11, 3) := by decide +kernel
theorem dX6_fetch_43 : decode cX6_fetch 43 = .ok (.iload_n 1, 1) := by decide +kernel
theorem dX6_fetch_44 : decode cX6_fetch 44 = .ok (.aaload, 1) := by decide +kernel
theorem dX6_fetch_45 : decode cX6_fetch 45 = .ok (.invokevirtual 22, 3) := by decide +kernel
theorem dX6_fetch_48 : decode cX6_fetch 48 = .ok (.aload_n 2, 1) := by decide +kernel
theorem dX6_fetch_49 : decode cX6_fetch 49 = .ok (.getfield 26, 3) := by decide +kernel
theorem dX6_fetch_52 : decode cX6_fetch 52 = .ok (.ireturn, 1) := by decide +kernel
set_option maxRecDepth 20000 in
theorem ggX7_init_X4_init : GoodIn wsX7_init wsX4_init := goodIn_r _ [35, 36, 2, 3, 37, 38, 39, 9, 10, 40, 41, 13, 14, 42, 43, 44, 45, 46, 47, 48, 49, 50, 51, 52, 53, 54, 55, 56, 77, 78, 79, 80, 81, 82, 92, 93, 94, 95, 96, 97, 98, 99, 100, 101, 102, 103, 104, 105, 106] (by decide +kernel) (by decide +kernel)
set_option maxRecDepth 20000 in
theorem gX7_init_X4_init_n11 : GoodIn wsX7_init (wsX4_init) := ggX7_init_X4_init
set_option maxRecDepth 20000 in
theorem ggX7_init_X2_init : GoodIn wsX7_init wsX2_init := goodIn_r _ [44, 45, 2, 3, 37, 46, 47, 48, 49, 50, 92, 93, 94, 95, 96, 97, 98, 99, 100, 101, 102] (by decide +kernel) (by decide +kernel)
set_option maxRecDepth 20000 in
theorem gX7_init_X2_init_n18 : GoodIn wsX7_init (wsX2_init) := ggX7_init_X2_init
set_option maxRecDepth 20000 in
theorem ggX7_init_X1_init : GoodIn wsX7_init wsX1_init := goodIn_r _ [52, 53, 2, 3, 37, 54, 55, 56, 103, 104, 105, 106] (by decide +kernel) (by decide +kernel)
set_option maxRecDepth 20000 in
theorem gX7_init_X1_init_n25 : GoodIn wsX7_init (wsX1_init) := ggX7_init_X1_init
set_option maxRecDepth 20000 in
theorem ggX7_init_X0_init : GoodIn wsX7_init wsX0_init := goodIn_r _ [58, 59, 2, 3, 60, 61, 9, 10, 43, 44, 45, 37, 46, 47, 48, 49, 50, 107, 108, 109, 92, 93, 94, 95, 96, 97, 98, 99, 100, 101, 102] (by decide +kernel) (by decide +kernel)
set_option maxRecDepth 20000 in
theorem gX7_init_X0_init_n32 : GoodIn wsX7_init (wsX0_init) := ggX7_init_X0_init
set_option maxRecDepth 20000 in
theorem ggX7_init_X5_init : GoodIn wsX7_init wsX5_init := goodIn_r _ [63, 64, 2, 3, 37, 65, 66, 110, 111, 112] (by decide +kernel) (by decide +kernel)
set_option maxRecDepth 20000 in
theorem gX7_init_X5_init_n39 : GoodIn wsX7_init (wsX5_init) := ggX7_init_X5_init
set_option maxRecDepth 20000 in
theorem ggX7_init_X6_init : GoodIn wsX7_init wsX6_init := goodIn_r _ [68, 69, 2, 3, 70, 71, 9, 10, 43, 44, 45, 37, 46, 47, 48, 49, 50, 113, 114, 92, 93, 94, 95, 96, 97, 98, 99, 100, 101, 102] (by decide +kernel) (by decide +kernel)
set_option maxRecDepth 20000 in
theorem gX7_init_X6_init_n46 : GoodIn wsX7_init (wsX6_init) := ggX7_init_X6_init
set_option maxRecDepth 20000 in
theorem ggX7_init_X3_init : GoodIn wsX7_init wsX3_init := goodIn_r _ [73, 74, 2, 3, 75, 9, 10, 76, 43, 44, 45, 37, 46, 47, 48, 49, 50, 92, 93, 94, 95, 96, 97, 98, 99, 100, 101, 102, 115, 116, 117, 118, 119] (by decide +kernel) (by decide +kernel)
set_option maxRecDepth 20000 in
theorem gX7_init_X3_init_n53 : GoodIn wsX7_init (wsX3_init) := ggX7_init_X3_init
theorem dX7_init_0 : decode cX7_init 0 = .ok (.aload_n 0, 1) := by decide +kernel
theorem dX7_init_1 : decode cX7_init 1 = .ok (.invokespecial 3, 3) := by decide +kernel
theorem dX7_init_4 : decode cX7_init 4 = .ok (.aload_n 0, 1) := by decide +kernel
theorem dX7_init_5 : decode cX7_init 5 = .ok (.new 9, 3) := by decide +kernel
theorem dX7_init_8 : decode cX7_init 8 = .ok (.dup, 1) := by decide +kernel
theorem dX7_init_9 : decode cX7_init 9 = .ok (.invokespecial 11, 3) := by decide +kernel
theorem dX7_init_12 : decode cX7_init 12 = .ok (.putfield 12, 3) := by decide +kernel
theorem dX7_init_15 : decode cX7_init 15 = .ok (.aload_n 0, 1) := by decide +kernel
theorem dX7_init_16 : decode cX7_init 16 = .ok (.new 16, 3) := by decide +kernel
theorem dX7_init_19 : decode cX7_init 19 = .ok (.dup, 1) := by decide +kernel
theorem dX7_init_20 : decode cX7_init 20 = .ok (.invokespecial 18, 3) := by decide +kernel
theorem dX7_init_23 : decode cX7_init 23 = .ok (.putfield 19, 3) := by decide +kernel
theorem dX7_init_26 : decode cX7_init 26 = .ok (.aload_n 0, 1) := by decide +kernel
theorem dX7_init_27 : decode cX7_init 27 = .ok (.new 23, 3) := by decide +kernel
theorem dX7_init_30 : decode cX7_init 30 = .ok (.dup, 1) := by decide +kernel
theorem dX7_init_31 : decode cX7_init 31 = .ok (.invokespecial 25, 3) := by decide +kernel
theorem dX7_init_34 : decode cX7_init 34 = .ok (.putfield 26, 3) := by decide +kernel
theorem dX7_init_37 : decode cX7_init 37 = .ok (.aload_n 0, 1) := by decide +kernel
theorem dX7_init_38 : decode cX7_init 38 = .ok (.new 30, 3) := by decide +kernel
theorem dX7_init_41 : decode cX7_init 41 = .ok (.dup, 1) := by decide +kernel
theorem dX7_init_42 : decode cX7_init 42 = .ok (.invokespecial 32, 3) := by decide +kernel
theorem dX7_init_45 : decode cX7_init 45 = .ok (.putfield 33, 3) := by decide +kernel
theorem dX7_init_48 : decode cX7_init 48 = .ok (.aload_n 0, 1) := by decide +kernel
theorem dX7_init_49 : decode cX7_init 49 = .ok (.new 37, 3) := by decide +kernel
theorem dX7_init_52 : decode cX7_init 52 = .ok (.dup, 1) := by decide +kernel
theorem dX7_init_53 : decode cX7_init 53 = .ok (.invokespecial 39, 3) := by decide +kernel
theorem dX7_init_56 : decode cX7_init 56 = .ok (.putfield 40, 3) := by decide +kernel
theorem dX7_init_59 : decode cX7_init 59 = .ok (.aload_n 0, 1) := by decide +kernel
theorem dX7_init_60 : decode cX7_init 60 = .ok (.new 44, 3) := by decide +kernel
theorem dX7_init_63 : decode cX7_init 63 = .ok (.dup, 1) := by decide +kernel
theorem dX7_init_64 : decode cX7_init 64 = .ok (.invokespecial 46, 3) := by decide +kernel
theorem dX7_init_67 : decode cX7_init 67 = .ok (.putfield 47, 3) := by decide +kernel
theorem dX7_init_70 : decode cX7_init 70 = .ok (.aload_n 0, 1) := by decide +kernel
theorem dX7_init_71 : decode cX7_init 71 = .ok (.new 51, 3) := by decide +kernel
theorem dX7_init_74 : decode cX7_init 74 = .ok (.dup, 1) := by decide +kernel
theorem dX7_init_75 : decode cX7_init 75 = .ok (.invokespecial 53, 3) := by decide +kernel
theorem dX7_init_78 : decode cX7_init 78 = .ok (.putfield 54, 3) := by decide +kernel
theorem dX7_init_81 : decode cX7_init 81 = .ok (.aload_n 0, 1) := by decide +kernel
theorem dX7_init_82 : decode cX7_init 82 = .ok (.new 16, 3) := by decide +kernel
theorem dX7_init_85 : decode cX7_init 85 = .ok (.dup, 1) := by decide +kernel
theorem dX7_init_86 : decode cX7_init 86 = .ok (.invokespecial 18, 3) := by decide +kernel
theorem dX7_init_89 : decode cX7_init 89 = .ok (.putfield 58, 3) := by decide +kernel
theorem dX7_init_92 : decode cX7_init 92 = .ok (.aload_n 0, 1) := by decide +kernel
theorem dX7_init_93 : decode cX7_init 93 = .ok (.lconst 0, 1) := by decide +kernel
theorem dX7_init_94 : decode cX7_init 94 = .ok (.putfield 61, 3) := by decide +kernel
theorem dX7_init_97 : decode cX7_init 97 = .ok (.return_, 1) := by decide +kernel
set_option maxRecDepth 20000 in
theorem ggX7_write_X4_append : GoodIn wsX7_write wsX4_append := goodIn_r _ [5, 6, 7, 8, 9, 10, 20, 21, 22, 23, 24, 25] (by decide +kernel) (by decide +kernel)
set_option maxRecDepth 20000 in
theorem gX7_write_X4_append_n65 : GoodIn wsX7_write (wsX4_append) := ggX7_write_X4_append
theorem dX7_write_0 : decode cX7_write 0 = .ok (.iload_n 1, 1) := by decide +kernel
theorem dX7_write_1 : decode cX7_write 1 = .ok (.ifCond .lt 10, 3) := by decide +kernel
theorem dX7_write_4 : decode cX7_write 4 = .ok (.iload_n 1, 1) := by decide +kernel
theorem dX7_write_5 : decode cX7_write 5 = .ok (.sipush 255, 3) := by decide +kernel
theorem dX7_write_8 : decode cX7_write 8 = .ok (.if_icmp .le 6, 3) := by decide +kernel
theorem dX7_write_11 : decode cX7_write 11 = .ok (.bipush (-2), 2) := by decide +kernel
theorem dX7_write_13 : decode cX7_write 13 = .ok (.ireturn, 1) := by decide +kernel
theorem dX7_write_14 : decode cX7_write 14 = .ok (.aload_n 0, 1) := by decide +kernel
theorem dX7_write_15 : decode cX7_write 15 = .ok (.getfield 12, 3) := by decide +kernel
theorem dX7_write_18 : decode cX7_write 18 = .ok (.iload_n 1, 1) := by decide +kernel
theorem dX7_write_19 : decode cX7_write 19 = .ok (.invokevirtual 65, 3) := by decide +kernel
theorem dX7_write_22 : decode cX7_write 22 = .ok (.ireturn, 1) := by decide +kernel
theorem dX7_wipe_0 : decode cX7_wipe 0 = .ok (.aload_n 0, 1) := by decide +kernel
theorem dX7_wipe_1 : decode cX7_wipe 1 = .ok (.getfield 12, 3) := by decide +kernel
theorem dX7_wipe_4 : decode cX7_wipe 4 = .ok (.getfield 69, 3) := by decide +kernel
theorem dX7_wipe_7 : decode cX7_wipe 7 = .ok (.istore_n 1, 1) := by decide +kernel
theorem dX7_wipe_8 : decode cX7_wipe 8 = .ok (.aload_n 0, 1) := by decide +kernel
theorem dX7_wipe_9 : decode cX7_wipe 9 = .ok (.getfield 12, 3) := by decide +kernel
theorem dX7_wipe_12 : decode cX7_wipe 12 = .ok (.iconst 0, 1) := by decide +kernel
theorem dX7_wipe_13 : decode cX7_wipe 13 = .ok (.putfield 69, 3) := by decide +kernel
theorem dX7_wipe_16 : decode cX7_wipe 16 = .ok (.iload_n 1, 1) := by decide +kernel
theorem dX7_wipe_17 : decode cX7_wipe 17 = .ok (.ireturn, 1) := by decide +kernel
set_option maxRecDepth 20000 in
theorem ggX7_fault_X4_firstFault : GoodIn wsX7_fault wsX4_firstFault := goodIn_r _ [5, 6, 7, 8, 9, 10, 11, 12, 13, 14, 15, 16, 17, 18, 19, 20, 21, 22, 23, 24, 25, 26, 27, 28, 3, 29, 30, 31, 32, 33, 34, 35, 36, 37, 38, 39, 40, 41, 42, 43, 44, 45, 46, 47, 48, 49, 50, 51, 52, 53, 54, 55, 56, 57, 58, 59, 60, 61, 62, 63, 64, 65, 66, 67, 68, 69, 70, 80, 81, 82, 83, 84, 85, 86, 87, 88, 89, 90, 91, 92, 93, 94, 95, 96, 97, 98, 99, 100] (by decide +kernel) (by decide +kernel)
set_option maxRecDepth 20000 in
theorem gX7_fault_X4_firstFault_n73 : GoodIn wsX7_fault (wsX4_firstFault) := ggX7_fault_X4_firstFault
theorem dX7_fault_0 : decode cX7_fault 0 = .ok (.aload_n 0, 1) := by decide +kernel
theorem dX7_fault_1 : decode cX7_fault 1 = .ok (.getfield 12, 3) := by decide +kernel
theorem dX7_fault_4 : decode cX7_fault 4 = .ok (.invokevirtual 73, 3) := by decide +kernel
theorem dX7_fault_7 : decode cX7_fault 7 = .ok (.ireturn, 1) := by decide +kernel
set_option maxRecDepth 20000 in
theorem ggX7_hill_X4_firstFault : GoodIn wsX7_hill wsX4_firstFault := goodIn_r _ [9, 10, 11, 12, 13, 14, 15, 16, 17, 18, 19, 20, 21, 22, 23, 24, 25, 26, 27, 28, 29, 30, 31, 32, 7, 33, 34, 35, 36, 37, 38, 39, 40, 41, 42, 43, 44, 45, 46, 47, 48, 49, 50, 51, 52, 53, 54, 55, 56, 57, 58, 59, 60, 61, 62, 63, 64, 65, 66, 67, 68, 69, 70, 71, 72, 73, 74, 102, 103, 104, 105, 106, 107, 119, 120, 121, 122, 108, 109, 110, 111, 112, 113, 114, 115, 116, 117, 118] (by decide +kernel) (by decide +kernel)
set_option maxRecDepth 20000 in
theorem gX7_hill_X4_firstFault_n73 : GoodIn wsX7_hill (wsX4_firstFault) := ggX7_hill_X4_firstFault
set_option maxRecDepth 20000 in
theorem ggX7_hill_X2_copyFrom : GoodIn wsX7_hill wsX2_copyFrom := goodIn_r _ [77, 20, 56, 60, 61, 62, 21, 22, 23, 24, 25, 26, 78, 28, 79, 108, 109, 110, 111, 112, 113, 114, 115, 116, 117, 118] (by decide +kernel) (by decide +kernel)
set_option maxRecDepth 20000 in
theorem gX7_hill_X2_copyFrom_n80 : GoodIn wsX7_hill (wsX2_copyFrom) := ggX7_hill_X2_copyFrom
set_option maxRecDepth 20000 in
theorem ggX7_hill_X1_copyFrom : GoodIn wsX7_hill wsX1_copyFrom := goodIn_r _ [82, 71, 73, 74, 72, 78, 28, 79, 119, 120, 121, 122] (by decide +kernel) (by decide +kernel)
set_option maxRecDepth 20000 in
theorem gX7_hill_X1_copyFrom_n85 : GoodIn wsX7_hill (wsX1_copyFrom) := ggX7_hill_X1_copyFrom
set_option maxRecDepth 20000 in
theorem ggX7_hill_X0_forget : GoodIn wsX7_hill wsX0_forget := goodIn_r _ [86, 87, 123, 124, 125] (by decide +kernel) (by decide +kernel)
set_option maxRecDepth 20000 in
theorem gX7_hill_X0_forget_n88 : GoodIn wsX7_hill (wsX0_forget) := ggX7_hill_X0_forget
set_option maxRecDepth 20000 in
theorem ggX7_hill_X6_forget : GoodIn wsX7_hill wsX6_forget := goodIn_r _ [91, 92, 126, 127] (by decide +kernel) (by decide +kernel)
set_option maxRecDepth 20000 in
theorem gX7_hill_X6_forget_n91 : GoodIn wsX7_hill (wsX6_forget) := ggX7_hill_X6_forget
theorem dX7_hill_0 : decode cX7_hill 0 = .ok (.aload_n 0, 1) := by decide +kernel
theorem dX7_hill_1 : decode cX7_hill 1 = .ok (.getfield 12, 3) := by decide +kernel
theorem dX7_hill_4 : decode cX7_hill 4 = .ok (.invokevirtual 73, 3) := by decide +kernel
theorem dX7_hill_7 : decode cX7_hill 7 = .ok (.bipush (-9), 2) := by decide +kernel
theorem dX7_hill_9 : decode cX7_hill 9 = .ok (.if_icmp .eq 6, 3) := by decide +kernel
theorem dX7_hill_12 : decode cX7_hill 12 = .ok (.bipush (-3), 2) := by decide +kernel
theorem dX7_hill_14 : decode cX7_hill 14 = .ok (.ireturn, 1) := by decide +kernel
theorem dX7_hill_15 : decode cX7_hill 15 = .ok (.aload_n 0, 1) := by decide +kernel
theorem dX7_hill_16 : decode cX7_hill 16 = .ok (.getfield 19, 3) := by decide +kernel
theorem dX7_hill_19 : decode cX7_hill 19 = .ok (.aload_n 0, 1) := by decide +kernel
theorem dX7_hill_20 : decode cX7_hill 20 = .ok (.getfield 12, 3) := by decide +kernel
theorem dX7_hill_23 : decode cX7_hill 23 = .ok (.getfield 77, 3) := by decide +kernel
theorem dX7_hill_26 : decode cX7_hill 26 = .ok (.invokevirtual 80, 3) := by decide +kernel
theorem dX7_hill_29 : decode cX7_hill 29 = .ok (.aload_n 0, 1) := by decide +kernel
theorem dX7_hill_30 : decode cX7_hill 30 = .ok (.getfield 26, 3) := by decide +kernel
theorem dX7_hill_33 : decode cX7_hill 33 = .ok (.aload_n 0, 1) := by decide +kernel
theorem dX7_hill_34 : decode cX7_hill 34 = .ok (.getfield 12, 3) := by decide +kernel
theorem dX7_hill_37 : decode cX7_hill 37 = .ok (.getfield 84, 3) := by decide +kernel
theorem dX7_hill_40 : decode cX7_hill 40 = .ok (.invokevirtual 85, 3) := by decide +kernel
theorem dX7_hill_43 : decode cX7_hill 43 = .ok (.aload_n 0, 1) := by decide +kernel
theorem dX7_hill_44 : decode cX7_hill 44 = .ok (.getfield 33, 3) := by decide +kernel
theorem dX7_hill_47 : decode cX7_hill 47 = .ok (.invokevirtual 88, 3) := by decide +kernel
theorem dX7_hill_50 : decode cX7_hill 50 = .ok (.aload_n 0, 1) := by decide +kernel
theorem dX7_hill_51 : decode cX7_hill 51 = .ok (.getfield 47, 3) := by decide +kernel
theorem dX7_hill_54 : decode cX7_hill 54 = .ok (.invokevirtual 91, 3) := by decide +kernel
theorem dX7_hill_57 : decode cX7_hill 57 = .ok (.bipush 10, 2) := by decide +kernel
theorem dX7_hill_59 : decode cX7_hill 59 = .ok (.aload_n 0, 1) := by decide +kernel
theorem dX7_hill_60 : decode cX7_hill 60 = .ok (.getfield 19, 3) := by decide +kernel
theorem dX7_hill_63 : decode cX7_hill 63 = .ok (.getfield 92, 3) := by decide +kernel
theorem dX7_hill_66 : decode cX7_hill 66 = .ok (.imul, 1) := by decide +kernel
theorem dX7_hill_67 : decode cX7_hill 67 = .ok (.aload_n 0, 1) := by decide +kernel
theorem dX7_hill_68 : decode cX7_hill 68 = .ok (.getfield 26, 3) := by decide +kernel
theorem dX7_hill_71 : decode cX7_hill 71 = .ok (.getfield 95, 3) := by decide +kernel
theorem dX7_hill_74 : decode cX7_hill 74 = .ok (.iadd, 1) := by decide +kernel
theorem dX7_hill_75 : decode cX7_hill 75 = .ok (.ireturn, 1) := by decide +kernel
set_option maxRecDepth 20000 in
theorem ggX7_tree_X7_isCell : GoodIn wsX7_tree wsX7_isCell := goodIn_r _ [5] (by decide +kernel) (by decide +kernel)
set_option maxRecDepth 20000 in
theorem gX7_tree_X7_isCell : GoodIn wsX7_tree (va_wsS RX7 98 yX7_isCell wsX7_isCell) := goodIn_app (goodIn_of _ (by decide +kernel)) ggX7_tree_X7_isCell
set_option maxRecDepth 20000 in
theorem ggX7_tree_X7_at : GoodIn wsX7_tree wsX7_at := goodIn_r _ [8] (by decide +kernel) (by decide +kernel)
set_option maxRecDepth 20000 in
theorem gX7_tree_X7_at : GoodIn wsX7_tree (va_wsS RX7 106 yX7_at wsX7_at) := goodIn_app (goodIn_of _ (by decide +kernel)) ggX7_tree_X7_at
theorem dX7_tree_0 : decode cX7_tree 0 = .ok (.iload_n 1, 1) := by decide +kernel
theorem dX7_tree_1 : decode cX7_tree 1 = .ok (.invokestatic 98, 3) := by decide +kernel
theorem dX7_tree_4 : decode cX7_tree 4 = .ok (.ifCond .eq 17, 3) := by decide +kernel
theorem dX7_tree_7 : decode cX7_tree 7 = .ok (.aload_n 0, 1) := by decide +kernel
theorem dX7_tree_8 : decode cX7_tree 8 = .ok (.getfield 19, 3) := by decide +kernel
theorem dX7_tree_11 : decode cX7_tree 11 = .ok (.getfield 102, 3) := by decide +kernel
theorem dX7_tree_14 : decode cX7_tree 14 = .ok (.iload_n 1, 1) := by decide +kernel
theorem dX7_tree_15 : decode cX7_tree 15 = .ok (.invokestatic 106, 3) := by decide +kernel
theorem dX7_tree_18 : decode cX7_tree 18 = .ok (.goto 5, 3) := by decide +kernel
theorem dX7_tree_21 : decode cX7_tree 21 = .ok (.bipush (-2), 2) := by decide +kernel
theorem dX7_tree_23 : decode cX7_tree 23 = .ok (.ireturn, 1) := by decide +kernel
set_option maxRecDepth 20000 in
theorem ggX7_cock_X2_hasCock : GoodIn wsX7_cock wsX2_hasCock := goodIn_r _ [5, 6, 23, 24, 25, 26, 27, 28, 29, 30, 31, 32, 33] (by decide +kernel) (by decide +kernel)
set_option maxRecDepth 20000 in
theorem gX7_cock_X2_hasCock_n110 : GoodIn wsX7_cock (wsX2_hasCock) := ggX7_cock_X2_hasCock
set_option maxRecDepth 20000 in
theorem ggX7_cock_X7_at : GoodIn wsX7_cock wsX7_at := goodIn_r _ [10] (by decide +kernel) (by decide +kernel)
set_option maxRecDepth 20000 in
theorem gX7_cock_X7_at : GoodIn wsX7_cock (va_wsS RX7 106 yX7_at wsX7_at) := goodIn_app (goodIn_of _ (by decide +kernel)) ggX7_cock_X7_at
set_option maxRecDepth 20000 in
theorem ggX7_cock_X7_bit : GoodIn wsX7_cock wsX7_bit := goodIn_r _ [13] (by decide +kernel) (by decide +kernel)
set_option maxRecDepth 20000 in
theorem gX7_cock_X7_bit : GoodIn wsX7_cock (va_wsS RX7 119 yX7_bit wsX7_bit) := goodIn_app (goodIn_of _ (by decide +kernel)) ggX7_cock_X7_bit
theorem dX7_cock_0 : decode cX7_cock 0 = .ok (.aload_n 0, 1) := by decide +kernel
theorem dX7_cock_1 : decode cX7_cock 1 = .ok (.getfield 19, 3) := by decide +kernel
theorem dX7_cock_4 : decode cX7_cock 4 = .ok (.iload_n 1, 1) := by decide +kernel
theorem dX7_cock_5 : decode cX7_cock 5 = .ok (.invokevirtual 110, 3) := by decide +kernel
theorem dX7_cock_8 : decode cX7_cock 8 = .ok (.ifCond .ne 5, 3) := by decide +kernel
theorem dX7_cock_11 : decode cX7_cock 11 = .ok (.iconst (-1), 1) := by decide +kernel
theorem dX7_cock_12 : decode cX7_cock 12 = .ok (.ireturn, 1) := by decide +kernel
theorem dX7_cock_13 : decode cX7_cock 13 = .ok (.iload_n 2, 1) := by decide +kernel
theorem dX7_cock_14 : decode cX7_cock 14 = .ok (.tableswitch 126 0 6 #[42, 54, 66, 78, 90, 102, 114], 42) := by decide +kernel
theorem dX7_cock_56 : decode cX7_cock 56 = .ok (.aload_n 0, 1) := by decide +kernel
theorem dX7_cock_57 : decode cX7_cock 57 = .ok (.getfield 19, 3) := by decide +kernel
theorem dX7_cock_60 : decode cX7_cock 60 = .ok (.getfield 113, 3) := by decide +kernel
theorem dX7_cock_63 : decode cX7_cock 63 = .ok (.iload_n 1, 1) := by decide +kernel
theorem dX7_cock_64 : decode cX7_cock 64 = .ok (.invokestatic 106, 3) := by decide +kernel
theorem dX7_cock_67 : decode cX7_cock 67 = .ok (.ireturn, 1) := by decide +kernel
theorem dX7_cock_68 : decode cX7_cock 68 = .ok (.aload_n 0, 1) := by decide +kernel
theorem dX7_cock_69 : decode cX7_cock 69 = .ok (.getfield 19, 3) := by decide +kernel
theorem dX7_cock_72 : decode cX7_cock 72 = .ok (.getfield 116, 3) := by decide +kernel
theorem dX7_cock_75 : decode cX7_cock 75 = .ok (.iload_n 1, 1) := by decide +kernel
theorem dX7_cock_76 : decode cX7_cock 76 = .ok (.invokestatic 119, 3) := by decide +kernel
theorem dX7_cock_79 : decode cX7_cock 79 = .ok (.ireturn, 1) := by decide +kernel
theorem dX7_cock_80 : decode cX7_cock 80 = .ok (.aload_n 0, 1) := by decide +kernel
theorem dX7_cock_81 : decode cX7_cock 81 = .ok (.getfield 19, 3) := by decide +kernel
theorem dX7_cock_84 : decode cX7_cock 84 = .ok (.getfield 123, 3) := by decide +kernel
theorem dX7_cock_87 : decode cX7_cock 87 = .ok (.iload_n 1, 1) := by decide +kernel
theorem dX7_cock_88 : decode cX7_cock 88 = .ok (.invokestatic 106, 3) := by decide +kernel
theorem dX7_cock_91 : decode cX7_cock 91 = .ok (.ireturn, 1) := by decide +kernel
theorem dX7_cock_92 : decode cX7_cock 92 = .ok (.aload_n 0, 1) := by decide +kernel
theorem dX7_cock_93 : decode cX7_cock 93 = .ok (.getfield 19, 3) := by decide +kernel
theorem dX7_cock_96 : decode cX7_cock 96 = .ok (.getfield 126, 3) := by decide +kernel
theorem dX7_cock_99 : decode cX7_cock 99 = .ok (.iload_n 1, 1) := by decide +kernel
theorem dX7_cock_100 : decode cX7_cock 100 = .ok (.invokestatic 106, 3) := by decide +kernel
theorem dX7_cock_103 : decode cX7_cock 103 = .ok (.ireturn, 1) := by decide +kernel
theorem dX7_cock_104 : decode cX7_cock 104 = .ok (.aload_n 0, 1) := by decide +kernel
theorem dX7_cock_105 : decode cX7_cock 105 = .ok (.getfield 19, 3) := by decide +kernel
theorem dX7_cock_108 : decode cX7_cock 108 = .ok (.getfield 129, 3) := by decide +kernel
theorem dX7_cock_111 : decode cX7_cock 111 = .ok (.iload_n 1, 1) := by decide +kernel
theorem dX7_cock_112 : decode cX7_cock 112 = .ok (.invokestatic 106, 3) := by decide +kernel
theorem dX7_cock_115 : decode cX7_cock 115 = .ok (.ireturn, 1) := by decide +kernel
theorem dX7_cock_116 : decode cX7_cock 116 = .ok (.aload_n 0, 1) := by decide +kernel
theorem dX7_cock_117 : decode cX7_cock 117 = .ok (.getfield 19, 3) := by decide +kernel
theorem dX7_cock_120 : decode cX7_cock 120 = .ok (.getfield 132, 3) := by decide +kernel
theorem dX7_cock_123 : decode cX7_cock 123 = .ok (.iload_n 1, 1) := by decide +kernel
theorem dX7_cock_124 : decode cX7_cock 124 = .ok (.invokestatic 119, 3) := by decide +kernel
theorem dX7_cock_127 : decode cX7_cock 127 = .ok (.ireturn, 1) := by decide +kernel
theorem dX7_cock_128 : decode cX7_cock 128 = .ok (.aload_n 0, 1) := by decide +kernel
theorem dX7_cock_129 : decode cX7_cock 129 = .ok (.getfield 19, 3) := by decide +kernel
theorem dX7_cock_132 : decode cX7_cock 132 = .ok (.getfield 135, 3) := by decide +kernel
theorem dX7_cock_135 : decode cX7_cock 135 = .ok (.iload_n 1, 1) := by decide +kernel
theorem dX7_cock_136 : decode cX7_cock 136 = .ok (.invokestatic 119, 3) := by decide +kernel
theorem dX7_cock_139 : decode cX7_cock 139 = .ok (.ireturn, 1) := by decide +kernel
theorem dX7_cock_140 : decode cX7_cock 140 = .ok (.bipush (-2), 2) := by decide +kernel
theorem dX7_cock_142 : decode cX7_cock 142 = .ok (.ireturn, 1) := by decide +kernel
set_option maxRecDepth 20000 in
theorem ggX7_wind_X1_hasWind : GoodIn wsX7_wind wsX1_hasWind := goodIn_r _ [6, 7, 37, 38, 39, 40] (by decide +kernel) (by decide +kernel)
set_option maxRecDepth 20000 in
theorem gX7_wind_X1_hasWind_n138 : GoodIn wsX7_wind (wsX1_hasWind) := ggX7_wind_X1_hasWind
set_option maxRecDepth 20000 in
theorem ggX7_wind_X7_at : GoodIn wsX7_wind wsX7_at := goodIn_r _ [11] (by decide +kernel) (by decide +kernel)
set_option maxRecDepth 20000 in
theorem gX7_wind_X7_at : GoodIn wsX7_wind (va_wsS RX7 106 yX7_at wsX7_at) := goodIn_app (goodIn_of _ (by decide +kernel)) ggX7_wind_X7_at
set_option maxRecDepth 20000 in
theorem ggX7_wind_X1_waysBehind : GoodIn wsX7_wind wsX1_waysBehind := goodIn_r _ [14, 15, 16, 9, 10, 11, 17, 18, 19, 20, 21, 22, 23, 24, 25, 26, 27, 37, 38, 39, 40, 41, 42, 43, 44, 45, 46, 47, 48, 49, 50, 51] (by decide +kernel) (by decide +kernel)
set_option maxRecDepth 20000 in
theorem gX7_wind_X1_waysBehind_n150 : GoodIn wsX7_wind (wsX1_waysBehind) := ggX7_wind_X1_waysBehind
theorem dX7_wind_0 : decode cX7_wind 0 = .ok (.aload_n 0, 1) := by decide +kernel
theorem dX7_wind_1 : decode cX7_wind 1 = .ok (.getfield 26, 3) := by decide +kernel
theorem dX7_wind_4 : decode cX7_wind 4 = .ok (.iload_n 1, 1) := by decide +kernel
theorem dX7_wind_5 : decode cX7_wind 5 = .ok (.invokevirtual 138, 3) := by decide +kernel
theorem dX7_wind_8 : decode cX7_wind 8 = .ok (.ifCond .ne 5, 3) := by decide +kernel
theorem dX7_wind_11 : decode cX7_wind 11 = .ok (.iconst (-1), 1) := by decide +kernel
theorem dX7_wind_12 : decode cX7_wind 12 = .ok (.ireturn, 1) := by decide +kernel
theorem dX7_wind_13 : decode cX7_wind 13 = .ok (.iload_n 2, 1) := by decide +kernel
theorem dX7_wind_14 : decode cX7_wind 14 = .ok (.tableswitch 95 0 3 #[30, 42, 54, 66], 30) := by decide +kernel
theorem dX7_wind_44 : decode cX7_wind 44 = .ok (.aload_n 0, 1) := by decide +kernel
theorem dX7_wind_45 : decode cX7_wind 45 = .ok (.getfield 26, 3) := by decide +kernel
theorem dX7_wind_48 : decode cX7_wind 48 = .ok (.getfield 141, 3) := by decide +kernel
theorem dX7_wind_51 : decode cX7_wind 51 = .ok (.iload_n 1, 1) := by decide +kernel
theorem dX7_wind_52 : decode cX7_wind 52 = .ok (.invokestatic 106, 3) := by decide +kernel
theorem dX7_wind_55 : decode cX7_wind 55 = .ok (.ireturn, 1) := by decide +kernel
theorem dX7_wind_56 : decode cX7_wind 56 = .ok (.aload_n 0, 1) := by decide +kernel
theorem dX7_wind_57 : decode cX7_wind 57 = .ok (.getfield 26, 3) := by decide +kernel
theorem dX7_wind_60 : decode cX7_wind 60 = .ok (.getfield 144, 3) := by decide +kernel
theorem dX7_wind_63 : decode cX7_wind 63 = .ok (.iload_n 1, 1) := by decide +kernel
theorem dX7_wind_64 : decode cX7_wind 64 = .ok (.invokestatic 106, 3) := by decide +kernel
theorem dX7_wind_67 : decode cX7_wind 67 = .ok (.ireturn, 1) := by decide +kernel
theorem dX7_wind_68 : decode cX7_wind 68 = .ok (.aload_n 0, 1) := by decide +kernel
theorem dX7_wind_69 : decode cX7_wind 69 = .ok (.getfield 26, 3) := by decide +kernel
theorem dX7_wind_72 : decode cX7_wind 72 = .ok (.getfield 147, 3) := by decide +kernel
theorem dX7_wind_75 : decode cX7_wind 75 = .ok (.iload_n 1, 1) := by decide +kernel
theorem dX7_wind_76 : decode cX7_wind 76 = .ok (.invokestatic 106, 3) := by decide +kernel
theorem dX7_wind_79 : decode cX7_wind 79 = .ok (.ireturn, 1) := by decide +kernel
theorem dX7_wind_80 : decode cX7_wind 80 = .ok (.aload_n 0, 1) := by decide +kernel
theorem dX7_wind_81 : decode cX7_wind 81 = .ok (.getfield 19, 3) := by decide +kernel
theorem dX7_wind_84 : decode cX7_wind 84 = .ok (.getfield 132, 3) := by decide +kernel
theorem dX7_wind_87 : decode cX7_wind 87 = .ok (.aload_n 0, 1) := by decide +kernel
theorem dX7_wind_88 : decode cX7_wind 88 = .ok (.getfield 26, 3) := by decide +kernel
theorem dX7_wind_91 : decode cX7_wind 91 = .ok (.aload_n 0, 1) := by decide +kernel
theorem dX7_wind_92 : decode cX7_wind 92 = .ok (.getfield 19, 3) := by decide +kernel
theorem dX7_wind_95 : decode cX7_wind 95 = .ok (.iload_n 1, 1) := by decide +kernel
theorem dX7_wind_96 : decode cX7_wind 96 = .ok (.aload_n 0, 1) := by decide +kernel
theorem dX7_wind_97 : decode cX7_wind 97 = .ok (.getfield 19, 3) := by decide +kernel
theorem dX7_wind_100 : decode cX7_wind 100 = .ok (.getfield 135, 3) := by decide +kernel
theorem dX7_wind_103 : decode cX7_wind 103 = .ok (.iconst 0, 1) := by decide +kernel
theorem dX7_wind_104 : decode cX7_wind 104 = .ok (.invokevirtual 150, 3) := by decide +kernel
theorem dX7_wind_107 : decode cX7_wind 107 = .ok (.ixor, 1) := by decide +kernel
theorem dX7_wind_108 : decode cX7_wind 108 = .ok (.ireturn, 1) := by decide +kernel
theorem dX7_wind_109 : decode cX7_wind 109 = .ok (.bipush (-2), 2) := by decide +kernel
theorem dX7_wind_111 : decode cX7_wind 111 = .ok (.ireturn, 1) := by decide +kernel
set_option maxRecDepth 20000 in
theorem ggX7_blow_X1_hasWind : GoodIn wsX7_blow wsX1_hasWind := goodIn_r _ [7, 8, 62, 63, 64, 65] (by decide +kernel) (by decide +kernel)
set_option maxRecDepth 20000 in
theorem gX7_blow_X1_hasWind_n138 : GoodIn wsX7_blow (wsX1_hasWind) := ggX7_blow_X1_hasWind
set_option maxRecDepth 20000 in
theorem ggX7_blow_X0_remember : GoodIn wsX7_blow wsX0_remember := goodIn_r _ [12, 13, 14, 15, 16, 17, 18, 19, 20, 21, 22, 23, 24, 25, 26, 27, 28, 29, 30, 31, 32, 33, 66, 67, 68, 69, 70, 71, 72, 73, 74, 75, 76, 77, 78, 79] (by decide +kernel) (by decide +kernel)
set_option maxRecDepth 20000 in
theorem gX7_blow_X0_remember_n154 : GoodIn wsX7_blow (wsX0_remember) := ggX7_blow_X0_remember
set_option maxRecDepth 20000 in
theorem ggX7_blow_X1_blowOver : GoodIn wsX7_blow wsX1_blowOver := goodIn_r _ [36, 37, 38, 39, 5, 40, 41, 42, 43, 32, 44, 45, 17, 46, 47, 25, 21, 20, 23, 22, 48, 49, 50, 51, 52, 26, 24, 29, 69, 70, 71, 72, 73, 74, 75, 76, 77, 78, 79, 62, 63, 64, 65] (by decide +kernel) (by decide +kernel)
set_option maxRecDepth 20000 in
theorem gX7_blow_X1_blowOver_n157 : GoodIn wsX7_blow (wsX1_blowOver) := ggX7_blow_X1_blowOver
theorem dX7_blow_0 : decode cX7_blow 0 = .ok (.aload_n 0, 1) := by decide +kernel
theorem dX7_blow_1 : decode cX7_blow 1 = .ok (.getfield 26, 3) := by decide +kernel
theorem dX7_blow_4 : decode cX7_blow 4 = .ok (.iload_n 1, 1) := by decide +kernel
theorem dX7_blow_5 : decode cX7_blow 5 = .ok (.invokevirtual 138, 3) := by decide +kernel
theorem dX7_blow_8 : decode cX7_blow 8 = .ok (.ifCond .ne 5, 3) := by decide +kernel
theorem dX7_blow_11 : decode cX7_blow 11 = .ok (.iconst (-1), 1) := by decide +kernel
theorem dX7_blow_12 : decode cX7_blow 12 = .ok (.ireturn, 1) := by decide +kernel
theorem dX7_blow_13 : decode cX7_blow 13 = .ok (.aload_n 0, 1) := by decide +kernel
theorem dX7_blow_14 : decode cX7_blow 14 = .ok (.getfield 33, 3) := by decide +kernel
theorem dX7_blow_17 : decode cX7_blow 17 = .ok (.aload_n 0, 1) := by decide +kernel
theorem dX7_blow_18 : decode cX7_blow 18 = .ok (.getfield 19, 3) := by decide +kernel
theorem dX7_blow_21 : decode cX7_blow 21 = .ok (.invokevirtual 154, 3) := by decide +kernel
theorem dX7_blow_24 : decode cX7_blow 24 = .ok (.aload_n 0, 1) := by decide +kernel
theorem dX7_blow_25 : decode cX7_blow 25 = .ok (.getfield 26, 3) := by decide +kernel
theorem dX7_blow_28 : decode cX7_blow 28 = .ok (.aload_n 0, 1) := by decide +kernel
theorem dX7_blow_29 : decode cX7_blow 29 = .ok (.getfield 19, 3) := by decide +kernel
theorem dX7_blow_32 : decode cX7_blow 32 = .ok (.iload_n 1, 1) := by decide +kernel
theorem dX7_blow_33 : decode cX7_blow 33 = .ok (.invokevirtual 157, 3) := by decide +kernel
theorem dX7_blow_36 : decode cX7_blow 36 = .ok (.ireturn, 1) := by decide +kernel
set_option maxRecDepth 20000 in
theorem ggX7_fell_X7_isCell : GoodIn wsX7_fell wsX7_isCell := goodIn_r _ [6] (by decide +kernel) (by decide +kernel)
set_option maxRecDepth 20000 in
theorem gX7_fell_X7_isCell : GoodIn wsX7_fell (va_wsS RX7 98 yX7_isCell wsX7_isCell) := goodIn_app (goodIn_of _ (by decide +kernel)) ggX7_fell_X7_isCell
set_option maxRecDepth 20000 in
theorem ggX7_fell_X7_at : GoodIn wsX7_fell wsX7_at := goodIn_r _ [9] (by decide +kernel) (by decide +kernel)
set_option maxRecDepth 20000 in
theorem gX7_fell_X7_at : GoodIn wsX7_fell (va_wsS RX7 106 yX7_at wsX7_at) := goodIn_app (goodIn_of _ (by decide +kernel)) ggX7_fell_X7_at
set_option maxRecDepth 20000 in
theorem ggX7_fell_X0_remember : GoodIn wsX7_fell wsX0_remember := goodIn_r _ [13, 14, 15, 16, 17, 18, 19, 20, 21, 22, 23, 24, 25, 26, 27, 28, 29, 30, 31, 32, 5, 33, 57, 58, 59, 46, 47, 48, 49, 50, 51, 52, 53, 54, 55, 56] (by decide +kernel) (by decide +kernel)
set_option maxRecDepth 20000 in
theorem gX7_fell_X0_remember_n154 : GoodIn wsX7_fell (wsX0_remember) := ggX7_fell_X0_remember
set_option maxRecDepth 20000 in
theorem ggX7_fell_X7_put : GoodIn wsX7_fell wsX7_put := goodIn_r _ [36] (by decide +kernel) (by decide +kernel)
set_option maxRecDepth 20000 in
theorem gX7_fell_X7_put : GoodIn wsX7_fell (va_wsS RX7 161 yX7_put wsX7_put) := goodIn_app (goodIn_of _ (by decide +kernel)) ggX7_fell_X7_put
theorem dX7_fell_0 : decode cX7_fell 0 = .ok (.iload_n 1, 1) := by decide +kernel
theorem dX7_fell_1 : decode cX7_fell 1 = .ok (.invokestatic 98, 3) := by decide +kernel
theorem dX7_fell_4 : decode cX7_fell 4 = .ok (.ifCond .ne 6, 3) := by decide +kernel
theorem dX7_fell_7 : decode cX7_fell 7 = .ok (.bipush (-2), 2) := by decide +kernel
theorem dX7_fell_9 : decode cX7_fell 9 = .ok (.ireturn, 1) := by decide +kernel
theorem dX7_fell_10 : decode cX7_fell 10 = .ok (.aload_n 0, 1) := by decide +kernel
theorem dX7_fell_11 : decode cX7_fell 11 = .ok (.getfield 19, 3) := by decide +kernel
theorem dX7_fell_14 : decode cX7_fell 14 = .ok (.getfield 102, 3) := by decide +kernel
theorem dX7_fell_17 : decode cX7_fell 17 = .ok (.iload_n 1, 1) := by decide +kernel
theorem dX7_fell_18 : decode cX7_fell 18 = .ok (.invokestatic 106, 3) := by decide +kernel
theorem dX7_fell_21 : decode cX7_fell 21 = .ok (.istore_n 2, 1) := by decide +kernel
theorem dX7_fell_22 : decode cX7_fell 22 = .ok (.iload_n 2, 1) := by decide +kernel
theorem dX7_fell_23 : decode cX7_fell 23 = .ok (.ifCond .ne 6, 3) := by decide +kernel
theorem dX7_fell_26 : decode cX7_fell 26 = .ok (.bipush (-3), 2) := by decide +kernel
theorem dX7_fell_28 : decode cX7_fell 28 = .ok (.ireturn, 1) := by decide +kernel
theorem dX7_fell_29 : decode cX7_fell 29 = .ok (.aload_n 0, 1) := by decide +kernel
theorem dX7_fell_30 : decode cX7_fell 30 = .ok (.getfield 33, 3) := by decide +kernel
theorem dX7_fell_33 : decode cX7_fell 33 = .ok (.aload_n 0, 1) := by decide +kernel
theorem dX7_fell_34 : decode cX7_fell 34 = .ok (.getfield 19, 3) := by decide +kernel
theorem dX7_fell_37 : decode cX7_fell 37 = .ok (.invokevirtual 154, 3) := by decide +kernel
theorem dX7_fell_40 : decode cX7_fell 40 = .ok (.aload_n 0, 1) := by decide +kernel
theorem dX7_fell_41 : decode cX7_fell 41 = .ok (.getfield 19, 3) := by decide +kernel
theorem dX7_fell_44 : decode cX7_fell 44 = .ok (.getfield 102, 3) := by decide +kernel
theorem dX7_fell_47 : decode cX7_fell 47 = .ok (.iload_n 1, 1) := by decide +kernel
theorem dX7_fell_48 : decode cX7_fell 48 = .ok (.iconst 0, 1) := by decide +kernel
theorem dX7_fell_49 : decode cX7_fell 49 = .ok (.invokestatic 161, 3) := by decide +kernel
theorem dX7_fell_52 : decode cX7_fell 52 = .ok (.iload_n 2, 1) := by decide +kernel
theorem dX7_fell_53 : decode cX7_fell 53 = .ok (.ireturn, 1) := by decide +kernel
set_option maxRecDepth 20000 in
theorem ggX7_move_X2_hasCock : GoodIn wsX7_move wsX2_hasCock := goodIn_r _ [6, 7, 55, 56, 57, 58, 59, 60, 61, 62, 63, 64, 65] (by decide +kernel) (by decide +kernel)
set_option maxRecDepth 20000 in
theorem gX7_move_X2_hasCock_n110 : GoodIn wsX7_move (wsX2_hasCock) := ggX7_move_X2_hasCock
set_option maxRecDepth 20000 in
theorem ggX7_move_X7_isCell : GoodIn wsX7_move wsX7_isCell := goodIn_r _ [11] (by decide +kernel) (by decide +kernel)
set_option maxRecDepth 20000 in
theorem gX7_move_X7_isCell : GoodIn wsX7_move (va_wsS RX7 98 yX7_isCell wsX7_isCell) := goodIn_app (goodIn_of _ (by decide +kernel)) ggX7_move_X7_isCell
set_option maxRecDepth 20000 in
theorem ggX7_move_X2_takenCells : GoodIn wsX7_move wsX2_takenCells := goodIn_r _ [14, 7, 15, 16, 10, 17, 55, 56, 57, 58, 59, 60, 61, 62, 63, 64, 65] (by decide +kernel) (by decide +kernel)
set_option maxRecDepth 20000 in
theorem gX7_move_X2_takenCells_n165 : GoodIn wsX7_move (wsX2_takenCells) := ggX7_move_X2_takenCells
set_option maxRecDepth 20000 in
theorem ggX7_move_X7_bit : GoodIn wsX7_move wsX7_bit := goodIn_r _ [20] (by decide +kernel) (by decide +kernel)
set_option maxRecDepth 20000 in
theorem gX7_move_X7_bit : GoodIn wsX7_move (va_wsS RX7 119 yX7_bit wsX7_bit) := goodIn_app (goodIn_of _ (by decide +kernel)) ggX7_move_X7_bit
set_option maxRecDepth 20000 in
theorem ggX7_move_X0_remember : GoodIn wsX7_move wsX0_remember := goodIn_r _ [24, 25, 26, 27, 28, 4, 29, 30, 31, 15, 32, 33, 34, 7, 35, 36, 37, 38, 39, 40, 10, 41, 66, 67, 68, 55, 56, 57, 58, 59, 60, 61, 62, 63, 64, 65] (by decide +kernel) (by decide +kernel)
set_option maxRecDepth 20000 in
theorem gX7_move_X0_remember_n154 : GoodIn wsX7_move (wsX0_remember) := ggX7_move_X0_remember
set_option maxRecDepth 20000 in
theorem ggX7_move_X7_at : GoodIn wsX7_move wsX7_at := goodIn_r _ [17] (by decide +kernel) (by decide +kernel)
set_option maxRecDepth 20000 in
theorem gX7_move_X7_at : GoodIn wsX7_move (va_wsS RX7 106 yX7_at wsX7_at) := goodIn_app (goodIn_of _ (by decide +kernel)) ggX7_move_X7_at
set_option maxRecDepth 20000 in
theorem ggX7_move_X7_put : GoodIn wsX7_move wsX7_put := goodIn_r _ [45] (by decide +kernel) (by decide +kernel)
set_option maxRecDepth 20000 in
theorem gX7_move_X7_put : GoodIn wsX7_move (va_wsS RX7 161 yX7_put wsX7_put) := goodIn_app (goodIn_of _ (by decide +kernel)) ggX7_move_X7_put
theorem dX7_move_0 : decode cX7_move 0 = .ok (.aload_n 0, 1) := by decide +kernel
theorem dX7_move_1 : decode cX7_move 1 = .ok (.getfield 19, 3) := by decide +kernel
theorem dX7_move_4 : decode cX7_move 4 = .ok (.iload_n 1, 1) := by decide +kernel
theorem dX7_move_5 : decode cX7_move 5 = .ok (.invokevirtual 110, 3) := by decide +kernel
theorem dX7_move_8 : decode cX7_move 8 = .ok (.ifCond .ne 5, 3) := by decide +kernel
theorem dX7_move_11 : decode cX7_move 11 = .ok (.iconst (-1), 1) := by decide +kernel
theorem dX7_move_12 : decode cX7_move 12 = .ok (.ireturn, 1) := by decide +kernel
theorem dX7_move_13 : decode cX7_move 13 = .ok (.iload_n 2, 1) := by decide +kernel
theorem dX7_move_14 : decode cX7_move 14 = .ok (.invokestatic 98, 3) := by decide +kernel
theorem dX7_move_17 : decode cX7_move 17 = .ok (.ifCond .ne 6, 3) := by decide +kernel
theorem dX7_move_20 : decode cX7_move 20 = .ok (.bipush (-2), 2) := by decide +kernel
theorem dX7_move_22 : decode cX7_move 22 = .ok (.ireturn, 1) := by decide +kernel
theorem dX7_move_23 : decode cX7_move 23 = .ok (.aload_n 0, 1) := by decide +kernel
theorem dX7_move_24 : decode cX7_move 24 = .ok (.getfield 19, 3) := by decide +kernel
theorem dX7_move_27 : decode cX7_move 27 = .ok (.invokevirtual 165, 3) := by decide +kernel
theorem dX7_move_30 : decode cX7_move 30 = .ok (.iload_n 2, 1) := by decide +kernel
theorem dX7_move_31 : decode cX7_move 31 = .ok (.invokestatic 119, 3) := by decide +kernel
theorem dX7_move_34 : decode cX7_move 34 = .ok (.iconst 1, 1) := by decide +kernel
theorem dX7_move_35 : decode cX7_move 35 = .ok (.if_icmp .ne 6, 3) := by decide +kernel
theorem dX7_move_38 : decode cX7_move 38 = .ok (.bipush (-3), 2) := by decide +kernel
theorem dX7_move_40 : decode cX7_move 40 = .ok (.ireturn, 1) := by decide +kernel
theorem dX7_move_41 : decode cX7_move 41 = .ok (.aload_n 0, 1) := by decide +kernel
theorem dX7_move_42 : decode cX7_move 42 = .ok (.getfield 33, 3) := by decide +kernel
theorem dX7_move_45 : decode cX7_move 45 = .ok (.aload_n 0, 1) := by decide +kernel
theorem dX7_move_46 : decode cX7_move 46 = .ok (.getfield 19, 3) := by decide +kernel
theorem dX7_move_49 : decode cX7_move 49 = .ok (.invokevirtual 154, 3) := by decide +kernel
theorem dX7_move_52 : decode cX7_move 52 = .ok (.aload_n 0, 1) := by decide +kernel
theorem dX7_move_53 : decode cX7_move 53 = .ok (.getfield 19, 3) := by decide +kernel
theorem dX7_move_56 : decode cX7_move 56 = .ok (.getfield 113, 3) := by decide +kernel
theorem dX7_move_59 : decode cX7_move 59 = .ok (.iload_n 1, 1) := by decide +kernel
theorem dX7_move_60 : decode cX7_move 60 = .ok (.invokestatic 106, 3) := by decide +kernel
theorem dX7_move_63 : decode cX7_move 63 = .ok (.istore_n 3, 1) := by decide +kernel
theorem dX7_move_64 : decode cX7_move 64 = .ok (.aload_n 0, 1) := by decide +kernel
theorem dX7_move_65 : decode cX7_move 65 = .ok (.getfield 19, 3) := by decide +kernel
theorem dX7_move_68 : decode cX7_move 68 = .ok (.getfield 113, 3) := by decide +kernel
theorem dX7_move_71 : decode cX7_move 71 = .ok (.iload_n 1, 1) := by decide +kernel
theorem dX7_move_72 : decode cX7_move 72 = .ok (.iload_n 2, 1) := by decide +kernel
theorem dX7_move_73 : decode cX7_move 73 = .ok (.invokestatic 161, 3) := by decide +kernel
theorem dX7_move_76 : decode cX7_move 76 = .ok (.iload_n 3, 1) := by decide +kernel
theorem dX7_move_77 : decode cX7_move 77 = .ok (.ireturn, 1) := by decide +kernel
set_option maxRecDepth 20000 in
theorem ggX7_grease_X2_hasCock : GoodIn wsX7_grease wsX2_hasCock := goodIn_r _ [6, 7, 46, 47, 48, 49, 50, 51, 52, 53, 54, 55, 56] (by decide +kernel) (by decide +kernel)
set_option maxRecDepth 20000 in
theorem gX7_grease_X2_hasCock_n110 : GoodIn wsX7_grease (wsX2_hasCock) := ggX7_grease_X2_hasCock
set_option maxRecDepth 20000 in
theorem ggX7_grease_X7_at : GoodIn wsX7_grease wsX7_at := goodIn_r _ [11] (by decide +kernel) (by decide +kernel)
set_option maxRecDepth 20000 in
theorem gX7_grease_X7_at : GoodIn wsX7_grease (va_wsS RX7 106 yX7_at wsX7_at) := goodIn_app (goodIn_of _ (by decide +kernel)) ggX7_grease_X7_at
set_option maxRecDepth 20000 in
theorem ggX7_grease_X0_remember : GoodIn wsX7_grease wsX0_remember := goodIn_r _ [15, 16, 17, 18, 19, 4, 20, 21, 22, 23, 24, 25, 26, 7, 27, 28, 29, 30, 31, 32, 10, 33, 57, 58, 59, 46, 47, 48, 49, 50, 51, 52, 53, 54, 55, 56] (by decide +kernel) (by decide +kernel)
set_option maxRecDepth 20000 in
theorem gX7_grease_X0_remember_n154 : GoodIn wsX7_grease (wsX0_remember) := ggX7_grease_X0_remember
set_option maxRecDepth 20000 in
theorem ggX7_grease_X7_put : GoodIn wsX7_grease wsX7_put := goodIn_r _ [36] (by decide +kernel) (by decide +kernel)
set_option maxRecDepth 20000 in
theorem gX7_grease_X7_put : GoodIn wsX7_grease (va_wsS RX7 161 yX7_put wsX7_put) := goodIn_app (goodIn_of _ (by decide +kernel)) ggX7_grease_X7_put
theorem dX7_grease_0 : decode cX7_grease 0 = .ok (.aload_n 0, 1) := by decide +kernel
theorem dX7_grease_1 : decode cX7_grease 1 = .ok (.getfield 19, 3) := by decide +kernel
theorem dX7_grease_4 : decode cX7_grease 4 = .ok (.iload_n 1, 1) := by decide +kernel
theorem dX7_grease_5 : decode cX7_grease 5 = .ok (.invokevirtual 110, 3) := by decide +kernel
theorem dX7_grease_8 : decode cX7_grease 8 = .ok (.ifCond .ne 5, 3) := by decide +kernel
theorem dX7_grease_11 : decode cX7_grease 11 = .ok (.iconst (-1), 1) := by decide +kernel
theorem dX7_grease_12 : decode cX7_grease 12 = .ok (.ireturn, 1) := by decide +kernel
theorem dX7_grease_13 : decode cX7_grease 13 = .ok (.aload_n 0, 1) := by decide +kernel
theorem dX7_grease_14 : decode cX7_grease 14 = .ok (.getfield 19, 3) := by decide +kernel
theorem dX7_grease_17 : decode cX7_grease 17 = .ok (.getfield 126, 3) := by decide +kernel
theorem dX7_grease_20 : decode cX7_grease 20 = .ok (.iload_n 1, 1) := by decide +kernel
theorem dX7_grease_21 : decode cX7_grease 21 = .ok (.invokestatic 106, 3) := by decide +kernel
theorem dX7_grease_24 : decode cX7_grease 24 = .ok (.istore_n 2, 1) := by decide +kernel
theorem dX7_grease_25 : decode cX7_grease 25 = .ok (.iload_n 2, 1) := by decide +kernel
theorem dX7_grease_26 : decode cX7_grease 26 = .ok (.ifCond .ne 6, 3) := by decide +kernel
theorem dX7_grease_29 : decode cX7_grease 29 = .ok (.bipush (-3), 2) := by decide +kernel
theorem dX7_grease_31 : decode cX7_grease 31 = .ok (.ireturn, 1) := by decide +kernel
theorem dX7_grease_32 : decode cX7_grease 32 = .ok (.aload_n 0, 1) := by decide +kernel
theorem dX7_grease_33 : decode cX7_grease 33 = .ok (.getfield 33, 3) := by decide +kernel
theorem dX7_grease_36 : decode cX7_grease 36 = .ok (.aload_n 0, 1) := by decide +kernel
theorem dX7_grease_37 : decode cX7_grease 37 = .ok (.getfield 19, 3) := by decide +kernel
theorem dX7_grease_40 : decode cX7_grease 40 = .ok (.invokevirtual 154, 3) := by decide +kernel
theorem dX7_grease_43 : decode cX7_grease 43 = .ok (.aload_n 0, 1) := by decide +kernel
theorem dX7_grease_44 : decode cX7_grease 44 = .ok (.getfield 19, 3) := by decide +kernel
theorem dX7_grease_47 : decode cX7_grease 47 = .ok (.getfield 126, 3) := by decide +kernel
theorem dX7_grease_50 : decode cX7_grease 50 = .ok (.iload_n 1, 1) := by decide +kernel
theorem dX7_grease_51 : decode cX7_grease 51 = .ok (.iconst 0, 1) := by decide +kernel
theorem dX7_grease_52 : decode cX7_grease 52 = .ok (.invokestatic 161, 3) := by decide +kernel
theorem dX7_grease_55 : decode cX7_grease 55 = .ok (.iload_n 2, 1) := by decide +kernel
theorem dX7_grease_56 : decode cX7_grease 56 = .ok (.ireturn, 1) := by decide +kernel
set_option maxRecDepth 20000 in
theorem ggX7_capture_X2_hasCock : GoodIn wsX7_capture wsX2_hasCock := goodIn_r _ [6, 7, 43, 44, 45, 46, 47, 48, 49, 50, 51, 52, 53] (by decide +kernel) (by decide +kernel)
set_option maxRecDepth 20000 in
theorem gX7_capture_X2_hasCock_n110 : GoodIn wsX7_capture (wsX2_hasCock) := ggX7_capture_X2_hasCock
set_option maxRecDepth 20000 in
theorem ggX7_capture_X0_remember : GoodIn wsX7_capture wsX0_remember := goodIn_r _ [11, 12, 13, 14, 15, 4, 16, 17, 18, 19, 20, 21, 22, 7, 23, 24, 25, 26, 27, 28, 29, 30, 54, 55, 56, 43, 44, 45, 46, 47, 48, 49, 50, 51, 52, 53] (by decide +kernel) (by decide +kernel)
set_option maxRecDepth 20000 in
theorem gX7_capture_X0_remember_n154 : GoodIn wsX7_capture (wsX0_remember) := ggX7_capture_X0_remember
set_option maxRecDepth 20000 in
theorem ggX7_capture_X7_bit : GoodIn wsX7_capture wsX7_bit := goodIn_r _ [33] (by decide +kernel) (by decide +kernel)
set_option maxRecDepth 20000 in
theorem gX7_capture_X7_bit : GoodIn wsX7_capture (va_wsS RX7 119 yX7_bit wsX7_bit) := goodIn_app (goodIn_of _ (by decide +kernel)) ggX7_capture_X7_bit
theorem dX7_capture_0 : decode cX7_capture 0 = .ok (.aload_n 0, 1) := by decide +kernel
theorem dX7_capture_1 : decode cX7_capture 1 = .ok (.getfield 19, 3) := by decide +kernel
theorem dX7_capture_4 : decode cX7_capture 4 = .ok (.iload_n 1, 1) := by decide +kernel
theorem dX7_capture_5 : decode cX7_capture 5 = .ok (.invokevirtual 110, 3) := by decide +kernel
theorem dX7_capture_8 : decode cX7_capture 8 = .ok (.ifCond .ne 5, 3) := by decide +kernel
theorem dX7_capture_11 : decode cX7_capture 11 = .ok (.iconst (-1), 1) := by decide +kernel
theorem dX7_capture_12 : decode cX7_capture 12 = .ok (.ireturn, 1) := by decide +kernel
theorem dX7_capture_13 : decode cX7_capture 13 = .ok (.aload_n 0, 1) := by decide +kernel
theorem dX7_capture_14 : decode cX7_capture 14 = .ok (.getfield 33, 3) := by decide +kernel
theorem dX7_capture_17 : decode cX7_capture 17 = .ok (.aload_n 0, 1) := by decide +kernel
theorem dX7_capture_18 : decode cX7_capture 18 = .ok (.getfield 19, 3) := by decide +kernel
theorem dX7_capture_21 : decode cX7_capture 21 = .ok (.invokevirtual 154, 3) := by decide +kernel
theorem dX7_capture_24 : decode cX7_capture 24 = .ok (.aload_n 0, 1) := by decide +kernel
theorem dX7_capture_25 : decode cX7_capture 25 = .ok (.getfield 19, 3) := by decide +kernel
theorem dX7_capture_28 : decode cX7_capture 28 = .ok (.dup, 1) := by decide +kernel
theorem dX7_capture_29 : decode cX7_capture 29 = .ok (.getfield 116, 3) := by decide +kernel
theorem dX7_capture_32 : decode cX7_capture 32 = .ok (.iconst 1, 1) := by decide +kernel
theorem dX7_capture_33 : decode cX7_capture 33 = .ok (.iload_n 1, 1) := by decide +kernel
theorem dX7_capture_34 : decode cX7_capture 34 = .ok (.ishl, 1) := by decide +kernel
theorem dX7_capture_35 : decode cX7_capture 35 = .ok (.ixor, 1) := by decide +kernel
theorem dX7_capture_36 : decode cX7_capture 36 = .ok (.putfield 116, 3) := by decide +kernel
theorem dX7_capture_39 : decode cX7_capture 39 = .ok (.aload_n 0, 1) := by decide +kernel
theorem dX7_capture_40 : decode cX7_capture 40 = .ok (.getfield 19, 3) := by decide +kernel
theorem dX7_capture_43 : decode cX7_capture 43 = .ok (.getfield 116, 3) := by decide +kernel
theorem dX7_capture_46 : decode cX7_capture 46 = .ok (.iload_n 1, 1) := by decide +kernel
theorem dX7_capture_47 : decode cX7_capture 47 = .ok (.invokestatic 119, 3) := by decide +kernel
theorem dX7_capture_50 : decode cX7_capture 50 = .ok (.ireturn, 1) := by decide +kernel
set_option maxRecDepth 20000 in
theorem ggX7_hold_X2_hasCock : GoodIn wsX7_hold wsX2_hasCock := goodIn_r _ [6, 7, 43, 44, 45, 46, 47, 48, 49, 50, 51, 52, 53] (by decide +kernel) (by decide +kernel)
set_option maxRecDepth 20000 in
theorem gX7_hold_X2_hasCock_n110 : GoodIn wsX7_hold (wsX2_hasCock) := ggX7_hold_X2_hasCock
set_option maxRecDepth 20000 in
theorem ggX7_hold_X0_remember : GoodIn wsX7_hold wsX0_remember := goodIn_r _ [11, 12, 13, 14, 15, 4, 16, 17, 18, 19, 20, 21, 22, 7, 23, 24, 25, 26, 27, 28, 29, 30, 54, 55, 56, 43, 44, 45, 46, 47, 48, 49, 50, 51, 52, 53] (by decide +kernel) (by decide +kernel)
set_option maxRecDepth 20000 in
theorem gX7_hold_X0_remember_n154 : GoodIn wsX7_hold (wsX0_remember) := ggX7_hold_X0_remember
set_option maxRecDepth 20000 in
theorem ggX7_hold_X7_bit : GoodIn wsX7_hold wsX7_bit := goodIn_r _ [33] (by decide +kernel) (by decide +kernel)
set_option maxRecDepth 20000 in
theorem gX7_hold_X7_bit : GoodIn wsX7_hold (va_wsS RX7 119 yX7_bit wsX7_bit) := goodIn_app (goodIn_of _ (by decide +kernel)) ggX7_hold_X7_bit
theorem dX7_hold_0 : decode cX7_hold 0 = .ok (.aload_n 0, 1) := by decide +kernel
theorem dX7_hold_1 : decode cX7_hold 1 = .ok (.getfield 19, 3) := by decide +kernel
theorem dX7_hold_4 : decode cX7_hold 4 = .ok (.iload_n 1, 1) := by decide +kernel
theorem dX7_hold_5 : decode cX7_hold 5 = .ok (.invokevirtual 110, 3) := by decide +kernel
theorem dX7_hold_8 : decode cX7_hold 8 = .ok (.ifCond .ne 5, 3) := by decide +kernel
theorem dX7_hold_11 : decode cX7_hold 11 = .ok (.iconst (-1), 1) := by decide +kernel
theorem dX7_hold_12 : decode cX7_hold 12 = .ok (.ireturn, 1) := by decide +kernel
theorem dX7_hold_13 : decode cX7_hold 13 = .ok (.aload_n 0, 1) := by decide +kernel
theorem dX7_hold_14 : decode cX7_hold 14 = .ok (.getfield 33, 3) := by decide +kernel
theorem dX7_hold_17 : decode cX7_hold 17 = .ok (.aload_n 0, 1) := by decide +kernel
theorem dX7_hold_18 : decode cX7_hold 18 = .ok (.getfield 19, 3) := by decide +kernel
theorem dX7_hold_21 : decode cX7_hold 21 = .ok (.invokevirtual 154, 3) := by decide +kernel
theorem dX7_hold_24 : decode cX7_hold 24 = .ok (.aload_n 0, 1) := by decide +kernel
theorem dX7_hold_25 : decode cX7_hold 25 = .ok (.getfield 19, 3) := by decide +kernel
theorem dX7_hold_28 : decode cX7_hold 28 = .ok (.dup, 1) := by decide +kernel
theorem dX7_hold_29 : decode cX7_hold 29 = .ok (.getfield 135, 3) := by decide +kernel
theorem dX7_hold_32 : decode cX7_hold 32 = .ok (.iconst 1, 1) := by decide +kernel
theorem dX7_hold_33 : decode cX7_hold 33 = .ok (.iload_n 1, 1) := by decide +kernel
theorem dX7_hold_34 : decode cX7_hold 34 = .ok (.ishl, 1) := by decide +kernel
theorem dX7_hold_35 : decode cX7_hold 35 = .ok (.ixor, 1) := by decide +kernel
theorem dX7_hold_36 : decode cX7_hold 36 = .ok (.putfield 135, 3) := by decide +kernel
theorem dX7_hold_39 : decode cX7_hold 39 = .ok (.aload_n 0, 1) := by decide +kernel
theorem dX7_hold_40 : decode cX7_hold 40 = .ok (.getfield 19, 3) := by decide +kernel
theorem dX7_hold_43 : decode cX7_hold 43 = .ok (.getfield 135, 3) := by decide +kernel
theorem dX7_hold_46 : decode cX7_hold 46 = .ok (.iload_n 1, 1) := by decide +kernel
theorem dX7_hold_47 : decode cX7_hold 47 = .ok (.invokestatic 119, 3) := by decide +kernel
theorem dX7_hold_50 : decode cX7_hold 50 = .ok (.ireturn, 1) := by decide +kernel
set_option maxRecDepth 20000 in
theorem ggX7_undo_X0_takeBack : GoodIn wsX7_undo wsX0_takeBack := goodIn_r _ [6, 7, 8, 9, 10, 11, 12, 13, 14, 15, 16, 17, 18, 19, 20, 21, 22, 23, 24, 25, 26, 27, 37, 38, 39, 40, 41, 42, 43, 44, 45, 46, 47, 48, 49, 50] (by decide +kernel) (by decide +kernel)
set_option maxRecDepth 20000 in
theorem gX7_undo_X0_takeBack_n168 : GoodIn wsX7_undo (wsX0_takeBack) := ggX7_undo_X0_takeBack
theorem dX7_undo_0 : decode cX7_undo 0 = .ok (.aload_n 0, 1) := by decide +kernel
theorem dX7_undo_1 : decode cX7_undo 1 = .ok (.getfield 33, 3) := by decide +kernel
theorem dX7_undo_4 : decode cX7_undo 4 = .ok (.aload_n 0, 1) := by decide +kernel
theorem dX7_undo_5 : decode cX7_undo 5 = .ok (.getfield 19, 3) := by decide +kernel
theorem dX7_undo_8 : decode cX7_undo 8 = .ok (.invokevirtual 168, 3) := by decide +kernel
theorem dX7_undo_11 : decode cX7_undo 11 = .ok (.ireturn, 1) := by decide +kernel
set_option maxRecDepth 20000 in
theorem ggX7_under_X1_hasWind : GoodIn wsX7_under wsX1_hasWind := goodIn_r _ [6, 7, 57, 58, 59, 60] (by decide +kernel) (by decide +kernel)
set_option maxRecDepth 20000 in
theorem gX7_under_X1_hasWind_n138 : GoodIn wsX7_under (wsX1_hasWind) := ggX7_under_X1_hasWind
set_option maxRecDepth 20000 in
theorem ggX7_under_X1_brookUnder : GoodIn wsX7_under wsX1_brookUnder := goodIn_r _ [10, 11, 12, 13, 4, 14, 15, 16, 17, 18, 19, 20, 21, 22, 23, 24, 25, 26, 27, 28, 29, 30, 31, 32, 33, 34, 35, 36, 57, 58, 59, 60, 46, 47, 48, 49, 50, 51, 52, 53, 54, 55, 56] (by decide +kernel) (by decide +kernel)
set_option maxRecDepth 20000 in
theorem gX7_under_X1_brookUnder_n172 : GoodIn wsX7_under (wsX1_brookUnder) := ggX7_under_X1_brookUnder
theorem dX7_under_0 : decode cX7_under 0 = .ok (.aload_n 0, 1) := by decide +kernel
theorem dX7_under_1 : decode cX7_under 1 = .ok (.getfield 26, 3) := by decide +kernel
theorem dX7_under_4 : decode cX7_under 4 = .ok (.iload_n 1, 1) := by decide +kernel
theorem dX7_under_5 : decode cX7_under 5 = .ok (.invokevirtual 138, 3) := by decide +kernel
theorem dX7_under_8 : decode cX7_under 8 = .ok (.ifCond .eq 26, 3) := by decide +kernel
theorem dX7_under_11 : decode cX7_under 11 = .ok (.aload_n 0, 1) := by decide +kernel
theorem dX7_under_12 : decode cX7_under 12 = .ok (.getfield 26, 3) := by decide +kernel
theorem dX7_under_15 : decode cX7_under 15 = .ok (.aload_n 0, 1) := by decide +kernel
theorem dX7_under_16 : decode cX7_under 16 = .ok (.getfield 19, 3) := by decide +kernel
theorem dX7_under_19 : decode cX7_under 19 = .ok (.iload_n 1, 1) := by decide +kernel
theorem dX7_under_20 : decode cX7_under 20 = .ok (.aload_n 0, 1) := by decide +kernel
theorem dX7_under_21 : decode cX7_under 21 = .ok (.getfield 19, 3) := by decide +kernel
theorem dX7_under_24 : decode cX7_under 24 = .ok (.getfield 135, 3) := by decide +kernel
theorem dX7_under_27 : decode cX7_under 27 = .ok (.iconst 0, 1) := by decide +kernel
theorem dX7_under_28 : decode cX7_under 28 = .ok (.invokevirtual 172, 3) := by decide +kernel
theorem dX7_under_31 : decode cX7_under 31 = .ok (.goto 4, 3) := by decide +kernel
theorem dX7_under_34 : decode cX7_under 34 = .ok (.iconst (-1), 1) := by decide +kernel
theorem dX7_under_35 : decode cX7_under 35 = .ok (.ireturn, 1) := by decide +kernel
set_option maxRecDepth 20000 in
theorem ggX7_year_X7_isParish : GoodIn wsX7_year wsX7_isParish := goodIn_r _ [6] (by decide +kernel) (by decide +kernel)
set_option maxRecDepth 20000 in
theorem gX7_year_X7_isParish : GoodIn wsX7_year (va_wsS RX7 175 yX7_isParish wsX7_isParish) := goodIn_app (goodIn_of _ (by decide +kernel)) ggX7_year_X7_isParish
set_option maxRecDepth 20000 in
theorem ggX7_year_X1_yearOf : GoodIn wsX7_year wsX1_yearOf := goodIn_r _ [10, 11, 12, 13, 14, 15, 8, 16, 17, 18, 19, 20, 21, 22, 23, 5, 24, 25, 26, 27, 28, 29, 30, 31, 32, 33, 34, 35, 36, 37, 38, 39, 40, 41, 51, 52, 53, 54, 55, 56, 57, 58, 59, 60, 61, 62, 63, 64, 65] (by decide +kernel) (by decide +kernel)
set_option maxRecDepth 20000 in
theorem gX7_year_X1_yearOf_n178 : GoodIn wsX7_year (wsX1_yearOf) := ggX7_year_X1_yearOf
theorem dX7_year_0 : decode cX7_year 0 = .ok (.iload_n 1, 1) := by decide +kernel
theorem dX7_year_1 : decode cX7_year 1 = .ok (.invokestatic 175, 3) := by decide +kernel
theorem dX7_year_4 : decode cX7_year 4 = .ok (.ifCond .eq 19, 3) := by decide +kernel
theorem dX7_year_7 : decode cX7_year 7 = .ok (.aload_n 0, 1) := by decide +kernel
theorem dX7_year_8 : decode cX7_year 8 = .ok (.getfield 26, 3) := by decide +kernel
theorem dX7_year_11 : decode cX7_year 11 = .ok (.aload_n 0, 1) := by decide +kernel
theorem dX7_year_12 : decode cX7_year 12 = .ok (.getfield 19, 3) := by decide +kernel
theorem dX7_year_15 : decode cX7_year 15 = .ok (.iload_n 1, 1) := by decide +kernel
theorem dX7_year_16 : decode cX7_year 16 = .ok (.iconst 0, 1) := by decide +kernel
theorem dX7_year_17 : decode cX7_year 17 = .ok (.invokevirtual 178, 3) := by decide +kernel
theorem dX7_year_20 : decode cX7_year 20 = .ok (.goto 5, 3) := by decide +kernel
theorem dX7_year_23 : decode cX7_year 23 = .ok (.bipush (-2), 2) := by decide +kernel
theorem dX7_year_25 : decode cX7_year 25 = .ok (.ireturn, 1) := by decide +kernel
set_option maxRecDepth 20000 in
theorem ggX7_placing_X7_isParish : GoodIn wsX7_placing wsX7_isParish := goodIn_r _ [7] (by decide +kernel) (by decide +kernel)
set_option maxRecDepth 20000 in
theorem gX7_placing_X7_isParish : GoodIn wsX7_placing (va_wsS RX7 175 yX7_isParish wsX7_isParish) := goodIn_app (goodIn_of _ (by decide +kernel)) ggX7_placing_X7_isParish
set_option maxRecDepth 20000 in
theorem ggX7_placing_X3_seek : GoodIn wsX7_placing wsX3_seek := goodIn_r _ [11, 12, 13, 14, 15, 16, 17, 18, 19, 20, 21, 22, 23, 24, 25, 26, 27, 28, 29, 6, 30, 31, 32, 33, 9, 34, 35, 36, 37, 38, 39, 40, 41, 42, 43, 44, 45, 46, 47, 48, 49, 50, 51, 52, 53, 54, 55, 56, 57, 58, 59, 60, 61, 62, 63, 64, 65, 66, 67, 68, 69, 70, 71, 72, 82, 83, 84, 85, 86, 87, 88, 89, 90, 91, 92, 93, 94, 95, 96, 97, 98, 99, 100, 101] (by decide +kernel) (by decide +kernel)
set_option maxRecDepth 20000 in
theorem gX7_placing_X3_seek_n182 : GoodIn wsX7_placing (wsX3_seek) := ggX7_placing_X3_seek
theorem dX7_placing_0 : decode cX7_placing 0 = .ok (.iload_n 1, 1) := by decide +kernel
theorem dX7_placing_1 : decode cX7_placing 1 = .ok (.invokestatic 175, 3) := by decide +kernel
theorem dX7_placing_4 : decode cX7_placing 4 = .ok (.ifCond .eq 12, 3) := by decide +kernel
theorem dX7_placing_7 : decode cX7_placing 7 = .ok (.iload_n 2, 1) := by decide +kernel
theorem dX7_placing_8 : decode cX7_placing 8 = .ok (.ifCond .lt 8, 3) := by decide +kernel
theorem dX7_placing_11 : decode cX7_placing 11 = .ok (.iload_n 2, 1) := by decide +kernel
theorem dX7_placing_12 : decode cX7_placing 12 = .ok (.iconst 3, 1) := by decide +kernel
theorem dX7_placing_13 : decode cX7_placing 13 = .ok (.if_icmp .le 6, 3) := by decide +kernel
theorem dX7_placing_16 : decode cX7_placing 16 = .ok (.bipush (-2), 2) := by decide +kernel
theorem dX7_placing_18 : decode cX7_placing 18 = .ok (.ireturn, 1) := by decide +kernel
theorem dX7_placing_19 : decode cX7_placing 19 = .ok (.aload_n 0, 1) := by decide +kernel
theorem dX7_placing_20 : decode cX7_placing 20 = .ok (.getfield 54, 3) := by decide +kernel
theorem dX7_placing_23 : decode cX7_placing 23 = .ok (.aload_n 0, 1) := by decide +kernel
theorem dX7_placing_24 : decode cX7_placing 24 = .ok (.getfield 19, 3) := by decide +kernel
theorem dX7_placing_27 : decode cX7_placing 27 = .ok (.aload_n 0, 1) := by decide +kernel
theorem dX7_placing_28 : decode cX7_placing 28 = .ok (.getfield 26, 3) := by decide +kernel
theorem dX7_placing_31 : decode cX7_placing 31 = .ok (.iload_n 1, 1) := by decide +kernel
theorem dX7_placing_32 : decode cX7_placing 32 = .ok (.invokevirtual 182, 3) := by decide +kernel
theorem dX7_placing_35 : decode cX7_placing 35 = .ok (.iload_n 2, 1) := by decide +kernel
theorem dX7_placing_36 : decode cX7_placing 36 = .ok (.tableswitch 52 0 2 #[28, 36, 44], 28) := by decide +kernel
theorem dX7_placing_64 : decode cX7_placing 64 = .ok (.aload_n 0, 1) := by decide +kernel
theorem dX7_placing_65 : decode cX7_placing 65 = .ok (.getfield 54, 3) := by decide +kernel
theorem dX7_placing_68 : decode cX7_placing 68 = .ok (.getfield 186, 3) := by decide +kernel
theorem dX7_placing_71 : decode cX7_placing 71 = .ok (.ireturn, 1) := by decide +kernel
theorem dX7_placing_72 : decode cX7_placing 72 = .ok (.aload_n 0, 1) := by decide +kernel
end
section
theorem dX7_placing_73 : decode cX7_placing 73 = .ok (.getfield 54, 3) := by decide +kernel
theorem dX7_placing_76 : decode cX7_placing 76 = .ok (.getfield 188, 3) := by decide +kernel
theorem dX7_placing_79 : decode cX7_placing 79 = .ok (.ireturn, 1) := by decide +kernel
theorem dX7_placing_80 : decode cX7_placing 80 = .ok (.aload_n 0, 1) := by decide +kernel
theorem dX7_placing_81 : decode cX7_placing 81 = .ok (.getfield 54, 3) := by decide +kernel
theorem dX7_placing_84 : decode cX7_placing 84 = .ok (.getfield 191, 3) := by decide +kernel
theorem dX7_placing_87 : decode cX7_placing 87 = .ok (.ireturn, 1) := by decide +kernel
theorem dX7_placing_88 : decode cX7_placing 88 = .ok (.aload_n 0, 1) := by decide +kernel
theorem dX7_placing_89 : decode cX7_placing 89 = .ok (.getfield 54, 3) := by decide +kernel
theorem dX7_placing_92 : decode cX7_placing 92 = .ok (.getfield 194, 3) := by decide +kernel
theorem dX7_placing_95 : decode cX7_placing 95 = .ok (.ireturn, 1) := by decide +kernel
set_option maxRecDepth 20000 in
theorem ggX7_trees_X7_isParish : GoodIn wsX7_trees wsX7_isParish := goodIn_r _ [6] (by decide +kernel) (by decide +kernel)
set_option maxRecDepth 20000 in
theorem gX7_trees_X7_isParish : GoodIn wsX7_trees (va_wsS RX7 175 yX7_isParish wsX7_isParish) := goodIn_app (goodIn_of _ (by decide +kernel)) ggX7_trees_X7_isParish
set_option maxRecDepth 20000 in
theorem ggX7_trees_X1_hasWind : GoodIn wsX7_trees wsX1_hasWind := goodIn_r _ [10, 11, 70, 71, 72, 73] (by decide +kernel) (by decide +kernel)
set_option maxRecDepth 20000 in
theorem gX7_trees_X1_hasWind_n138 : GoodIn wsX7_trees (wsX1_hasWind) := ggX7_trees_X1_hasWind
set_option maxRecDepth 20000 in
theorem ggX7_trees_X2_treeCells : GoodIn wsX7_trees wsX2_treeCells := goodIn_r _ [15, 16, 59, 60, 61, 62, 63, 64, 65, 66, 67, 68, 69] (by decide +kernel) (by decide +kernel)
set_option maxRecDepth 20000 in
theorem gX7_trees_X2_treeCells_n197 : GoodIn wsX7_trees (wsX2_treeCells) := ggX7_trees_X2_treeCells
set_option maxRecDepth 20000 in
theorem ggX7_trees_J6_bitCount_0f7a4 : GoodIn wsX7_trees wsJ6_bitCount_0f7a4 := goodIn_r _ [20, 21, 22, 23] (by decide +kernel) (by decide +kernel)
set_option maxRecDepth 20000 in
theorem gX7_trees_J6_bitCount_0f7a4 : GoodIn wsX7_trees (va_wsS RX7 200 yJ6_bitCount_0f7a4 wsJ6_bitCount_0f7a4) := goodIn_app (goodIn_of _ (by decide +kernel)) ggX7_trees_J6_bitCount_0f7a4
set_option maxRecDepth 20000 in
theorem ggX7_trees_X1_brookUnder : GoodIn wsX7_trees wsX1_brookUnder := goodIn_r _ [26, 27, 28, 29, 8, 30, 31, 32, 33, 5, 34, 35, 13, 36, 37, 38, 39, 16, 40, 41, 42, 43, 44, 45, 46, 47, 48, 49, 70, 71, 72, 73, 59, 60, 61, 62, 63, 64, 65, 66, 67, 68, 69] (by decide +kernel) (by decide +kernel)
set_option maxRecDepth 20000 in
theorem gX7_trees_X1_brookUnder_n172 : GoodIn wsX7_trees (wsX1_brookUnder) := ggX7_trees_X1_brookUnder
theorem dX7_trees_0 : decode cX7_trees 0 = .ok (.iload_n 1, 1) := by decide +kernel
theorem dX7_trees_1 : decode cX7_trees 1 = .ok (.invokestatic 175, 3) := by decide +kernel
theorem dX7_trees_4 : decode cX7_trees 4 = .ok (.ifCond .ne 6, 3) := by decide +kernel
theorem dX7_trees_7 : decode cX7_trees 7 = .ok (.bipush (-2), 2) := by decide +kernel
theorem dX7_trees_9 : decode cX7_trees 9 = .ok (.ireturn, 1) := by decide +kernel
theorem dX7_trees_10 : decode cX7_trees 10 = .ok (.aload_n 0, 1) := by decide +kernel
theorem dX7_trees_11 : decode cX7_trees 11 = .ok (.getfield 26, 3) := by decide +kernel
theorem dX7_trees_14 : decode cX7_trees 14 = .ok (.iload_n 2, 1) := by decide +kernel
theorem dX7_trees_15 : decode cX7_trees 15 = .ok (.invokevirtual 138, 3) := by decide +kernel
theorem dX7_trees_18 : decode cX7_trees 18 = .ok (.ifCond .ne 5, 3) := by decide +kernel
theorem dX7_trees_21 : decode cX7_trees 21 = .ok (.iconst (-1), 1) := by decide +kernel
theorem dX7_trees_22 : decode cX7_trees 22 = .ok (.ireturn, 1) := by decide +kernel
theorem dX7_trees_23 : decode cX7_trees 23 = .ok (.aload_n 0, 1) := by decide +kernel
theorem dX7_trees_24 : decode cX7_trees 24 = .ok (.getfield 19, 3) := by decide +kernel
theorem dX7_trees_27 : decode cX7_trees 27 = .ok (.invokevirtual 197, 3) := by decide +kernel
theorem dX7_trees_30 : decode cX7_trees 30 = .ok (.istore_n 3, 1) := by decide +kernel
theorem dX7_trees_31 : decode cX7_trees 31 = .ok (.bipush (-9), 2) := by decide +kernel
theorem dX7_trees_33 : decode cX7_trees 33 = .ok (.istore 4, 2) := by decide +kernel
theorem dX7_trees_35 : decode cX7_trees 35 = .ok (.iconst 0, 1) := by decide +kernel
theorem dX7_trees_36 : decode cX7_trees 36 = .ok (.istore 5, 2) := by decide +kernel
theorem dX7_trees_38 : decode cX7_trees 38 = .ok (.iload 5, 2) := by decide +kernel
theorem dX7_trees_40 : decode cX7_trees 40 = .ok (.sipush 1023, 3) := by decide +kernel
theorem dX7_trees_43 : decode cX7_trees 43 = .ok (.if_icmp .gt 79, 3) := by decide +kernel
theorem dX7_trees_46 : decode cX7_trees 46 = .ok (.iload 4, 2) := by decide +kernel
theorem dX7_trees_48 : decode cX7_trees 48 = .ok (.bipush (-9), 2) := by decide +kernel
theorem dX7_trees_50 : decode cX7_trees 50 = .ok (.if_icmp .eq 16, 3) := by decide +kernel
theorem dX7_trees_53 : decode cX7_trees 53 = .ok (.iload 5, 2) := by decide +kernel
theorem dX7_trees_55 : decode cX7_trees 55 = .ok (.invokestatic 200, 3) := by decide +kernel
theorem dX7_trees_58 : decode cX7_trees 58 = .ok (.iload 4, 2) := by decide +kernel
theorem dX7_trees_60 : decode cX7_trees 60 = .ok (.invokestatic 200, 3) := by decide +kernel
theorem dX7_trees_63 : decode cX7_trees 63 = .ok (.if_icmp .ge 7, 3) := by decide +kernel
theorem dX7_trees_66 : decode cX7_trees 66 = .ok (.iconst 1, 1) := by decide +kernel
theorem dX7_trees_67 : decode cX7_trees 67 = .ok (.goto 4, 3) := by decide +kernel
theorem dX7_trees_70 : decode cX7_trees 70 = .ok (.iconst 0, 1) := by decide +kernel
theorem dX7_trees_71 : decode cX7_trees 71 = .ok (.istore 6, 2) := by decide +kernel
theorem dX7_trees_73 : decode cX7_trees 73 = .ok (.iload 6, 2) := by decide +kernel
theorem dX7_trees_75 : decode cX7_trees 75 = .ok (.ifCond .eq 41, 3) := by decide +kernel
theorem dX7_trees_78 : decode cX7_trees 78 = .ok (.iload 5, 2) := by decide +kernel
theorem dX7_trees_80 : decode cX7_trees 80 = .ok (.iload_n 3, 1) := by decide +kernel
theorem dX7_trees_81 : decode cX7_trees 81 = .ok (.iconst (-1), 1) := by decide +kernel
theorem dX7_trees_82 : decode cX7_trees 82 = .ok (.ixor, 1) := by decide +kernel
theorem dX7_trees_83 : decode cX7_trees 83 = .ok (.iand, 1) := by decide +kernel
theorem dX7_trees_84 : decode cX7_trees 84 = .ok (.ifCond .ne 32, 3) := by decide +kernel
theorem dX7_trees_87 : decode cX7_trees 87 = .ok (.aload_n 0, 1) := by decide +kernel
theorem dX7_trees_88 : decode cX7_trees 88 = .ok (.getfield 26, 3) := by decide +kernel
theorem dX7_trees_91 : decode cX7_trees 91 = .ok (.aload_n 0, 1) := by decide +kernel
theorem dX7_trees_92 : decode cX7_trees 92 = .ok (.getfield 19, 3) := by decide +kernel
theorem dX7_trees_95 : decode cX7_trees 95 = .ok (.iload_n 2, 1) := by decide +kernel
theorem dX7_trees_96 : decode cX7_trees 96 = .ok (.aload_n 0, 1) := by decide +kernel
theorem dX7_trees_97 : decode cX7_trees 97 = .ok (.getfield 19, 3) := by decide +kernel
theorem dX7_trees_100 : decode cX7_trees 100 = .ok (.getfield 135, 3) := by decide +kernel
theorem dX7_trees_103 : decode cX7_trees 103 = .ok (.iload 5, 2) := by decide +kernel
theorem dX7_trees_105 : decode cX7_trees 105 = .ok (.invokevirtual 172, 3) := by decide +kernel
theorem dX7_trees_108 : decode cX7_trees 108 = .ok (.iload_n 1, 1) := by decide +kernel
theorem dX7_trees_109 : decode cX7_trees 109 = .ok (.if_icmp .ne 7, 3) := by decide +kernel
theorem dX7_trees_112 : decode cX7_trees 112 = .ok (.iload 5, 2) := by decide +kernel
theorem dX7_trees_114 : decode cX7_trees 114 = .ok (.istore 4, 2) := by decide +kernel
theorem dX7_trees_116 : decode cX7_trees 116 = .ok (.iinc 5 1, 3) := by decide +kernel
theorem dX7_trees_119 : decode cX7_trees 119 = .ok (.goto (-81), 3) := by decide +kernel
theorem dX7_trees_122 : decode cX7_trees 122 = .ok (.iload 4, 2) := by decide +kernel
theorem dX7_trees_124 : decode cX7_trees 124 = .ok (.ireturn, 1) := by decide +kernel
set_option maxRecDepth 20000 in
theorem ggX7_decides_X1_hasWind : GoodIn wsX7_decides wsX1_hasWind := goodIn_r _ [6, 7, 53, 54, 55, 56] (by decide +kernel) (by decide +kernel)
set_option maxRecDepth 20000 in
theorem gX7_decides_X1_hasWind_n138 : GoodIn wsX7_decides (wsX1_hasWind) := ggX7_decides_X1_hasWind
set_option maxRecDepth 20000 in
theorem ggX7_decides_X1_waysBehind : GoodIn wsX7_decides wsX1_waysBehind := goodIn_r _ [10, 11, 12, 13, 14, 15, 16, 17, 18, 19, 20, 21, 22, 23, 24, 25, 26, 53, 54, 55, 56, 42, 43, 44, 45, 46, 47, 48, 49, 50, 51, 52] (by decide +kernel) (by decide +kernel)
set_option maxRecDepth 20000 in
theorem gX7_decides_X1_waysBehind_n150 : GoodIn wsX7_decides (wsX1_waysBehind) := ggX7_decides_X1_waysBehind
set_option maxRecDepth 20000 in
theorem ggX7_decides_X2_brookBy : GoodIn wsX7_decides wsX2_brookBy := goodIn_r _ [29, 30, 20, 31, 32, 25, 14, 26, 13, 15, 42, 43, 44, 45, 46, 47, 48, 49, 50, 51, 52] (by decide +kernel) (by decide +kernel)
set_option maxRecDepth 20000 in
theorem gX7_decides_X2_brookBy_n205 : GoodIn wsX7_decides (wsX2_brookBy) := ggX7_decides_X2_brookBy
theorem dX7_decides_0 : decode cX7_decides 0 = .ok (.aload_n 0, 1) := by decide +kernel
theorem dX7_decides_1 : decode cX7_decides 1 = .ok (.getfield 26, 3) := by decide +kernel
theorem dX7_decides_4 : decode cX7_decides 4 = .ok (.iload_n 1, 1) := by decide +kernel
theorem dX7_decides_5 : decode cX7_decides 5 = .ok (.invokevirtual 138, 3) := by decide +kernel
theorem dX7_decides_8 : decode cX7_decides 8 = .ok (.ifCond .ne 5, 3) := by decide +kernel
theorem dX7_decides_11 : decode cX7_decides 11 = .ok (.iconst (-1), 1) := by decide +kernel
theorem dX7_decides_12 : decode cX7_decides 12 = .ok (.ireturn, 1) := by decide +kernel
theorem dX7_decides_13 : decode cX7_decides 13 = .ok (.aload_n 0, 1) := by decide +kernel
theorem dX7_decides_14 : decode cX7_decides 14 = .ok (.getfield 26, 3) := by decide +kernel
theorem dX7_decides_17 : decode cX7_decides 17 = .ok (.aload_n 0, 1) := by decide +kernel
theorem dX7_decides_18 : decode cX7_decides 18 = .ok (.getfield 19, 3) := by decide +kernel
theorem dX7_decides_21 : decode cX7_decides 21 = .ok (.iload_n 1, 1) := by decide +kernel
theorem dX7_decides_22 : decode cX7_decides 22 = .ok (.aload_n 0, 1) := by decide +kernel
theorem dX7_decides_23 : decode cX7_decides 23 = .ok (.getfield 19, 3) := by decide +kernel
theorem dX7_decides_26 : decode cX7_decides 26 = .ok (.getfield 135, 3) := by decide +kernel
theorem dX7_decides_29 : decode cX7_decides 29 = .ok (.iconst 0, 1) := by decide +kernel
theorem dX7_decides_30 : decode cX7_decides 30 = .ok (.invokevirtual 150, 3) := by decide +kernel
theorem dX7_decides_33 : decode cX7_decides 33 = .ok (.istore_n 2, 1) := by decide +kernel
theorem dX7_decides_34 : decode cX7_decides 34 = .ok (.aload_n 0, 1) := by decide +kernel
theorem dX7_decides_35 : decode cX7_decides 35 = .ok (.getfield 19, 3) := by decide +kernel
theorem dX7_decides_38 : decode cX7_decides 38 = .ok (.iload_n 2, 1) := by decide +kernel
theorem dX7_decides_39 : decode cX7_decides 39 = .ok (.invokevirtual 205, 3) := by decide +kernel
theorem dX7_decides_42 : decode cX7_decides 42 = .ok (.istore_n 3, 1) := by decide +kernel
theorem dX7_decides_43 : decode cX7_decides 43 = .ok (.iconst 0, 1) := by decide +kernel
theorem dX7_decides_44 : decode cX7_decides 44 = .ok (.istore 4, 2) := by decide +kernel
theorem dX7_decides_46 : decode cX7_decides 46 = .ok (.iconst 0, 1) := by decide +kernel
theorem dX7_decides_47 : decode cX7_decides 47 = .ok (.istore 5, 2) := by decide +kernel
theorem dX7_decides_49 : decode cX7_decides 49 = .ok (.iload 5, 2) := by decide +kernel
theorem dX7_decides_51 : decode cX7_decides 51 = .ok (.aload_n 0, 1) := by decide +kernel
theorem dX7_decides_52 : decode cX7_decides 52 = .ok (.getfield 19, 3) := by decide +kernel
theorem dX7_decides_55 : decode cX7_decides 55 = .ok (.getfield 92, 3) := by decide +kernel
theorem dX7_decides_58 : decode cX7_decides 58 = .ok (.if_icmp .ge 35, 3) := by decide +kernel
theorem dX7_decides_61 : decode cX7_decides 61 = .ok (.aload_n 0, 1) := by decide +kernel
theorem dX7_decides_62 : decode cX7_decides 62 = .ok (.getfield 19, 3) := by decide +kernel
theorem dX7_decides_65 : decode cX7_decides 65 = .ok (.iload_n 2, 1) := by decide +kernel
theorem dX7_decides_66 : decode cX7_decides 66 = .ok (.iconst 1, 1) := by decide +kernel
theorem dX7_decides_67 : decode cX7_decides 67 = .ok (.iload 5, 2) := by decide +kernel
theorem dX7_decides_69 : decode cX7_decides 69 = .ok (.ishl, 1) := by decide +kernel
theorem dX7_decides_70 : decode cX7_decides 70 = .ok (.ixor, 1) := by decide +kernel
theorem dX7_decides_71 : decode cX7_decides 71 = .ok (.invokevirtual 205, 3) := by decide +kernel
theorem dX7_decides_74 : decode cX7_decides 74 = .ok (.iload_n 3, 1) := by decide +kernel
theorem dX7_decides_75 : decode cX7_decides 75 = .ok (.if_icmp .eq 12, 3) := by decide +kernel
theorem dX7_decides_78 : decode cX7_decides 78 = .ok (.iload 4, 2) := by decide +kernel
theorem dX7_decides_80 : decode cX7_decides 80 = .ok (.iconst 1, 1) := by decide +kernel
theorem dX7_decides_81 : decode cX7_decides 81 = .ok (.iload 5, 2) := by decide +kernel
theorem dX7_decides_83 : decode cX7_decides 83 = .ok (.ishl, 1) := by decide +kernel
theorem dX7_decides_84 : decode cX7_decides 84 = .ok (.ior, 1) := by decide +kernel
theorem dX7_decides_85 : decode cX7_decides 85 = .ok (.istore 4, 2) := by decide +kernel
theorem dX7_decides_87 : decode cX7_decides 87 = .ok (.iinc 5 1, 3) := by decide +kernel
theorem dX7_decides_90 : decode cX7_decides 90 = .ok (.goto (-41), 3) := by decide +kernel
theorem dX7_decides_93 : decode cX7_decides 93 = .ok (.iload 4, 2) := by decide +kernel
theorem dX7_decides_95 : decode cX7_decides 95 = .ok (.ireturn, 1) := by decide +kernel
set_option maxRecDepth 20000 in
theorem ggX7_power_X2_hasCock : GoodIn wsX7_power wsX2_hasCock := goodIn_r _ [5, 6, 30, 31, 32, 33, 34, 35, 36, 37, 38, 39, 40] (by decide +kernel) (by decide +kernel)
set_option maxRecDepth 20000 in
theorem gX7_power_X2_hasCock_n110 : GoodIn wsX7_power (wsX2_hasCock) := ggX7_power_X2_hasCock
set_option maxRecDepth 20000 in
theorem ggX7_power_X2_everyCock : GoodIn wsX7_power wsX2_everyCock := goodIn_r _ [9, 6, 30, 31, 32, 33, 34, 35, 36, 37, 38, 39, 40] (by decide +kernel) (by decide +kernel)
set_option maxRecDepth 20000 in
theorem gX7_power_X2_everyCock_n208 : GoodIn wsX7_power (wsX2_everyCock) := ggX7_power_X2_everyCock
set_option maxRecDepth 20000 in
theorem ggX7_power_X2_brookBy : GoodIn wsX7_power wsX2_brookBy := goodIn_r _ [12, 13, 6, 14, 15, 16, 17, 18, 19, 20, 30, 31, 32, 33, 34, 35, 36, 37, 38, 39, 40] (by decide +kernel) (by decide +kernel)
set_option maxRecDepth 20000 in
theorem gX7_power_X2_brookBy_n205 : GoodIn wsX7_power (wsX2_brookBy) := ggX7_power_X2_brookBy
theorem dX7_power_0 : decode cX7_power 0 = .ok (.aload_n 0, 1) := by decide +kernel
theorem dX7_power_1 : decode cX7_power 1 = .ok (.getfield 19, 3) := by decide +kernel
theorem dX7_power_4 : decode cX7_power 4 = .ok (.iload_n 1, 1) := by decide +kernel
theorem dX7_power_5 : decode cX7_power 5 = .ok (.invokevirtual 110, 3) := by decide +kernel
theorem dX7_power_8 : decode cX7_power 8 = .ok (.ifCond .ne 5, 3) := by decide +kernel
theorem dX7_power_11 : decode cX7_power 11 = .ok (.iconst (-1), 1) := by decide +kernel
theorem dX7_power_12 : decode cX7_power 12 = .ok (.ireturn, 1) := by decide +kernel
theorem dX7_power_13 : decode cX7_power 13 = .ok (.iconst 1, 1) := by decide +kernel
theorem dX7_power_14 : decode cX7_power 14 = .ok (.iload_n 1, 1) := by decide +kernel
theorem dX7_power_15 : decode cX7_power 15 = .ok (.ishl, 1) := by decide +kernel
theorem dX7_power_16 : decode cX7_power 16 = .ok (.istore_n 2, 1) := by decide +kernel
theorem dX7_power_17 : decode cX7_power 17 = .ok (.aload_n 0, 1) := by decide +kernel
theorem dX7_power_18 : decode cX7_power 18 = .ok (.getfield 19, 3) := by decide +kernel
theorem dX7_power_21 : decode cX7_power 21 = .ok (.invokevirtual 208, 3) := by decide +kernel
theorem dX7_power_24 : decode cX7_power 24 = .ok (.istore_n 3, 1) := by decide +kernel
theorem dX7_power_25 : decode cX7_power 25 = .ok (.iconst 0, 1) := by decide +kernel
theorem dX7_power_26 : decode cX7_power 26 = .ok (.istore 4, 2) := by decide +kernel
theorem dX7_power_28 : decode cX7_power 28 = .ok (.iconst 0, 1) := by decide +kernel
theorem dX7_power_29 : decode cX7_power 29 = .ok (.istore 5, 2) := by decide +kernel
theorem dX7_power_31 : decode cX7_power 31 = .ok (.iload 5, 2) := by decide +kernel
theorem dX7_power_33 : decode cX7_power 33 = .ok (.iload_n 3, 1) := by decide +kernel
theorem dX7_power_34 : decode cX7_power 34 = .ok (.if_icmp .gt 42, 3) := by decide +kernel
theorem dX7_power_37 : decode cX7_power 37 = .ok (.iload 5, 2) := by decide +kernel
theorem dX7_power_39 : decode cX7_power 39 = .ok (.iload_n 2, 1) := by decide +kernel
theorem dX7_power_40 : decode cX7_power 40 = .ok (.iand, 1) := by decide +kernel
theorem dX7_power_41 : decode cX7_power 41 = .ok (.ifCond .ne 29, 3) := by decide +kernel
theorem dX7_power_44 : decode cX7_power 44 = .ok (.aload_n 0, 1) := by decide +kernel
theorem dX7_power_45 : decode cX7_power 45 = .ok (.getfield 19, 3) := by decide +kernel
theorem dX7_power_48 : decode cX7_power 48 = .ok (.iload 5, 2) := by decide +kernel
theorem dX7_power_50 : decode cX7_power 50 = .ok (.invokevirtual 205, 3) := by decide +kernel
theorem dX7_power_53 : decode cX7_power 53 = .ok (.aload_n 0, 1) := by decide +kernel
theorem dX7_power_54 : decode cX7_power 54 = .ok (.getfield 19, 3) := by decide +kernel
theorem dX7_power_57 : decode cX7_power 57 = .ok (.iload 5, 2) := by decide +kernel
theorem dX7_power_59 : decode cX7_power 59 = .ok (.iload_n 2, 1) := by decide +kernel
theorem dX7_power_60 : decode cX7_power 60 = .ok (.ior, 1) := by decide +kernel
theorem dX7_power_61 : decode cX7_power 61 = .ok (.invokevirtual 205, 3) := by decide +kernel
theorem dX7_power_64 : decode cX7_power 64 = .ok (.if_icmp .eq 6, 3) := by decide +kernel
theorem dX7_power_67 : decode cX7_power 67 = .ok (.iinc 4 1, 3) := by decide +kernel
theorem dX7_power_70 : decode cX7_power 70 = .ok (.iinc 5 1, 3) := by decide +kernel
theorem dX7_power_73 : decode cX7_power 73 = .ok (.goto (-42), 3) := by decide +kernel
theorem dX7_power_76 : decode cX7_power 76 = .ok (.iload 4, 2) := by decide +kernel
theorem dX7_power_78 : decode cX7_power 78 = .ok (.ireturn, 1) := by decide +kernel
set_option maxRecDepth 20000 in
theorem ggX7_judge_X7_cutFigures : GoodIn wsX7_judge wsX7_cutFigures := goodIn_r _ [7] (by decide +kernel) (by decide +kernel)
set_option maxRecDepth 20000 in
theorem gX7_judge_X7_cutFigures : GoodIn wsX7_judge (va_wsS RX7 211 yX7_cutFigures wsX7_cutFigures) := goodIn_app (goodIn_of _ (by decide +kernel)) ggX7_judge_X7_cutFigures
set_option maxRecDepth 20000 in
theorem ggX7_judge_X2_copyFrom : GoodIn wsX7_judge wsX2_copyFrom := goodIn_r _ [11, 12, 13, 14, 15, 16, 17, 18, 19, 20, 21, 22, 23, 6, 24, 58, 59, 60, 61, 62, 63, 64, 65, 66, 67, 68] (by decide +kernel) (by decide +kernel)
set_option maxRecDepth 20000 in
theorem gX7_judge_X2_copyFrom_n80 : GoodIn wsX7_judge (wsX2_copyFrom) := ggX7_judge_X2_copyFrom
set_option maxRecDepth 20000 in
theorem ggX7_judge_X1_hasWind : GoodIn wsX7_judge wsX1_hasWind := goodIn_r _ [28, 29, 69, 70, 71, 72] (by decide +kernel) (by decide +kernel)
set_option maxRecDepth 20000 in
theorem gX7_judge_X1_hasWind_n138 : GoodIn wsX7_judge (wsX1_hasWind) := ggX7_judge_X1_hasWind
set_option maxRecDepth 20000 in
theorem ggX7_judge_X1_blowOver : GoodIn wsX7_judge wsX1_blowOver := goodIn_r _ [32, 33, 34, 35, 26, 36, 37, 38, 39, 6, 40, 41, 9, 42, 43, 17, 13, 12, 15, 14, 44, 45, 46, 47, 48, 18, 16, 21, 58, 59, 60, 61, 62, 63, 64, 65, 66, 67, 68, 69, 70, 71, 72] (by decide +kernel) (by decide +kernel)
set_option maxRecDepth 20000 in
theorem gX7_judge_X1_blowOver_n157 : GoodIn wsX7_judge (wsX1_blowOver) := ggX7_judge_X1_blowOver
theorem dX7_judge_0 : decode cX7_judge 0 = .ok (.iload_n 1, 1) := by decide +kernel
theorem dX7_judge_1 : decode cX7_judge 1 = .ok (.iconst 1, 1) := by decide +kernel
theorem dX7_judge_2 : decode cX7_judge 2 = .ok (.if_icmp .lt 21, 3) := by decide +kernel
theorem dX7_judge_5 : decode cX7_judge 5 = .ok (.iload_n 1, 1) := by decide +kernel
theorem dX7_judge_6 : decode cX7_judge 6 = .ok (.bipush 6, 2) := by decide +kernel
theorem dX7_judge_8 : decode cX7_judge 8 = .ok (.if_icmp .gt 15, 3) := by decide +kernel
theorem dX7_judge_11 : decode cX7_judge 11 = .ok (.iload_n 2, 1) := by decide +kernel
theorem dX7_judge_12 : decode cX7_judge 12 = .ok (.ifCond .lt 11, 3) := by decide +kernel
theorem dX7_judge_15 : decode cX7_judge 15 = .ok (.iload_n 2, 1) := by decide +kernel
theorem dX7_judge_16 : decode cX7_judge 16 = .ok (.iload_n 1, 1) := by decide +kernel
theorem dX7_judge_17 : decode cX7_judge 17 = .ok (.invokestatic 211, 3) := by decide +kernel
theorem dX7_judge_20 : decode cX7_judge 20 = .ok (.ifCond .le 6, 3) := by decide +kernel
theorem dX7_judge_23 : decode cX7_judge 23 = .ok (.bipush (-2), 2) := by decide +kernel
theorem dX7_judge_25 : decode cX7_judge 25 = .ok (.ireturn, 1) := by decide +kernel
theorem dX7_judge_26 : decode cX7_judge 26 = .ok (.aload_n 0, 1) := by decide +kernel
theorem dX7_judge_27 : decode cX7_judge 27 = .ok (.getfield 58, 3) := by decide +kernel
theorem dX7_judge_30 : decode cX7_judge 30 = .ok (.aload_n 0, 1) := by decide +kernel
theorem dX7_judge_31 : decode cX7_judge 31 = .ok (.getfield 19, 3) := by decide +kernel
theorem dX7_judge_34 : decode cX7_judge 34 = .ok (.invokevirtual 80, 3) := by decide +kernel
theorem dX7_judge_37 : decode cX7_judge 37 = .ok (.iconst 0, 1) := by decide +kernel
theorem dX7_judge_38 : decode cX7_judge 38 = .ok (.istore_n 3, 1) := by decide +kernel
theorem dX7_judge_39 : decode cX7_judge 39 = .ok (.iload_n 3, 1) := by decide +kernel
theorem dX7_judge_40 : decode cX7_judge 40 = .ok (.iload_n 1, 1) := by decide +kernel
theorem dX7_judge_41 : decode cX7_judge 41 = .ok (.if_icmp .ge 53, 3) := by decide +kernel
theorem dX7_judge_44 : decode cX7_judge 44 = .ok (.iload_n 2, 1) := by decide +kernel
theorem dX7_judge_45 : decode cX7_judge 45 = .ok (.iload_n 1, 1) := by decide +kernel
theorem dX7_judge_46 : decode cX7_judge 46 = .ok (.iconst 1, 1) := by decide +kernel
theorem dX7_judge_47 : decode cX7_judge 47 = .ok (.isub, 1) := by decide +kernel
theorem dX7_judge_48 : decode cX7_judge 48 = .ok (.iload_n 3, 1) := by decide +kernel
theorem dX7_judge_49 : decode cX7_judge 49 = .ok (.isub, 1) := by decide +kernel
theorem dX7_judge_50 : decode cX7_judge 50 = .ok (.invokestatic 211, 3) := by decide +kernel
theorem dX7_judge_53 : decode cX7_judge 53 = .ok (.bipush 10, 2) := by decide +kernel
theorem dX7_judge_55 : decode cX7_judge 55 = .ok (.irem, 1) := by decide +kernel
theorem dX7_judge_56 : decode cX7_judge 56 = .ok (.istore 4, 2) := by decide +kernel
theorem dX7_judge_58 : decode cX7_judge 58 = .ok (.aload_n 0, 1) := by decide +kernel
theorem dX7_judge_59 : decode cX7_judge 59 = .ok (.getfield 26, 3) := by decide +kernel
theorem dX7_judge_62 : decode cX7_judge 62 = .ok (.iload 4, 2) := by decide +kernel
theorem dX7_judge_64 : decode cX7_judge 64 = .ok (.invokevirtual 138, 3) := by decide +kernel
theorem dX7_judge_67 : decode cX7_judge 67 = .ok (.ifCond .eq 19, 3) := by decide +kernel
theorem dX7_judge_70 : decode cX7_judge 70 = .ok (.aload_n 0, 1) := by decide +kernel
theorem dX7_judge_71 : decode cX7_judge 71 = .ok (.getfield 26, 3) := by decide +kernel
theorem dX7_judge_74 : decode cX7_judge 74 = .ok (.aload_n 0, 1) := by decide +kernel
theorem dX7_judge_75 : decode cX7_judge 75 = .ok (.getfield 58, 3) := by decide +kernel
theorem dX7_judge_78 : decode cX7_judge 78 = .ok (.iload 4, 2) := by decide +kernel
theorem dX7_judge_80 : decode cX7_judge 80 = .ok (.invokevirtual 157, 3) := by decide +kernel
theorem dX7_judge_83 : decode cX7_judge 83 = .ok (.ifCond .eq 5, 3) := by decide +kernel
theorem dX7_judge_86 : decode cX7_judge 86 = .ok (.iload_n 3, 1) := by decide +kernel
theorem dX7_judge_87 : decode cX7_judge 87 = .ok (.ireturn, 1) := by decide +kernel
theorem dX7_judge_88 : decode cX7_judge 88 = .ok (.iinc 3 1, 3) := by decide +kernel
theorem dX7_judge_91 : decode cX7_judge 91 = .ok (.goto (-52), 3) := by decide +kernel
theorem dX7_judge_94 : decode cX7_judge 94 = .ok (.bipush (-9), 2) := by decide +kernel
theorem dX7_judge_96 : decode cX7_judge 96 = .ok (.ireturn, 1) := by decide +kernel
set_option maxRecDepth 20000 in
theorem ggX7_see_X2_hasCock : GoodIn wsX7_see wsX2_hasCock := goodIn_r _ [6, 7, 27, 28, 29, 30, 31, 32, 33, 34, 35, 36, 37] (by decide +kernel) (by decide +kernel)
set_option maxRecDepth 20000 in
theorem gX7_see_X2_hasCock_n110 : GoodIn wsX7_see (wsX2_hasCock) := ggX7_see_X2_hasCock
set_option maxRecDepth 20000 in
theorem ggX7_see_X5_add : GoodIn wsX7_see wsX5_add := goodIn_r _ [11, 12, 13, 14, 15, 16, 17, 38, 39, 40] (by decide +kernel) (by decide +kernel)
set_option maxRecDepth 20000 in
theorem gX7_see_X5_add_n214 : GoodIn wsX7_see (wsX5_add) := ggX7_see_X5_add
theorem dX7_see_0 : decode cX7_see 0 = .ok (.aload_n 0, 1) := by decide +kernel
theorem dX7_see_1 : decode cX7_see 1 = .ok (.getfield 19, 3) := by decide +kernel
theorem dX7_see_4 : decode cX7_see 4 = .ok (.iload_n 1, 1) := by decide +kernel
theorem dX7_see_5 : decode cX7_see 5 = .ok (.invokevirtual 110, 3) := by decide +kernel
theorem dX7_see_8 : decode cX7_see 8 = .ok (.ifCond .ne 5, 3) := by decide +kernel
theorem dX7_see_11 : decode cX7_see 11 = .ok (.iconst (-1), 1) := by decide +kernel
theorem dX7_see_12 : decode cX7_see 12 = .ok (.ireturn, 1) := by decide +kernel
theorem dX7_see_13 : decode cX7_see 13 = .ok (.iload_n 2, 1) := by decide +kernel
theorem dX7_see_14 : decode cX7_see 14 = .ok (.ifCond .lt 8, 3) := by decide +kernel
theorem dX7_see_17 : decode cX7_see 17 = .ok (.iload_n 2, 1) := by decide +kernel
theorem dX7_see_18 : decode cX7_see 18 = .ok (.iconst 1, 1) := by decide +kernel
theorem dX7_see_19 : decode cX7_see 19 = .ok (.if_icmp .le 6, 3) := by decide +kernel
theorem dX7_see_22 : decode cX7_see 22 = .ok (.bipush (-2), 2) := by decide +kernel
theorem dX7_see_24 : decode cX7_see 24 = .ok (.ireturn, 1) := by decide +kernel
theorem dX7_see_25 : decode cX7_see 25 = .ok (.aload_n 0, 1) := by decide +kernel
theorem dX7_see_26 : decode cX7_see 26 = .ok (.getfield 40, 3) := by decide +kernel
theorem dX7_see_29 : decode cX7_see 29 = .ok (.iload_n 1, 1) := by decide +kernel
theorem dX7_see_30 : decode cX7_see 30 = .ok (.iload_n 2, 1) := by decide +kernel
theorem dX7_see_31 : decode cX7_see 31 = .ok (.invokevirtual 214, 3) := by decide +kernel
theorem dX7_see_34 : decode cX7_see 34 = .ok (.ireturn, 1) := by decide +kernel
theorem dX7_unsee_0 : decode cX7_unsee 0 = .ok (.aload_n 0, 1) := by decide +kernel
theorem dX7_unsee_1 : decode cX7_unsee 1 = .ok (.getfield 40, 3) := by decide +kernel
theorem dX7_unsee_4 : decode cX7_unsee 4 = .ok (.getfield 217, 3) := by decide +kernel
theorem dX7_unsee_7 : decode cX7_unsee 7 = .ok (.istore_n 1, 1) := by decide +kernel
theorem dX7_unsee_8 : decode cX7_unsee 8 = .ok (.aload_n 0, 1) := by decide +kernel
theorem dX7_unsee_9 : decode cX7_unsee 9 = .ok (.getfield 40, 3) := by decide +kernel
theorem dX7_unsee_12 : decode cX7_unsee 12 = .ok (.iconst 0, 1) := by decide +kernel
theorem dX7_unsee_13 : decode cX7_unsee 13 = .ok (.putfield 217, 3) := by decide +kernel
theorem dX7_unsee_16 : decode cX7_unsee 16 = .ok (.iload_n 1, 1) := by decide +kernel
theorem dX7_unsee_17 : decode cX7_unsee 17 = .ok (.ireturn, 1) := by decide +kernel
set_option maxRecDepth 20000 in
theorem ggX7_strings_X1_hasWind : GoodIn wsX7_strings wsX1_hasWind := goodIn_r _ [7, 8, 50, 51, 52, 53] (by decide +kernel) (by decide +kernel)
set_option maxRecDepth 20000 in
theorem gX7_strings_X1_hasWind_n138 : GoodIn wsX7_strings (wsX1_hasWind) := ggX7_strings_X1_hasWind
set_option maxRecDepth 20000 in
theorem ggX7_strings_X2_everyCock : GoodIn wsX7_strings wsX2_everyCock := goodIn_r _ [12, 13, 54, 55, 56, 57, 58, 59, 60, 61, 62, 63, 64] (by decide +kernel) (by decide +kernel)
set_option maxRecDepth 20000 in
theorem gX7_strings_X2_everyCock_n208 : GoodIn wsX7_strings (wsX2_everyCock) := ggX7_strings_X2_everyCock
set_option maxRecDepth 20000 in
theorem ggX7_strings_X1_waysBehind : GoodIn wsX7_strings wsX1_waysBehind := goodIn_r _ [16, 17, 18, 19, 20, 21, 22, 10, 23, 24, 13, 25, 26, 27, 28, 29, 30, 50, 51, 52, 53, 54, 55, 56, 57, 58, 59, 60, 61, 62, 63, 64] (by decide +kernel) (by decide +kernel)
set_option maxRecDepth 20000 in
theorem gX7_strings_X1_waysBehind_n150 : GoodIn wsX7_strings (wsX1_waysBehind) := ggX7_strings_X1_waysBehind
set_option maxRecDepth 20000 in
theorem ggX7_strings_X5_agree : GoodIn wsX7_strings wsX5_agree := goodIn_r _ [34, 35, 36, 37, 19, 20, 21, 38, 10, 39, 40, 13, 29, 30, 65, 66, 67, 54, 55, 56, 57, 58, 59, 60, 61, 62, 63, 64] (by decide +kernel) (by decide +kernel)
set_option maxRecDepth 20000 in
theorem gX7_strings_X5_agree_n220 : GoodIn wsX7_strings (wsX5_agree) := ggX7_strings_X5_agree
theorem dX7_strings_0 : decode cX7_strings 0 = .ok (.aload_n 0, 1) := by decide +kernel
theorem dX7_strings_1 : decode cX7_strings 1 = .ok (.getfield 26, 3) := by decide +kernel
theorem dX7_strings_4 : decode cX7_strings 4 = .ok (.iload_n 1, 1) := by decide +kernel
theorem dX7_strings_5 : decode cX7_strings 5 = .ok (.invokevirtual 138, 3) := by decide +kernel
theorem dX7_strings_8 : decode cX7_strings 8 = .ok (.ifCond .ne 5, 3) := by decide +kernel
theorem dX7_strings_11 : decode cX7_strings 11 = .ok (.iconst (-1), 1) := by decide +kernel
theorem dX7_strings_12 : decode cX7_strings 12 = .ok (.ireturn, 1) := by decide +kernel
theorem dX7_strings_13 : decode cX7_strings 13 = .ok (.iload_n 2, 1) := by decide +kernel
theorem dX7_strings_14 : decode cX7_strings 14 = .ok (.ifCond .lt 8, 3) := by decide +kernel
theorem dX7_strings_17 : decode cX7_strings 17 = .ok (.iload_n 2, 1) := by decide +kernel
theorem dX7_strings_18 : decode cX7_strings 18 = .ok (.iconst 2, 1) := by decide +kernel
theorem dX7_strings_19 : decode cX7_strings 19 = .ok (.if_icmp .le 6, 3) := by decide +kernel
theorem dX7_strings_22 : decode cX7_strings 22 = .ok (.bipush (-2), 2) := by decide +kernel
theorem dX7_strings_24 : decode cX7_strings 24 = .ok (.ireturn, 1) := by decide +kernel
theorem dX7_strings_25 : decode cX7_strings 25 = .ok (.aload_n 0, 1) := by decide +kernel
theorem dX7_strings_26 : decode cX7_strings 26 = .ok (.getfield 19, 3) := by decide +kernel
theorem dX7_strings_29 : decode cX7_strings 29 = .ok (.invokevirtual 208, 3) := by decide +kernel
theorem dX7_strings_32 : decode cX7_strings 32 = .ok (.istore_n 3, 1) := by decide +kernel
theorem dX7_strings_33 : decode cX7_strings 33 = .ok (.iconst 0, 1) := by decide +kernel
theorem dX7_strings_34 : decode cX7_strings 34 = .ok (.istore 4, 2) := by decide +kernel
theorem dX7_strings_36 : decode cX7_strings 36 = .ok (.iload_n 3, 1) := by decide +kernel
theorem dX7_strings_37 : decode cX7_strings 37 = .ok (.istore 5, 2) := by decide +kernel
theorem dX7_strings_39 : decode cX7_strings 39 = .ok (.iconst 0, 1) := by decide +kernel
theorem dX7_strings_40 : decode cX7_strings 40 = .ok (.istore 6, 2) := by decide +kernel
theorem dX7_strings_42 : decode cX7_strings 42 = .ok (.iconst 0, 1) := by decide +kernel
theorem dX7_strings_43 : decode cX7_strings 43 = .ok (.istore 7, 2) := by decide +kernel
theorem dX7_strings_45 : decode cX7_strings 45 = .ok (.iload 7, 2) := by decide +kernel
theorem dX7_strings_47 : decode cX7_strings 47 = .ok (.iload_n 3, 1) := by decide +kernel
theorem dX7_strings_48 : decode cX7_strings 48 = .ok (.if_icmp .gt 55, 3) := by decide +kernel
theorem dX7_strings_51 : decode cX7_strings 51 = .ok (.aload_n 0, 1) := by decide +kernel
theorem dX7_strings_52 : decode cX7_strings 52 = .ok (.getfield 40, 3) := by decide +kernel
theorem dX7_strings_55 : decode cX7_strings 55 = .ok (.aload_n 0, 1) := by decide +kernel
theorem dX7_strings_56 : decode cX7_strings 56 = .ok (.getfield 19, 3) := by decide +kernel
theorem dX7_strings_59 : decode cX7_strings 59 = .ok (.aload_n 0, 1) := by decide +kernel
theorem dX7_strings_60 : decode cX7_strings 60 = .ok (.getfield 26, 3) := by decide +kernel
theorem dX7_strings_63 : decode cX7_strings 63 = .ok (.aload_n 0, 1) := by decide +kernel
theorem dX7_strings_64 : decode cX7_strings 64 = .ok (.getfield 19, 3) := by decide +kernel
theorem dX7_strings_67 : decode cX7_strings 67 = .ok (.iload_n 1, 1) := by decide +kernel
theorem dX7_strings_68 : decode cX7_strings 68 = .ok (.iload 7, 2) := by decide +kernel
theorem dX7_strings_70 : decode cX7_strings 70 = .ok (.iconst 0, 1) := by decide +kernel
theorem dX7_strings_71 : decode cX7_strings 71 = .ok (.invokevirtual 150, 3) := by decide +kernel
theorem dX7_strings_74 : decode cX7_strings 74 = .ok (.invokevirtual 220, 3) := by decide +kernel
theorem dX7_strings_77 : decode cX7_strings 77 = .ok (.ifCond .eq 20, 3) := by decide +kernel
theorem dX7_strings_80 : decode cX7_strings 80 = .ok (.iinc 4 1, 3) := by decide +kernel
theorem dX7_strings_83 : decode cX7_strings 83 = .ok (.iload 5, 2) := by decide +kernel
theorem dX7_strings_85 : decode cX7_strings 85 = .ok (.iload 7, 2) := by decide +kernel
theorem dX7_strings_87 : decode cX7_strings 87 = .ok (.iand, 1) := by decide +kernel
theorem dX7_strings_88 : decode cX7_strings 88 = .ok (.istore 5, 2) := by decide +kernel
theorem dX7_strings_90 : decode cX7_strings 90 = .ok (.iload 6, 2) := by decide +kernel
theorem dX7_strings_92 : decode cX7_strings 92 = .ok (.iload 7, 2) := by decide +kernel
theorem dX7_strings_94 : decode cX7_strings 94 = .ok (.ior, 1) := by decide +kernel
theorem dX7_strings_95 : decode cX7_strings 95 = .ok (.istore 6, 2) := by decide +kernel
theorem dX7_strings_97 : decode cX7_strings 97 = .ok (.iinc 7 1, 3) := by decide +kernel
theorem dX7_strings_100 : decode cX7_strings 100 = .ok (.goto (-55), 3) := by decide +kernel
theorem dX7_strings_103 : decode cX7_strings 103 = .ok (.iload_n 2, 1) := by decide +kernel
theorem dX7_strings_104 : decode cX7_strings 104 = .ok (.ifCond .ne 6, 3) := by decide +kernel
theorem dX7_strings_107 : decode cX7_strings 107 = .ok (.iload 4, 2) := by decide +kernel
theorem dX7_strings_109 : decode cX7_strings 109 = .ok (.ireturn, 1) := by decide +kernel
theorem dX7_strings_110 : decode cX7_strings 110 = .ok (.iload 4, 2) := by decide +kernel
theorem dX7_strings_112 : decode cX7_strings 112 = .ok (.ifCond .ne 6, 3) := by decide +kernel
theorem dX7_strings_115 : decode cX7_strings 115 = .ok (.bipush (-9), 2) := by decide +kernel
theorem dX7_strings_117 : decode cX7_strings 117 = .ok (.ireturn, 1) := by decide +kernel
theorem dX7_strings_118 : decode cX7_strings 118 = .ok (.iload_n 2, 1) := by decide +kernel
theorem dX7_strings_119 : decode cX7_strings 119 = .ok (.iconst 1, 1) := by decide +kernel
theorem dX7_strings_120 : decode cX7_strings 120 = .ok (.if_icmp .ne 8, 3) := by decide +kernel
theorem dX7_strings_123 : decode cX7_strings 123 = .ok (.iload 5, 2) := by decide +kernel
theorem dX7_strings_125 : decode cX7_strings 125 = .ok (.goto 9, 3) := by decide +kernel
theorem dX7_strings_128 : decode cX7_strings 128 = .ok (.iload_n 3, 1) := by decide +kernel
theorem dX7_strings_129 : decode cX7_strings 129 = .ok (.iload 6, 2) := by decide +kernel
theorem dX7_strings_131 : decode cX7_strings 131 = .ok (.iconst (-1), 1) := by decide +kernel
theorem dX7_strings_132 : decode cX7_strings 132 = .ok (.ixor, 1) := by decide +kernel
theorem dX7_strings_133 : decode cX7_strings 133 = .ok (.iand, 1) := by decide +kernel
theorem dX7_strings_134 : decode cX7_strings 134 = .ok (.ireturn, 1) := by decide +kernel
set_option maxRecDepth 20000 in
theorem ggX7_winds_X1_waysBehind : GoodIn wsX7_winds wsX1_waysBehind := goodIn_r _ [7, 8, 9, 10, 11, 12, 13, 14, 15, 16, 17, 18, 19, 20, 21, 22, 23, 43, 44, 45, 46, 47, 48, 49, 50, 51, 52, 53, 54, 55, 56, 57] (by decide +kernel) (by decide +kernel)
set_option maxRecDepth 20000 in
theorem gX7_winds_X1_waysBehind_n150 : GoodIn wsX7_winds (wsX1_waysBehind) := ggX7_winds_X1_waysBehind
set_option maxRecDepth 20000 in
theorem ggX7_winds_X5_agree : GoodIn wsX7_winds wsX5_agree := goodIn_r _ [27, 28, 29, 30, 10, 11, 12, 31, 14, 32, 33, 17, 22, 23, 58, 59, 60, 47, 48, 49, 50, 51, 52, 53, 54, 55, 56, 57] (by decide +kernel) (by decide +kernel)
set_option maxRecDepth 20000 in
theorem gX7_winds_X5_agree_n220 : GoodIn wsX7_winds (wsX5_agree) := ggX7_winds_X5_agree
theorem dX7_winds_0 : decode cX7_winds 0 = .ok (.iconst 0, 1) := by decide +kernel
theorem dX7_winds_1 : decode cX7_winds 1 = .ok (.istore_n 1, 1) := by decide +kernel
theorem dX7_winds_2 : decode cX7_winds 2 = .ok (.iconst 0, 1) := by decide +kernel
theorem dX7_winds_3 : decode cX7_winds 3 = .ok (.istore_n 2, 1) := by decide +kernel
theorem dX7_winds_4 : decode cX7_winds 4 = .ok (.iload_n 2, 1) := by decide +kernel
theorem dX7_winds_5 : decode cX7_winds 5 = .ok (.aload_n 0, 1) := by decide +kernel
theorem dX7_winds_6 : decode cX7_winds 6 = .ok (.getfield 26, 3) := by decide +kernel
theorem dX7_winds_9 : decode cX7_winds 9 = .ok (.getfield 95, 3) := by decide +kernel
theorem dX7_winds_12 : decode cX7_winds 12 = .ok (.if_icmp .ge 43, 3) := by decide +kernel
theorem dX7_winds_15 : decode cX7_winds 15 = .ok (.aload_n 0, 1) := by decide +kernel
theorem dX7_winds_16 : decode cX7_winds 16 = .ok (.getfield 40, 3) := by decide +kernel
theorem dX7_winds_19 : decode cX7_winds 19 = .ok (.aload_n 0, 1) := by decide +kernel
theorem dX7_winds_20 : decode cX7_winds 20 = .ok (.getfield 19, 3) := by decide +kernel
theorem dX7_winds_23 : decode cX7_winds 23 = .ok (.aload_n 0, 1) := by decide +kernel
theorem dX7_winds_24 : decode cX7_winds 24 = .ok (.getfield 26, 3) := by decide +kernel
theorem dX7_winds_27 : decode cX7_winds 27 = .ok (.aload_n 0, 1) := by decide +kernel
theorem dX7_winds_28 : decode cX7_winds 28 = .ok (.getfield 19, 3) := by decide +kernel
theorem dX7_winds_31 : decode cX7_winds 31 = .ok (.iload_n 2, 1) := by decide +kernel
theorem dX7_winds_32 : decode cX7_winds 32 = .ok (.iconst 0, 1) := by decide +kernel
theorem dX7_winds_33 : decode cX7_winds 33 = .ok (.iconst 0, 1) := by decide +kernel
theorem dX7_winds_34 : decode cX7_winds 34 = .ok (.invokevirtual 150, 3) := by decide +kernel
theorem dX7_winds_37 : decode cX7_winds 37 = .ok (.invokevirtual 220, 3) := by decide +kernel
theorem dX7_winds_40 : decode cX7_winds 40 = .ok (.ifCond .eq 9, 3) := by decide +kernel
theorem dX7_winds_43 : decode cX7_winds 43 = .ok (.iload_n 1, 1) := by decide +kernel
theorem dX7_winds_44 : decode cX7_winds 44 = .ok (.iconst 1, 1) := by decide +kernel
theorem dX7_winds_45 : decode cX7_winds 45 = .ok (.iload_n 2, 1) := by decide +kernel
theorem dX7_winds_46 : decode cX7_winds 46 = .ok (.ishl, 1) := by decide +kernel
theorem dX7_winds_47 : decode cX7_winds 47 = .ok (.ior, 1) := by decide +kernel
theorem dX7_winds_48 : decode cX7_winds 48 = .ok (.istore_n 1, 1) := by decide +kernel
theorem dX7_winds_49 : decode cX7_winds 49 = .ok (.iinc 2 1, 3) := by decide +kernel
theorem dX7_winds_52 : decode cX7_winds 52 = .ok (.goto (-48), 3) := by decide +kernel
theorem dX7_winds_55 : decode cX7_winds 55 = .ok (.iload_n 1, 1) := by decide +kernel
theorem dX7_winds_56 : decode cX7_winds 56 = .ok (.ireturn, 1) := by decide +kernel
set_option maxRecDepth 20000 in
theorem ggX7_rests_X1_hasWind : GoodIn wsX7_rests wsX1_hasWind := goodIn_r _ [6, 7, 70, 71, 72, 73] (by decide +kernel) (by decide +kernel)
set_option maxRecDepth 20000 in
theorem gX7_rests_X1_hasWind_n138 : GoodIn wsX7_rests (wsX1_hasWind) := ggX7_rests_X1_hasWind
set_option maxRecDepth 20000 in
theorem ggX7_rests_X7_mayHold : GoodIn wsX7_rests wsX7_mayHold := goodIn_r _ [12, 2, 13, 14, 11, 15, 50, 51, 52, 53, 54, 55, 56, 57, 58, 59, 60, 61, 62, 63, 64, 65, 66, 67, 68, 69] (by decide +kernel) (by decide +kernel)
set_option maxRecDepth 20000 in
theorem gX7_rests_X7_mayHold : GoodIn wsX7_rests (wsV RX7 224 RX7 yX7_mayHold wsX7_mayHold) := goodIn_app (goodIn_of _ (by decide +kernel)) ggX7_rests_X7_mayHold
set_option maxRecDepth 20000 in
theorem ggX7_rests_X7_isAtRest : GoodIn wsX7_rests wsX7_isAtRest := goodIn_r _ [19, 2, 20, 21, 22, 11, 23, 1, 24, 4, 25, 26, 27, 28, 29, 30, 31, 32, 33, 34, 35, 36, 37, 38, 39, 40, 41, 42, 43, 14, 15, 44, 45, 46, 47, 48, 49, 8, 9, 10, 12, 13, 50, 51, 52, 53, 54, 55, 56, 57, 58, 59, 60, 61, 62, 63, 64, 65, 66, 67, 68, 69, 70, 71, 72, 73] (by decide +kernel) (by decide +kernel)
set_option maxRecDepth 20000 in
theorem gX7_rests_X7_isAtRest : GoodIn wsX7_rests (wsV RX7 228 RX7 yX7_isAtRest wsX7_isAtRest) := goodIn_app (goodIn_of _ (by decide +kernel)) ggX7_rests_X7_isAtRest
theorem dX7_rests_0 : decode cX7_rests 0 = .ok (.aload_n 0, 1) := by decide +kernel
theorem dX7_rests_1 : decode cX7_rests 1 = .ok (.getfield 26, 3) := by decide +kernel
theorem dX7_rests_4 : decode cX7_rests 4 = .ok (.iload_n 1, 1) := by decide +kernel
theorem dX7_rests_5 : decode cX7_rests 5 = .ok (.invokevirtual 138, 3) := by decide +kernel
theorem dX7_rests_8 : decode cX7_rests 8 = .ok (.ifCond .ne 5, 3) := by decide +kernel
theorem dX7_rests_11 : decode cX7_rests 11 = .ok (.iconst (-1), 1) := by decide +kernel
theorem dX7_rests_12 : decode cX7_rests 12 = .ok (.ireturn, 1) := by decide +kernel
theorem dX7_rests_13 : decode cX7_rests 13 = .ok (.iload_n 2, 1) := by decide +kernel
theorem dX7_rests_14 : decode cX7_rests 14 = .ok (.ifCond .lt 8, 3) := by decide +kernel
theorem dX7_rests_17 : decode cX7_rests 17 = .ok (.iload_n 2, 1) := by decide +kernel
theorem dX7_rests_18 : decode cX7_rests 18 = .ok (.iconst 1, 1) := by decide +kernel
theorem dX7_rests_19 : decode cX7_rests 19 = .ok (.if_icmp .le 6, 3) := by decide +kernel
theorem dX7_rests_22 : decode cX7_rests 22 = .ok (.bipush (-2), 2) := by decide +kernel
theorem dX7_rests_24 : decode cX7_rests 24 = .ok (.ireturn, 1) := by decide +kernel
theorem dX7_rests_25 : decode cX7_rests 25 = .ok (.iconst 0, 1) := by decide +kernel
theorem dX7_rests_26 : decode cX7_rests 26 = .ok (.istore_n 3, 1) := by decide +kernel
theorem dX7_rests_27 : decode cX7_rests 27 = .ok (.bipush (-9), 2) := by decide +kernel
theorem dX7_rests_29 : decode cX7_rests 29 = .ok (.istore 4, 2) := by decide +kernel
theorem dX7_rests_31 : decode cX7_rests 31 = .ok (.iconst 0, 1) := by decide +kernel
theorem dX7_rests_32 : decode cX7_rests 32 = .ok (.istore 5, 2) := by decide +kernel
theorem dX7_rests_34 : decode cX7_rests 34 = .ok (.iload 5, 2) := by decide +kernel
theorem dX7_rests_36 : decode cX7_rests 36 = .ok (.aload_n 0, 1) := by decide +kernel
theorem dX7_rests_37 : decode cX7_rests 37 = .ok (.getfield 19, 3) := by decide +kernel
theorem dX7_rests_40 : decode cX7_rests 40 = .ok (.getfield 92, 3) := by decide +kernel
theorem dX7_rests_43 : decode cX7_rests 43 = .ok (.if_icmp .gt 87, 3) := by decide +kernel
theorem dX7_rests_46 : decode cX7_rests 46 = .ok (.iconst 0, 1) := by decide +kernel
theorem dX7_rests_47 : decode cX7_rests 47 = .ok (.istore 6, 2) := by decide +kernel
theorem dX7_rests_49 : decode cX7_rests 49 = .ok (.iload 6, 2) := by decide +kernel
theorem dX7_rests_51 : decode cX7_rests 51 = .ok (.aload_n 0, 1) := by decide +kernel
theorem dX7_rests_52 : decode cX7_rests 52 = .ok (.getfield 19, 3) := by decide +kernel
theorem dX7_rests_55 : decode cX7_rests 55 = .ok (.getfield 92, 3) := by decide +kernel
theorem dX7_rests_58 : decode cX7_rests 58 = .ok (.if_icmp .gt 66, 3) := by decide +kernel
theorem dX7_rests_61 : decode cX7_rests 61 = .ok (.aload_n 0, 1) := by decide +kernel
theorem dX7_rests_62 : decode cX7_rests 62 = .ok (.iconst 0, 1) := by decide +kernel
theorem dX7_rests_63 : decode cX7_rests 63 = .ok (.iload 5, 2) := by decide +kernel
theorem dX7_rests_65 : decode cX7_rests 65 = .ok (.invokevirtual 224, 3) := by decide +kernel
theorem dX7_rests_68 : decode cX7_rests 68 = .ok (.ifCond .eq 50, 3) := by decide +kernel
theorem dX7_rests_71 : decode cX7_rests 71 = .ok (.aload_n 0, 1) := by decide +kernel
theorem dX7_rests_72 : decode cX7_rests 72 = .ok (.iconst 1, 1) := by decide +kernel
theorem dX7_rests_73 : decode cX7_rests 73 = .ok (.iload 6, 2) := by decide +kernel
theorem dX7_rests_75 : decode cX7_rests 75 = .ok (.invokevirtual 224, 3) := by decide +kernel
theorem dX7_rests_78 : decode cX7_rests 78 = .ok (.ifCond .eq 40, 3) := by decide +kernel
theorem dX7_rests_81 : decode cX7_rests 81 = .ok (.aload_n 0, 1) := by decide +kernel
theorem dX7_rests_82 : decode cX7_rests 82 = .ok (.iload_n 1, 1) := by decide +kernel
theorem dX7_rests_83 : decode cX7_rests 83 = .ok (.iload 5, 2) := by decide +kernel
theorem dX7_rests_85 : decode cX7_rests 85 = .ok (.iload 6, 2) := by decide +kernel
theorem dX7_rests_87 : decode cX7_rests 87 = .ok (.invokevirtual 228, 3) := by decide +kernel
theorem dX7_rests_90 : decode cX7_rests 90 = .ok (.ifCond .eq 28, 3) := by decide +kernel
theorem dX7_rests_93 : decode cX7_rests 93 = .ok (.iinc 3 1, 3) := by decide +kernel
theorem dX7_rests_96 : decode cX7_rests 96 = .ok (.iload 4, 2) := by decide +kernel
theorem dX7_rests_98 : decode cX7_rests 98 = .ok (.bipush (-9), 2) := by decide +kernel
theorem dX7_rests_100 : decode cX7_rests 100 = .ok (.if_icmp .ne 14, 3) := by decide +kernel
theorem dX7_rests_103 : decode cX7_rests 103 = .ok (.bipush 10, 2) := by decide +kernel
theorem dX7_rests_105 : decode cX7_rests 105 = .ok (.iload 5, 2) := by decide +kernel
theorem dX7_rests_107 : decode cX7_rests 107 = .ok (.imul, 1) := by decide +kernel
theorem dX7_rests_108 : decode cX7_rests 108 = .ok (.iload 6, 2) := by decide +kernel
theorem dX7_rests_110 : decode cX7_rests 110 = .ok (.iadd, 1) := by decide +kernel
theorem dX7_rests_111 : decode cX7_rests 111 = .ok (.goto 5, 3) := by decide +kernel
theorem dX7_rests_114 : decode cX7_rests 114 = .ok (.iload 4, 2) := by decide +kernel
theorem dX7_rests_116 : decode cX7_rests 116 = .ok (.istore 4, 2) := by decide +kernel
theorem dX7_rests_118 : decode cX7_rests 118 = .ok (.iinc 6 1, 3) := by decide +kernel
theorem dX7_rests_121 : decode cX7_rests 121 = .ok (.goto (-72), 3) := by decide +kernel
theorem dX7_rests_124 : decode cX7_rests 124 = .ok (.iinc 5 1, 3) := by decide +kernel
theorem dX7_rests_127 : decode cX7_rests 127 = .ok (.goto (-93), 3) := by decide +kernel
theorem dX7_rests_130 : decode cX7_rests 130 = .ok (.iload_n 2, 1) := by decide +kernel
theorem dX7_rests_131 : decode cX7_rests 131 = .ok (.ifCond .ne 7, 3) := by decide +kernel
theorem dX7_rests_134 : decode cX7_rests 134 = .ok (.iload_n 3, 1) := by decide +kernel
theorem dX7_rests_135 : decode cX7_rests 135 = .ok (.goto 5, 3) := by decide +kernel
theorem dX7_rests_138 : decode cX7_rests 138 = .ok (.iload 4, 2) := by decide +kernel
theorem dX7_rests_140 : decode cX7_rests 140 = .ok (.ireturn, 1) := by decide +kernel
set_option maxRecDepth 20000 in
theorem ggX7_frost_X1_hasWind : GoodIn wsX7_frost wsX1_hasWind := goodIn_r _ [6, 7, 68, 69, 70, 71] (by decide +kernel) (by decide +kernel)
set_option maxRecDepth 20000 in
theorem gX7_frost_X1_hasWind_n138 : GoodIn wsX7_frost (wsX1_hasWind) := ggX7_frost_X1_hasWind
set_option maxRecDepth 20000 in
theorem ggX7_frost_X2_everyCock : GoodIn wsX7_frost wsX2_everyCock := goodIn_r _ [11, 12, 57, 58, 59, 60, 61, 62, 63, 64, 65, 66, 67] (by decide +kernel) (by decide +kernel)
set_option maxRecDepth 20000 in
theorem gX7_frost_X2_everyCock_n208 : GoodIn wsX7_frost (wsX2_everyCock) := ggX7_frost_X2_everyCock
set_option maxRecDepth 20000 in
theorem ggX7_frost_X1_brookUnder : GoodIn wsX7_frost wsX1_brookUnder := goodIn_r _ [15, 16, 17, 18, 4, 19, 20, 21, 22, 23, 24, 25, 9, 26, 27, 12, 28, 29, 30, 31, 32, 33, 34, 35, 36, 37, 38, 39, 68, 69, 70, 71, 57, 58, 59, 60, 61, 62, 63, 64, 65, 66, 67] (by decide +kernel) (by decide +kernel)
set_option maxRecDepth 20000 in
theorem gX7_frost_X1_brookUnder_n172 : GoodIn wsX7_frost (wsX1_brookUnder) := ggX7_frost_X1_brookUnder
set_option maxRecDepth 20000 in
theorem ggX7_frost_X7_waysToFreeze : GoodIn wsX7_frost wsX7_waysToFreeze := goodIn_r _ [43, 2, 44, 32, 23, 33, 48, 49, 50, 51, 52, 53, 54, 55, 56, 57, 58, 59, 60, 61, 62, 63, 64, 65, 66, 67] (by decide +kernel) (by decide +kernel)
set_option maxRecDepth 20000 in
theorem gX7_frost_X7_waysToFreeze : GoodIn wsX7_frost (wsV RX7 232 RX7 yX7_waysToFreeze wsX7_waysToFreeze) := goodIn_app (goodIn_of _ (by decide +kernel)) ggX7_frost_X7_waysToFreeze
set_option maxRecDepth 20000 in
theorem ggX7_frost_X7_commonDivisor : GoodIn wsX7_frost wsX7_commonDivisor := goodIn_r _ [47] (by decide +kernel) (by decide +kernel)
set_option maxRecDepth 20000 in
theorem gX7_frost_X7_commonDivisor : GoodIn wsX7_frost (va_wsS RX7 235 yX7_commonDivisor wsX7_commonDivisor) := goodIn_app (goodIn_of _ (by decide +kernel)) ggX7_frost_X7_commonDivisor
theorem dX7_frost_0 : decode cX7_frost 0 = .ok (.aload_n 0, 1) := by decide +kernel
theorem dX7_frost_1 : decode cX7_frost 1 = .ok (.getfield 26, 3) := by decide +kernel
theorem dX7_frost_4 : decode cX7_frost 4 = .ok (.iload_n 1, 1) := by decide +kernel
theorem dX7_frost_5 : decode cX7_frost 5 = .ok (.invokevirtual 138, 3) := by decide +kernel
theorem dX7_frost_8 : decode cX7_frost 8 = .ok (.ifCond .ne 5, 3) := by decide +kernel
theorem dX7_frost_11 : decode cX7_frost 11 = .ok (.iconst (-1), 1) := by decide +kernel
theorem dX7_frost_12 : decode cX7_frost 12 = .ok (.ireturn, 1) := by decide +kernel
theorem dX7_frost_13 : decode cX7_frost 13 = .ok (.iload_n 2, 1) := by decide +kernel
theorem dX7_frost_14 : decode cX7_frost 14 = .ok (.ifCond .lt 9, 3) := by decide +kernel
theorem dX7_frost_17 : decode cX7_frost 17 = .ok (.iload_n 2, 1) := by decide +kernel
theorem dX7_frost_18 : decode cX7_frost 18 = .ok (.bipush 10, 2) := by decide +kernel
theorem dX7_frost_20 : decode cX7_frost 20 = .ok (.if_icmp .le 6, 3) := by decide +kernel
theorem dX7_frost_23 : decode cX7_frost 23 = .ok (.bipush (-2), 2) := by decide +kernel
theorem dX7_frost_25 : decode cX7_frost 25 = .ok (.ireturn, 1) := by decide +kernel
theorem dX7_frost_26 : decode cX7_frost 26 = .ok (.aload_n 0, 1) := by decide +kernel
theorem dX7_frost_27 : decode cX7_frost 27 = .ok (.getfield 19, 3) := by decide +kernel
theorem dX7_frost_30 : decode cX7_frost 30 = .ok (.invokevirtual 208, 3) := by decide +kernel
theorem dX7_frost_33 : decode cX7_frost 33 = .ok (.istore 4, 2) := by decide +kernel
theorem dX7_frost_35 : decode cX7_frost 35 = .ok (.iconst 0, 1) := by decide +kernel
theorem dX7_frost_36 : decode cX7_frost 36 = .ok (.istore 5, 2) := by decide +kernel
theorem dX7_frost_38 : decode cX7_frost 38 = .ok (.iconst 0, 1) := by decide +kernel
theorem dX7_frost_39 : decode cX7_frost 39 = .ok (.istore 6, 2) := by decide +kernel
theorem dX7_frost_41 : decode cX7_frost 41 = .ok (.iload 6, 2) := by decide +kernel
theorem dX7_frost_43 : decode cX7_frost 43 = .ok (.iload 4, 2) := by decide +kernel
theorem dX7_frost_45 : decode cX7_frost 45 = .ok (.if_icmp .gt 47, 3) := by decide +kernel
theorem dX7_frost_48 : decode cX7_frost 48 = .ok (.aload_n 0, 1) := by decide +kernel
theorem dX7_frost_49 : decode cX7_frost 49 = .ok (.getfield 26, 3) := by decide +kernel
theorem dX7_frost_52 : decode cX7_frost 52 = .ok (.aload_n 0, 1) := by decide +kernel
theorem dX7_frost_53 : decode cX7_frost 53 = .ok (.getfield 19, 3) := by decide +kernel
theorem dX7_frost_56 : decode cX7_frost 56 = .ok (.iload_n 1, 1) := by decide +kernel
theorem dX7_frost_57 : decode cX7_frost 57 = .ok (.aload_n 0, 1) := by decide +kernel
theorem dX7_frost_58 : decode cX7_frost 58 = .ok (.getfield 19, 3) := by decide +kernel
theorem dX7_frost_61 : decode cX7_frost 61 = .ok (.getfield 135, 3) := by decide +kernel
theorem dX7_frost_64 : decode cX7_frost 64 = .ok (.iload 6, 2) := by decide +kernel
theorem dX7_frost_66 : decode cX7_frost 66 = .ok (.ior, 1) := by decide +kernel
theorem dX7_frost_67 : decode cX7_frost 67 = .ok (.iconst 0, 1) := by decide +kernel
theorem dX7_frost_68 : decode cX7_frost 68 = .ok (.invokevirtual 172, 3) := by decide +kernel
theorem dX7_frost_71 : decode cX7_frost 71 = .ok (.ifCond .ne 15, 3) := by decide +kernel
theorem dX7_frost_74 : decode cX7_frost 74 = .ok (.iload 5, 2) := by decide +kernel
theorem dX7_frost_76 : decode cX7_frost 76 = .ok (.aload_n 0, 1) := by decide +kernel
theorem dX7_frost_77 : decode cX7_frost 77 = .ok (.iload 6, 2) := by decide +kernel
theorem dX7_frost_79 : decode cX7_frost 79 = .ok (.iload_n 2, 1) := by decide +kernel
theorem dX7_frost_80 : decode cX7_frost 80 = .ok (.invokevirtual 232, 3) := by decide +kernel
theorem dX7_frost_83 : decode cX7_frost 83 = .ok (.iadd, 1) := by decide +kernel
theorem dX7_frost_84 : decode cX7_frost 84 = .ok (.istore 5, 2) := by decide +kernel
theorem dX7_frost_86 : decode cX7_frost 86 = .ok (.iinc 6 1, 3) := by decide +kernel
theorem dX7_frost_89 : decode cX7_frost 89 = .ok (.goto (-48), 3) := by decide +kernel
theorem dX7_frost_92 : decode cX7_frost 92 = .ok (.iconst 1, 1) := by decide +kernel
theorem dX7_frost_93 : decode cX7_frost 93 = .ok (.istore 6, 2) := by decide +kernel
theorem dX7_frost_95 : decode cX7_frost 95 = .ok (.iconst 0, 1) := by decide +kernel
theorem dX7_frost_96 : decode cX7_frost 96 = .ok (.istore 7, 2) := by decide +kernel
theorem dX7_frost_98 : decode cX7_frost 98 = .ok (.iload 7, 2) := by decide +kernel
theorem dX7_frost_100 : decode cX7_frost 100 = .ok (.aload_n 0, 1) := by decide +kernel
theorem dX7_frost_101 : decode cX7_frost 101 = .ok (.getfield 19, 3) := by decide +kernel
theorem dX7_frost_104 : decode cX7_frost 104 = .ok (.getfield 92, 3) := by decide +kernel
theorem dX7_frost_107 : decode cX7_frost 107 = .ok (.if_icmp .ge 16, 3) := by decide +kernel
theorem dX7_frost_110 : decode cX7_frost 110 = .ok (.iload 6, 2) := by decide +kernel
theorem dX7_frost_112 : decode cX7_frost 112 = .ok (.bipush 10, 2) := by decide +kernel
theorem dX7_frost_114 : decode cX7_frost 114 = .ok (.imul, 1) := by decide +kernel
theorem dX7_frost_115 : decode cX7_frost 115 = .ok (.istore 6, 2) := by decide +kernel
theorem dX7_frost_117 : decode cX7_frost 117 = .ok (.iinc 7 1, 3) := by decide +kernel
theorem dX7_frost_120 : decode cX7_frost 120 = .ok (.goto (-22), 3) := by decide +kernel
theorem dX7_frost_123 : decode cX7_frost 123 = .ok (.iload 6, 2) := by decide +kernel
theorem dX7_frost_125 : decode cX7_frost 125 = .ok (.iload 5, 2) := by decide +kernel
theorem dX7_frost_127 : decode cX7_frost 127 = .ok (.invokestatic 235, 3) := by decide +kernel
theorem dX7_frost_130 : decode cX7_frost 130 = .ok (.istore 7, 2) := by decide +kernel
theorem dX7_frost_132 : decode cX7_frost 132 = .ok (.iload 7, 2) := by decide +kernel
theorem dX7_frost_134 : decode cX7_frost 134 = .ok (.iconst 1, 1) := by decide +kernel
theorem dX7_frost_135 : decode cX7_frost 135 = .ok (.if_icmp .ge 15, 3) := by decide +kernel
theorem dX7_frost_138 : decode cX7_frost 138 = .ok (.iload_n 3, 1) := by decide +kernel
theorem dX7_frost_139 : decode cX7_frost 139 = .ok (.ifCond .eq 8, 3) := by decide +kernel
theorem dX7_frost_142 : decode cX7_frost 142 = .ok (.iload 5, 2) := by decide +kernel
theorem dX7_frost_144 : decode cX7_frost 144 = .ok (.goto 5, 3) := by decide +kernel
theorem dX7_frost_147 : decode cX7_frost 147 = .ok (.iload 6, 2) := by decide +kernel
theorem dX7_frost_149 : decode cX7_frost 149 = .ok (.ireturn, 1) := by decide +kernel
theorem dX7_frost_150 : decode cX7_frost 150 = .ok (.iload_n 3, 1) := by decide +kernel
theorem dX7_frost_151 : decode cX7_frost 151 = .ok (.ifCond .eq 11, 3) := by decide +kernel
theorem dX7_frost_154 : decode cX7_frost 154 = .ok (.iload 5, 2) := by decide +kernel
theorem dX7_frost_156 : decode cX7_frost 156 = .ok (.iload 7, 2) := by decide +kernel
theorem dX7_frost_158 : decode cX7_frost 158 = .ok (.idiv, 1) := by decide +kernel
theorem dX7_frost_159 : decode cX7_frost 159 = .ok (.goto 8, 3) := by decide +kernel
theorem dX7_frost_162 : decode cX7_frost 162 = .ok (.iload 6, 2) := by decide +kernel
theorem dX7_frost_164 : decode cX7_frost 164 = .ok (.iload 7, 2) := by decide +kernel
theorem dX7_frost_166 : decode cX7_frost 166 = .ok (.idiv, 1) := by decide +kernel
theorem dX7_frost_167 : decode cX7_frost 167 = .ok (.ireturn, 1) := by decide +kernel
theorem dX7_seed_0 : decode cX7_seed 0 = .ok (.aload_n 0, 1) := by decide +kernel
theorem dX7_seed_1 : decode cX7_seed 1 = .ok (.getfield 61, 3) := by decide +kernel
theorem dX7_seed_4 : decode cX7_seed 4 = .ok (.lstore_n 3, 1) := by decide +kernel
theorem dX7_seed_5 : decode cX7_seed 5 = .ok (.aload_n 0, 1) := by decide +kernel
theorem dX7_seed_6 : decode cX7_seed 6 = .ok (.lload_n 1, 1) := by decide +kernel
theorem dX7_seed_7 : decode cX7_seed 7 = .ok (.putfield 61, 3) := by decide +kernel
theorem dX7_seed_10 : decode cX7_seed 10 = .ok (.lload_n 3, 1) := by decide +kernel
theorem dX7_seed_11 : decode cX7_seed 11 = .ok (.lreturn, 1) := by decide +kernel
set_option maxRecDepth 20000 in
theorem ggX7_years_X1_daysInAll : GoodIn wsX7_years wsX1_daysInAll := goodIn_r _ [10, 11, 12, 13, 14, 15, 62, 63, 64, 65] (by decide +kernel) (by decide +kernel)
set_option maxRecDepth 20000 in
theorem gX7_years_X1_daysInAll_n238 : GoodIn wsX7_years (wsX1_daysInAll) := ggX7_years_X1_daysInAll
set_option maxRecDepth 20000 in
theorem ggX7_years_X2_copyFrom : GoodIn wsX7_years wsX2_copyFrom := goodIn_r _ [19, 20, 21, 22, 23, 24, 25, 26, 27, 28, 29, 30, 31, 14, 32, 66, 67, 68, 69, 70, 71, 72, 73, 74, 75, 76] (by decide +kernel) (by decide +kernel)
set_option maxRecDepth 20000 in
theorem gX7_years_X2_copyFrom_n80 : GoodIn wsX7_years (wsX2_copyFrom) := ggX7_years_X2_copyFrom
set_option maxRecDepth 20000 in
theorem ggX7_years_X1_windOfDay : GoodIn wsX7_years wsX1_windOfDay := goodIn_r _ [35, 11, 12, 13, 14, 15, 62, 63, 64, 65] (by decide +kernel) (by decide +kernel)
set_option maxRecDepth 20000 in
theorem gX7_years_X1_windOfDay_n245 : GoodIn wsX7_years (wsX1_windOfDay) := ggX7_years_X1_windOfDay
set_option maxRecDepth 20000 in
theorem ggX7_years_X1_blowOver : GoodIn wsX7_years wsX1_blowOver := goodIn_r _ [38, 39, 40, 41, 8, 42, 43, 44, 13, 14, 15, 45, 17, 46, 47, 25, 21, 20, 23, 22, 48, 49, 50, 51, 52, 26, 24, 29, 66, 67, 68, 69, 70, 71, 72, 73, 74, 75, 76, 62, 63, 64, 65] (by decide +kernel) (by decide +kernel)
set_option maxRecDepth 20000 in
theorem gX7_years_X1_blowOver_n157 : GoodIn wsX7_years (wsX1_blowOver) := ggX7_years_X1_blowOver
theorem dX7_years_0 : decode cX7_years 0 = .ok (.iload_n 1, 1) := by decide +kernel
theorem dX7_years_1 : decode cX7_years 1 = .ok (.iconst 1, 1) := by decide +kernel
theorem dX7_years_2 : decode cX7_years 2 = .ok (.if_icmp .lt 9, 3) := by decide +kernel
theorem dX7_years_5 : decode cX7_years 5 = .ok (.iload_n 1, 1) := by decide +kernel
theorem dX7_years_6 : decode cX7_years 6 = .ok (.bipush 30, 2) := by decide +kernel
theorem dX7_years_8 : decode cX7_years 8 = .ok (.if_icmp .le 6, 3) := by decide +kernel
theorem dX7_years_11 : decode cX7_years 11 = .ok (.bipush (-2), 2) := by decide +kernel
theorem dX7_years_13 : decode cX7_years 13 = .ok (.ireturn, 1) := by decide +kernel
theorem dX7_years_14 : decode cX7_years 14 = .ok (.aload_n 0, 1) := by decide +kernel
theorem dX7_years_15 : decode cX7_years 15 = .ok (.getfield 26, 3) := by decide +kernel
theorem dX7_years_18 : decode cX7_years 18 = .ok (.invokevirtual 238, 3) := by decide +kernel
theorem dX7_years_21 : decode cX7_years 21 = .ok (.istore_n 2, 1) := by decide +kernel
theorem dX7_years_22 : decode cX7_years 22 = .ok (.iload_n 2, 1) := by decide +kernel
theorem dX7_years_23 : decode cX7_years 23 = .ok (.iconst 1, 1) := by decide +kernel
theorem dX7_years_24 : decode cX7_years 24 = .ok (.if_icmp .ge 5, 3) := by decide +kernel
theorem dX7_years_27 : decode cX7_years 27 = .ok (.iconst 0, 1) := by decide +kernel
theorem dX7_years_28 : decode cX7_years 28 = .ok (.ireturn, 1) := by decide +kernel
theorem dX7_years_29 : decode cX7_years 29 = .ok (.aload_n 0, 1) := by decide +kernel
theorem dX7_years_30 : decode cX7_years 30 = .ok (.getfield 58, 3) := by decide +kernel
theorem dX7_years_33 : decode cX7_years 33 = .ok (.aload_n 0, 1) := by decide +kernel
theorem dX7_years_34 : decode cX7_years 34 = .ok (.getfield 19, 3) := by decide +kernel
theorem dX7_years_37 : decode cX7_years 37 = .ok (.invokevirtual 80, 3) := by decide +kernel
theorem dX7_years_40 : decode cX7_years 40 = .ok (.iconst 0, 1) := by decide +kernel
theorem dX7_years_41 : decode cX7_years 41 = .ok (.istore_n 3, 1) := by decide +kernel
theorem dX7_years_42 : decode cX7_years 42 = .ok (.iconst 0, 1) := by decide +kernel
theorem dX7_years_43 : decode cX7_years 43 = .ok (.istore 4, 2) := by decide +kernel
theorem dX7_years_45 : decode cX7_years 45 = .ok (.iload 4, 2) := by decide +kernel
theorem dX7_years_47 : decode cX7_years 47 = .ok (.iload_n 1, 1) := by decide +kernel
theorem dX7_years_48 : decode cX7_years 48 = .ok (.if_icmp .ge 64, 3) := by decide +kernel
theorem dX7_years_51 : decode cX7_years 51 = .ok (.aload_n 0, 1) := by decide +kernel
theorem dX7_years_52 : decode cX7_years 52 = .ok (.aload_n 0, 1) := by decide +kernel
theorem dX7_years_53 : decode cX7_years 53 = .ok (.getfield 61, 3) := by decide +kernel
theorem dX7_years_56 : decode cX7_years 56 = .ok (.ldc2_w 241, 3) := by decide +kernel
theorem dX7_years_59 : decode cX7_years 59 = .ok (.lmul, 1) := by decide +kernel
theorem dX7_years_60 : decode cX7_years 60 = .ok (.ldc2_w 243, 3) := by decide +kernel
theorem dX7_years_63 : decode cX7_years 63 = .ok (.ladd, 1) := by decide +kernel
theorem dX7_years_64 : decode cX7_years 64 = .ok (.putfield 61, 3) := by decide +kernel
theorem dX7_years_67 : decode cX7_years 67 = .ok (.aload_n 0, 1) := by decide +kernel
theorem dX7_years_68 : decode cX7_years 68 = .ok (.getfield 61, 3) := by decide +kernel
theorem dX7_years_71 : decode cX7_years 71 = .ok (.bipush 33, 2) := by decide +kernel
theorem dX7_years_73 : decode cX7_years 73 = .ok (.lushr, 1) := by decide +kernel
theorem dX7_years_74 : decode cX7_years 74 = .ok (.iload_n 2, 1) := by decide +kernel
theorem dX7_years_75 : decode cX7_years 75 = .ok (.i2l, 1) := by decide +kernel
theorem dX7_years_76 : decode cX7_years 76 = .ok (.lrem, 1) := by decide +kernel
theorem dX7_years_77 : decode cX7_years 77 = .ok (.l2i, 1) := by decide +kernel
theorem dX7_years_78 : decode cX7_years 78 = .ok (.istore 5, 2) := by decide +kernel
theorem dX7_years_80 : decode cX7_years 80 = .ok (.aload_n 0, 1) := by decide +kernel
theorem dX7_years_81 : decode cX7_years 81 = .ok (.getfield 26, 3) := by decide +kernel
theorem dX7_years_84 : decode cX7_years 84 = .ok (.aload_n 0, 1) := by decide +kernel
theorem dX7_years_85 : decode cX7_years 85 = .ok (.getfield 58, 3) := by decide +kernel
theorem dX7_years_88 : decode cX7_years 88 = .ok (.aload_n 0, 1) := by decide +kernel
theorem dX7_years_89 : decode cX7_years 89 = .ok (.getfield 26, 3) := by decide +kernel
theorem dX7_years_92 : decode cX7_years 92 = .ok (.iload 5, 2) := by decide +kernel
theorem dX7_years_94 : decode cX7_years 94 = .ok (.invokevirtual 245, 3) := by decide +kernel
theorem dX7_years_97 : decode cX7_years 97 = .ok (.invokevirtual 157, 3) := by decide +kernel
theorem dX7_years_100 : decode cX7_years 100 = .ok (.ifCond .ne 6, 3) := by decide +kernel
theorem dX7_years_103 : decode cX7_years 103 = .ok (.iinc 3 1, 3) := by decide +kernel
theorem dX7_years_106 : decode cX7_years 106 = .ok (.iinc 4 1, 3) := by decide +kernel
theorem dX7_years_109 : decode cX7_years 109 = .ok (.goto (-64), 3) := by decide +kernel
theorem dX7_years_112 : decode cX7_years 112 = .ok (.iload_n 3, 1) := by decide +kernel
theorem dX7_years_113 : decode cX7_years 113 = .ok (.ireturn, 1) := by decide +kernel
set_option maxRecDepth 20000 in
theorem ggX7_keep_X6_store : GoodIn wsX7_keep wsX6_store := goodIn_r _ [6, 7, 8, 9, 10, 11, 12, 13, 14, 15, 16, 17, 18, 19, 20, 21, 22, 23, 24, 25, 26, 36, 37, 38, 39, 40, 41, 42, 43, 44, 45, 46, 47, 48] (by decide +kernel) (by decide +kernel)
set_option maxRecDepth 20000 in
theorem gX7_keep_X6_store_n248 : GoodIn wsX7_keep (wsX6_store) := ggX7_keep_X6_store
theorem dX7_keep_0 : decode cX7_keep 0 = .ok (.aload_n 0, 1) := by decide +kernel
theorem dX7_keep_1 : decode cX7_keep 1 = .ok (.getfield 47, 3) := by decide +kernel
theorem dX7_keep_4 : decode cX7_keep 4 = .ok (.iload_n 1, 1) := by decide +kernel
theorem dX7_keep_5 : decode cX7_keep 5 = .ok (.aload_n 0, 1) := by decide +kernel
theorem dX7_keep_6 : decode cX7_keep 6 = .ok (.getfield 19, 3) := by decide +kernel
theorem dX7_keep_9 : decode cX7_keep 9 = .ok (.invokevirtual 248, 3) := by decide +kernel
theorem dX7_keep_12 : decode cX7_keep 12 = .ok (.ireturn, 1) := by decide +kernel
set_option maxRecDepth 20000 in
theorem ggX7_again_X6_fetch : GoodIn wsX7_again wsX6_fetch := goodIn_r _ [7, 8, 9, 10, 11, 12, 13, 14, 15, 16, 17, 18, 19, 20, 21, 22, 23, 24, 25, 26, 27, 28, 29, 44, 45, 46, 47, 48, 49, 50, 51, 52, 53, 54, 55, 56] (by decide +kernel) (by decide +kernel)
set_option maxRecDepth 20000 in
theorem gX7_again_X6_fetch_n252 : GoodIn wsX7_again (wsX6_fetch) := ggX7_again_X6_fetch
set_option maxRecDepth 20000 in
theorem ggX7_again_X0_forget : GoodIn wsX7_again wsX0_forget := goodIn_r _ [33, 34, 57, 58, 59] (by decide +kernel) (by decide +kernel)
set_option maxRecDepth 20000 in
theorem gX7_again_X0_forget_n88 : GoodIn wsX7_again (wsX0_forget) := ggX7_again_X0_forget
theorem dX7_again_0 : decode cX7_again 0 = .ok (.aload_n 0, 1) := by decide +kernel
theorem dX7_again_1 : decode cX7_again 1 = .ok (.getfield 47, 3) := by decide +kernel
theorem dX7_again_4 : decode cX7_again 4 = .ok (.iload_n 1, 1) := by decide +kernel
theorem dX7_again_5 : decode cX7_again 5 = .ok (.aload_n 0, 1) := by decide +kernel
theorem dX7_again_6 : decode cX7_again 6 = .ok (.getfield 19, 3) := by decide +kernel
theorem dX7_again_9 : decode cX7_again 9 = .ok (.invokevirtual 252, 3) := by decide +kernel
theorem dX7_again_12 : decode cX7_again 12 = .ok (.istore_n 2, 1) := by decide +kernel
theorem dX7_again_13 : decode cX7_again 13 = .ok (.iload_n 2, 1) := by decide +kernel
theorem dX7_again_14 : decode cX7_again 14 = .ok (.ifCond .lt 10, 3) := by decide +kernel
theorem dX7_again_17 : decode cX7_again 17 = .ok (.aload_n 0, 1) := by decide +kernel
theorem dX7_again_18 : decode cX7_again 18 = .ok (.getfield 33, 3) := by decide +kernel
theorem dX7_again_21 : decode cX7_again 21 = .ok (.invokevirtual 88, 3) := by decide +kernel
theorem dX7_again_24 : decode cX7_again 24 = .ok (.iload_n 2, 1) := by decide +kernel
theorem dX7_again_25 : decode cX7_again 25 = .ok (.ireturn, 1) := by decide +kernel
set_option maxRecDepth 20000 in
theorem ggX7_count_X2_weightFor : GoodIn wsX7_count wsX2_weightFor := goodIn_r _ [9, 10, 11, 12, 13, 14, 15, 16, 17, 18, 38, 39, 40, 41, 42, 43, 44, 45, 46, 47, 48] (by decide +kernel) (by decide +kernel)
set_option maxRecDepth 20000 in
theorem gX7_count_X2_weightFor_n259 : GoodIn wsX7_count (wsX2_weightFor) := ggX7_count_X2_weightFor
set_option maxRecDepth 20000 in
theorem ggX7_count_X2_treeCells : GoodIn wsX7_count wsX2_treeCells := goodIn_r _ [21, 22, 38, 39, 40, 41, 42, 43, 44, 45, 46, 47, 48] (by decide +kernel) (by decide +kernel)
set_option maxRecDepth 20000 in
theorem gX7_count_X2_treeCells_n197 : GoodIn wsX7_count (wsX2_treeCells) := ggX7_count_X2_treeCells
theorem dX7_count_0 : decode cX7_count 0 = .ok (.iload_n 1, 1) := by decide +kernel
theorem dX7_count_1 : decode cX7_count 1 = .ok (.tableswitch 149 0 10 #[59, 67, 75, 83, 91, 99, 108, 117, 125, 133, 141], 59) := by decide +kernel
theorem dX7_count_60 : decode cX7_count 60 = .ok (.aload_n 0, 1) := by decide +kernel
theorem dX7_count_61 : decode cX7_count 61 = .ok (.getfield 12, 3) := by decide +kernel
theorem dX7_count_64 : decode cX7_count 64 = .ok (.getfield 69, 3) := by decide +kernel
theorem dX7_count_67 : decode cX7_count 67 = .ok (.ireturn, 1) := by decide +kernel
theorem dX7_count_68 : decode cX7_count 68 = .ok (.aload_n 0, 1) := by decide +kernel
theorem dX7_count_69 : decode cX7_count 69 = .ok (.getfield 19, 3) := by decide +kernel
theorem dX7_count_72 : decode cX7_count 72 = .ok (.getfield 92, 3) := by decide +kernel
theorem dX7_count_75 : decode cX7_count 75 = .ok (.ireturn, 1) := by decide +kernel
theorem dX7_count_76 : decode cX7_count 76 = .ok (.aload_n 0, 1) := by decide +kernel
theorem dX7_count_77 : decode cX7_count 77 = .ok (.getfield 26, 3) := by decide +kernel
theorem dX7_count_80 : decode cX7_count 80 = .ok (.getfield 95, 3) := by decide +kernel
theorem dX7_count_83 : decode cX7_count 83 = .ok (.ireturn, 1) := by decide +kernel
theorem dX7_count_84 : decode cX7_count 84 = .ok (.aload_n 0, 1) := by decide +kernel
theorem dX7_count_85 : decode cX7_count 85 = .ok (.getfield 19, 3) := by decide +kernel
theorem dX7_count_88 : decode cX7_count 88 = .ok (.getfield 255, 3) := by decide +kernel
theorem dX7_count_91 : decode cX7_count 91 = .ok (.ireturn, 1) := by decide +kernel
theorem dX7_count_92 : decode cX7_count 92 = .ok (.aload_n 0, 1) := by decide +kernel
theorem dX7_count_93 : decode cX7_count 93 = .ok (.getfield 19, 3) := by decide +kernel
theorem dX7_count_96 : decode cX7_count 96 = .ok (.getfield 258, 3) := by decide +kernel
theorem dX7_count_99 : decode cX7_count 99 = .ok (.ireturn, 1) := by decide +kernel
theorem dX7_count_100 : decode cX7_count 100 = .ok (.aload_n 0, 1) := by decide +kernel
theorem dX7_count_101 : decode cX7_count 101 = .ok (.getfield 19, 3) := by decide +kernel
theorem dX7_count_104 : decode cX7_count 104 = .ok (.iconst 0, 1) := by decide +kernel
theorem dX7_count_105 : decode cX7_count 105 = .ok (.invokevirtual 259, 3) := by decide +kernel
theorem dX7_count_108 : decode cX7_count 108 = .ok (.ireturn, 1) := by decide +kernel
theorem dX7_count_109 : decode cX7_count 109 = .ok (.aload_n 0, 1) := by decide +kernel
theorem dX7_count_110 : decode cX7_count 110 = .ok (.getfield 19, 3) := by decide +kernel
theorem dX7_count_113 : decode cX7_count 113 = .ok (.iconst 1, 1) := by decide +kernel
theorem dX7_count_114 : decode cX7_count 114 = .ok (.invokevirtual 259, 3) := by decide +kernel
theorem dX7_count_117 : decode cX7_count 117 = .ok (.ireturn, 1) := by decide +kernel
theorem dX7_count_118 : decode cX7_count 118 = .ok (.aload_n 0, 1) := by decide +kernel
theorem dX7_count_119 : decode cX7_count 119 = .ok (.getfield 19, 3) := by decide +kernel
theorem dX7_count_122 : decode cX7_count 122 = .ok (.invokevirtual 197, 3) := by decide +kernel
theorem dX7_count_125 : decode cX7_count 125 = .ok (.ireturn, 1) := by decide +kernel
theorem dX7_count_126 : decode cX7_count 126 = .ok (.aload_n 0, 1) := by decide +kernel
theorem dX7_count_127 : decode cX7_count 127 = .ok (.getfield 19, 3) := by decide +kernel
theorem dX7_count_130 : decode cX7_count 130 = .ok (.getfield 135, 3) := by decide +kernel
theorem dX7_count_133 : decode cX7_count 133 = .ok (.ireturn, 1) := by decide +kernel
theorem dX7_count_134 : decode cX7_count 134 = .ok (.aload_n 0, 1) := by decide +kernel
theorem dX7_count_135 : decode cX7_count 135 = .ok (.getfield 33, 3) := by decide +kernel
theorem dX7_count_138 : decode cX7_count 138 = .ok (.getfield 262, 3) := by decide +kernel
theorem dX7_count_141 : decode cX7_count 141 = .ok (.ireturn, 1) := by decide +kernel
theorem dX7_count_142 : decode cX7_count 142 = .ok (.aload_n 0, 1) := by decide +kernel
theorem dX7_count_143 : decode cX7_count 143 = .ok (.getfield 40, 3) := by decide +kernel
theorem dX7_count_146 : decode cX7_count 146 = .ok (.getfield 217, 3) := by decide +kernel
theorem dX7_count_149 : decode cX7_count 149 = .ok (.ireturn, 1) := by decide +kernel
theorem dX7_count_150 : decode cX7_count 150 = .ok (.bipush (-2), 2) := by decide +kernel
theorem dX7_count_152 : decode cX7_count 152 = .ok (.ireturn, 1) := by decide +kernel
set_option maxRecDepth 20000 in
theorem ggX7_mayHold_X7_bit : GoodIn wsX7_mayHold wsX7_bit := goodIn_r _ [5] (by decide +kernel) (by decide +kernel)
set_option maxRecDepth 20000 in
theorem gX7_mayHold_X7_bit : GoodIn wsX7_mayHold (va_wsS RX7 119 yX7_bit wsX7_bit) := goodIn_app (goodIn_of _ (by decide +kernel)) ggX7_mayHold_X7_bit
theorem dX7_mayHold_0 : decode cX7_mayHold 0 = .ok (.iload_n 2, 1) := by decide +kernel
theorem dX7_mayHold_1 : decode cX7_mayHold 1 = .ok (.ifCond .eq 20, 3) := by decide +kernel
theorem dX7_mayHold_4 : decode cX7_mayHold 4 = .ok (.aload_n 0, 1) := by decide +kernel
theorem dX7_mayHold_5 : decode cX7_mayHold 5 = .ok (.getfield 19, 3) := by decide +kernel
theorem dX7_mayHold_8 : decode cX7_mayHold 8 = .ok (.getfield 116, 3) := by decide +kernel
theorem dX7_mayHold_11 : decode cX7_mayHold 11 = .ok (.iload_n 2, 1) := by decide +kernel
theorem dX7_mayHold_12 : decode cX7_mayHold 12 = .ok (.iconst 1, 1) := by decide +kernel
theorem dX7_mayHold_13 : decode cX7_mayHold 13 = .ok (.isub, 1) := by decide +kernel
theorem dX7_mayHold_14 : decode cX7_mayHold 14 = .ok (.invokestatic 119, 3) := by decide +kernel
theorem dX7_mayHold_17 : decode cX7_mayHold 17 = .ok (.iload_n 1, 1) := by decide +kernel
theorem dX7_mayHold_18 : decode cX7_mayHold 18 = .ok (.if_icmp .ne 7, 3) := by decide +kernel
theorem dX7_mayHold_21 : decode cX7_mayHold 21 = .ok (.iconst 1, 1) := by decide +kernel
theorem dX7_mayHold_22 : decode cX7_mayHold 22 = .ok (.goto 4, 3) := by decide +kernel
theorem dX7_mayHold_25 : decode cX7_mayHold 25 = .ok (.iconst 0, 1) := by decide +kernel
theorem dX7_mayHold_26 : decode cX7_mayHold 26 = .ok (.ireturn, 1) := by decide +kernel
set_option maxRecDepth 20000 in
theorem ggX7_brookHeld_X1_brookUnder : GoodIn wsX7_brookHeld wsX1_brookUnder := goodIn_r _ [6, 7, 8, 9, 4, 10, 11, 12, 13, 14, 15, 16, 17, 18, 19, 20, 21, 22, 23, 24, 25, 26, 27, 28, 29, 30, 31, 32, 42, 43, 44, 45, 46, 47, 48, 49, 50, 51, 52, 53, 54, 55, 56] (by decide +kernel) (by decide +kernel)
set_option maxRecDepth 20000 in
theorem gX7_brookHeld_X1_brookUnder_n172 : GoodIn wsX7_brookHeld (wsX1_brookUnder) := ggX7_brookHeld_X1_brookUnder
theorem dX7_brookHeld_0 : decode cX7_brookHeld 0 = .ok (.aload_n 0, 1) := by decide +kernel
theorem dX7_brookHeld_1 : decode cX7_brookHeld 1 = .ok (.getfield 26, 3) := by decide +kernel
theorem dX7_brookHeld_4 : decode cX7_brookHeld 4 = .ok (.aload_n 0, 1) := by decide +kernel
theorem dX7_brookHeld_5 : decode cX7_brookHeld 5 = .ok (.getfield 19, 3) := by decide +kernel
theorem dX7_brookHeld_8 : decode cX7_brookHeld 8 = .ok (.iload_n 1, 1) := by decide +kernel
theorem dX7_brookHeld_9 : decode cX7_brookHeld 9 = .ok (.iconst 1, 1) := by decide +kernel
theorem dX7_brookHeld_10 : decode cX7_brookHeld 10 = .ok (.iload_n 2, 1) := by decide +kernel
theorem dX7_brookHeld_11 : decode cX7_brookHeld 11 = .ok (.ishl, 1) := by decide +kernel
theorem dX7_brookHeld_12 : decode cX7_brookHeld 12 = .ok (.iconst 1, 1) := by decide +kernel
theorem dX7_brookHeld_13 : decode cX7_brookHeld 13 = .ok (.ishr, 1) := by decide +kernel
theorem dX7_brookHeld_14 : decode cX7_brookHeld 14 = .ok (.iconst 1, 1) := by decide +kernel
theorem dX7_brookHeld_15 : decode cX7_brookHeld 15 = .ok (.iload_n 3, 1) := by decide +kernel
theorem dX7_brookHeld_16 : decode cX7_brookHeld 16 = .ok (.ishl, 1) := by decide +kernel
theorem dX7_brookHeld_17 : decode cX7_brookHeld 17 = .ok (.iconst 1, 1) := by decide +kernel
theorem dX7_brookHeld_18 : decode cX7_brookHeld 18 = .ok (.ishr, 1) := by decide +kernel
theorem dX7_brookHeld_19 : decode cX7_brookHeld 19 = .ok (.ior, 1) := by decide +kernel
theorem dX7_brookHeld_20 : decode cX7_brookHeld 20 = .ok (.iconst 0, 1) := by decide +kernel
theorem dX7_brookHeld_21 : decode cX7_brookHeld 21 = .ok (.invokevirtual 172, 3) := by decide +kernel
theorem dX7_brookHeld_24 : decode cX7_brookHeld 24 = .ok (.ireturn, 1) := by decide +kernel
set_option maxRecDepth 20000 in
theorem ggX7_isAtRest_X7_brookHeld : GoodIn wsX7_isAtRest wsX7_brookHeld := goodIn_r _ [6, 7, 1, 8, 9, 10, 11, 12, 13, 14, 15, 16, 17, 18, 5, 19, 20, 21, 22, 23, 24, 25, 26, 27, 28, 29, 30, 31, 32, 33, 34, 35, 36, 42, 43, 44, 45, 46, 47, 48, 49, 50, 62, 63, 64, 65, 51, 52, 53, 54, 55, 56, 57, 58, 59, 60, 61] (by decide +kernel) (by decide +kernel)
set_option maxRecDepth 20000 in
theorem gX7_isAtRest_X7_brookHeld : GoodIn wsX7_isAtRest (wsV RX7 263 RX7 yX7_brookHeld wsX7_brookHeld) := goodIn_app (goodIn_of _ (by decide +kernel)) ggX7_isAtRest_X7_brookHeld
set_option maxRecDepth 20000 in
theorem ggX7_isAtRest_X7_mayHold : GoodIn wsX7_isAtRest wsX7_mayHold := goodIn_r _ [40, 1, 41, 29, 5, 30, 42, 43, 44, 45, 46, 47, 48, 49, 50, 51, 52, 53, 54, 55, 56, 57, 58, 59, 60, 61] (by decide +kernel) (by decide +kernel)
set_option maxRecDepth 20000 in
theorem gX7_isAtRest_X7_mayHold : GoodIn wsX7_isAtRest (wsV RX7 224 RX7 yX7_mayHold wsX7_mayHold) := goodIn_app (goodIn_of _ (by decide +kernel)) ggX7_isAtRest_X7_mayHold
theorem dX7_isAtRest_0 : decode cX7_isAtRest 0 = .ok (.aload_n 0, 1) := by decide +kernel
theorem dX7_isAtRest_1 : decode cX7_isAtRest 1 = .ok (.iload_n 1, 1) := by decide +kernel
theorem dX7_isAtRest_2 : decode cX7_isAtRest 2 = .ok (.iload_n 2, 1) := by decide +kernel
theorem dX7_isAtRest_3 : decode cX7_isAtRest 3 = .ok (.iload_n 3, 1) := by decide +kernel
theorem dX7_isAtRest_4 : decode cX7_isAtRest 4 = .ok (.invokevirtual 263, 3) := by decide +kernel
theorem dX7_isAtRest_7 : decode cX7_isAtRest 7 = .ok (.istore 4, 2) := by decide +kernel
theorem dX7_isAtRest_9 : decode cX7_isAtRest 9 = .ok (.iconst 0, 1) := by decide +kernel
theorem dX7_isAtRest_10 : decode cX7_isAtRest 10 = .ok (.istore 5, 2) := by decide +kernel
theorem dX7_isAtRest_12 : decode cX7_isAtRest 12 = .ok (.iload 5, 2) := by decide +kernel
theorem dX7_isAtRest_14 : decode cX7_isAtRest 14 = .ok (.aload_n 0, 1) := by decide +kernel
theorem dX7_isAtRest_15 : decode cX7_isAtRest 15 = .ok (.getfield 19, 3) := by decide +kernel
theorem dX7_isAtRest_18 : decode cX7_isAtRest 18 = .ok (.getfield 92, 3) := by decide +kernel
theorem dX7_isAtRest_21 : decode cX7_isAtRest 21 = .ok (.if_icmp .gt 67, 3) := by decide +kernel
theorem dX7_isAtRest_24 : decode cX7_isAtRest 24 = .ok (.iload 4, 2) := by decide +kernel
theorem dX7_isAtRest_26 : decode cX7_isAtRest 26 = .ok (.iconst 1, 1) := by decide +kernel
theorem dX7_isAtRest_27 : decode cX7_isAtRest 27 = .ok (.if_icmp .ne 26, 3) := by decide +kernel
theorem dX7_isAtRest_30 : decode cX7_isAtRest 30 = .ok (.aload_n 0, 1) := by decide +kernel
theorem dX7_isAtRest_31 : decode cX7_isAtRest 31 = .ok (.iconst 0, 1) := by decide +kernel
theorem dX7_isAtRest_32 : decode cX7_isAtRest 32 = .ok (.iload 5, 2) := by decide +kernel
theorem dX7_isAtRest_34 : decode cX7_isAtRest 34 = .ok (.invokevirtual 224, 3) := by decide +kernel
theorem dX7_isAtRest_37 : decode cX7_isAtRest 37 = .ok (.ifCond .eq 16, 3) := by decide +kernel
theorem dX7_isAtRest_40 : decode cX7_isAtRest 40 = .ok (.aload_n 0, 1) := by decide +kernel
theorem dX7_isAtRest_41 : decode cX7_isAtRest 41 = .ok (.iload_n 1, 1) := by decide +kernel
theorem dX7_isAtRest_42 : decode cX7_isAtRest 42 = .ok (.iload 5, 2) := by decide +kernel
theorem dX7_isAtRest_44 : decode cX7_isAtRest 44 = .ok (.iload_n 3, 1) := by decide +kernel
theorem dX7_isAtRest_45 : decode cX7_isAtRest 45 = .ok (.invokevirtual 263, 3) := by decide +kernel
theorem dX7_isAtRest_48 : decode cX7_isAtRest 48 = .ok (.ifCond .ne 5, 3) := by decide +kernel
theorem dX7_isAtRest_51 : decode cX7_isAtRest 51 = .ok (.iconst 0, 1) := by decide +kernel
theorem dX7_isAtRest_52 : decode cX7_isAtRest 52 = .ok (.ireturn, 1) := by decide +kernel
theorem dX7_isAtRest_53 : decode cX7_isAtRest 53 = .ok (.iload 4, 2) := by decide +kernel
theorem dX7_isAtRest_55 : decode cX7_isAtRest 55 = .ok (.ifCond .ne 27, 3) := by decide +kernel
theorem dX7_isAtRest_58 : decode cX7_isAtRest 58 = .ok (.aload_n 0, 1) := by decide +kernel
theorem dX7_isAtRest_59 : decode cX7_isAtRest 59 = .ok (.iconst 1, 1) := by decide +kernel
theorem dX7_isAtRest_60 : decode cX7_isAtRest 60 = .ok (.iload 5, 2) := by decide +kernel
theorem dX7_isAtRest_62 : decode cX7_isAtRest 62 = .ok (.invokevirtual 224, 3) := by decide +kernel
theorem dX7_isAtRest_65 : decode cX7_isAtRest 65 = .ok (.ifCond .eq 17, 3) := by decide +kernel
theorem dX7_isAtRest_68 : decode cX7_isAtRest 68 = .ok (.aload_n 0, 1) := by decide +kernel
theorem dX7_isAtRest_69 : decode cX7_isAtRest 69 = .ok (.iload_n 1, 1) := by decide +kernel
theorem dX7_isAtRest_70 : decode cX7_isAtRest 70 = .ok (.iload_n 2, 1) := by decide +kernel
theorem dX7_isAtRest_71 : decode cX7_isAtRest 71 = .ok (.iload 5, 2) := by decide +kernel
theorem dX7_isAtRest_73 : decode cX7_isAtRest 73 = .ok (.invokevirtual 263, 3) := by decide +kernel
theorem dX7_isAtRest_76 : decode cX7_isAtRest 76 = .ok (.iconst 1, 1) := by decide +kernel
theorem dX7_isAtRest_77 : decode cX7_isAtRest 77 = .ok (.if_icmp .ne 5, 3) := by decide +kernel
theorem dX7_isAtRest_80 : decode cX7_isAtRest 80 = .ok (.iconst 0, 1) := by decide +kernel
theorem dX7_isAtRest_81 : decode cX7_isAtRest 81 = .ok (.ireturn, 1) := by decide +kernel
theorem dX7_isAtRest_82 : decode cX7_isAtRest 82 = .ok (.iinc 5 1, 3) := by decide +kernel
theorem dX7_isAtRest_85 : decode cX7_isAtRest 85 = .ok (.goto (-73), 3) := by decide +kernel
theorem dX7_isAtRest_88 : decode cX7_isAtRest 88 = .ok (.iconst 1, 1) := by decide +kernel
theorem dX7_isAtRest_89 : decode cX7_isAtRest 89 = .ok (.ireturn, 1) := by decide +kernel
set_option maxRecDepth 20000 in
theorem ggX7_waysToFreeze_X7_bit : GoodIn wsX7_waysToFreeze wsX7_bit := goodIn_r _ [5] (by decide +kernel) (by decide +kernel)
set_option maxRecDepth 20000 in
theorem gX7_waysToFreeze_X7_bit : GoodIn wsX7_waysToFreeze (va_wsS RX7 119 yX7_bit wsX7_bit) := goodIn_app (goodIn_of _ (by decide +kernel)) ggX7_waysToFreeze_X7_bit
theorem dX7_waysToFreeze_0 : decode cX7_waysToFreeze 0 = .ok (.iconst 1, 1) := by decide +kernel
theorem dX7_waysToFreeze_1 : decode cX7_waysToFreeze 1 = .ok (.istore_n 3, 1) := by decide +kernel
theorem dX7_waysToFreeze_2 : decode cX7_waysToFreeze 2 = .ok (.iconst 0, 1) := by decide +kernel
theorem dX7_waysToFreeze_3 : decode cX7_waysToFreeze 3 = .ok (.istore 4, 2) := by decide +kernel
theorem dX7_waysToFreeze_5 : decode cX7_waysToFreeze 5 = .ok (.iload 4, 2) := by decide +kernel
theorem dX7_waysToFreeze_7 : decode cX7_waysToFreeze 7 = .ok (.aload_n 0, 1) := by decide +kernel
theorem dX7_waysToFreeze_8 : decode cX7_waysToFreeze 8 = .ok (.getfield 19, 3) := by decide +kernel
theorem dX7_waysToFreeze_11 : decode cX7_waysToFreeze 11 = .ok (.getfield 92, 3) := by decide +kernel
theorem dX7_waysToFreeze_14 : decode cX7_waysToFreeze 14 = .ok (.if_icmp .ge 30, 3) := by decide +kernel
theorem dX7_waysToFreeze_17 : decode cX7_waysToFreeze 17 = .ok (.iload_n 3, 1) := by decide +kernel
theorem dX7_waysToFreeze_18 : decode cX7_waysToFreeze 18 = .ok (.iload_n 1, 1) := by decide +kernel
theorem dX7_waysToFreeze_19 : decode cX7_waysToFreeze 19 = .ok (.iload 4, 2) := by decide +kernel
theorem dX7_waysToFreeze_21 : decode cX7_waysToFreeze 21 = .ok (.invokestatic 119, 3) := by decide +kernel
theorem dX7_waysToFreeze_24 : decode cX7_waysToFreeze 24 = .ok (.iconst 1, 1) := by decide +kernel
theorem dX7_waysToFreeze_25 : decode cX7_waysToFreeze 25 = .ok (.if_icmp .ne 7, 3) := by decide +kernel
theorem dX7_waysToFreeze_28 : decode cX7_waysToFreeze 28 = .ok (.iload_n 2, 1) := by decide +kernel
theorem dX7_waysToFreeze_29 : decode cX7_waysToFreeze 29 = .ok (.goto 7, 3) := by decide +kernel
theorem dX7_waysToFreeze_32 : decode cX7_waysToFreeze 32 = .ok (.bipush 10, 2) := by decide +kernel
theorem dX7_waysToFreeze_34 : decode cX7_waysToFreeze 34 = .ok (.iload_n 2, 1) := by decide +kernel
theorem dX7_waysToFreeze_35 : decode cX7_waysToFreeze 35 = .ok (.isub, 1) := by decide +kernel
theorem dX7_waysToFreeze_36 : decode cX7_waysToFreeze 36 = .ok (.imul, 1) := by decide +kernel
theorem dX7_waysToFreeze_37 : decode cX7_waysToFreeze 37 = .ok (.istore_n 3, 1) := by decide +kernel
theorem dX7_waysToFreeze_38 : decode cX7_waysToFreeze 38 = .ok (.iinc 4 1, 3) := by decide +kernel
theorem dX7_waysToFreeze_41 : decode cX7_waysToFreeze 41 = .ok (.goto (-36), 3) := by decide +kernel
theorem dX7_waysToFreeze_44 : decode cX7_waysToFreeze 44 = .ok (.iload_n 3, 1) := by decide +kernel
theorem dX7_waysToFreeze_45 : decode cX7_waysToFreeze 45 = .ok (.ireturn, 1) := by decide +kernel
theorem dX7_commonDivisor_0 : decode cX7_commonDivisor 0 = .ok (.iload_n 0, 1) := by decide +kernel
theorem dX7_commonDivisor_1 : decode cX7_commonDivisor 1 = .ok (.istore_n 2, 1) := by decide +kernel
theorem dX7_commonDivisor_2 : decode cX7_commonDivisor 2 = .ok (.iload_n 1, 1) := by decide +kernel
theorem dX7_commonDivisor_3 : decode cX7_commonDivisor 3 = .ok (.istore_n 3, 1) := by decide +kernel
theorem dX7_commonDivisor_4 : decode cX7_commonDivisor 4 = .ok (.iconst 0, 1) := by decide +kernel
theorem dX7_commonDivisor_5 : decode cX7_commonDivisor 5 = .ok (.istore 4, 2) := by decide +kernel
theorem dX7_commonDivisor_7 : decode cX7_commonDivisor 7 = .ok (.iload 4, 2) := by decide +kernel
theorem dX7_commonDivisor_9 : decode cX7_commonDivisor 9 = .ok (.bipush 64, 2) := by decide +kernel
theorem dX7_commonDivisor_11 : decode cX7_commonDivisor 11 = .ok (.if_icmp .ge 23, 3) := by decide +kernel
theorem dX7_commonDivisor_14 : decode cX7_commonDivisor 14 = .ok (.iload_n 3, 1) := by decide +kernel
theorem dX7_commonDivisor_15 : decode cX7_commonDivisor 15 = .ok (.ifCond .eq 19, 3) := by decide +kernel
theorem dX7_commonDivisor_18 : decode cX7_commonDivisor 18 = .ok (.iload_n 2, 1) := by decide +kernel
theorem dX7_commonDivisor_19 : decode cX7_commonDivisor 19 = .ok (.iload_n 3, 1) := by decide +kernel
theorem dX7_commonDivisor_20 : decode cX7_commonDivisor 20 = .ok (.irem, 1) := by decide +kernel
theorem dX7_commonDivisor_21 : decode cX7_commonDivisor 21 = .ok (.istore 5, 2) := by decide +kernel
theorem dX7_commonDivisor_23 : decode cX7_commonDivisor 23 = .ok (.iload_n 3, 1) := by decide +kernel
theorem dX7_commonDivisor_24 : decode cX7_commonDivisor 24 = .ok (.istore_n 2, 1) := by decide +kernel
theorem dX7_commonDivisor_25 : decode cX7_commonDivisor 25 = .ok (.iload 5, 2) := by decide +kernel
theorem dX7_commonDivisor_27 : decode cX7_commonDivisor 27 = .ok (.istore_n 3, 1) := by decide +kernel
theorem dX7_commonDivisor_28 : decode cX7_commonDivisor 28 = .ok (.iinc 4 1, 3) := by decide +kernel
theorem dX7_commonDivisor_31 : decode cX7_commonDivisor 31 = .ok (.goto (-24), 3) := by decide +kernel
theorem dX7_commonDivisor_34 : decode cX7_commonDivisor 34 = .ok (.iload_n 2, 1) := by decide +kernel
theorem dX7_commonDivisor_35 : decode cX7_commonDivisor 35 = .ok (.ireturn, 1) := by decide +kernel
theorem dX7_cutFigures_0 : decode cX7_cutFigures 0 = .ok (.iload_n 0, 1) := by decide +kernel
theorem dX7_cutFigures_1 : decode cX7_cutFigures 1 = .ok (.istore_n 2, 1) := by decide +kernel
theorem dX7_cutFigures_2 : decode cX7_cutFigures 2 = .ok (.iconst 0, 1) := by decide +kernel
theorem dX7_cutFigures_3 : decode cX7_cutFigures 3 = .ok (.istore_n 3, 1) := by decide +kernel
theorem dX7_cutFigures_4 : decode cX7_cutFigures 4 = .ok (.iload_n 3, 1) := by decide +kernel
theorem dX7_cutFigures_5 : decode cX7_cutFigures 5 = .ok (.iload_n 1, 1) := by decide +kernel
theorem dX7_cutFigures_6 : decode cX7_cutFigures 6 = .ok (.if_icmp .ge 14, 3) := by decide +kernel
theorem dX7_cutFigures_9 : decode cX7_cutFigures 9 = .ok (.iload_n 2, 1) := by decide +kernel
theorem dX7_cutFigures_10 : decode cX7_cutFigures 10 = .ok (.bipush 10, 2) := by decide +kernel
theorem dX7_cutFigures_12 : decode cX7_cutFigures 12 = .ok (.idiv, 1) := by decide +kernel
theorem dX7_cutFigures_13 : decode cX7_cutFigures 13 = .ok (.istore_n 2, 1) := by decide +kernel
theorem dX7_cutFigures_14 : decode cX7_cutFigures 14 = .ok (.iinc 3 1, 3) := by decide +kernel
theorem dX7_cutFigures_17 : decode cX7_cutFigures 17 = .ok (.goto (-13), 3) := by decide +kernel
theorem dX7_cutFigures_20 : decode cX7_cutFigures 20 = .ok (.iload_n 2, 1) := by decide +kernel
theorem dX7_cutFigures_21 : decode cX7_cutFigures 21 = .ok (.ireturn, 1) := by decide +kernel
theorem dX7_isCell_0 : decode cX7_isCell 0 = .ok (.iload_n 0, 1) := by decide +kernel
theorem dX7_isCell_1 : decode cX7_isCell 1 = .ok (.ifCond .lt 13, 3) := by decide +kernel
theorem dX7_isCell_4 : decode cX7_isCell 4 = .ok (.iload_n 0, 1) := by decide +kernel
theorem dX7_isCell_5 : decode cX7_isCell 5 = .ok (.bipush 10, 2) := by decide +kernel
theorem dX7_isCell_7 : decode cX7_isCell 7 = .ok (.if_icmp .ge 7, 3) := by decide +kernel
theorem dX7_isCell_10 : decode cX7_isCell 10 = .ok (.iconst 1, 1) := by decide +kernel
theorem dX7_isCell_11 : decode cX7_isCell 11 = .ok (.goto 4, 3) := by decide +kernel
theorem dX7_isCell_14 : decode cX7_isCell 14 = .ok (.iconst 0, 1) := by decide +kernel
theorem dX7_isCell_15 : decode cX7_isCell 15 = .ok (.ireturn, 1) := by decide +kernel
theorem dX7_isParish_0 : decode cX7_isParish 0 = .ok (.iload_n 0, 1) := by decide +kernel
theorem dX7_isParish_1 : decode cX7_isParish 1 = .ok (.ifCond .eq 8, 3) := by decide +kernel
theorem dX7_isParish_4 : decode cX7_isParish 4 = .ok (.iload_n 0, 1) := by decide +kernel
theorem dX7_isParish_5 : decode cX7_isParish 5 = .ok (.iconst 1, 1) := by decide +kernel
theorem dX7_isParish_6 : decode cX7_isParish 6 = .ok (.if_icmp .ne 7, 3) := by decide +kernel
theorem dX7_isParish_9 : decode cX7_isParish 9 = .ok (.iconst 1, 1) := by decide +kernel
theorem dX7_isParish_10 : decode cX7_isParish 10 = .ok (.goto 4, 3) := by decide +kernel
theorem dX7_isParish_13 : decode cX7_isParish 13 = .ok (.iconst 0, 1) := by decide +kernel
theorem dX7_isParish_14 : decode cX7_isParish 14 = .ok (.ireturn, 1) := by decide +kernel
theorem dX7_bit_0 : decode cX7_bit 0 = .ok (.iload_n 0, 1) := by decide +kernel
theorem dX7_bit_1 : decode cX7_bit 1 = .ok (.iload_n 1, 1) := by decide +kernel
theorem dX7_bit_2 : decode cX7_bit 2 = .ok (.ishr, 1) := by decide +kernel
theorem dX7_bit_3 : decode cX7_bit 3 = .ok (.iconst 1, 1) := by decide +kernel
theorem dX7_bit_4 : decode cX7_bit 4 = .ok (.iand, 1) := by decide +kernel
theorem dX7_bit_5 : decode cX7_bit 5 = .ok (.ireturn, 1) := by decide +kernel
theorem dX7_at_0 : decode cX7_at 0 = .ok (.iload_n 1, 1) := by decide +kernel
theorem dX7_at_1 : decode cX7_at 1 = .ok (.ifCond .lt 15, 3) := by decide +kernel
theorem dX7_at_4 : decode cX7_at 4 = .ok (.iload_n 1, 1) := by decide +kernel
theorem dX7_at_5 : decode cX7_at 5 = .ok (.aload_n 0, 1) := by decide +kernel
theorem dX7_at_6 : decode cX7_at 6 = .ok (.arraylength, 1) := by decide +kernel
theorem dX7_at_7 : decode cX7_at 7 = .ok (.if_icmp .ge 9, 3) := by decide +kernel
theorem dX7_at_10 : decode cX7_at 10 = .ok (.aload_n 0, 1) := by decide +kernel
theorem dX7_at_11 : decode cX7_at 11 = .ok (.iload_n 1, 1) := by decide +kernel
theorem dX7_at_12 : decode cX7_at 12 = .ok (.iaload, 1) := by decide +kernel
theorem dX7_at_13 : decode cX7_at 13 = .ok (.goto 4, 3) := by decide +kernel
theorem dX7_at_16 : decode cX7_at 16 = .ok (.iconst 0, 1) := by decide +kernel
theorem dX7_at_17 : decode cX7_at 17 = .ok (.ireturn, 1) := by decide +kernel
theorem dX7_put_0 : decode cX7_put 0 = .ok (.iload_n 1, 1) := by decide +kernel
theorem dX7_put_1 : decode cX7_put 1 = .ok (.ifCond .lt 13, 3) := by decide +kernel
theorem dX7_put_4 : decode cX7_put 4 = .ok (.iload_n 1, 1) := by decide +kernel
theorem dX7_put_5 : decode cX7_put 5 = .ok (.aload_n 0, 1) := by decide +kernel
theorem dX7_put_6 : decode cX7_put 6 = .ok (.arraylength, 1) := by decide +kernel
theorem dX7_put_7 : decode cX7_put 7 = .ok (.if_icmp .ge 7, 3) := by decide +kernel
theorem dX7_put_10 : decode cX7_put 10 = .ok (.aload_n 0, 1) := by decide +kernel
theorem dX7_put_11 : decode cX7_put 11 = .ok (.iload_n 1, 1) := by decide +kernel
theorem dX7_put_12 : decode cX7_put 12 = .ok (.iload_n 2, 1) := by decide +kernel
theorem dX7_put_13 : decode cX7_put 13 = .ok (.iastore, 1) := by decide +kernel
theorem dX7_put_14 : decode cX7_put 14 = .ok (.return_, 1) := by decide +kernel
theorem dX7_copyRow_0 : decode cX7_copyRow 0 = .ok (.iconst 0, 1) := by decide +kernel
theorem dX7_copyRow_1 : decode cX7_copyRow 1 = .ok (.istore_n 2, 1) := by decide +kernel
theorem dX7_copyRow_2 : decode cX7_copyRow 2 = .ok (.iload_n 2, 1) := by decide +kernel
theorem dX7_copyRow_3 : decode cX7_copyRow 3 = .ok (.aload_n 0, 1) := by decide +kernel
theorem dX7_copyRow_4 : decode cX7_copyRow 4 = .ok (.arraylength, 1) := by decide +kernel
theorem dX7_copyRow_5 : decode cX7_copyRow 5 = .ok (.if_icmp .ge 21, 3) := by decide +kernel
theorem dX7_copyRow_8 : decode cX7_copyRow 8 = .ok (.iload_n 2, 1) := by decide +kernel
theorem dX7_copyRow_9 : decode cX7_copyRow 9 = .ok (.aload_n 1, 1) := by decide +kernel
theorem dX7_copyRow_10 : decode cX7_copyRow 10 = .ok (.arraylength, 1) := by decide +kernel
theorem dX7_copyRow_11 : decode cX7_copyRow 11 = .ok (.if_icmp .ge 15, 3) := by decide +kernel
theorem dX7_copyRow_14 : decode cX7_copyRow 14 = .ok (.aload_n 1, 1) := by decide +kernel
theorem dX7_copyRow_15 : decode cX7_copyRow 15 = .ok (.iload_n 2, 1) := by decide +kernel
theorem dX7_copyRow_16 : decode cX7_copyRow 16 = .ok (.aload_n 0, 1) := by decide +kernel
theorem dX7_copyRow_17 : decode cX7_copyRow 17 = .ok (.iload_n 2, 1) := by decide +kernel
theorem dX7_copyRow_18 : decode cX7_copyRow 18 = .ok (.iaload, 1) := by decide +kernel
theorem dX7_copyRow_19 : decode cX7_copyRow 19 = .ok (.iastore, 1) := by decide +kernel
theorem dX7_copyRow_20 : decode cX7_copyRow 20 = .ok (.iinc 2 1, 3) := by decide +kernel
theorem dX7_copyRow_23 : decode cX7_copyRow 23 = .ok (.goto (-21), 3) := by decide +kernel
theorem dX7_copyRow_26 : decode cX7_copyRow 26 = .ok (.return_, 1) := by decide +kernel
theorem dX8_init_0 : decode cX8_init 0 = .ok (.aload_n 0, 1) := by decide +kernel
theorem dX8_init_1 : decode cX8_init 1 = .ok (.invokespecial 1, 3) := by decide +kernel
theorem dX8_init_4 : decode cX8_init 4 = .ok (.aload_n 0, 1) := by decide +kernel
theorem dX8_init_5 : decode cX8_init 5 = .ok (.bipush 6, 2) := by decide +kernel
theorem dX8_init_7 : decode cX8_init 7 = .ok (.newarray .int, 2) := by decide +kernel
theorem dX8_init_9 : decode cX8_init 9 = .ok (.putfield 7, 3) := by decide +kernel
theorem dX8_init_12 : decode cX8_init 12 = .ok (.aload_n 0, 1) := by decide +kernel
theorem dX8_init_13 : decode cX8_init 13 = .ok (.bipush 6, 2) := by decide +kernel
theorem dX8_init_15 : decode cX8_init 15 = .ok (.newarray .int, 2) := by decide +kernel
theorem dX8_init_17 : decode cX8_init 17 = .ok (.putfield 13, 3) := by decide +kernel
end
section
theorem dX8_init_20 : decode cX8_init 20 = .ok (.aload_n 0, 1) := by decide +kernel
theorem dX8_init_21 : decode cX8_init 21 = .ok (.bipush 12, 2) := by decide +kernel
theorem dX8_init_23 : decode cX8_init 23 = .ok (.newarray .int, 2) := by decide +kernel
theorem dX8_init_25 : decode cX8_init 25 = .ok (.putfield 16, 3) := by decide +kernel
theorem dX8_init_28 : decode cX8_init 28 = .ok (.aload_n 0, 1) := by decide +kernel
theorem dX8_init_29 : decode cX8_init 29 = .ok (.bipush 54, 2) := by decide +kernel
theorem dX8_init_31 : decode cX8_init 31 = .ok (.newarray .int, 2) := by decide +kernel
theorem dX8_init_33 : decode cX8_init 33 = .ok (.putfield 19, 3) := by decide +kernel
theorem dX8_init_36 : decode cX8_init 36 = .ok (.aload_n 0, 1) := by decide +kernel
theorem dX8_init_37 : decode cX8_init 37 = .ok (.bipush 27, 2) := by decide +kernel
theorem dX8_init_39 : decode cX8_init 39 = .ok (.newarray .int, 2) := by decide +kernel
theorem dX8_init_41 : decode cX8_init 41 = .ok (.putfield 22, 3) := by decide +kernel
theorem dX8_init_44 : decode cX8_init 44 = .ok (.aload_n 0, 1) := by decide +kernel
theorem dX8_init_45 : decode cX8_init 45 = .ok (.bipush 6, 2) := by decide +kernel
theorem dX8_init_47 : decode cX8_init 47 = .ok (.newarray .int, 2) := by decide +kernel
theorem dX8_init_49 : decode cX8_init 49 = .ok (.putfield 25, 3) := by decide +kernel
theorem dX8_init_52 : decode cX8_init 52 = .ok (.aload_n 0, 1) := by decide +kernel
theorem dX8_init_53 : decode cX8_init 53 = .ok (.bipush 6, 2) := by decide +kernel
theorem dX8_init_55 : decode cX8_init 55 = .ok (.newarray .int, 2) := by decide +kernel
theorem dX8_init_57 : decode cX8_init 57 = .ok (.putfield 28, 3) := by decide +kernel
theorem dX8_init_60 : decode cX8_init 60 = .ok (.aload_n 0, 1) := by decide +kernel
theorem dX8_init_61 : decode cX8_init 61 = .ok (.bipush 12, 2) := by decide +kernel
theorem dX8_init_63 : decode cX8_init 63 = .ok (.newarray .int, 2) := by decide +kernel
theorem dX8_init_65 : decode cX8_init 65 = .ok (.putfield 31, 3) := by decide +kernel
theorem dX8_init_68 : decode cX8_init 68 = .ok (.aload_n 0, 1) := by decide +kernel
theorem dX8_init_69 : decode cX8_init 69 = .ok (.bipush 64, 2) := by decide +kernel
theorem dX8_init_71 : decode cX8_init 71 = .ok (.newarray .int, 2) := by decide +kernel
theorem dX8_init_73 : decode cX8_init 73 = .ok (.putfield 34, 3) := by decide +kernel
theorem dX8_init_76 : decode cX8_init 76 = .ok (.aload_n 0, 1) := by decide +kernel
theorem dX8_init_77 : decode cX8_init 77 = .ok (.sipush 378, 3) := by decide +kernel
theorem dX8_init_80 : decode cX8_init 80 = .ok (.newarray .int, 2) := by decide +kernel
theorem dX8_init_82 : decode cX8_init 82 = .ok (.putfield 37, 3) := by decide +kernel
theorem dX8_init_85 : decode cX8_init 85 = .ok (.aload_n 0, 1) := by decide +kernel
theorem dX8_init_86 : decode cX8_init 86 = .ok (.bipush 6, 2) := by decide +kernel
theorem dX8_init_88 : decode cX8_init 88 = .ok (.newarray .int, 2) := by decide +kernel
theorem dX8_init_90 : decode cX8_init 90 = .ok (.putfield 40, 3) := by decide +kernel
theorem dX8_init_93 : decode cX8_init 93 = .ok (.aload_n 0, 1) := by decide +kernel
theorem dX8_init_94 : decode cX8_init 94 = .ok (.bipush 6, 2) := by decide +kernel
theorem dX8_init_96 : decode cX8_init 96 = .ok (.newarray .int, 2) := by decide +kernel
theorem dX8_init_98 : decode cX8_init 98 = .ok (.putfield 43, 3) := by decide +kernel
theorem dX8_init_101 : decode cX8_init 101 = .ok (.aload_n 0, 1) := by decide +kernel
theorem dX8_init_102 : decode cX8_init 102 = .ok (.iconst 2, 1) := by decide +kernel
theorem dX8_init_103 : decode cX8_init 103 = .ok (.newarray .boolean, 2) := by decide +kernel
theorem dX8_init_105 : decode cX8_init 105 = .ok (.putfield 46, 3) := by decide +kernel
theorem dX8_init_108 : decode cX8_init 108 = .ok (.aload_n 0, 1) := by decide +kernel
theorem dX8_init_109 : decode cX8_init 109 = .ok (.bipush 54, 2) := by decide +kernel
theorem dX8_init_111 : decode cX8_init 111 = .ok (.newarray .int, 2) := by decide +kernel
theorem dX8_init_113 : decode cX8_init 113 = .ok (.putfield 50, 3) := by decide +kernel
theorem dX8_init_116 : decode cX8_init 116 = .ok (.aload_n 0, 1) := by decide +kernel
theorem dX8_init_117 : decode cX8_init 117 = .ok (.iconst 0, 1) := by decide +kernel
theorem dX8_init_118 : decode cX8_init 118 = .ok (.putfield 53, 3) := by decide +kernel
theorem dX8_init_121 : decode cX8_init 121 = .ok (.return_, 1) := by decide +kernel
theorem dX8_in_0 : decode cX8_in 0 = .ok (.lload_n 0, 1) := by decide +kernel
theorem dX8_in_1 : decode cX8_in 1 = .ok (.lload_n 2, 1) := by decide +kernel
theorem dX8_in_2 : decode cX8_in 2 = .ok (.lcmp, 1) := by decide +kernel
theorem dX8_in_3 : decode cX8_in 3 = .ok (.ifCond .lt 14, 3) := by decide +kernel
theorem dX8_in_6 : decode cX8_in 6 = .ok (.lload_n 0, 1) := by decide +kernel
theorem dX8_in_7 : decode cX8_in 7 = .ok (.lload 4, 2) := by decide +kernel
theorem dX8_in_9 : decode cX8_in 9 = .ok (.lcmp, 1) := by decide +kernel
theorem dX8_in_10 : decode cX8_in 10 = .ok (.ifCond .gt 7, 3) := by decide +kernel
theorem dX8_in_13 : decode cX8_in 13 = .ok (.iconst 1, 1) := by decide +kernel
theorem dX8_in_14 : decode cX8_in 14 = .ok (.goto 4, 3) := by decide +kernel
theorem dX8_in_17 : decode cX8_in 17 = .ok (.iconst 0, 1) := by decide +kernel
theorem dX8_in_18 : decode cX8_in 18 = .ok (.ireturn, 1) := by decide +kernel
theorem dX8_has_0 : decode cX8_has 0 = .ok (.iload_n 0, 1) := by decide +kernel
theorem dX8_has_1 : decode cX8_has 1 = .ok (.iload_n 1, 1) := by decide +kernel
theorem dX8_has_2 : decode cX8_has 2 = .ok (.ishr, 1) := by decide +kernel
theorem dX8_has_3 : decode cX8_has 3 = .ok (.iconst 1, 1) := by decide +kernel
theorem dX8_has_4 : decode cX8_has 4 = .ok (.iand, 1) := by decide +kernel
theorem dX8_has_5 : decode cX8_has 5 = .ok (.iconst 1, 1) := by decide +kernel
theorem dX8_has_6 : decode cX8_has 6 = .ok (.if_icmp .ne 7, 3) := by decide +kernel
theorem dX8_has_9 : decode cX8_has 9 = .ok (.iconst 1, 1) := by decide +kernel
theorem dX8_has_10 : decode cX8_has 10 = .ok (.goto 4, 3) := by decide +kernel
theorem dX8_has_13 : decode cX8_has 13 = .ok (.iconst 0, 1) := by decide +kernel
theorem dX8_has_14 : decode cX8_has 14 = .ok (.ireturn, 1) := by decide +kernel
theorem dX8_ones_0 : decode cX8_ones 0 = .ok (.iconst 0, 1) := by decide +kernel
theorem dX8_ones_1 : decode cX8_ones 1 = .ok (.istore_n 1, 1) := by decide +kernel
theorem dX8_ones_2 : decode cX8_ones 2 = .ok (.iconst 0, 1) := by decide +kernel
theorem dX8_ones_3 : decode cX8_ones 3 = .ok (.istore_n 2, 1) := by decide +kernel
theorem dX8_ones_4 : decode cX8_ones 4 = .ok (.iload_n 2, 1) := by decide +kernel
theorem dX8_ones_5 : decode cX8_ones 5 = .ok (.bipush 10, 2) := by decide +kernel
theorem dX8_ones_7 : decode cX8_ones 7 = .ok (.if_icmp .ge 17, 3) := by decide +kernel
theorem dX8_ones_10 : decode cX8_ones 10 = .ok (.iload_n 1, 1) := by decide +kernel
theorem dX8_ones_11 : decode cX8_ones 11 = .ok (.iload_n 0, 1) := by decide +kernel
theorem dX8_ones_12 : decode cX8_ones 12 = .ok (.iload_n 2, 1) := by decide +kernel
theorem dX8_ones_13 : decode cX8_ones 13 = .ok (.ishr, 1) := by decide +kernel
theorem dX8_ones_14 : decode cX8_ones 14 = .ok (.iconst 1, 1) := by decide +kernel
theorem dX8_ones_15 : decode cX8_ones 15 = .ok (.iand, 1) := by decide +kernel
theorem dX8_ones_16 : decode cX8_ones 16 = .ok (.iadd, 1) := by decide +kernel
theorem dX8_ones_17 : decode cX8_ones 17 = .ok (.istore_n 1, 1) := by decide +kernel
theorem dX8_ones_18 : decode cX8_ones 18 = .ok (.iinc 2 1, 3) := by decide +kernel
theorem dX8_ones_21 : decode cX8_ones 21 = .ok (.goto (-17), 3) := by decide +kernel
theorem dX8_ones_24 : decode cX8_ones 24 = .ok (.iload_n 1, 1) := by decide +kernel
theorem dX8_ones_25 : decode cX8_ones 25 = .ok (.ireturn, 1) := by decide +kernel
set_option maxRecDepth 20000 in
theorem ggX8_write_X8_in : GoodIn wsX8_write wsX8_in := goodIn_r _ [7] (by decide +kernel) (by decide +kernel)
set_option maxRecDepth 20000 in
theorem gX8_write_X8_in : GoodIn wsX8_write (va_wsS RX8 59 yX8_in wsX8_in) := goodIn_app (goodIn_of _ (by decide +kernel)) ggX8_write_X8_in
theorem dX8_write_0 : decode cX8_write 0 = .ok (.iload_n 1, 1) := by decide +kernel
theorem dX8_write_1 : decode cX8_write 1 = .ok (.i2l, 1) := by decide +kernel
theorem dX8_write_2 : decode cX8_write 2 = .ok (.lconst 0, 1) := by decide +kernel
theorem dX8_write_3 : decode cX8_write 3 = .ok (.ldc2_w 57, 3) := by decide +kernel
theorem dX8_write_6 : decode cX8_write 6 = .ok (.invokestatic 59, 3) := by decide +kernel
theorem dX8_write_9 : decode cX8_write 9 = .ok (.ifCond .ne 6, 3) := by decide +kernel
theorem dX8_write_12 : decode cX8_write 12 = .ok (.bipush (-2), 2) := by decide +kernel
theorem dX8_write_14 : decode cX8_write 14 = .ok (.ireturn, 1) := by decide +kernel
theorem dX8_write_15 : decode cX8_write 15 = .ok (.aload_n 0, 1) := by decide +kernel
theorem dX8_write_16 : decode cX8_write 16 = .ok (.getfield 63, 3) := by decide +kernel
theorem dX8_write_19 : decode cX8_write 19 = .ok (.bipush 64, 2) := by decide +kernel
theorem dX8_write_21 : decode cX8_write 21 = .ok (.if_icmp .ne 6, 3) := by decide +kernel
theorem dX8_write_24 : decode cX8_write 24 = .ok (.bipush (-4), 2) := by decide +kernel
theorem dX8_write_26 : decode cX8_write 26 = .ok (.ireturn, 1) := by decide +kernel
theorem dX8_write_27 : decode cX8_write 27 = .ok (.aload_n 0, 1) := by decide +kernel
theorem dX8_write_28 : decode cX8_write 28 = .ok (.getfield 34, 3) := by decide +kernel
theorem dX8_write_31 : decode cX8_write 31 = .ok (.aload_n 0, 1) := by decide +kernel
theorem dX8_write_32 : decode cX8_write 32 = .ok (.getfield 63, 3) := by decide +kernel
theorem dX8_write_35 : decode cX8_write 35 = .ok (.iload_n 1, 1) := by decide +kernel
theorem dX8_write_36 : decode cX8_write 36 = .ok (.iastore, 1) := by decide +kernel
theorem dX8_write_37 : decode cX8_write 37 = .ok (.aload_n 0, 1) := by decide +kernel
theorem dX8_write_38 : decode cX8_write 38 = .ok (.dup, 1) := by decide +kernel
theorem dX8_write_39 : decode cX8_write 39 = .ok (.getfield 63, 3) := by decide +kernel
theorem dX8_write_42 : decode cX8_write 42 = .ok (.iconst 1, 1) := by decide +kernel
theorem dX8_write_43 : decode cX8_write 43 = .ok (.iadd, 1) := by decide +kernel
theorem dX8_write_44 : decode cX8_write 44 = .ok (.putfield 63, 3) := by decide +kernel
theorem dX8_write_47 : decode cX8_write 47 = .ok (.aload_n 0, 1) := by decide +kernel
theorem dX8_write_48 : decode cX8_write 48 = .ok (.getfield 63, 3) := by decide +kernel
theorem dX8_write_51 : decode cX8_write 51 = .ok (.ireturn, 1) := by decide +kernel
theorem dX8_wipe_0 : decode cX8_wipe 0 = .ok (.aload_n 0, 1) := by decide +kernel
theorem dX8_wipe_1 : decode cX8_wipe 1 = .ok (.getfield 63, 3) := by decide +kernel
theorem dX8_wipe_4 : decode cX8_wipe 4 = .ok (.istore_n 1, 1) := by decide +kernel
theorem dX8_wipe_5 : decode cX8_wipe 5 = .ok (.aload_n 0, 1) := by decide +kernel
theorem dX8_wipe_6 : decode cX8_wipe 6 = .ok (.iconst 0, 1) := by decide +kernel
theorem dX8_wipe_7 : decode cX8_wipe 7 = .ok (.putfield 63, 3) := by decide +kernel
theorem dX8_wipe_10 : decode cX8_wipe 10 = .ok (.iload_n 1, 1) := by decide +kernel
theorem dX8_wipe_11 : decode cX8_wipe 11 = .ok (.ireturn, 1) := by decide +kernel
set_option maxRecDepth 20000 in
theorem ggX8_figure_X8_in : GoodIn wsX8_figure wsX8_in := goodIn_r _ [8] (by decide +kernel) (by decide +kernel)
set_option maxRecDepth 20000 in
theorem gX8_figure_X8_in : GoodIn wsX8_figure (va_wsS RX8 59 yX8_in wsX8_in) := goodIn_app (goodIn_of _ (by decide +kernel)) ggX8_figure_X8_in
theorem dX8_figure_0 : decode cX8_figure 0 = .ok (.aload_n 0, 1) := by decide +kernel
theorem dX8_figure_1 : decode cX8_figure 1 = .ok (.getfield 66, 3) := by decide +kernel
theorem dX8_figure_4 : decode cX8_figure 4 = .ok (.bipush (-9), 2) := by decide +kernel
theorem dX8_figure_6 : decode cX8_figure 6 = .ok (.if_icmp .ne 29, 3) := by decide +kernel
theorem dX8_figure_9 : decode cX8_figure 9 = .ok (.aload_n 0, 1) := by decide +kernel
theorem dX8_figure_10 : decode cX8_figure 10 = .ok (.getfield 69, 3) := by decide +kernel
theorem dX8_figure_13 : decode cX8_figure 13 = .ok (.aload_n 0, 1) := by decide +kernel
theorem dX8_figure_14 : decode cX8_figure 14 = .ok (.getfield 63, 3) := by decide +kernel
theorem dX8_figure_17 : decode cX8_figure 17 = .ok (.if_icmp .ge 18, 3) := by decide +kernel
theorem dX8_figure_20 : decode cX8_figure 20 = .ok (.aload_n 0, 1) := by decide +kernel
theorem dX8_figure_21 : decode cX8_figure 21 = .ok (.getfield 34, 3) := by decide +kernel
theorem dX8_figure_24 : decode cX8_figure 24 = .ok (.aload_n 0, 1) := by decide +kernel
theorem dX8_figure_25 : decode cX8_figure 25 = .ok (.getfield 69, 3) := by decide +kernel
theorem dX8_figure_28 : decode cX8_figure 28 = .ok (.iaload, 1) := by decide +kernel
theorem dX8_figure_29 : decode cX8_figure 29 = .ok (.bipush 48, 2) := by decide +kernel
theorem dX8_figure_31 : decode cX8_figure 31 = .ok (.isub, 1) := by decide +kernel
theorem dX8_figure_32 : decode cX8_figure 32 = .ok (.goto 5, 3) := by decide +kernel
theorem dX8_figure_35 : decode cX8_figure 35 = .ok (.bipush (-9), 2) := by decide +kernel
theorem dX8_figure_37 : decode cX8_figure 37 = .ok (.istore_n 3, 1) := by decide +kernel
theorem dX8_figure_38 : decode cX8_figure 38 = .ok (.iload_n 3, 1) := by decide +kernel
theorem dX8_figure_39 : decode cX8_figure 39 = .ok (.i2l, 1) := by decide +kernel
theorem dX8_figure_40 : decode cX8_figure 40 = .ok (.iload_n 1, 1) := by decide +kernel
theorem dX8_figure_41 : decode cX8_figure 41 = .ok (.i2l, 1) := by decide +kernel
theorem dX8_figure_42 : decode cX8_figure 42 = .ok (.iload_n 2, 1) := by decide +kernel
theorem dX8_figure_43 : decode cX8_figure 43 = .ok (.i2l, 1) := by decide +kernel
theorem dX8_figure_44 : decode cX8_figure 44 = .ok (.invokestatic 59, 3) := by decide +kernel
theorem dX8_figure_47 : decode cX8_figure 47 = .ok (.ifCond .ne 29, 3) := by decide +kernel
theorem dX8_figure_50 : decode cX8_figure 50 = .ok (.aload_n 0, 1) := by decide +kernel
theorem dX8_figure_51 : decode cX8_figure 51 = .ok (.aload_n 0, 1) := by decide +kernel
theorem dX8_figure_52 : decode cX8_figure 52 = .ok (.getfield 66, 3) := by decide +kernel
theorem dX8_figure_55 : decode cX8_figure 55 = .ok (.bipush (-9), 2) := by decide +kernel
theorem dX8_figure_57 : decode cX8_figure 57 = .ok (.if_icmp .ne 10, 3) := by decide +kernel
theorem dX8_figure_60 : decode cX8_figure 60 = .ok (.aload_n 0, 1) := by decide +kernel
theorem dX8_figure_61 : decode cX8_figure 61 = .ok (.getfield 69, 3) := by decide +kernel
theorem dX8_figure_64 : decode cX8_figure 64 = .ok (.goto 7, 3) := by decide +kernel
theorem dX8_figure_67 : decode cX8_figure 67 = .ok (.aload_n 0, 1) := by decide +kernel
theorem dX8_figure_68 : decode cX8_figure 68 = .ok (.getfield 66, 3) := by decide +kernel
theorem dX8_figure_71 : decode cX8_figure 71 = .ok (.putfield 66, 3) := by decide +kernel
theorem dX8_figure_74 : decode cX8_figure 74 = .ok (.iload_n 1, 1) := by decide +kernel
theorem dX8_figure_75 : decode cX8_figure 75 = .ok (.ireturn, 1) := by decide +kernel
theorem dX8_figure_76 : decode cX8_figure 76 = .ok (.aload_n 0, 1) := by decide +kernel
theorem dX8_figure_77 : decode cX8_figure 77 = .ok (.dup, 1) := by decide +kernel
theorem dX8_figure_78 : decode cX8_figure 78 = .ok (.getfield 69, 3) := by decide +kernel
theorem dX8_figure_81 : decode cX8_figure 81 = .ok (.iconst 1, 1) := by decide +kernel
theorem dX8_figure_82 : decode cX8_figure 82 = .ok (.iadd, 1) := by decide +kernel
theorem dX8_figure_83 : decode cX8_figure 83 = .ok (.putfield 69, 3) := by decide +kernel
theorem dX8_figure_86 : decode cX8_figure 86 = .ok (.iload_n 3, 1) := by decide +kernel
theorem dX8_figure_87 : decode cX8_figure 87 = .ok (.ireturn, 1) := by decide +kernel
set_option maxRecDepth 20000 in
theorem ggX8_figureOf_X8_in : GoodIn wsX8_figureOf wsX8_in := goodIn_r _ [9] (by decide +kernel) (by decide +kernel)
set_option maxRecDepth 20000 in
theorem gX8_figureOf_X8_in : GoodIn wsX8_figureOf (va_wsS RX8 59 yX8_in wsX8_in) := goodIn_app (goodIn_of _ (by decide +kernel)) ggX8_figureOf_X8_in
set_option maxRecDepth 20000 in
theorem ggX8_figureOf_X8_has : GoodIn wsX8_figureOf wsX8_has := goodIn_r _ [12] (by decide +kernel) (by decide +kernel)
set_option maxRecDepth 20000 in
theorem gX8_figureOf_X8_has : GoodIn wsX8_figureOf (va_wsS RX8 74 yX8_has wsX8_has) := goodIn_app (goodIn_of _ (by decide +kernel)) ggX8_figureOf_X8_has
theorem dX8_figureOf_0 : decode cX8_figureOf 0 = .ok (.aload_n 0, 1) := by decide +kernel
theorem dX8_figureOf_1 : decode cX8_figureOf 1 = .ok (.getfield 66, 3) := by decide +kernel
theorem dX8_figureOf_4 : decode cX8_figureOf 4 = .ok (.bipush (-9), 2) := by decide +kernel
theorem dX8_figureOf_6 : decode cX8_figureOf 6 = .ok (.if_icmp .ne 29, 3) := by decide +kernel
theorem dX8_figureOf_9 : decode cX8_figureOf 9 = .ok (.aload_n 0, 1) := by decide +kernel
theorem dX8_figureOf_10 : decode cX8_figureOf 10 = .ok (.getfield 69, 3) := by decide +kernel
theorem dX8_figureOf_13 : decode cX8_figureOf 13 = .ok (.aload_n 0, 1) := by decide +kernel
theorem dX8_figureOf_14 : decode cX8_figureOf 14 = .ok (.getfield 63, 3) := by decide +kernel
theorem dX8_figureOf_17 : decode cX8_figureOf 17 = .ok (.if_icmp .ge 18, 3) := by decide +kernel
theorem dX8_figureOf_20 : decode cX8_figureOf 20 = .ok (.aload_n 0, 1) := by decide +kernel
theorem dX8_figureOf_21 : decode cX8_figureOf 21 = .ok (.getfield 34, 3) := by decide +kernel
theorem dX8_figureOf_24 : decode cX8_figureOf 24 = .ok (.aload_n 0, 1) := by decide +kernel
theorem dX8_figureOf_25 : decode cX8_figureOf 25 = .ok (.getfield 69, 3) := by decide +kernel
theorem dX8_figureOf_28 : decode cX8_figureOf 28 = .ok (.iaload, 1) := by decide +kernel
theorem dX8_figureOf_29 : decode cX8_figureOf 29 = .ok (.bipush 48, 2) := by decide +kernel
theorem dX8_figureOf_31 : decode cX8_figureOf 31 = .ok (.isub, 1) := by decide +kernel
theorem dX8_figureOf_32 : decode cX8_figureOf 32 = .ok (.goto 5, 3) := by decide +kernel
theorem dX8_figureOf_35 : decode cX8_figureOf 35 = .ok (.bipush (-9), 2) := by decide +kernel
theorem dX8_figureOf_37 : decode cX8_figureOf 37 = .ok (.istore_n 2, 1) := by decide +kernel
theorem dX8_figureOf_38 : decode cX8_figureOf 38 = .ok (.iload_n 2, 1) := by decide +kernel
theorem dX8_figureOf_39 : decode cX8_figureOf 39 = .ok (.i2l, 1) := by decide +kernel
theorem dX8_figureOf_40 : decode cX8_figureOf 40 = .ok (.lconst 0, 1) := by decide +kernel
theorem dX8_figureOf_41 : decode cX8_figureOf 41 = .ok (.ldc2_w 72, 3) := by decide +kernel
theorem dX8_figureOf_44 : decode cX8_figureOf 44 = .ok (.invokestatic 59, 3) := by decide +kernel
theorem dX8_figureOf_47 : decode cX8_figureOf 47 = .ok (.ifCond .eq 11, 3) := by decide +kernel
theorem dX8_figureOf_50 : decode cX8_figureOf 50 = .ok (.iload_n 1, 1) := by decide +kernel
theorem dX8_figureOf_51 : decode cX8_figureOf 51 = .ok (.iload_n 2, 1) := by decide +kernel
theorem dX8_figureOf_52 : decode cX8_figureOf 52 = .ok (.invokestatic 74, 3) := by decide +kernel
theorem dX8_figureOf_55 : decode cX8_figureOf 55 = .ok (.ifCond .ne 29, 3) := by decide +kernel
theorem dX8_figureOf_58 : decode cX8_figureOf 58 = .ok (.aload_n 0, 1) := by decide +kernel
theorem dX8_figureOf_59 : decode cX8_figureOf 59 = .ok (.aload_n 0, 1) := by decide +kernel
theorem dX8_figureOf_60 : decode cX8_figureOf 60 = .ok (.getfield 66, 3) := by decide +kernel
theorem dX8_figureOf_63 : decode cX8_figureOf 63 = .ok (.bipush (-9), 2) := by decide +kernel
theorem dX8_figureOf_65 : decode cX8_figureOf 65 = .ok (.if_icmp .ne 10, 3) := by decide +kernel
theorem dX8_figureOf_68 : decode cX8_figureOf 68 = .ok (.aload_n 0, 1) := by decide +kernel
theorem dX8_figureOf_69 : decode cX8_figureOf 69 = .ok (.getfield 69, 3) := by decide +kernel
theorem dX8_figureOf_72 : decode cX8_figureOf 72 = .ok (.goto 7, 3) := by decide +kernel
theorem dX8_figureOf_75 : decode cX8_figureOf 75 = .ok (.aload_n 0, 1) := by decide +kernel
theorem dX8_figureOf_76 : decode cX8_figureOf 76 = .ok (.getfield 66, 3) := by decide +kernel
theorem dX8_figureOf_79 : decode cX8_figureOf 79 = .ok (.putfield 66, 3) := by decide +kernel
theorem dX8_figureOf_82 : decode cX8_figureOf 82 = .ok (.iconst 0, 1) := by decide +kernel
theorem dX8_figureOf_83 : decode cX8_figureOf 83 = .ok (.ireturn, 1) := by decide +kernel
theorem dX8_figureOf_84 : decode cX8_figureOf 84 = .ok (.aload_n 0, 1) := by decide +kernel
theorem dX8_figureOf_85 : decode cX8_figureOf 85 = .ok (.dup, 1) := by decide +kernel
theorem dX8_figureOf_86 : decode cX8_figureOf 86 = .ok (.getfield 69, 3) := by decide +kernel
theorem dX8_figureOf_89 : decode cX8_figureOf 89 = .ok (.iconst 1, 1) := by decide +kernel
theorem dX8_figureOf_90 : decode cX8_figureOf 90 = .ok (.iadd, 1) := by decide +kernel
theorem dX8_figureOf_91 : decode cX8_figureOf 91 = .ok (.putfield 69, 3) := by decide +kernel
theorem dX8_figureOf_94 : decode cX8_figureOf 94 = .ok (.iload_n 2, 1) := by decide +kernel
theorem dX8_figureOf_95 : decode cX8_figureOf 95 = .ok (.ireturn, 1) := by decide +kernel
set_option maxRecDepth 20000 in
theorem ggX8_readText_X8_readPart : GoodIn wsX8_readText wsX8_readPart := goodIn_r _ [14, 5, 1, 7, 2, 3, 4, 15, 16, 17, 18, 13, 19, 8, 9, 20, 21, 22, 23, 24, 25, 26, 27, 28, 29, 30, 31, 32, 33, 34, 6, 35, 36, 37, 38, 39, 40, 41, 42, 43, 44, 45, 46, 47, 48, 49, 50, 51, 52, 53, 54, 55, 56, 57, 58, 59, 60, 61, 62, 63, 64, 65, 66, 67] (by decide +kernel) (by decide +kernel)
set_option maxRecDepth 20000 in
theorem gX8_readText_X8_readPart : GoodIn wsX8_readText (wsV RX8 90 RX8 yX8_readPart wsX8_readPart) := goodIn_app (goodIn_of _ (by decide +kernel)) ggX8_readText_X8_readPart
theorem dX8_readText_0 : decode cX8_readText 0 = .ok (.aload_n 0, 1) := by decide +kernel
theorem dX8_readText_1 : decode cX8_readText 1 = .ok (.iconst 0, 1) := by decide +kernel
theorem dX8_readText_2 : decode cX8_readText 2 = .ok (.putfield 69, 3) := by decide +kernel
theorem dX8_readText_5 : decode cX8_readText 5 = .ok (.aload_n 0, 1) := by decide +kernel
theorem dX8_readText_6 : decode cX8_readText 6 = .ok (.bipush (-9), 2) := by decide +kernel
theorem dX8_readText_8 : decode cX8_readText 8 = .ok (.putfield 66, 3) := by decide +kernel
theorem dX8_readText_11 : decode cX8_readText 11 = .ok (.aload_n 0, 1) := by decide +kernel
theorem dX8_readText_12 : decode cX8_readText 12 = .ok (.iconst 0, 1) := by decide +kernel
theorem dX8_readText_13 : decode cX8_readText 13 = .ok (.putfield 78, 3) := by decide +kernel
theorem dX8_readText_16 : decode cX8_readText 16 = .ok (.aload_n 0, 1) := by decide +kernel
theorem dX8_readText_17 : decode cX8_readText 17 = .ok (.iconst 0, 1) := by decide +kernel
theorem dX8_readText_18 : decode cX8_readText 18 = .ok (.putfield 81, 3) := by decide +kernel
theorem dX8_readText_21 : decode cX8_readText 21 = .ok (.aload_n 0, 1) := by decide +kernel
theorem dX8_readText_22 : decode cX8_readText 22 = .ok (.iconst 0, 1) := by decide +kernel
theorem dX8_readText_23 : decode cX8_readText 23 = .ok (.putfield 84, 3) := by decide +kernel
theorem dX8_readText_26 : decode cX8_readText 26 = .ok (.aload_n 0, 1) := by decide +kernel
theorem dX8_readText_27 : decode cX8_readText 27 = .ok (.iconst 0, 1) := by decide +kernel
theorem dX8_readText_28 : decode cX8_readText 28 = .ok (.putfield 87, 3) := by decide +kernel
theorem dX8_readText_31 : decode cX8_readText 31 = .ok (.iconst 0, 1) := by decide +kernel
theorem dX8_readText_32 : decode cX8_readText 32 = .ok (.istore_n 1, 1) := by decide +kernel
theorem dX8_readText_33 : decode cX8_readText 33 = .ok (.iload_n 1, 1) := by decide +kernel
theorem dX8_readText_34 : decode cX8_readText 34 = .ok (.bipush 27, 2) := by decide +kernel
theorem dX8_readText_36 : decode cX8_readText 36 = .ok (.if_icmp .ge 16, 3) := by decide +kernel
theorem dX8_readText_39 : decode cX8_readText 39 = .ok (.aload_n 0, 1) := by decide +kernel
theorem dX8_readText_40 : decode cX8_readText 40 = .ok (.getfield 22, 3) := by decide +kernel
theorem dX8_readText_43 : decode cX8_readText 43 = .ok (.iload_n 1, 1) := by decide +kernel
theorem dX8_readText_44 : decode cX8_readText 44 = .ok (.iconst 0, 1) := by decide +kernel
theorem dX8_readText_45 : decode cX8_readText 45 = .ok (.iastore, 1) := by decide +kernel
theorem dX8_readText_46 : decode cX8_readText 46 = .ok (.iinc 1 1, 3) := by decide +kernel
theorem dX8_readText_49 : decode cX8_readText 49 = .ok (.goto (-16), 3) := by decide +kernel
theorem dX8_readText_52 : decode cX8_readText 52 = .ok (.aload_n 0, 1) := by decide +kernel
theorem dX8_readText_53 : decode cX8_readText 53 = .ok (.getfield 63, 3) := by decide +kernel
theorem dX8_readText_56 : decode cX8_readText 56 = .ok (.ifCond .eq 14, 3) := by decide +kernel
theorem dX8_readText_59 : decode cX8_readText 59 = .ok (.aload_n 0, 1) := by decide +kernel
theorem dX8_readText_60 : decode cX8_readText 60 = .ok (.getfield 34, 3) := by decide +kernel
theorem dX8_readText_63 : decode cX8_readText 63 = .ok (.iconst 0, 1) := by decide +kernel
theorem dX8_readText_64 : decode cX8_readText 64 = .ok (.iaload, 1) := by decide +kernel
theorem dX8_readText_65 : decode cX8_readText 65 = .ok (.bipush 72, 2) := by decide +kernel
theorem dX8_readText_67 : decode cX8_readText 67 = .ok (.if_icmp .eq 5, 3) := by decide +kernel
theorem dX8_readText_70 : decode cX8_readText 70 = .ok (.iconst 0, 1) := by decide +kernel
theorem dX8_readText_71 : decode cX8_readText 71 = .ok (.ireturn, 1) := by decide +kernel
theorem dX8_readText_72 : decode cX8_readText 72 = .ok (.aload_n 0, 1) := by decide +kernel
theorem dX8_readText_73 : decode cX8_readText 73 = .ok (.iconst 1, 1) := by decide +kernel
theorem dX8_readText_74 : decode cX8_readText 74 = .ok (.putfield 69, 3) := by decide +kernel
theorem dX8_readText_77 : decode cX8_readText 77 = .ok (.aload_n 0, 1) := by decide +kernel
theorem dX8_readText_78 : decode cX8_readText 78 = .ok (.getfield 66, 3) := by decide +kernel
theorem dX8_readText_81 : decode cX8_readText 81 = .ok (.bipush (-9), 2) := by decide +kernel
theorem dX8_readText_83 : decode cX8_readText 83 = .ok (.if_icmp .ne 30, 3) := by decide +kernel
theorem dX8_readText_86 : decode cX8_readText 86 = .ok (.aload_n 0, 1) := by decide +kernel
theorem dX8_readText_87 : decode cX8_readText 87 = .ok (.getfield 69, 3) := by decide +kernel
theorem dX8_readText_90 : decode cX8_readText 90 = .ok (.aload_n 0, 1) := by decide +kernel
theorem dX8_readText_91 : decode cX8_readText 91 = .ok (.getfield 63, 3) := by decide +kernel
theorem dX8_readText_94 : decode cX8_readText 94 = .ok (.if_icmp .ge 19, 3) := by decide +kernel
theorem dX8_readText_97 : decode cX8_readText 97 = .ok (.aload_n 0, 1) := by decide +kernel
theorem dX8_readText_98 : decode cX8_readText 98 = .ok (.aload_n 0, 1) := by decide +kernel
theorem dX8_readText_99 : decode cX8_readText 99 = .ok (.getfield 34, 3) := by decide +kernel
theorem dX8_readText_102 : decode cX8_readText 102 = .ok (.aload_n 0, 1) := by decide +kernel
theorem dX8_readText_103 : decode cX8_readText 103 = .ok (.getfield 69, 3) := by decide +kernel
theorem dX8_readText_106 : decode cX8_readText 106 = .ok (.iaload, 1) := by decide +kernel
theorem dX8_readText_107 : decode cX8_readText 107 = .ok (.invokevirtual 90, 3) := by decide +kernel
theorem dX8_readText_110 : decode cX8_readText 110 = .ok (.goto (-33), 3) := by decide +kernel
theorem dX8_readText_113 : decode cX8_readText 113 = .ok (.aload_n 0, 1) := by decide +kernel
theorem dX8_readText_114 : decode cX8_readText 114 = .ok (.getfield 66, 3) := by decide +kernel
theorem dX8_readText_117 : decode cX8_readText 117 = .ok (.ireturn, 1) := by decide +kernel
set_option maxRecDepth 20000 in
theorem ggX8_readPart_X8_figureOf : GoodIn wsX8_readPart wsX8_figureOf := goodIn_r _ [12, 4, 2, 13, 14, 15, 16, 17, 11, 18, 19, 20, 21, 33, 34, 35, 36, 37, 38, 39, 40, 41, 42, 43, 44, 45, 46, 47, 48, 49, 50, 51, 52, 53, 54, 55, 56, 57, 58, 59, 60, 61, 62, 63] (by decide +kernel) (by decide +kernel)
set_option maxRecDepth 20000 in
theorem gX8_readPart_X8_figureOf : GoodIn wsX8_readPart (wsV RX8 94 RX8 yX8_figureOf wsX8_figureOf) := goodIn_app (goodIn_of _ (by decide +kernel)) ggX8_readPart_X8_figureOf
set_option maxRecDepth 20000 in
theorem ggX8_readPart_X8_figure : GoodIn wsX8_readPart wsX8_figure := goodIn_r _ [25, 4, 2, 13, 14, 16, 17, 11, 18, 33, 34, 35, 36, 37, 38, 39, 40, 41, 42, 43, 44, 45, 46, 47, 48, 49, 50, 51, 52, 53, 54, 55, 56, 57, 58, 59, 60, 61, 62, 63] (by decide +kernel) (by decide +kernel)
set_option maxRecDepth 20000 in
theorem gX8_readPart_X8_figure : GoodIn wsX8_readPart (wsV RX8 98 RX8 yX8_figure wsX8_figure) := goodIn_app (goodIn_of _ (by decide +kernel)) ggX8_readPart_X8_figure
set_option maxRecDepth 20000 in
theorem ggX8_readPart_X8_readCock : GoodIn wsX8_readPart wsX8_readCock := goodIn_r _ [29, 5, 3, 30, 31, 32, 8, 9, 10, 11, 12, 4, 2, 13, 14, 15, 16, 17, 18, 19, 20, 21, 22, 23, 24, 25, 33, 34, 35, 36, 37, 38, 39, 40, 41, 42, 43, 44, 45, 46, 47, 48, 49, 50, 51, 52, 53, 54, 55, 56, 57, 58, 59, 60, 61, 62, 63] (by decide +kernel) (by decide +kernel)
set_option maxRecDepth 20000 in
theorem gX8_readPart_X8_readCock : GoodIn wsX8_readPart (wsV RX8 102 RX8 yX8_readCock wsX8_readCock) := goodIn_app (goodIn_of _ (by decide +kernel)) ggX8_readPart_X8_readCock
theorem dX8_readPart_0 : decode cX8_readPart 0 = .ok (.iload_n 1, 1) := by decide +kernel
theorem dX8_readPart_1 : decode cX8_readPart 1 = .ok (.bipush 84, 2) := by decide +kernel
theorem dX8_readPart_3 : decode cX8_readPart 3 = .ok (.if_icmp .ne 104, 3) := by decide +kernel
theorem dX8_readPart_6 : decode cX8_readPart 6 = .ok (.aload_n 0, 1) := by decide +kernel
theorem dX8_readPart_7 : decode cX8_readPart 7 = .ok (.getfield 84, 3) := by decide +kernel
theorem dX8_readPart_10 : decode cX8_readPart 10 = .ok (.sipush 1023, 3) := by decide +kernel
theorem dX8_readPart_13 : decode cX8_readPart 13 = .ok (.if_icmp .eq 94, 3) := by decide +kernel
theorem dX8_readPart_16 : decode cX8_readPart 16 = .ok (.aload_n 0, 1) := by decide +kernel
theorem dX8_readPart_17 : decode cX8_readPart 17 = .ok (.dup, 1) := by decide +kernel
theorem dX8_readPart_18 : decode cX8_readPart 18 = .ok (.getfield 69, 3) := by decide +kernel
theorem dX8_readPart_21 : decode cX8_readPart 21 = .ok (.iconst 1, 1) := by decide +kernel
theorem dX8_readPart_22 : decode cX8_readPart 22 = .ok (.iadd, 1) := by decide +kernel
theorem dX8_readPart_23 : decode cX8_readPart 23 = .ok (.putfield 69, 3) := by decide +kernel
theorem dX8_readPart_26 : decode cX8_readPart 26 = .ok (.aload_n 0, 1) := by decide +kernel
theorem dX8_readPart_27 : decode cX8_readPart 27 = .ok (.sipush 1023, 3) := by decide +kernel
theorem dX8_readPart_30 : decode cX8_readPart 30 = .ok (.aload_n 0, 1) := by decide +kernel
theorem dX8_readPart_31 : decode cX8_readPart 31 = .ok (.getfield 84, 3) := by decide +kernel
theorem dX8_readPart_34 : decode cX8_readPart 34 = .ok (.iconst (-1), 1) := by decide +kernel
theorem dX8_readPart_35 : decode cX8_readPart 35 = .ok (.ixor, 1) := by decide +kernel
theorem dX8_readPart_36 : decode cX8_readPart 36 = .ok (.iand, 1) := by decide +kernel
theorem dX8_readPart_37 : decode cX8_readPart 37 = .ok (.invokevirtual 94, 3) := by decide +kernel
theorem dX8_readPart_40 : decode cX8_readPart 40 = .ok (.istore_n 2, 1) := by decide +kernel
theorem dX8_readPart_41 : decode cX8_readPart 41 = .ok (.aload_n 0, 1) := by decide +kernel
theorem dX8_readPart_42 : decode cX8_readPart 42 = .ok (.iconst 1, 1) := by decide +kernel
theorem dX8_readPart_43 : decode cX8_readPart 43 = .ok (.iconst 3, 1) := by decide +kernel
theorem dX8_readPart_44 : decode cX8_readPart 44 = .ok (.invokevirtual 98, 3) := by decide +kernel
theorem dX8_readPart_47 : decode cX8_readPart 47 = .ok (.istore_n 3, 1) := by decide +kernel
theorem dX8_readPart_48 : decode cX8_readPart 48 = .ok (.aload_n 0, 1) := by decide +kernel
theorem dX8_readPart_49 : decode cX8_readPart 49 = .ok (.getfield 22, 3) := by decide +kernel
theorem dX8_readPart_52 : decode cX8_readPart 52 = .ok (.bipush 12, 2) := by decide +kernel
theorem dX8_readPart_54 : decode cX8_readPart 54 = .ok (.iload_n 2, 1) := by decide +kernel
theorem dX8_readPart_55 : decode cX8_readPart 55 = .ok (.iadd, 1) := by decide +kernel
theorem dX8_readPart_56 : decode cX8_readPart 56 = .ok (.aload_n 0, 1) := by decide +kernel
theorem dX8_readPart_57 : decode cX8_readPart 57 = .ok (.getfield 66, 3) := by decide +kernel
theorem dX8_readPart_60 : decode cX8_readPart 60 = .ok (.bipush (-9), 2) := by decide +kernel
theorem dX8_readPart_62 : decode cX8_readPart 62 = .ok (.if_icmp .ne 7, 3) := by decide +kernel
theorem dX8_readPart_65 : decode cX8_readPart 65 = .ok (.iload_n 3, 1) := by decide +kernel
theorem dX8_readPart_66 : decode cX8_readPart 66 = .ok (.goto 12, 3) := by decide +kernel
theorem dX8_readPart_69 : decode cX8_readPart 69 = .ok (.aload_n 0, 1) := by decide +kernel
theorem dX8_readPart_70 : decode cX8_readPart 70 = .ok (.getfield 22, 3) := by decide +kernel
theorem dX8_readPart_73 : decode cX8_readPart 73 = .ok (.bipush 12, 2) := by decide +kernel
theorem dX8_readPart_75 : decode cX8_readPart 75 = .ok (.iload_n 2, 1) := by decide +kernel
theorem dX8_readPart_76 : decode cX8_readPart 76 = .ok (.iadd, 1) := by decide +kernel
theorem dX8_readPart_77 : decode cX8_readPart 77 = .ok (.iaload, 1) := by decide +kernel
theorem dX8_readPart_78 : decode cX8_readPart 78 = .ok (.iastore, 1) := by decide +kernel
theorem dX8_readPart_79 : decode cX8_readPart 79 = .ok (.aload_n 0, 1) := by decide +kernel
theorem dX8_readPart_80 : decode cX8_readPart 80 = .ok (.dup, 1) := by decide +kernel
theorem dX8_readPart_81 : decode cX8_readPart 81 = .ok (.getfield 84, 3) := by decide +kernel
theorem dX8_readPart_84 : decode cX8_readPart 84 = .ok (.aload_n 0, 1) := by decide +kernel
theorem dX8_readPart_85 : decode cX8_readPart 85 = .ok (.getfield 66, 3) := by decide +kernel
theorem dX8_readPart_88 : decode cX8_readPart 88 = .ok (.bipush (-9), 2) := by decide +kernel
theorem dX8_readPart_90 : decode cX8_readPart 90 = .ok (.if_icmp .ne 9, 3) := by decide +kernel
theorem dX8_readPart_93 : decode cX8_readPart 93 = .ok (.iconst 1, 1) := by decide +kernel
theorem dX8_readPart_94 : decode cX8_readPart 94 = .ok (.iload_n 2, 1) := by decide +kernel
theorem dX8_readPart_95 : decode cX8_readPart 95 = .ok (.ishl, 1) := by decide +kernel
theorem dX8_readPart_96 : decode cX8_readPart 96 = .ok (.goto 4, 3) := by decide +kernel
theorem dX8_readPart_99 : decode cX8_readPart 99 = .ok (.iconst 0, 1) := by decide +kernel
theorem dX8_readPart_100 : decode cX8_readPart 100 = .ok (.ior, 1) := by decide +kernel
theorem dX8_readPart_101 : decode cX8_readPart 101 = .ok (.putfield 84, 3) := by decide +kernel
theorem dX8_readPart_104 : decode cX8_readPart 104 = .ok (.goto 136, 3) := by decide +kernel
theorem dX8_readPart_107 : decode cX8_readPart 107 = .ok (.iload_n 1, 1) := by decide +kernel
theorem dX8_readPart_108 : decode cX8_readPart 108 = .ok (.bipush 67, 2) := by decide +kernel
theorem dX8_readPart_110 : decode cX8_readPart 110 = .ok (.if_icmp .ne 29, 3) := by decide +kernel
theorem dX8_readPart_113 : decode cX8_readPart 113 = .ok (.aload_n 0, 1) := by decide +kernel
theorem dX8_readPart_114 : decode cX8_readPart 114 = .ok (.getfield 78, 3) := by decide +kernel
theorem dX8_readPart_117 : decode cX8_readPart 117 = .ok (.bipush 6, 2) := by decide +kernel
theorem dX8_readPart_119 : decode cX8_readPart 119 = .ok (.if_icmp .ge 20, 3) := by decide +kernel
theorem dX8_readPart_122 : decode cX8_readPart 122 = .ok (.aload_n 0, 1) := by decide +kernel
theorem dX8_readPart_123 : decode cX8_readPart 123 = .ok (.dup, 1) := by decide +kernel
theorem dX8_readPart_124 : decode cX8_readPart 124 = .ok (.getfield 69, 3) := by decide +kernel
theorem dX8_readPart_127 : decode cX8_readPart 127 = .ok (.iconst 1, 1) := by decide +kernel
theorem dX8_readPart_128 : decode cX8_readPart 128 = .ok (.iadd, 1) := by decide +kernel
theorem dX8_readPart_129 : decode cX8_readPart 129 = .ok (.putfield 69, 3) := by decide +kernel
theorem dX8_readPart_132 : decode cX8_readPart 132 = .ok (.aload_n 0, 1) := by decide +kernel
theorem dX8_readPart_133 : decode cX8_readPart 133 = .ok (.invokevirtual 102, 3) := by decide +kernel
theorem dX8_readPart_136 : decode cX8_readPart 136 = .ok (.goto 104, 3) := by decide +kernel
theorem dX8_readPart_139 : decode cX8_readPart 139 = .ok (.iload_n 1, 1) := by decide +kernel
theorem dX8_readPart_140 : decode cX8_readPart 140 = .ok (.bipush 87, 2) := by decide +kernel
theorem dX8_readPart_142 : decode cX8_readPart 142 = .ok (.if_icmp .ne 90, 3) := by decide +kernel
theorem dX8_readPart_145 : decode cX8_readPart 145 = .ok (.aload_n 0, 1) := by decide +kernel
theorem dX8_readPart_146 : decode cX8_readPart 146 = .ok (.getfield 81, 3) := by decide +kernel
theorem dX8_readPart_149 : decode cX8_readPart 149 = .ok (.iconst 4, 1) := by decide +kernel
theorem dX8_readPart_150 : decode cX8_readPart 150 = .ok (.if_icmp .ge 82, 3) := by decide +kernel
theorem dX8_readPart_153 : decode cX8_readPart 153 = .ok (.aload_n 0, 1) := by decide +kernel
theorem dX8_readPart_154 : decode cX8_readPart 154 = .ok (.dup, 1) := by decide +kernel
theorem dX8_readPart_155 : decode cX8_readPart 155 = .ok (.getfield 69, 3) := by decide +kernel
theorem dX8_readPart_158 : decode cX8_readPart 158 = .ok (.iconst 1, 1) := by decide +kernel
theorem dX8_readPart_159 : decode cX8_readPart 159 = .ok (.iadd, 1) := by decide +kernel
theorem dX8_readPart_160 : decode cX8_readPart 160 = .ok (.putfield 69, 3) := by decide +kernel
theorem dX8_readPart_163 : decode cX8_readPart 163 = .ok (.aload_n 0, 1) := by decide +kernel
theorem dX8_readPart_164 : decode cX8_readPart 164 = .ok (.getfield 31, 3) := by decide +kernel
theorem dX8_readPart_167 : decode cX8_readPart 167 = .ok (.iconst 3, 1) := by decide +kernel
theorem dX8_readPart_168 : decode cX8_readPart 168 = .ok (.aload_n 0, 1) := by decide +kernel
theorem dX8_readPart_169 : decode cX8_readPart 169 = .ok (.getfield 81, 3) := by decide +kernel
theorem dX8_readPart_172 : decode cX8_readPart 172 = .ok (.imul, 1) := by decide +kernel
theorem dX8_readPart_173 : decode cX8_readPart 173 = .ok (.aload_n 0, 1) := by decide +kernel
theorem dX8_readPart_174 : decode cX8_readPart 174 = .ok (.iconst 0, 1) := by decide +kernel
theorem dX8_readPart_175 : decode cX8_readPart 175 = .ok (.iconst 1, 1) := by decide +kernel
theorem dX8_readPart_176 : decode cX8_readPart 176 = .ok (.invokevirtual 98, 3) := by decide +kernel
theorem dX8_readPart_179 : decode cX8_readPart 179 = .ok (.iastore, 1) := by decide +kernel
theorem dX8_readPart_180 : decode cX8_readPart 180 = .ok (.aload_n 0, 1) := by decide +kernel
theorem dX8_readPart_181 : decode cX8_readPart 181 = .ok (.getfield 31, 3) := by decide +kernel
theorem dX8_readPart_184 : decode cX8_readPart 184 = .ok (.iconst 3, 1) := by decide +kernel
theorem dX8_readPart_185 : decode cX8_readPart 185 = .ok (.aload_n 0, 1) := by decide +kernel
theorem dX8_readPart_186 : decode cX8_readPart 186 = .ok (.getfield 81, 3) := by decide +kernel
theorem dX8_readPart_189 : decode cX8_readPart 189 = .ok (.imul, 1) := by decide +kernel
theorem dX8_readPart_190 : decode cX8_readPart 190 = .ok (.iconst 1, 1) := by decide +kernel
theorem dX8_readPart_191 : decode cX8_readPart 191 = .ok (.iadd, 1) := by decide +kernel
theorem dX8_readPart_192 : decode cX8_readPart 192 = .ok (.aload_n 0, 1) := by decide +kernel
theorem dX8_readPart_193 : decode cX8_readPart 193 = .ok (.iconst 0, 1) := by decide +kernel
theorem dX8_readPart_194 : decode cX8_readPart 194 = .ok (.iconst 5, 1) := by decide +kernel
theorem dX8_readPart_195 : decode cX8_readPart 195 = .ok (.invokevirtual 98, 3) := by decide +kernel
theorem dX8_readPart_198 : decode cX8_readPart 198 = .ok (.iastore, 1) := by decide +kernel
theorem dX8_readPart_199 : decode cX8_readPart 199 = .ok (.aload_n 0, 1) := by decide +kernel
theorem dX8_readPart_200 : decode cX8_readPart 200 = .ok (.getfield 31, 3) := by decide +kernel
theorem dX8_readPart_203 : decode cX8_readPart 203 = .ok (.iconst 3, 1) := by decide +kernel
theorem dX8_readPart_204 : decode cX8_readPart 204 = .ok (.aload_n 0, 1) := by decide +kernel
theorem dX8_readPart_205 : decode cX8_readPart 205 = .ok (.getfield 81, 3) := by decide +kernel
theorem dX8_readPart_208 : decode cX8_readPart 208 = .ok (.imul, 1) := by decide +kernel
theorem dX8_readPart_209 : decode cX8_readPart 209 = .ok (.iconst 2, 1) := by decide +kernel
theorem dX8_readPart_210 : decode cX8_readPart 210 = .ok (.iadd, 1) := by decide +kernel
theorem dX8_readPart_211 : decode cX8_readPart 211 = .ok (.aload_n 0, 1) := by decide +kernel
theorem dX8_readPart_212 : decode cX8_readPart 212 = .ok (.iconst 1, 1) := by decide +kernel
theorem dX8_readPart_213 : decode cX8_readPart 213 = .ok (.bipush 9, 2) := by decide +kernel
theorem dX8_readPart_215 : decode cX8_readPart 215 = .ok (.invokevirtual 98, 3) := by decide +kernel
theorem dX8_readPart_218 : decode cX8_readPart 218 = .ok (.iastore, 1) := by decide +kernel
theorem dX8_readPart_219 : decode cX8_readPart 219 = .ok (.aload_n 0, 1) := by decide +kernel
theorem dX8_readPart_220 : decode cX8_readPart 220 = .ok (.dup, 1) := by decide +kernel
theorem dX8_readPart_221 : decode cX8_readPart 221 = .ok (.getfield 81, 3) := by decide +kernel
theorem dX8_readPart_224 : decode cX8_readPart 224 = .ok (.iconst 1, 1) := by decide +kernel
theorem dX8_readPart_225 : decode cX8_readPart 225 = .ok (.iadd, 1) := by decide +kernel
theorem dX8_readPart_226 : decode cX8_readPart 226 = .ok (.putfield 81, 3) := by decide +kernel
theorem dX8_readPart_229 : decode cX8_readPart 229 = .ok (.goto 11, 3) := by decide +kernel
theorem dX8_readPart_232 : decode cX8_readPart 232 = .ok (.aload_n 0, 1) := by decide +kernel
theorem dX8_readPart_233 : decode cX8_readPart 233 = .ok (.aload_n 0, 1) := by decide +kernel
theorem dX8_readPart_234 : decode cX8_readPart 234 = .ok (.getfield 69, 3) := by decide +kernel
theorem dX8_readPart_237 : decode cX8_readPart 237 = .ok (.putfield 66, 3) := by decide +kernel
theorem dX8_readPart_240 : decode cX8_readPart 240 = .ok (.return_, 1) := by decide +kernel
set_option maxRecDepth 20000 in
theorem ggX8_readCock_X8_figureOf : GoodIn wsX8_readCock wsX8_figureOf := goodIn_r _ [10, 11, 12, 13, 14, 15, 16, 17, 9, 18, 19, 20, 21, 26, 27, 28, 29, 30, 31, 32, 33, 34, 35, 36, 37, 38, 39, 40, 41, 42, 43, 44, 45, 46, 47, 48, 49, 50, 51, 52, 53, 54, 55, 56] (by decide +kernel) (by decide +kernel)
set_option maxRecDepth 20000 in
theorem gX8_readCock_X8_figureOf : GoodIn wsX8_readCock (wsV RX8 94 RX8 yX8_figureOf wsX8_figureOf) := goodIn_app (goodIn_of _ (by decide +kernel)) ggX8_readCock_X8_figureOf
set_option maxRecDepth 20000 in
theorem ggX8_readCock_X8_figure : GoodIn wsX8_readCock wsX8_figure := goodIn_r _ [25, 11, 12, 13, 14, 16, 17, 9, 18, 26, 27, 28, 29, 30, 31, 32, 33, 34, 35, 36, 37, 38, 39, 40, 41, 42, 43, 44, 45, 46, 47, 48, 49, 50, 51, 52, 53, 54, 55, 56] (by decide +kernel) (by decide +kernel)
set_option maxRecDepth 20000 in
theorem gX8_readCock_X8_figure : GoodIn wsX8_readCock (wsV RX8 98 RX8 yX8_figure wsX8_figure) := goodIn_app (goodIn_of _ (by decide +kernel)) ggX8_readCock_X8_figure
theorem dX8_readCock_0 : decode cX8_readCock 0 = .ok (.aload_n 0, 1) := by decide +kernel
theorem dX8_readCock_1 : decode cX8_readCock 1 = .ok (.getfield 78, 3) := by decide +kernel
theorem dX8_readCock_4 : decode cX8_readCock 4 = .ok (.istore_n 1, 1) := by decide +kernel
theorem dX8_readCock_5 : decode cX8_readCock 5 = .ok (.aload_n 0, 1) := by decide +kernel
theorem dX8_readCock_6 : decode cX8_readCock 6 = .ok (.getfield 22, 3) := by decide +kernel
theorem dX8_readCock_9 : decode cX8_readCock 9 = .ok (.iload_n 1, 1) := by decide +kernel
theorem dX8_readCock_10 : decode cX8_readCock 10 = .ok (.aload_n 0, 1) := by decide +kernel
theorem dX8_readCock_11 : decode cX8_readCock 11 = .ok (.sipush 1023, 3) := by decide +kernel
theorem dX8_readCock_14 : decode cX8_readCock 14 = .ok (.aload_n 0, 1) := by decide +kernel
theorem dX8_readCock_15 : decode cX8_readCock 15 = .ok (.getfield 87, 3) := by decide +kernel
theorem dX8_readCock_18 : decode cX8_readCock 18 = .ok (.iconst (-1), 1) := by decide +kernel
theorem dX8_readCock_19 : decode cX8_readCock 19 = .ok (.ixor, 1) := by decide +kernel
theorem dX8_readCock_20 : decode cX8_readCock 20 = .ok (.iand, 1) := by decide +kernel
theorem dX8_readCock_21 : decode cX8_readCock 21 = .ok (.invokevirtual 94, 3) := by decide +kernel
theorem dX8_readCock_24 : decode cX8_readCock 24 = .ok (.iastore, 1) := by decide +kernel
theorem dX8_readCock_25 : decode cX8_readCock 25 = .ok (.aload_n 0, 1) := by decide +kernel
theorem dX8_readCock_26 : decode cX8_readCock 26 = .ok (.iconst 0, 1) := by decide +kernel
theorem dX8_readCock_27 : decode cX8_readCock 27 = .ok (.iconst 1, 1) := by decide +kernel
theorem dX8_readCock_28 : decode cX8_readCock 28 = .ok (.invokevirtual 98, 3) := by decide +kernel
theorem dX8_readCock_31 : decode cX8_readCock 31 = .ok (.istore_n 2, 1) := by decide +kernel
theorem dX8_readCock_32 : decode cX8_readCock 32 = .ok (.aload_n 0, 1) := by decide +kernel
theorem dX8_readCock_33 : decode cX8_readCock 33 = .ok (.getfield 25, 3) := by decide +kernel
theorem dX8_readCock_36 : decode cX8_readCock 36 = .ok (.iload_n 1, 1) := by decide +kernel
theorem dX8_readCock_37 : decode cX8_readCock 37 = .ok (.aload_n 0, 1) := by decide +kernel
theorem dX8_readCock_38 : decode cX8_readCock 38 = .ok (.iconst 0, 1) := by decide +kernel
theorem dX8_readCock_39 : decode cX8_readCock 39 = .ok (.iconst 3, 1) := by decide +kernel
theorem dX8_readCock_40 : decode cX8_readCock 40 = .ok (.invokevirtual 98, 3) := by decide +kernel
theorem dX8_readCock_43 : decode cX8_readCock 43 = .ok (.iastore, 1) := by decide +kernel
theorem dX8_readCock_44 : decode cX8_readCock 44 = .ok (.aload_n 0, 1) := by decide +kernel
theorem dX8_readCock_45 : decode cX8_readCock 45 = .ok (.getfield 22, 3) := by decide +kernel
theorem dX8_readCock_48 : decode cX8_readCock 48 = .ok (.bipush 6, 2) := by decide +kernel
theorem dX8_readCock_50 : decode cX8_readCock 50 = .ok (.iload_n 1, 1) := by decide +kernel
theorem dX8_readCock_51 : decode cX8_readCock 51 = .ok (.iadd, 1) := by decide +kernel
theorem dX8_readCock_52 : decode cX8_readCock 52 = .ok (.aload_n 0, 1) := by decide +kernel
theorem dX8_readCock_53 : decode cX8_readCock 53 = .ok (.iconst 0, 1) := by decide +kernel
theorem dX8_readCock_54 : decode cX8_readCock 54 = .ok (.iconst 4, 1) := by decide +kernel
theorem dX8_readCock_55 : decode cX8_readCock 55 = .ok (.invokevirtual 98, 3) := by decide +kernel
theorem dX8_readCock_58 : decode cX8_readCock 58 = .ok (.iastore, 1) := by decide +kernel
theorem dX8_readCock_59 : decode cX8_readCock 59 = .ok (.aload_n 0, 1) := by decide +kernel
theorem dX8_readCock_60 : decode cX8_readCock 60 = .ok (.getfield 28, 3) := by decide +kernel
theorem dX8_readCock_63 : decode cX8_readCock 63 = .ok (.iload_n 1, 1) := by decide +kernel
theorem dX8_readCock_64 : decode cX8_readCock 64 = .ok (.aload_n 0, 1) := by decide +kernel
theorem dX8_readCock_65 : decode cX8_readCock 65 = .ok (.iconst 1, 1) := by decide +kernel
theorem dX8_readCock_66 : decode cX8_readCock 66 = .ok (.bipush 9, 2) := by decide +kernel
theorem dX8_readCock_68 : decode cX8_readCock 68 = .ok (.invokevirtual 98, 3) := by decide +kernel
theorem dX8_readCock_71 : decode cX8_readCock 71 = .ok (.iastore, 1) := by decide +kernel
theorem dX8_readCock_72 : decode cX8_readCock 72 = .ok (.aload_n 0, 1) := by decide +kernel
theorem dX8_readCock_73 : decode cX8_readCock 73 = .ok (.iconst 0, 1) := by decide +kernel
theorem dX8_readCock_74 : decode cX8_readCock 74 = .ok (.iconst 1, 1) := by decide +kernel
theorem dX8_readCock_75 : decode cX8_readCock 75 = .ok (.invokevirtual 98, 3) := by decide +kernel
theorem dX8_readCock_78 : decode cX8_readCock 78 = .ok (.istore_n 3, 1) := by decide +kernel
theorem dX8_readCock_79 : decode cX8_readCock 79 = .ok (.aload_n 0, 1) := by decide +kernel
theorem dX8_readCock_80 : decode cX8_readCock 80 = .ok (.getfield 22, 3) := by decide +kernel
theorem dX8_readCock_83 : decode cX8_readCock 83 = .ok (.bipush 22, 2) := by decide +kernel
theorem dX8_readCock_85 : decode cX8_readCock 85 = .ok (.dup2, 1) := by decide +kernel
theorem dX8_readCock_86 : decode cX8_readCock 86 = .ok (.iaload, 1) := by decide +kernel
theorem dX8_readCock_87 : decode cX8_readCock 87 = .ok (.iload_n 2, 1) := by decide +kernel
theorem dX8_readCock_88 : decode cX8_readCock 88 = .ok (.iload_n 1, 1) := by decide +kernel
theorem dX8_readCock_89 : decode cX8_readCock 89 = .ok (.ishl, 1) := by decide +kernel
theorem dX8_readCock_90 : decode cX8_readCock 90 = .ok (.ior, 1) := by decide +kernel
theorem dX8_readCock_91 : decode cX8_readCock 91 = .ok (.iastore, 1) := by decide +kernel
theorem dX8_readCock_92 : decode cX8_readCock 92 = .ok (.aload_n 0, 1) := by decide +kernel
theorem dX8_readCock_93 : decode cX8_readCock 93 = .ok (.getfield 22, 3) := by decide +kernel
theorem dX8_readCock_96 : decode cX8_readCock 96 = .ok (.bipush 23, 2) := by decide +kernel
theorem dX8_readCock_98 : decode cX8_readCock 98 = .ok (.dup2, 1) := by decide +kernel
theorem dX8_readCock_99 : decode cX8_readCock 99 = .ok (.iaload, 1) := by decide +kernel
theorem dX8_readCock_100 : decode cX8_readCock 100 = .ok (.iload_n 3, 1) := by decide +kernel
theorem dX8_readCock_101 : decode cX8_readCock 101 = .ok (.iload_n 1, 1) := by decide +kernel
theorem dX8_readCock_102 : decode cX8_readCock 102 = .ok (.ishl, 1) := by decide +kernel
theorem dX8_readCock_103 : decode cX8_readCock 103 = .ok (.ior, 1) := by decide +kernel
theorem dX8_readCock_104 : decode cX8_readCock 104 = .ok (.iastore, 1) := by decide +kernel
theorem dX8_readCock_105 : decode cX8_readCock 105 = .ok (.aload_n 0, 1) := by decide +kernel
theorem dX8_readCock_106 : decode cX8_readCock 106 = .ok (.dup, 1) := by decide +kernel
theorem dX8_readCock_107 : decode cX8_readCock 107 = .ok (.getfield 87, 3) := by decide +kernel
theorem dX8_readCock_110 : decode cX8_readCock 110 = .ok (.iconst 1, 1) := by decide +kernel
theorem dX8_readCock_111 : decode cX8_readCock 111 = .ok (.aload_n 0, 1) := by decide +kernel
theorem dX8_readCock_112 : decode cX8_readCock 112 = .ok (.getfield 22, 3) := by decide +kernel
theorem dX8_readCock_115 : decode cX8_readCock 115 = .ok (.iload_n 1, 1) := by decide +kernel
theorem dX8_readCock_116 : decode cX8_readCock 116 = .ok (.iaload, 1) := by decide +kernel
theorem dX8_readCock_117 : decode cX8_readCock 117 = .ok (.ishl, 1) := by decide +kernel
theorem dX8_readCock_118 : decode cX8_readCock 118 = .ok (.ior, 1) := by decide +kernel
theorem dX8_readCock_119 : decode cX8_readCock 119 = .ok (.putfield 87, 3) := by decide +kernel
theorem dX8_readCock_122 : decode cX8_readCock 122 = .ok (.aload_n 0, 1) := by decide +kernel
theorem dX8_readCock_123 : decode cX8_readCock 123 = .ok (.dup, 1) := by decide +kernel
theorem dX8_readCock_124 : decode cX8_readCock 124 = .ok (.getfield 78, 3) := by decide +kernel
theorem dX8_readCock_127 : decode cX8_readCock 127 = .ok (.iconst 1, 1) := by decide +kernel
theorem dX8_readCock_128 : decode cX8_readCock 128 = .ok (.iadd, 1) := by decide +kernel
theorem dX8_readCock_129 : decode cX8_readCock 129 = .ok (.putfield 78, 3) := by decide +kernel
theorem dX8_readCock_132 : decode cX8_readCock 132 = .ok (.return_, 1) := by decide +kernel
set_option maxRecDepth 20000 in
theorem ggX8_fault_X8_readText : GoodIn wsX8_fault wsX8_readText := goodIn_r _ [5, 6, 7, 8, 9, 10, 11, 12, 13, 14, 15, 16, 17, 4, 18, 19, 20, 21, 22, 23, 24, 25, 26, 27, 28, 29, 30, 31, 32, 33, 34, 35, 36, 37, 38, 39, 40, 41, 42, 43, 44, 45, 46, 47, 48, 49, 50, 51, 52, 53, 54, 55, 56, 57, 58, 59, 60, 61, 62, 63, 64, 65, 66, 67, 68, 69, 70, 71] (by decide +kernel) (by decide +kernel)
set_option maxRecDepth 20000 in
theorem gX8_fault_X8_readText : GoodIn wsX8_fault (wsV RX8 105 RX8 yX8_readText wsX8_readText) := goodIn_app (goodIn_of _ (by decide +kernel)) ggX8_fault_X8_readText
theorem dX8_fault_0 : decode cX8_fault 0 = .ok (.aload_n 0, 1) := by decide +kernel
theorem dX8_fault_1 : decode cX8_fault 1 = .ok (.invokevirtual 105, 3) := by decide +kernel
theorem dX8_fault_4 : decode cX8_fault 4 = .ok (.ireturn, 1) := by decide +kernel
set_option maxRecDepth 20000 in
theorem ggX8_hill_X8_readText : GoodIn wsX8_hill wsX8_readText := goodIn_r _ [19, 20, 21, 1, 3, 22, 23, 12, 24, 25, 26, 27, 28, 18, 29, 10, 30, 31, 32, 33, 34, 35, 36, 37, 38, 39, 40, 41, 42, 43, 44, 45, 46, 47, 48, 6, 8, 49, 50, 51, 52, 53, 54, 55, 56, 57, 58, 59, 60, 61, 62, 63, 64, 65, 66, 67, 68, 69, 70, 71, 72, 73, 74, 75, 76, 77, 78, 79] (by decide +kernel) (by decide +kernel)
set_option maxRecDepth 20000 in
theorem gX8_hill_X8_readText : GoodIn wsX8_hill (wsV RX8 105 RX8 yX8_readText wsX8_readText) := goodIn_app (goodIn_of _ (by decide +kernel)) ggX8_hill_X8_readText
theorem dX8_hill_0 : decode cX8_hill 0 = .ok (.aload_n 0, 1) := by decide +kernel
theorem dX8_hill_1 : decode cX8_hill 1 = .ok (.invokevirtual 105, 3) := by decide +kernel
theorem dX8_hill_4 : decode cX8_hill 4 = .ok (.bipush (-9), 2) := by decide +kernel
theorem dX8_hill_6 : decode cX8_hill 6 = .ok (.if_icmp .eq 6, 3) := by decide +kernel
theorem dX8_hill_9 : decode cX8_hill 9 = .ok (.bipush (-3), 2) := by decide +kernel
theorem dX8_hill_11 : decode cX8_hill 11 = .ok (.ireturn, 1) := by decide +kernel
theorem dX8_hill_12 : decode cX8_hill 12 = .ok (.aload_n 0, 1) := by decide +kernel
theorem dX8_hill_13 : decode cX8_hill 13 = .ok (.aload_n 0, 1) := by decide +kernel
theorem dX8_hill_14 : decode cX8_hill 14 = .ok (.getfield 78, 3) := by decide +kernel
theorem dX8_hill_17 : decode cX8_hill 17 = .ok (.putfield 53, 3) := by decide +kernel
theorem dX8_hill_20 : decode cX8_hill 20 = .ok (.aload_n 0, 1) := by decide +kernel
theorem dX8_hill_21 : decode cX8_hill 21 = .ok (.aload_n 0, 1) := by decide +kernel
theorem dX8_hill_22 : decode cX8_hill 22 = .ok (.getfield 81, 3) := by decide +kernel
theorem dX8_hill_25 : decode cX8_hill 25 = .ok (.putfield 109, 3) := by decide +kernel
theorem dX8_hill_28 : decode cX8_hill 28 = .ok (.iconst 0, 1) := by decide +kernel
theorem dX8_hill_29 : decode cX8_hill 29 = .ok (.istore_n 1, 1) := by decide +kernel
theorem dX8_hill_30 : decode cX8_hill 30 = .ok (.iload_n 1, 1) := by decide +kernel
theorem dX8_hill_31 : decode cX8_hill 31 = .ok (.bipush 6, 2) := by decide +kernel
theorem dX8_hill_33 : decode cX8_hill 33 = .ok (.if_icmp .ge 33, 3) := by decide +kernel
theorem dX8_hill_36 : decode cX8_hill 36 = .ok (.aload_n 0, 1) := by decide +kernel
theorem dX8_hill_37 : decode cX8_hill 37 = .ok (.getfield 7, 3) := by decide +kernel
theorem dX8_hill_40 : decode cX8_hill 40 = .ok (.iload_n 1, 1) := by decide +kernel
theorem dX8_hill_41 : decode cX8_hill 41 = .ok (.aload_n 0, 1) := by decide +kernel
theorem dX8_hill_42 : decode cX8_hill 42 = .ok (.getfield 25, 3) := by decide +kernel
theorem dX8_hill_45 : decode cX8_hill 45 = .ok (.iload_n 1, 1) := by decide +kernel
theorem dX8_hill_46 : decode cX8_hill 46 = .ok (.iaload, 1) := by decide +kernel
theorem dX8_hill_47 : decode cX8_hill 47 = .ok (.iastore, 1) := by decide +kernel
theorem dX8_hill_48 : decode cX8_hill 48 = .ok (.aload_n 0, 1) := by decide +kernel
theorem dX8_hill_49 : decode cX8_hill 49 = .ok (.getfield 13, 3) := by decide +kernel
theorem dX8_hill_52 : decode cX8_hill 52 = .ok (.iload_n 1, 1) := by decide +kernel
theorem dX8_hill_53 : decode cX8_hill 53 = .ok (.aload_n 0, 1) := by decide +kernel
theorem dX8_hill_54 : decode cX8_hill 54 = .ok (.getfield 28, 3) := by decide +kernel
theorem dX8_hill_57 : decode cX8_hill 57 = .ok (.iload_n 1, 1) := by decide +kernel
theorem dX8_hill_58 : decode cX8_hill 58 = .ok (.iaload, 1) := by decide +kernel
theorem dX8_hill_59 : decode cX8_hill 59 = .ok (.iastore, 1) := by decide +kernel
theorem dX8_hill_60 : decode cX8_hill 60 = .ok (.iinc 1 1, 3) := by decide +kernel
theorem dX8_hill_63 : decode cX8_hill 63 = .ok (.goto (-33), 3) := by decide +kernel
theorem dX8_hill_66 : decode cX8_hill 66 = .ok (.iconst 0, 1) := by decide +kernel
theorem dX8_hill_67 : decode cX8_hill 67 = .ok (.istore_n 1, 1) := by decide +kernel
theorem dX8_hill_68 : decode cX8_hill 68 = .ok (.iload_n 1, 1) := by decide +kernel
theorem dX8_hill_69 : decode cX8_hill 69 = .ok (.bipush 12, 2) := by decide +kernel
theorem dX8_hill_71 : decode cX8_hill 71 = .ok (.if_icmp .ge 21, 3) := by decide +kernel
theorem dX8_hill_74 : decode cX8_hill 74 = .ok (.aload_n 0, 1) := by decide +kernel
theorem dX8_hill_75 : decode cX8_hill 75 = .ok (.getfield 16, 3) := by decide +kernel
theorem dX8_hill_78 : decode cX8_hill 78 = .ok (.iload_n 1, 1) := by decide +kernel
theorem dX8_hill_79 : decode cX8_hill 79 = .ok (.aload_n 0, 1) := by decide +kernel
theorem dX8_hill_80 : decode cX8_hill 80 = .ok (.getfield 31, 3) := by decide +kernel
theorem dX8_hill_83 : decode cX8_hill 83 = .ok (.iload_n 1, 1) := by decide +kernel
theorem dX8_hill_84 : decode cX8_hill 84 = .ok (.iaload, 1) := by decide +kernel
theorem dX8_hill_85 : decode cX8_hill 85 = .ok (.iastore, 1) := by decide +kernel
theorem dX8_hill_86 : decode cX8_hill 86 = .ok (.iinc 1 1, 3) := by decide +kernel
theorem dX8_hill_89 : decode cX8_hill 89 = .ok (.goto (-21), 3) := by decide +kernel
theorem dX8_hill_92 : decode cX8_hill 92 = .ok (.iconst 0, 1) := by decide +kernel
theorem dX8_hill_93 : decode cX8_hill 93 = .ok (.istore_n 1, 1) := by decide +kernel
theorem dX8_hill_94 : decode cX8_hill 94 = .ok (.iload_n 1, 1) := by decide +kernel
theorem dX8_hill_95 : decode cX8_hill 95 = .ok (.bipush 27, 2) := by decide +kernel
theorem dX8_hill_97 : decode cX8_hill 97 = .ok (.if_icmp .ge 21, 3) := by decide +kernel
theorem dX8_hill_100 : decode cX8_hill 100 = .ok (.aload_n 0, 1) := by decide +kernel
theorem dX8_hill_101 : decode cX8_hill 101 = .ok (.getfield 19, 3) := by decide +kernel
theorem dX8_hill_104 : decode cX8_hill 104 = .ok (.iload_n 1, 1) := by decide +kernel
theorem dX8_hill_105 : decode cX8_hill 105 = .ok (.aload_n 0, 1) := by decide +kernel
theorem dX8_hill_106 : decode cX8_hill 106 = .ok (.getfield 22, 3) := by decide +kernel
theorem dX8_hill_109 : decode cX8_hill 109 = .ok (.iload_n 1, 1) := by decide +kernel
theorem dX8_hill_110 : decode cX8_hill 110 = .ok (.iaload, 1) := by decide +kernel
theorem dX8_hill_111 : decode cX8_hill 111 = .ok (.iastore, 1) := by decide +kernel
theorem dX8_hill_112 : decode cX8_hill 112 = .ok (.iinc 1 1, 3) := by decide +kernel
theorem dX8_hill_115 : decode cX8_hill 115 = .ok (.goto (-21), 3) := by decide +kernel
theorem dX8_hill_118 : decode cX8_hill 118 = .ok (.aload_n 0, 1) := by decide +kernel
theorem dX8_hill_119 : decode cX8_hill 119 = .ok (.iconst 0, 1) := by decide +kernel
theorem dX8_hill_120 : decode cX8_hill 120 = .ok (.putfield 112, 3) := by decide +kernel
theorem dX8_hill_123 : decode cX8_hill 123 = .ok (.aload_n 0, 1) := by decide +kernel
theorem dX8_hill_124 : decode cX8_hill 124 = .ok (.getfield 46, 3) := by decide +kernel
theorem dX8_hill_127 : decode cX8_hill 127 = .ok (.iconst 0, 1) := by decide +kernel
theorem dX8_hill_128 : decode cX8_hill 128 = .ok (.iconst 0, 1) := by decide +kernel
theorem dX8_hill_129 : decode cX8_hill 129 = .ok (.bastore, 1) := by decide +kernel
theorem dX8_hill_130 : decode cX8_hill 130 = .ok (.aload_n 0, 1) := by decide +kernel
theorem dX8_hill_131 : decode cX8_hill 131 = .ok (.getfield 46, 3) := by decide +kernel
theorem dX8_hill_134 : decode cX8_hill 134 = .ok (.iconst 1, 1) := by decide +kernel
theorem dX8_hill_135 : decode cX8_hill 135 = .ok (.iconst 0, 1) := by decide +kernel
theorem dX8_hill_136 : decode cX8_hill 136 = .ok (.bastore, 1) := by decide +kernel
theorem dX8_hill_137 : decode cX8_hill 137 = .ok (.bipush 10, 2) := by decide +kernel
theorem dX8_hill_139 : decode cX8_hill 139 = .ok (.aload_n 0, 1) := by decide +kernel
theorem dX8_hill_140 : decode cX8_hill 140 = .ok (.getfield 53, 3) := by decide +kernel
theorem dX8_hill_143 : decode cX8_hill 143 = .ok (.imul, 1) := by decide +kernel
theorem dX8_hill_144 : decode cX8_hill 144 = .ok (.aload_n 0, 1) := by decide +kernel
theorem dX8_hill_145 : decode cX8_hill 145 = .ok (.getfield 109, 3) := by decide +kernel
theorem dX8_hill_148 : decode cX8_hill 148 = .ok (.iadd, 1) := by decide +kernel
theorem dX8_hill_149 : decode cX8_hill 149 = .ok (.ireturn, 1) := by decide +kernel
set_option maxRecDepth 20000 in
theorem ggX8_isCock_X8_in : GoodIn wsX8_isCock wsX8_in := goodIn_r _ [5] (by decide +kernel) (by decide +kernel)
set_option maxRecDepth 20000 in
theorem gX8_isCock_X8_in : GoodIn wsX8_isCock (va_wsS RX8 59 yX8_in wsX8_in) := goodIn_app (goodIn_of _ (by decide +kernel)) ggX8_isCock_X8_in
theorem dX8_isCock_0 : decode cX8_isCock 0 = .ok (.iload_n 1, 1) := by decide +kernel
theorem dX8_isCock_1 : decode cX8_isCock 1 = .ok (.i2l, 1) := by decide +kernel
theorem dX8_isCock_2 : decode cX8_isCock 2 = .ok (.lconst 0, 1) := by decide +kernel
theorem dX8_isCock_3 : decode cX8_isCock 3 = .ok (.aload_n 0, 1) := by decide +kernel
theorem dX8_isCock_4 : decode cX8_isCock 4 = .ok (.getfield 53, 3) := by decide +kernel
theorem dX8_isCock_7 : decode cX8_isCock 7 = .ok (.iconst 1, 1) := by decide +kernel
theorem dX8_isCock_8 : decode cX8_isCock 8 = .ok (.isub, 1) := by decide +kernel
theorem dX8_isCock_9 : decode cX8_isCock 9 = .ok (.i2l, 1) := by decide +kernel
theorem dX8_isCock_10 : decode cX8_isCock 10 = .ok (.invokestatic 59, 3) := by decide +kernel
theorem dX8_isCock_13 : decode cX8_isCock 13 = .ok (.ireturn, 1) := by decide +kernel
set_option maxRecDepth 20000 in
theorem ggX8_isWind_X8_in : GoodIn wsX8_isWind wsX8_in := goodIn_r _ [5] (by decide +kernel) (by decide +kernel)
set_option maxRecDepth 20000 in
theorem gX8_isWind_X8_in : GoodIn wsX8_isWind (va_wsS RX8 59 yX8_in wsX8_in) := goodIn_app (goodIn_of _ (by decide +kernel)) ggX8_isWind_X8_in
theorem dX8_isWind_0 : decode cX8_isWind 0 = .ok (.iload_n 1, 1) := by decide +kernel
theorem dX8_isWind_1 : decode cX8_isWind 1 = .ok (.i2l, 1) := by decide +kernel
theorem dX8_isWind_2 : decode cX8_isWind 2 = .ok (.lconst 0, 1) := by decide +kernel
theorem dX8_isWind_3 : decode cX8_isWind 3 = .ok (.aload_n 0, 1) := by decide +kernel
theorem dX8_isWind_4 : decode cX8_isWind 4 = .ok (.getfield 109, 3) := by decide +kernel
theorem dX8_isWind_7 : decode cX8_isWind 7 = .ok (.iconst 1, 1) := by decide +kernel
theorem dX8_isWind_8 : decode cX8_isWind 8 = .ok (.isub, 1) := by decide +kernel
theorem dX8_isWind_9 : decode cX8_isWind 9 = .ok (.i2l, 1) := by decide +kernel
theorem dX8_isWind_10 : decode cX8_isWind 10 = .ok (.invokestatic 59, 3) := by decide +kernel
theorem dX8_isWind_13 : decode cX8_isWind 13 = .ok (.ireturn, 1) := by decide +kernel
set_option maxRecDepth 20000 in
theorem ggX8_tree_X8_in : GoodIn wsX8_tree wsX8_in := goodIn_r _ [6] (by decide +kernel) (by decide +kernel)
set_option maxRecDepth 20000 in
theorem gX8_tree_X8_in : GoodIn wsX8_tree (va_wsS RX8 59 yX8_in wsX8_in) := goodIn_app (goodIn_of _ (by decide +kernel)) ggX8_tree_X8_in
theorem dX8_tree_0 : decode cX8_tree 0 = .ok (.iload_n 1, 1) := by decide +kernel
theorem dX8_tree_1 : decode cX8_tree 1 = .ok (.i2l, 1) := by decide +kernel
theorem dX8_tree_2 : decode cX8_tree 2 = .ok (.lconst 0, 1) := by decide +kernel
theorem dX8_tree_3 : decode cX8_tree 3 = .ok (.ldc2_w 72, 3) := by decide +kernel
theorem dX8_tree_6 : decode cX8_tree 6 = .ok (.invokestatic 59, 3) := by decide +kernel
theorem dX8_tree_9 : decode cX8_tree 9 = .ok (.ifCond .eq 15, 3) := by decide +kernel
theorem dX8_tree_12 : decode cX8_tree 12 = .ok (.aload_n 0, 1) := by decide +kernel
theorem dX8_tree_13 : decode cX8_tree 13 = .ok (.getfield 19, 3) := by decide +kernel
theorem dX8_tree_16 : decode cX8_tree 16 = .ok (.bipush 12, 2) := by decide +kernel
theorem dX8_tree_18 : decode cX8_tree 18 = .ok (.iload_n 1, 1) := by decide +kernel
theorem dX8_tree_19 : decode cX8_tree 19 = .ok (.iadd, 1) := by decide +kernel
theorem dX8_tree_20 : decode cX8_tree 20 = .ok (.iaload, 1) := by decide +kernel
theorem dX8_tree_21 : decode cX8_tree 21 = .ok (.goto 5, 3) := by decide +kernel
theorem dX8_tree_24 : decode cX8_tree 24 = .ok (.bipush (-2), 2) := by decide +kernel
theorem dX8_tree_26 : decode cX8_tree 26 = .ok (.ireturn, 1) := by decide +kernel
set_option maxRecDepth 20000 in
theorem ggX8_cock_X8_isCock : GoodIn wsX8_cock wsX8_isCock := goodIn_r _ [8, 9, 10, 11, 7, 12, 13, 14, 15, 16, 17, 18, 19, 20, 21, 22, 23, 24, 25, 26, 27, 28, 29, 30, 31, 32, 33, 34, 35, 36, 37, 38, 39, 40, 41, 42, 43] (by decide +kernel) (by decide +kernel)
set_option maxRecDepth 20000 in
theorem gX8_cock_X8_isCock : GoodIn wsX8_cock (wsV RX8 115 RX8 yX8_isCock wsX8_isCock) := goodIn_app (goodIn_of _ (by decide +kernel)) ggX8_cock_X8_isCock
theorem dX8_cock_0 : decode cX8_cock 0 = .ok (.aload_n 0, 1) := by decide +kernel
theorem dX8_cock_1 : decode cX8_cock 1 = .ok (.iload_n 1, 1) := by decide +kernel
theorem dX8_cock_2 : decode cX8_cock 2 = .ok (.invokevirtual 115, 3) := by decide +kernel
theorem dX8_cock_5 : decode cX8_cock 5 = .ok (.ifCond .ne 5, 3) := by decide +kernel
theorem dX8_cock_8 : decode cX8_cock 8 = .ok (.iconst (-1), 1) := by decide +kernel
theorem dX8_cock_9 : decode cX8_cock 9 = .ok (.ireturn, 1) := by decide +kernel
theorem dX8_cock_10 : decode cX8_cock 10 = .ok (.iload_n 2, 1) := by decide +kernel
theorem dX8_cock_11 : decode cX8_cock 11 = .ok (.tableswitch 108 0 6 #[41, 48, 60, 67, 77, 84, 96], 41) := by decide +kernel
theorem dX8_cock_52 : decode cX8_cock 52 = .ok (.aload_n 0, 1) := by decide +kernel
theorem dX8_cock_53 : decode cX8_cock 53 = .ok (.getfield 19, 3) := by decide +kernel
theorem dX8_cock_56 : decode cX8_cock 56 = .ok (.iload_n 1, 1) := by decide +kernel
theorem dX8_cock_57 : decode cX8_cock 57 = .ok (.iaload, 1) := by decide +kernel
theorem dX8_cock_58 : decode cX8_cock 58 = .ok (.ireturn, 1) := by decide +kernel
theorem dX8_cock_59 : decode cX8_cock 59 = .ok (.aload_n 0, 1) := by decide +kernel
theorem dX8_cock_60 : decode cX8_cock 60 = .ok (.getfield 19, 3) := by decide +kernel
theorem dX8_cock_63 : decode cX8_cock 63 = .ok (.bipush 22, 2) := by decide +kernel
theorem dX8_cock_65 : decode cX8_cock 65 = .ok (.iaload, 1) := by decide +kernel
theorem dX8_cock_66 : decode cX8_cock 66 = .ok (.iload_n 1, 1) := by decide +kernel
theorem dX8_cock_67 : decode cX8_cock 67 = .ok (.ishr, 1) := by decide +kernel
theorem dX8_cock_68 : decode cX8_cock 68 = .ok (.iconst 1, 1) := by decide +kernel
theorem dX8_cock_69 : decode cX8_cock 69 = .ok (.iand, 1) := by decide +kernel
theorem dX8_cock_70 : decode cX8_cock 70 = .ok (.ireturn, 1) := by decide +kernel
theorem dX8_cock_71 : decode cX8_cock 71 = .ok (.aload_n 0, 1) := by decide +kernel
theorem dX8_cock_72 : decode cX8_cock 72 = .ok (.getfield 7, 3) := by decide +kernel
theorem dX8_cock_75 : decode cX8_cock 75 = .ok (.iload_n 1, 1) := by decide +kernel
theorem dX8_cock_76 : decode cX8_cock 76 = .ok (.iaload, 1) := by decide +kernel
theorem dX8_cock_77 : decode cX8_cock 77 = .ok (.ireturn, 1) := by decide +kernel
theorem dX8_cock_78 : decode cX8_cock 78 = .ok (.aload_n 0, 1) := by decide +kernel
theorem dX8_cock_79 : decode cX8_cock 79 = .ok (.getfield 19, 3) := by decide +kernel
theorem dX8_cock_82 : decode cX8_cock 82 = .ok (.bipush 6, 2) := by decide +kernel
theorem dX8_cock_84 : decode cX8_cock 84 = .ok (.iload_n 1, 1) := by decide +kernel
theorem dX8_cock_85 : decode cX8_cock 85 = .ok (.iadd, 1) := by decide +kernel
theorem dX8_cock_86 : decode cX8_cock 86 = .ok (.iaload, 1) := by decide +kernel
theorem dX8_cock_87 : decode cX8_cock 87 = .ok (.ireturn, 1) := by decide +kernel
theorem dX8_cock_88 : decode cX8_cock 88 = .ok (.aload_n 0, 1) := by decide +kernel
theorem dX8_cock_89 : decode cX8_cock 89 = .ok (.getfield 13, 3) := by decide +kernel
theorem dX8_cock_92 : decode cX8_cock 92 = .ok (.iload_n 1, 1) := by decide +kernel
theorem dX8_cock_93 : decode cX8_cock 93 = .ok (.iaload, 1) := by decide +kernel
theorem dX8_cock_94 : decode cX8_cock 94 = .ok (.ireturn, 1) := by decide +kernel
theorem dX8_cock_95 : decode cX8_cock 95 = .ok (.aload_n 0, 1) := by decide +kernel
theorem dX8_cock_96 : decode cX8_cock 96 = .ok (.getfield 19, 3) := by decide +kernel
theorem dX8_cock_99 : decode cX8_cock 99 = .ok (.bipush 23, 2) := by decide +kernel
theorem dX8_cock_101 : decode cX8_cock 101 = .ok (.iaload, 1) := by decide +kernel
theorem dX8_cock_102 : decode cX8_cock 102 = .ok (.iload_n 1, 1) := by decide +kernel
theorem dX8_cock_103 : decode cX8_cock 103 = .ok (.ishr, 1) := by decide +kernel
theorem dX8_cock_104 : decode cX8_cock 104 = .ok (.iconst 1, 1) := by decide +kernel
theorem dX8_cock_105 : decode cX8_cock 105 = .ok (.iand, 1) := by decide +kernel
theorem dX8_cock_106 : decode cX8_cock 106 = .ok (.ireturn, 1) := by decide +kernel
theorem dX8_cock_107 : decode cX8_cock 107 = .ok (.aload_n 0, 1) := by decide +kernel
theorem dX8_cock_108 : decode cX8_cock 108 = .ok (.getfield 19, 3) := by decide +kernel
theorem dX8_cock_111 : decode cX8_cock 111 = .ok (.bipush 24, 2) := by decide +kernel
theorem dX8_cock_113 : decode cX8_cock 113 = .ok (.iaload, 1) := by decide +kernel
theorem dX8_cock_114 : decode cX8_cock 114 = .ok (.iload_n 1, 1) := by decide +kernel
theorem dX8_cock_115 : decode cX8_cock 115 = .ok (.ishr, 1) := by decide +kernel
theorem dX8_cock_116 : decode cX8_cock 116 = .ok (.iconst 1, 1) := by decide +kernel
theorem dX8_cock_117 : decode cX8_cock 117 = .ok (.iand, 1) := by decide +kernel
theorem dX8_cock_118 : decode cX8_cock 118 = .ok (.ireturn, 1) := by decide +kernel
theorem dX8_cock_119 : decode cX8_cock 119 = .ok (.bipush (-2), 2) := by decide +kernel
theorem dX8_cock_121 : decode cX8_cock 121 = .ok (.ireturn, 1) := by decide +kernel
set_option maxRecDepth 20000 in
theorem ggX8_isSheltered_X8_in : GoodIn wsX8_isSheltered wsX8_in := goodIn_r _ [7] (by decide +kernel) (by decide +kernel)
set_option maxRecDepth 20000 in
theorem gX8_isSheltered_X8_in : GoodIn wsX8_isSheltered (va_wsS RX8 59 yX8_in wsX8_in) := goodIn_app (goodIn_of _ (by decide +kernel)) ggX8_isSheltered_X8_in
theorem dX8_isSheltered_0 : decode cX8_isSheltered 0 = .ok (.aload_n 0, 1) := by decide +kernel
theorem dX8_isSheltered_1 : decode cX8_isSheltered 1 = .ok (.getfield 19, 3) := by decide +kernel
theorem dX8_isSheltered_4 : decode cX8_isSheltered 4 = .ok (.bipush 27, 2) := by decide +kernel
theorem dX8_isSheltered_6 : decode cX8_isSheltered 6 = .ok (.iload_n 1, 1) := by decide +kernel
theorem dX8_isSheltered_7 : decode cX8_isSheltered 7 = .ok (.imul, 1) := by decide +kernel
theorem dX8_isSheltered_8 : decode cX8_isSheltered 8 = .ok (.iload_n 2, 1) := by decide +kernel
theorem dX8_isSheltered_9 : decode cX8_isSheltered 9 = .ok (.iadd, 1) := by decide +kernel
theorem dX8_isSheltered_10 : decode cX8_isSheltered 10 = .ok (.iaload, 1) := by decide +kernel
theorem dX8_isSheltered_11 : decode cX8_isSheltered 11 = .ok (.iload_n 3, 1) := by decide +kernel
theorem dX8_isSheltered_12 : decode cX8_isSheltered 12 = .ok (.iconst 1, 1) := by decide +kernel
theorem dX8_isSheltered_13 : decode cX8_isSheltered 13 = .ok (.if_icmp .ne 7, 3) := by decide +kernel
theorem dX8_isSheltered_16 : decode cX8_isSheltered 16 = .ok (.iconst (-1), 1) := by decide +kernel
theorem dX8_isSheltered_17 : decode cX8_isSheltered 17 = .ok (.goto 4, 3) := by decide +kernel
theorem dX8_isSheltered_20 : decode cX8_isSheltered 20 = .ok (.iconst 1, 1) := by decide +kernel
theorem dX8_isSheltered_21 : decode cX8_isSheltered 21 = .ok (.iadd, 1) := by decide +kernel
theorem dX8_isSheltered_22 : decode cX8_isSheltered 22 = .ok (.istore 4, 2) := by decide +kernel
theorem dX8_isSheltered_24 : decode cX8_isSheltered 24 = .ok (.iload 4, 2) := by decide +kernel
theorem dX8_isSheltered_26 : decode cX8_isSheltered 26 = .ok (.i2l, 1) := by decide +kernel
theorem dX8_isSheltered_27 : decode cX8_isSheltered 27 = .ok (.lconst 0, 1) := by decide +kernel
theorem dX8_isSheltered_28 : decode cX8_isSheltered 28 = .ok (.ldc2_w 72, 3) := by decide +kernel
theorem dX8_isSheltered_31 : decode cX8_isSheltered 31 = .ok (.invokestatic 59, 3) := by decide +kernel
theorem dX8_isSheltered_34 : decode cX8_isSheltered 34 = .ok (.ifCond .eq 31, 3) := by decide +kernel
theorem dX8_isSheltered_37 : decode cX8_isSheltered 37 = .ok (.aload_n 0, 1) := by decide +kernel
theorem dX8_isSheltered_38 : decode cX8_isSheltered 38 = .ok (.getfield 19, 3) := by decide +kernel
theorem dX8_isSheltered_41 : decode cX8_isSheltered 41 = .ok (.bipush 27, 2) := by decide +kernel
theorem dX8_isSheltered_43 : decode cX8_isSheltered 43 = .ok (.iload_n 1, 1) := by decide +kernel
theorem dX8_isSheltered_44 : decode cX8_isSheltered 44 = .ok (.imul, 1) := by decide +kernel
theorem dX8_isSheltered_45 : decode cX8_isSheltered 45 = .ok (.bipush 12, 2) := by decide +kernel
theorem dX8_isSheltered_47 : decode cX8_isSheltered 47 = .ok (.iadd, 1) := by decide +kernel
theorem dX8_isSheltered_48 : decode cX8_isSheltered 48 = .ok (.iload 4, 2) := by decide +kernel
theorem dX8_isSheltered_50 : decode cX8_isSheltered 50 = .ok (.iadd, 1) := by decide +kernel
theorem dX8_isSheltered_51 : decode cX8_isSheltered 51 = .ok (.iaload, 1) := by decide +kernel
theorem dX8_isSheltered_52 : decode cX8_isSheltered 52 = .ok (.aload_n 0, 1) := by decide +kernel
theorem dX8_isSheltered_53 : decode cX8_isSheltered 53 = .ok (.getfield 7, 3) := by decide +kernel
theorem dX8_isSheltered_56 : decode cX8_isSheltered 56 = .ok (.iload_n 2, 1) := by decide +kernel
theorem dX8_isSheltered_57 : decode cX8_isSheltered 57 = .ok (.iaload, 1) := by decide +kernel
theorem dX8_isSheltered_58 : decode cX8_isSheltered 58 = .ok (.if_icmp .le 7, 3) := by decide +kernel
theorem dX8_isSheltered_61 : decode cX8_isSheltered 61 = .ok (.iconst 1, 1) := by decide +kernel
theorem dX8_isSheltered_62 : decode cX8_isSheltered 62 = .ok (.goto 4, 3) := by decide +kernel
theorem dX8_isSheltered_65 : decode cX8_isSheltered 65 = .ok (.iconst 0, 1) := by decide +kernel
theorem dX8_isSheltered_66 : decode cX8_isSheltered 66 = .ok (.ireturn, 1) := by decide +kernel
set_option maxRecDepth 20000 in
theorem ggX8_pointsBy_X8_has : GoodIn wsX8_pointsBy wsX8_has := goodIn_r _ [7] (by decide +kernel) (by decide +kernel)
set_option maxRecDepth 20000 in
theorem gX8_pointsBy_X8_has : GoodIn wsX8_pointsBy (va_wsS RX8 74 yX8_has wsX8_has) := goodIn_app (goodIn_of _ (by decide +kernel)) ggX8_pointsBy_X8_has
set_option maxRecDepth 20000 in
theorem ggX8_pointsBy_X8_isSheltered : GoodIn wsX8_pointsBy wsX8_isSheltered := goodIn_r _ [11, 1, 12, 13, 14, 15, 6, 16, 17, 18, 19, 20, 21, 22, 23, 24, 25, 26, 27, 28, 29, 30, 31, 32, 33, 34, 35, 36, 37, 38, 39, 40, 41, 42, 43, 44, 45, 46, 47] (by decide +kernel) (by decide +kernel)
set_option maxRecDepth 20000 in
theorem gX8_pointsBy_X8_isSheltered : GoodIn wsX8_pointsBy (wsV RX8 119 RX8 yX8_isSheltered wsX8_isSheltered) := goodIn_app (goodIn_of _ (by decide +kernel)) ggX8_pointsBy_X8_isSheltered
theorem dX8_pointsBy_0 : decode cX8_pointsBy 0 = .ok (.aload_n 0, 1) := by decide +kernel
theorem dX8_pointsBy_1 : decode cX8_pointsBy 1 = .ok (.getfield 19, 3) := by decide +kernel
theorem dX8_pointsBy_4 : decode cX8_pointsBy 4 = .ok (.bipush 27, 2) := by decide +kernel
theorem dX8_pointsBy_6 : decode cX8_pointsBy 6 = .ok (.iload_n 1, 1) := by decide +kernel
theorem dX8_pointsBy_7 : decode cX8_pointsBy 7 = .ok (.imul, 1) := by decide +kernel
theorem dX8_pointsBy_8 : decode cX8_pointsBy 8 = .ok (.bipush 23, 2) := by decide +kernel
theorem dX8_pointsBy_10 : decode cX8_pointsBy 10 = .ok (.iadd, 1) := by decide +kernel
theorem dX8_pointsBy_11 : decode cX8_pointsBy 11 = .ok (.iaload, 1) := by decide +kernel
theorem dX8_pointsBy_12 : decode cX8_pointsBy 12 = .ok (.istore 4, 2) := by decide +kernel
theorem dX8_pointsBy_14 : decode cX8_pointsBy 14 = .ok (.iconst 0, 1) := by decide +kernel
theorem dX8_pointsBy_15 : decode cX8_pointsBy 15 = .ok (.istore 5, 2) := by decide +kernel
theorem dX8_pointsBy_17 : decode cX8_pointsBy 17 = .ok (.iload 5, 2) := by decide +kernel
theorem dX8_pointsBy_19 : decode cX8_pointsBy 19 = .ok (.aload_n 0, 1) := by decide +kernel
theorem dX8_pointsBy_20 : decode cX8_pointsBy 20 = .ok (.getfield 53, 3) := by decide +kernel
theorem dX8_pointsBy_23 : decode cX8_pointsBy 23 = .ok (.if_icmp .ge 114, 3) := by decide +kernel
theorem dX8_pointsBy_26 : decode cX8_pointsBy 26 = .ok (.aload_n 0, 1) := by decide +kernel
theorem dX8_pointsBy_27 : decode cX8_pointsBy 27 = .ok (.getfield 16, 3) := by decide +kernel
theorem dX8_pointsBy_30 : decode cX8_pointsBy 30 = .ok (.iconst 3, 1) := by decide +kernel
theorem dX8_pointsBy_31 : decode cX8_pointsBy 31 = .ok (.iload_n 2, 1) := by decide +kernel
theorem dX8_pointsBy_32 : decode cX8_pointsBy 32 = .ok (.imul, 1) := by decide +kernel
theorem dX8_pointsBy_33 : decode cX8_pointsBy 33 = .ok (.iconst 1, 1) := by decide +kernel
theorem dX8_pointsBy_34 : decode cX8_pointsBy 34 = .ok (.iadd, 1) := by decide +kernel
theorem dX8_pointsBy_35 : decode cX8_pointsBy 35 = .ok (.iaload, 1) := by decide +kernel
theorem dX8_pointsBy_36 : decode cX8_pointsBy 36 = .ok (.aload_n 0, 1) := by decide +kernel
theorem dX8_pointsBy_37 : decode cX8_pointsBy 37 = .ok (.getfield 19, 3) := by decide +kernel
theorem dX8_pointsBy_40 : decode cX8_pointsBy 40 = .ok (.bipush 27, 2) := by decide +kernel
theorem dX8_pointsBy_42 : decode cX8_pointsBy 42 = .ok (.iload_n 1, 1) := by decide +kernel
theorem dX8_pointsBy_43 : decode cX8_pointsBy 43 = .ok (.imul, 1) := by decide +kernel
theorem dX8_pointsBy_44 : decode cX8_pointsBy 44 = .ok (.bipush 6, 2) := by decide +kernel
theorem dX8_pointsBy_46 : decode cX8_pointsBy 46 = .ok (.iadd, 1) := by decide +kernel
theorem dX8_pointsBy_47 : decode cX8_pointsBy 47 = .ok (.iload 5, 2) := by decide +kernel
theorem dX8_pointsBy_49 : decode cX8_pointsBy 49 = .ok (.iadd, 1) := by decide +kernel
theorem dX8_pointsBy_50 : decode cX8_pointsBy 50 = .ok (.iaload, 1) := by decide +kernel
theorem dX8_pointsBy_51 : decode cX8_pointsBy 51 = .ok (.if_icmp .le 34, 3) := by decide +kernel
theorem dX8_pointsBy_54 : decode cX8_pointsBy 54 = .ok (.iload_n 3, 1) := by decide +kernel
theorem dX8_pointsBy_55 : decode cX8_pointsBy 55 = .ok (.iload 5, 2) := by decide +kernel
theorem dX8_pointsBy_57 : decode cX8_pointsBy 57 = .ok (.invokestatic 74, 3) := by decide +kernel
theorem dX8_pointsBy_60 : decode cX8_pointsBy 60 = .ok (.ifCond .ne 25, 3) := by decide +kernel
theorem dX8_pointsBy_63 : decode cX8_pointsBy 63 = .ok (.aload_n 0, 1) := by decide +kernel
theorem dX8_pointsBy_64 : decode cX8_pointsBy 64 = .ok (.iload_n 1, 1) := by decide +kernel
theorem dX8_pointsBy_65 : decode cX8_pointsBy 65 = .ok (.iload 5, 2) := by decide +kernel
theorem dX8_pointsBy_67 : decode cX8_pointsBy 67 = .ok (.aload_n 0, 1) := by decide +kernel
theorem dX8_pointsBy_68 : decode cX8_pointsBy 68 = .ok (.getfield 16, 3) := by decide +kernel
theorem dX8_pointsBy_71 : decode cX8_pointsBy 71 = .ok (.iconst 3, 1) := by decide +kernel
theorem dX8_pointsBy_72 : decode cX8_pointsBy 72 = .ok (.iload_n 2, 1) := by decide +kernel
theorem dX8_pointsBy_73 : decode cX8_pointsBy 73 = .ok (.imul, 1) := by decide +kernel
theorem dX8_pointsBy_74 : decode cX8_pointsBy 74 = .ok (.iaload, 1) := by decide +kernel
theorem dX8_pointsBy_75 : decode cX8_pointsBy 75 = .ok (.invokevirtual 119, 3) := by decide +kernel
theorem dX8_pointsBy_78 : decode cX8_pointsBy 78 = .ok (.ifCond .ne 7, 3) := by decide +kernel
theorem dX8_pointsBy_81 : decode cX8_pointsBy 81 = .ok (.iconst 1, 1) := by decide +kernel
theorem dX8_pointsBy_82 : decode cX8_pointsBy 82 = .ok (.goto 4, 3) := by decide +kernel
theorem dX8_pointsBy_85 : decode cX8_pointsBy 85 = .ok (.iconst 0, 1) := by decide +kernel
theorem dX8_pointsBy_86 : decode cX8_pointsBy 86 = .ok (.istore 6, 2) := by decide +kernel
theorem dX8_pointsBy_88 : decode cX8_pointsBy 88 = .ok (.iload 6, 2) := by decide +kernel
theorem dX8_pointsBy_90 : decode cX8_pointsBy 90 = .ok (.ifCond .ne 8, 3) := by decide +kernel
theorem dX8_pointsBy_93 : decode cX8_pointsBy 93 = .ok (.iload 4, 2) := by decide +kernel
theorem dX8_pointsBy_95 : decode cX8_pointsBy 95 = .ok (.goto 34, 3) := by decide +kernel
theorem dX8_pointsBy_98 : decode cX8_pointsBy 98 = .ok (.aload_n 0, 1) := by decide +kernel
theorem dX8_pointsBy_99 : decode cX8_pointsBy 99 = .ok (.getfield 16, 3) := by decide +kernel
theorem dX8_pointsBy_102 : decode cX8_pointsBy 102 = .ok (.iconst 3, 1) := by decide +kernel
theorem dX8_pointsBy_103 : decode cX8_pointsBy 103 = .ok (.iload_n 2, 1) := by decide +kernel
theorem dX8_pointsBy_104 : decode cX8_pointsBy 104 = .ok (.imul, 1) := by decide +kernel
theorem dX8_pointsBy_105 : decode cX8_pointsBy 105 = .ok (.iaload, 1) := by decide +kernel
theorem dX8_pointsBy_106 : decode cX8_pointsBy 106 = .ok (.iconst 1, 1) := by decide +kernel
theorem dX8_pointsBy_107 : decode cX8_pointsBy 107 = .ok (.if_icmp .ne 13, 3) := by decide +kernel
theorem dX8_pointsBy_110 : decode cX8_pointsBy 110 = .ok (.iload 4, 2) := by decide +kernel
theorem dX8_pointsBy_112 : decode cX8_pointsBy 112 = .ok (.iconst 1, 1) := by decide +kernel
theorem dX8_pointsBy_113 : decode cX8_pointsBy 113 = .ok (.iload 5, 2) := by decide +kernel
theorem dX8_pointsBy_115 : decode cX8_pointsBy 115 = .ok (.ishl, 1) := by decide +kernel
theorem dX8_pointsBy_116 : decode cX8_pointsBy 116 = .ok (.ior, 1) := by decide +kernel
theorem dX8_pointsBy_117 : decode cX8_pointsBy 117 = .ok (.goto 12, 3) := by decide +kernel
theorem dX8_pointsBy_120 : decode cX8_pointsBy 120 = .ok (.iload 4, 2) := by decide +kernel
theorem dX8_pointsBy_122 : decode cX8_pointsBy 122 = .ok (.iconst 1, 1) := by decide +kernel
theorem dX8_pointsBy_123 : decode cX8_pointsBy 123 = .ok (.iload 5, 2) := by decide +kernel
theorem dX8_pointsBy_125 : decode cX8_pointsBy 125 = .ok (.ishl, 1) := by decide +kernel
theorem dX8_pointsBy_126 : decode cX8_pointsBy 126 = .ok (.iconst (-1), 1) := by decide +kernel
theorem dX8_pointsBy_127 : decode cX8_pointsBy 127 = .ok (.ixor, 1) := by decide +kernel
theorem dX8_pointsBy_128 : decode cX8_pointsBy 128 = .ok (.iand, 1) := by decide +kernel
theorem dX8_pointsBy_129 : decode cX8_pointsBy 129 = .ok (.istore 4, 2) := by decide +kernel
theorem dX8_pointsBy_131 : decode cX8_pointsBy 131 = .ok (.iinc 5 1, 3) := by decide +kernel
theorem dX8_pointsBy_134 : decode cX8_pointsBy 134 = .ok (.goto (-117), 3) := by decide +kernel
theorem dX8_pointsBy_137 : decode cX8_pointsBy 137 = .ok (.iload 4, 2) := by decide +kernel
theorem dX8_pointsBy_139 : decode cX8_pointsBy 139 = .ok (.ireturn, 1) := by decide +kernel
set_option maxRecDepth 20000 in
theorem ggX8_weightOf_X8_has : GoodIn wsX8_weightOf wsX8_has := goodIn_r _ [7] (by decide +kernel) (by decide +kernel)
set_option maxRecDepth 20000 in
theorem gX8_weightOf_X8_has : GoodIn wsX8_weightOf (va_wsS RX8 74 yX8_has wsX8_has) := goodIn_app (goodIn_of _ (by decide +kernel)) ggX8_weightOf_X8_has
theorem dX8_weightOf_0 : decode cX8_weightOf 0 = .ok (.iconst 0, 1) := by decide +kernel
theorem dX8_weightOf_1 : decode cX8_weightOf 1 = .ok (.istore 4, 2) := by decide +kernel
theorem dX8_weightOf_3 : decode cX8_weightOf 3 = .ok (.iconst 0, 1) := by decide +kernel
theorem dX8_weightOf_4 : decode cX8_weightOf 4 = .ok (.istore 5, 2) := by decide +kernel
theorem dX8_weightOf_6 : decode cX8_weightOf 6 = .ok (.iload 5, 2) := by decide +kernel
theorem dX8_weightOf_8 : decode cX8_weightOf 8 = .ok (.aload_n 0, 1) := by decide +kernel
theorem dX8_weightOf_9 : decode cX8_weightOf 9 = .ok (.getfield 53, 3) := by decide +kernel
theorem dX8_weightOf_12 : decode cX8_weightOf 12 = .ok (.if_icmp .ge 76, 3) := by decide +kernel
theorem dX8_weightOf_15 : decode cX8_weightOf 15 = .ok (.aload_n 0, 1) := by decide +kernel
theorem dX8_weightOf_16 : decode cX8_weightOf 16 = .ok (.getfield 19, 3) := by decide +kernel
theorem dX8_weightOf_19 : decode cX8_weightOf 19 = .ok (.bipush 27, 2) := by decide +kernel
theorem dX8_weightOf_21 : decode cX8_weightOf 21 = .ok (.iload_n 1, 1) := by decide +kernel
theorem dX8_weightOf_22 : decode cX8_weightOf 22 = .ok (.imul, 1) := by decide +kernel
theorem dX8_weightOf_23 : decode cX8_weightOf 23 = .ok (.bipush 22, 2) := by decide +kernel
theorem dX8_weightOf_25 : decode cX8_weightOf 25 = .ok (.iadd, 1) := by decide +kernel
theorem dX8_weightOf_26 : decode cX8_weightOf 26 = .ok (.iaload, 1) := by decide +kernel
theorem dX8_weightOf_27 : decode cX8_weightOf 27 = .ok (.iload 5, 2) := by decide +kernel
theorem dX8_weightOf_29 : decode cX8_weightOf 29 = .ok (.ishr, 1) := by decide +kernel
theorem dX8_weightOf_30 : decode cX8_weightOf 30 = .ok (.iconst 1, 1) := by decide +kernel
theorem dX8_weightOf_31 : decode cX8_weightOf 31 = .ok (.iand, 1) := by decide +kernel
theorem dX8_weightOf_32 : decode cX8_weightOf 32 = .ok (.iload_n 2, 1) := by decide +kernel
theorem dX8_weightOf_33 : decode cX8_weightOf 33 = .ok (.if_icmp .ne 7, 3) := by decide +kernel
theorem dX8_weightOf_36 : decode cX8_weightOf 36 = .ok (.iconst 1, 1) := by decide +kernel
theorem dX8_weightOf_37 : decode cX8_weightOf 37 = .ok (.goto 4, 3) := by decide +kernel
theorem dX8_weightOf_40 : decode cX8_weightOf 40 = .ok (.iconst 0, 1) := by decide +kernel
theorem dX8_weightOf_41 : decode cX8_weightOf 41 = .ok (.istore 6, 2) := by decide +kernel
theorem dX8_weightOf_43 : decode cX8_weightOf 43 = .ok (.iload 4, 2) := by decide +kernel
theorem dX8_weightOf_45 : decode cX8_weightOf 45 = .ok (.iload 6, 2) := by decide +kernel
theorem dX8_weightOf_47 : decode cX8_weightOf 47 = .ok (.ifCond .eq 31, 3) := by decide +kernel
theorem dX8_weightOf_50 : decode cX8_weightOf 50 = .ok (.iload_n 3, 1) := by decide +kernel
theorem dX8_weightOf_51 : decode cX8_weightOf 51 = .ok (.iload 5, 2) := by decide +kernel
theorem dX8_weightOf_53 : decode cX8_weightOf 53 = .ok (.invokestatic 74, 3) := by decide +kernel
theorem dX8_weightOf_56 : decode cX8_weightOf 56 = .ok (.iload_n 2, 1) := by decide +kernel
theorem dX8_weightOf_57 : decode cX8_weightOf 57 = .ok (.ifCond .ne 7, 3) := by decide +kernel
theorem dX8_weightOf_60 : decode cX8_weightOf 60 = .ok (.iconst 1, 1) := by decide +kernel
theorem dX8_weightOf_61 : decode cX8_weightOf 61 = .ok (.goto 4, 3) := by decide +kernel
theorem dX8_weightOf_64 : decode cX8_weightOf 64 = .ok (.iconst 0, 1) := by decide +kernel
theorem dX8_weightOf_65 : decode cX8_weightOf 65 = .ok (.if_icmp .ne 13, 3) := by decide +kernel
theorem dX8_weightOf_68 : decode cX8_weightOf 68 = .ok (.aload_n 0, 1) := by decide +kernel
theorem dX8_weightOf_69 : decode cX8_weightOf 69 = .ok (.getfield 13, 3) := by decide +kernel
theorem dX8_weightOf_72 : decode cX8_weightOf 72 = .ok (.iload 5, 2) := by decide +kernel
theorem dX8_weightOf_74 : decode cX8_weightOf 74 = .ok (.iaload, 1) := by decide +kernel
theorem dX8_weightOf_75 : decode cX8_weightOf 75 = .ok (.goto 4, 3) := by decide +kernel
theorem dX8_weightOf_78 : decode cX8_weightOf 78 = .ok (.iconst 0, 1) := by decide +kernel
theorem dX8_weightOf_79 : decode cX8_weightOf 79 = .ok (.iadd, 1) := by decide +kernel
theorem dX8_weightOf_80 : decode cX8_weightOf 80 = .ok (.istore 4, 2) := by decide +kernel
theorem dX8_weightOf_82 : decode cX8_weightOf 82 = .ok (.iinc 5 1, 3) := by decide +kernel
theorem dX8_weightOf_85 : decode cX8_weightOf 85 = .ok (.goto (-79), 3) := by decide +kernel
theorem dX8_weightOf_88 : decode cX8_weightOf 88 = .ok (.iload 4, 2) := by decide +kernel
theorem dX8_weightOf_90 : decode cX8_weightOf 90 = .ok (.ireturn, 1) := by decide +kernel
set_option maxRecDepth 20000 in
theorem ggX8_brookBy_X8_weightOf : GoodIn wsX8_brookBy wsX8_weightOf := goodIn_r _ [6, 7, 1, 8, 9, 10, 5, 11, 12, 13, 14, 15, 16, 17, 18, 19, 20, 21, 22, 23, 24, 25, 26, 27, 28, 29, 30, 31, 32, 33, 34, 35, 36, 37, 38, 39, 40, 41, 42] (by decide +kernel) (by decide +kernel)
set_option maxRecDepth 20000 in
theorem gX8_brookBy_X8_weightOf : GoodIn wsX8_brookBy (wsV RX8 123 RX8 yX8_weightOf wsX8_weightOf) := goodIn_app (goodIn_of _ (by decide +kernel)) ggX8_brookBy_X8_weightOf
theorem dX8_brookBy_0 : decode cX8_brookBy 0 = .ok (.aload_n 0, 1) := by decide +kernel
theorem dX8_brookBy_1 : decode cX8_brookBy 1 = .ok (.iload_n 1, 1) := by decide +kernel
theorem dX8_brookBy_2 : decode cX8_brookBy 2 = .ok (.iconst 0, 1) := by decide +kernel
theorem dX8_brookBy_3 : decode cX8_brookBy 3 = .ok (.iload_n 2, 1) := by decide +kernel
theorem dX8_brookBy_4 : decode cX8_brookBy 4 = .ok (.invokevirtual 123, 3) := by decide +kernel
theorem dX8_brookBy_7 : decode cX8_brookBy 7 = .ok (.aload_n 0, 1) := by decide +kernel
theorem dX8_brookBy_8 : decode cX8_brookBy 8 = .ok (.iload_n 1, 1) := by decide +kernel
theorem dX8_brookBy_9 : decode cX8_brookBy 9 = .ok (.iconst 1, 1) := by decide +kernel
theorem dX8_brookBy_10 : decode cX8_brookBy 10 = .ok (.iload_n 2, 1) := by decide +kernel
theorem dX8_brookBy_11 : decode cX8_brookBy 11 = .ok (.invokevirtual 123, 3) := by decide +kernel
theorem dX8_brookBy_14 : decode cX8_brookBy 14 = .ok (.isub, 1) := by decide +kernel
theorem dX8_brookBy_15 : decode cX8_brookBy 15 = .ok (.istore_n 3, 1) := by decide +kernel
theorem dX8_brookBy_16 : decode cX8_brookBy 16 = .ok (.iload_n 3, 1) := by decide +kernel
theorem dX8_brookBy_17 : decode cX8_brookBy 17 = .ok (.ifCond .le 7, 3) := by decide +kernel
theorem dX8_brookBy_20 : decode cX8_brookBy 20 = .ok (.iconst 0, 1) := by decide +kernel
theorem dX8_brookBy_21 : decode cX8_brookBy 21 = .ok (.goto 23, 3) := by decide +kernel
theorem dX8_brookBy_24 : decode cX8_brookBy 24 = .ok (.iload_n 3, 1) := by decide +kernel
theorem dX8_brookBy_25 : decode cX8_brookBy 25 = .ok (.ifCond .ge 7, 3) := by decide +kernel
theorem dX8_brookBy_28 : decode cX8_brookBy 28 = .ok (.iconst 1, 1) := by decide +kernel
theorem dX8_brookBy_29 : decode cX8_brookBy 29 = .ok (.goto 15, 3) := by decide +kernel
theorem dX8_brookBy_32 : decode cX8_brookBy 32 = .ok (.aload_n 0, 1) := by decide +kernel
theorem dX8_brookBy_33 : decode cX8_brookBy 33 = .ok (.getfield 19, 3) := by decide +kernel
theorem dX8_brookBy_36 : decode cX8_brookBy 36 = .ok (.bipush 27, 2) := by decide +kernel
theorem dX8_brookBy_38 : decode cX8_brookBy 38 = .ok (.iload_n 1, 1) := by decide +kernel
theorem dX8_brookBy_39 : decode cX8_brookBy 39 = .ok (.imul, 1) := by decide +kernel
theorem dX8_brookBy_40 : decode cX8_brookBy 40 = .ok (.bipush 25, 2) := by decide +kernel
theorem dX8_brookBy_42 : decode cX8_brookBy 42 = .ok (.iadd, 1) := by decide +kernel
theorem dX8_brookBy_43 : decode cX8_brookBy 43 = .ok (.iaload, 1) := by decide +kernel
theorem dX8_brookBy_44 : decode cX8_brookBy 44 = .ok (.ireturn, 1) := by decide +kernel
set_option maxRecDepth 20000 in
theorem ggX8_blowOn_X8_pointsBy : GoodIn wsX8_blowOn wsX8_pointsBy := goodIn_r _ [6, 1, 7, 8, 9, 10, 5, 11, 12, 13, 14, 15, 16, 17, 18, 19, 20, 30, 31, 32, 33, 34, 35, 36, 37, 38, 39, 40, 41, 42, 43, 44, 45, 46, 47, 48, 49, 50, 51, 52, 53, 54, 55, 56, 57, 58, 59, 60] (by decide +kernel) (by decide +kernel)
set_option maxRecDepth 20000 in
theorem gX8_blowOn_X8_pointsBy : GoodIn wsX8_blowOn (wsV RX8 127 RX8 yX8_pointsBy wsX8_pointsBy) := goodIn_app (goodIn_of _ (by decide +kernel)) ggX8_blowOn_X8_pointsBy
set_option maxRecDepth 20000 in
theorem ggX8_blowOn_X8_brookBy : GoodIn wsX8_blowOn wsX8_brookBy := goodIn_r _ [24, 1, 25, 26, 27, 5, 28, 7, 29, 9, 10, 11, 30, 31, 32, 33, 34, 35, 36, 37, 38, 39, 40, 41, 42, 43, 44, 45, 46, 47, 48, 49, 50, 51, 52, 53, 54, 55, 56, 57, 58, 59, 60] (by decide +kernel) (by decide +kernel)
set_option maxRecDepth 20000 in
theorem gX8_blowOn_X8_brookBy : GoodIn wsX8_blowOn (wsV RX8 130 RX8 yX8_brookBy wsX8_brookBy) := goodIn_app (goodIn_of _ (by decide +kernel)) ggX8_blowOn_X8_brookBy
theorem dX8_blowOn_0 : decode cX8_blowOn 0 = .ok (.bipush 27, 2) := by decide +kernel
theorem dX8_blowOn_2 : decode cX8_blowOn 2 = .ok (.iload_n 1, 1) := by decide +kernel
theorem dX8_blowOn_3 : decode cX8_blowOn 3 = .ok (.imul, 1) := by decide +kernel
theorem dX8_blowOn_4 : decode cX8_blowOn 4 = .ok (.istore_n 3, 1) := by decide +kernel
theorem dX8_blowOn_5 : decode cX8_blowOn 5 = .ok (.aload_n 0, 1) := by decide +kernel
theorem dX8_blowOn_6 : decode cX8_blowOn 6 = .ok (.iload_n 1, 1) := by decide +kernel
theorem dX8_blowOn_7 : decode cX8_blowOn 7 = .ok (.iload_n 2, 1) := by decide +kernel
theorem dX8_blowOn_8 : decode cX8_blowOn 8 = .ok (.aload_n 0, 1) := by decide +kernel
end
section
theorem dX8_blowOn_9 : decode cX8_blowOn 9 = .ok (.getfield 19, 3) := by decide +kernel
theorem dX8_blowOn_12 : decode cX8_blowOn 12 = .ok (.iload_n 3, 1) := by decide +kernel
theorem dX8_blowOn_13 : decode cX8_blowOn 13 = .ok (.bipush 24, 2) := by decide +kernel
theorem dX8_blowOn_15 : decode cX8_blowOn 15 = .ok (.iadd, 1) := by decide +kernel
theorem dX8_blowOn_16 : decode cX8_blowOn 16 = .ok (.iaload, 1) := by decide +kernel
theorem dX8_blowOn_17 : decode cX8_blowOn 17 = .ok (.invokevirtual 127, 3) := by decide +kernel
theorem dX8_blowOn_20 : decode cX8_blowOn 20 = .ok (.istore 4, 2) := by decide +kernel
theorem dX8_blowOn_22 : decode cX8_blowOn 22 = .ok (.aload_n 0, 1) := by decide +kernel
theorem dX8_blowOn_23 : decode cX8_blowOn 23 = .ok (.getfield 19, 3) := by decide +kernel
theorem dX8_blowOn_26 : decode cX8_blowOn 26 = .ok (.iload_n 3, 1) := by decide +kernel
theorem dX8_blowOn_27 : decode cX8_blowOn 27 = .ok (.bipush 25, 2) := by decide +kernel
theorem dX8_blowOn_29 : decode cX8_blowOn 29 = .ok (.iadd, 1) := by decide +kernel
theorem dX8_blowOn_30 : decode cX8_blowOn 30 = .ok (.aload_n 0, 1) := by decide +kernel
theorem dX8_blowOn_31 : decode cX8_blowOn 31 = .ok (.iload_n 1, 1) := by decide +kernel
theorem dX8_blowOn_32 : decode cX8_blowOn 32 = .ok (.iload 4, 2) := by decide +kernel
theorem dX8_blowOn_34 : decode cX8_blowOn 34 = .ok (.invokevirtual 130, 3) := by decide +kernel
theorem dX8_blowOn_37 : decode cX8_blowOn 37 = .ok (.iastore, 1) := by decide +kernel
theorem dX8_blowOn_38 : decode cX8_blowOn 38 = .ok (.aload_n 0, 1) := by decide +kernel
theorem dX8_blowOn_39 : decode cX8_blowOn 39 = .ok (.getfield 19, 3) := by decide +kernel
theorem dX8_blowOn_42 : decode cX8_blowOn 42 = .ok (.iload_n 3, 1) := by decide +kernel
theorem dX8_blowOn_43 : decode cX8_blowOn 43 = .ok (.bipush 23, 2) := by decide +kernel
theorem dX8_blowOn_45 : decode cX8_blowOn 45 = .ok (.iadd, 1) := by decide +kernel
theorem dX8_blowOn_46 : decode cX8_blowOn 46 = .ok (.iload 4, 2) := by decide +kernel
theorem dX8_blowOn_48 : decode cX8_blowOn 48 = .ok (.iastore, 1) := by decide +kernel
theorem dX8_blowOn_49 : decode cX8_blowOn 49 = .ok (.aload_n 0, 1) := by decide +kernel
theorem dX8_blowOn_50 : decode cX8_blowOn 50 = .ok (.getfield 19, 3) := by decide +kernel
theorem dX8_blowOn_53 : decode cX8_blowOn 53 = .ok (.iload_n 3, 1) := by decide +kernel
theorem dX8_blowOn_54 : decode cX8_blowOn 54 = .ok (.bipush 24, 2) := by decide +kernel
theorem dX8_blowOn_56 : decode cX8_blowOn 56 = .ok (.iadd, 1) := by decide +kernel
theorem dX8_blowOn_57 : decode cX8_blowOn 57 = .ok (.iconst 0, 1) := by decide +kernel
theorem dX8_blowOn_58 : decode cX8_blowOn 58 = .ok (.iastore, 1) := by decide +kernel
theorem dX8_blowOn_59 : decode cX8_blowOn 59 = .ok (.aload_n 0, 1) := by decide +kernel
theorem dX8_blowOn_60 : decode cX8_blowOn 60 = .ok (.getfield 19, 3) := by decide +kernel
theorem dX8_blowOn_63 : decode cX8_blowOn 63 = .ok (.iload_n 3, 1) := by decide +kernel
theorem dX8_blowOn_64 : decode cX8_blowOn 64 = .ok (.bipush 26, 2) := by decide +kernel
theorem dX8_blowOn_66 : decode cX8_blowOn 66 = .ok (.iadd, 1) := by decide +kernel
theorem dX8_blowOn_67 : decode cX8_blowOn 67 = .ok (.dup2, 1) := by decide +kernel
theorem dX8_blowOn_68 : decode cX8_blowOn 68 = .ok (.iaload, 1) := by decide +kernel
theorem dX8_blowOn_69 : decode cX8_blowOn 69 = .ok (.iconst 1, 1) := by decide +kernel
theorem dX8_blowOn_70 : decode cX8_blowOn 70 = .ok (.iadd, 1) := by decide +kernel
theorem dX8_blowOn_71 : decode cX8_blowOn 71 = .ok (.iastore, 1) := by decide +kernel
theorem dX8_blowOn_72 : decode cX8_blowOn 72 = .ok (.return_, 1) := by decide +kernel
set_option maxRecDepth 20000 in
theorem ggX8_wind_X8_isWind : GoodIn wsX8_wind wsX8_isWind := goodIn_r _ [8, 9, 10, 11, 7, 12, 27, 28, 29, 30, 31, 32, 33, 34, 35, 36, 37, 38, 39, 40, 41, 42, 43, 44, 45, 46, 47, 48, 49, 50, 51, 52, 53, 54, 55, 56, 57] (by decide +kernel) (by decide +kernel)
set_option maxRecDepth 20000 in
theorem gX8_wind_X8_isWind : GoodIn wsX8_wind (wsV RX8 133 RX8 yX8_isWind wsX8_isWind) := goodIn_app (goodIn_of _ (by decide +kernel)) ggX8_wind_X8_isWind
set_option maxRecDepth 20000 in
theorem ggX8_wind_X8_in : GoodIn wsX8_wind wsX8_in := goodIn_r _ [12] (by decide +kernel) (by decide +kernel)
set_option maxRecDepth 20000 in
theorem gX8_wind_X8_in : GoodIn wsX8_wind (va_wsS RX8 59 yX8_in wsX8_in) := goodIn_app (goodIn_of _ (by decide +kernel)) ggX8_wind_X8_in
set_option maxRecDepth 20000 in
theorem ggX8_wind_X8_pointsBy : GoodIn wsX8_wind wsX8_pointsBy := goodIn_r _ [16, 3, 17, 2, 18, 19, 7, 20, 21, 22, 23, 24, 25, 26, 10, 11, 12, 27, 28, 29, 30, 31, 32, 33, 34, 35, 36, 37, 38, 39, 40, 41, 42, 43, 44, 45, 46, 47, 48, 49, 50, 51, 52, 53, 54, 55, 56, 57] (by decide +kernel) (by decide +kernel)
set_option maxRecDepth 20000 in
theorem gX8_wind_X8_pointsBy : GoodIn wsX8_wind (wsV RX8 127 RX8 yX8_pointsBy wsX8_pointsBy) := goodIn_app (goodIn_of _ (by decide +kernel)) ggX8_wind_X8_pointsBy
theorem dX8_wind_0 : decode cX8_wind 0 = .ok (.aload_n 0, 1) := by decide +kernel
theorem dX8_wind_1 : decode cX8_wind 1 = .ok (.iload_n 1, 1) := by decide +kernel
theorem dX8_wind_2 : decode cX8_wind 2 = .ok (.invokevirtual 133, 3) := by decide +kernel
theorem dX8_wind_5 : decode cX8_wind 5 = .ok (.ifCond .ne 5, 3) := by decide +kernel
theorem dX8_wind_8 : decode cX8_wind 8 = .ok (.iconst (-1), 1) := by decide +kernel
theorem dX8_wind_9 : decode cX8_wind 9 = .ok (.ireturn, 1) := by decide +kernel
theorem dX8_wind_10 : decode cX8_wind 10 = .ok (.iload_n 2, 1) := by decide +kernel
theorem dX8_wind_11 : decode cX8_wind 11 = .ok (.i2l, 1) := by decide +kernel
theorem dX8_wind_12 : decode cX8_wind 12 = .ok (.lconst 0, 1) := by decide +kernel
theorem dX8_wind_13 : decode cX8_wind 13 = .ok (.ldc2_w 136, 3) := by decide +kernel
theorem dX8_wind_16 : decode cX8_wind 16 = .ok (.invokestatic 59, 3) := by decide +kernel
theorem dX8_wind_19 : decode cX8_wind 19 = .ok (.ifCond .eq 14, 3) := by decide +kernel
theorem dX8_wind_22 : decode cX8_wind 22 = .ok (.aload_n 0, 1) := by decide +kernel
theorem dX8_wind_23 : decode cX8_wind 23 = .ok (.getfield 16, 3) := by decide +kernel
theorem dX8_wind_26 : decode cX8_wind 26 = .ok (.iconst 3, 1) := by decide +kernel
theorem dX8_wind_27 : decode cX8_wind 27 = .ok (.iload_n 1, 1) := by decide +kernel
theorem dX8_wind_28 : decode cX8_wind 28 = .ok (.imul, 1) := by decide +kernel
theorem dX8_wind_29 : decode cX8_wind 29 = .ok (.iload_n 2, 1) := by decide +kernel
theorem dX8_wind_30 : decode cX8_wind 30 = .ok (.iadd, 1) := by decide +kernel
theorem dX8_wind_31 : decode cX8_wind 31 = .ok (.iaload, 1) := by decide +kernel
theorem dX8_wind_32 : decode cX8_wind 32 = .ok (.ireturn, 1) := by decide +kernel
theorem dX8_wind_33 : decode cX8_wind 33 = .ok (.iload_n 2, 1) := by decide +kernel
theorem dX8_wind_34 : decode cX8_wind 34 = .ok (.iconst 3, 1) := by decide +kernel
theorem dX8_wind_35 : decode cX8_wind 35 = .ok (.if_icmp .ne 27, 3) := by decide +kernel
theorem dX8_wind_38 : decode cX8_wind 38 = .ok (.aload_n 0, 1) := by decide +kernel
theorem dX8_wind_39 : decode cX8_wind 39 = .ok (.iconst 0, 1) := by decide +kernel
theorem dX8_wind_40 : decode cX8_wind 40 = .ok (.iload_n 1, 1) := by decide +kernel
theorem dX8_wind_41 : decode cX8_wind 41 = .ok (.aload_n 0, 1) := by decide +kernel
theorem dX8_wind_42 : decode cX8_wind 42 = .ok (.getfield 19, 3) := by decide +kernel
theorem dX8_wind_45 : decode cX8_wind 45 = .ok (.bipush 24, 2) := by decide +kernel
theorem dX8_wind_47 : decode cX8_wind 47 = .ok (.iaload, 1) := by decide +kernel
theorem dX8_wind_48 : decode cX8_wind 48 = .ok (.invokevirtual 127, 3) := by decide +kernel
theorem dX8_wind_51 : decode cX8_wind 51 = .ok (.aload_n 0, 1) := by decide +kernel
theorem dX8_wind_52 : decode cX8_wind 52 = .ok (.getfield 19, 3) := by decide +kernel
theorem dX8_wind_55 : decode cX8_wind 55 = .ok (.bipush 23, 2) := by decide +kernel
theorem dX8_wind_57 : decode cX8_wind 57 = .ok (.iaload, 1) := by decide +kernel
theorem dX8_wind_58 : decode cX8_wind 58 = .ok (.ixor, 1) := by decide +kernel
theorem dX8_wind_59 : decode cX8_wind 59 = .ok (.goto 5, 3) := by decide +kernel
theorem dX8_wind_62 : decode cX8_wind 62 = .ok (.bipush (-2), 2) := by decide +kernel
theorem dX8_wind_64 : decode cX8_wind 64 = .ok (.ireturn, 1) := by decide +kernel
theorem dX8_keepAct_0 : decode cX8_keepAct 0 = .ok (.iconst 0, 1) := by decide +kernel
theorem dX8_keepAct_1 : decode cX8_keepAct 1 = .ok (.istore_n 1, 1) := by decide +kernel
theorem dX8_keepAct_2 : decode cX8_keepAct 2 = .ok (.iload_n 1, 1) := by decide +kernel
theorem dX8_keepAct_3 : decode cX8_keepAct 3 = .ok (.bipush 27, 2) := by decide +kernel
theorem dX8_keepAct_5 : decode cX8_keepAct 5 = .ok (.if_icmp .ge 29, 3) := by decide +kernel
theorem dX8_keepAct_8 : decode cX8_keepAct 8 = .ok (.aload_n 0, 1) := by decide +kernel
theorem dX8_keepAct_9 : decode cX8_keepAct 9 = .ok (.getfield 37, 3) := by decide +kernel
theorem dX8_keepAct_12 : decode cX8_keepAct 12 = .ok (.bipush 27, 2) := by decide +kernel
theorem dX8_keepAct_14 : decode cX8_keepAct 14 = .ok (.aload_n 0, 1) := by decide +kernel
theorem dX8_keepAct_15 : decode cX8_keepAct 15 = .ok (.getfield 138, 3) := by decide +kernel
theorem dX8_keepAct_18 : decode cX8_keepAct 18 = .ok (.imul, 1) := by decide +kernel
theorem dX8_keepAct_19 : decode cX8_keepAct 19 = .ok (.iload_n 1, 1) := by decide +kernel
theorem dX8_keepAct_20 : decode cX8_keepAct 20 = .ok (.iadd, 1) := by decide +kernel
theorem dX8_keepAct_21 : decode cX8_keepAct 21 = .ok (.aload_n 0, 1) := by decide +kernel
theorem dX8_keepAct_22 : decode cX8_keepAct 22 = .ok (.getfield 19, 3) := by decide +kernel
theorem dX8_keepAct_25 : decode cX8_keepAct 25 = .ok (.iload_n 1, 1) := by decide +kernel
theorem dX8_keepAct_26 : decode cX8_keepAct 26 = .ok (.iaload, 1) := by decide +kernel
theorem dX8_keepAct_27 : decode cX8_keepAct 27 = .ok (.iastore, 1) := by decide +kernel
theorem dX8_keepAct_28 : decode cX8_keepAct 28 = .ok (.iinc 1 1, 3) := by decide +kernel
theorem dX8_keepAct_31 : decode cX8_keepAct 31 = .ok (.goto (-29), 3) := by decide +kernel
theorem dX8_keepAct_34 : decode cX8_keepAct 34 = .ok (.aload_n 0, 1) := by decide +kernel
theorem dX8_keepAct_35 : decode cX8_keepAct 35 = .ok (.aload_n 0, 1) := by decide +kernel
theorem dX8_keepAct_36 : decode cX8_keepAct 36 = .ok (.getfield 138, 3) := by decide +kernel
theorem dX8_keepAct_39 : decode cX8_keepAct 39 = .ok (.iconst 1, 1) := by decide +kernel
theorem dX8_keepAct_40 : decode cX8_keepAct 40 = .ok (.iadd, 1) := by decide +kernel
theorem dX8_keepAct_41 : decode cX8_keepAct 41 = .ok (.bipush 14, 2) := by decide +kernel
theorem dX8_keepAct_43 : decode cX8_keepAct 43 = .ok (.irem, 1) := by decide +kernel
theorem dX8_keepAct_44 : decode cX8_keepAct 44 = .ok (.putfield 138, 3) := by decide +kernel
theorem dX8_keepAct_47 : decode cX8_keepAct 47 = .ok (.aload_n 0, 1) := by decide +kernel
theorem dX8_keepAct_48 : decode cX8_keepAct 48 = .ok (.aload_n 0, 1) := by decide +kernel
theorem dX8_keepAct_49 : decode cX8_keepAct 49 = .ok (.getfield 112, 3) := by decide +kernel
theorem dX8_keepAct_52 : decode cX8_keepAct 52 = .ok (.bipush 14, 2) := by decide +kernel
theorem dX8_keepAct_54 : decode cX8_keepAct 54 = .ok (.if_icmp .ge 12, 3) := by decide +kernel
theorem dX8_keepAct_57 : decode cX8_keepAct 57 = .ok (.aload_n 0, 1) := by decide +kernel
theorem dX8_keepAct_58 : decode cX8_keepAct 58 = .ok (.getfield 112, 3) := by decide +kernel
theorem dX8_keepAct_61 : decode cX8_keepAct 61 = .ok (.iconst 1, 1) := by decide +kernel
theorem dX8_keepAct_62 : decode cX8_keepAct 62 = .ok (.iadd, 1) := by decide +kernel
theorem dX8_keepAct_63 : decode cX8_keepAct 63 = .ok (.goto 5, 3) := by decide +kernel
theorem dX8_keepAct_66 : decode cX8_keepAct 66 = .ok (.bipush 14, 2) := by decide +kernel
theorem dX8_keepAct_68 : decode cX8_keepAct 68 = .ok (.putfield 112, 3) := by decide +kernel
theorem dX8_keepAct_71 : decode cX8_keepAct 71 = .ok (.return_, 1) := by decide +kernel
set_option maxRecDepth 20000 in
theorem ggX8_blow_X8_isWind : GoodIn wsX8_blow wsX8_isWind := goodIn_r _ [6, 7, 8, 9, 5, 10, 46, 47, 48, 49, 50, 51, 52, 53, 54, 55, 56, 57, 58, 59, 60, 61, 62, 63, 64, 65, 66, 67, 68, 69, 70, 71, 72, 73, 74, 75, 76] (by decide +kernel) (by decide +kernel)
set_option maxRecDepth 20000 in
theorem gX8_blow_X8_isWind : GoodIn wsX8_blow (wsV RX8 133 RX8 yX8_isWind wsX8_isWind) := goodIn_app (goodIn_of _ (by decide +kernel)) ggX8_blow_X8_isWind
set_option maxRecDepth 20000 in
theorem ggX8_blow_X8_keepAct : GoodIn wsX8_blow wsX8_keepAct := goodIn_r _ [14, 15, 16, 1, 17, 46, 47, 48, 49, 50, 51, 52, 53, 54, 55, 56, 57, 58, 59, 60, 61, 62, 63, 64, 65, 66, 67, 68, 69, 70, 71, 72, 73, 74, 75, 76] (by decide +kernel) (by decide +kernel)
set_option maxRecDepth 20000 in
theorem gX8_blow_X8_keepAct : GoodIn wsX8_blow (wsV RX8 141 RX8 yX8_keepAct wsX8_keepAct) := goodIn_app (goodIn_of _ (by decide +kernel)) ggX8_blow_X8_keepAct
set_option maxRecDepth 20000 in
theorem ggX8_blow_X8_blowOn : GoodIn wsX8_blow wsX8_blowOn := goodIn_r _ [21, 1, 22, 23, 24, 5, 25, 26, 27, 28, 29, 30, 31, 32, 33, 34, 35, 36, 8, 9, 10, 37, 38, 39, 40, 41, 42, 43, 44, 45, 46, 47, 48, 49, 50, 51, 52, 53, 54, 55, 56, 57, 58, 59, 60, 61, 62, 63, 64, 65, 66, 67, 68, 69, 70, 71, 72, 73, 74, 75, 76] (by decide +kernel) (by decide +kernel)
set_option maxRecDepth 20000 in
theorem gX8_blow_X8_blowOn : GoodIn wsX8_blow (wsV RX8 144 RX8 yX8_blowOn wsX8_blowOn) := goodIn_app (goodIn_of _ (by decide +kernel)) ggX8_blow_X8_blowOn
theorem dX8_blow_0 : decode cX8_blow 0 = .ok (.aload_n 0, 1) := by decide +kernel
theorem dX8_blow_1 : decode cX8_blow 1 = .ok (.iload_n 1, 1) := by decide +kernel
theorem dX8_blow_2 : decode cX8_blow 2 = .ok (.invokevirtual 133, 3) := by decide +kernel
theorem dX8_blow_5 : decode cX8_blow 5 = .ok (.ifCond .ne 5, 3) := by decide +kernel
theorem dX8_blow_8 : decode cX8_blow 8 = .ok (.iconst (-1), 1) := by decide +kernel
theorem dX8_blow_9 : decode cX8_blow 9 = .ok (.ireturn, 1) := by decide +kernel
theorem dX8_blow_10 : decode cX8_blow 10 = .ok (.aload_n 0, 1) := by decide +kernel
theorem dX8_blow_11 : decode cX8_blow 11 = .ok (.invokevirtual 141, 3) := by decide +kernel
theorem dX8_blow_14 : decode cX8_blow 14 = .ok (.aload_n 0, 1) := by decide +kernel
theorem dX8_blow_15 : decode cX8_blow 15 = .ok (.iconst 0, 1) := by decide +kernel
theorem dX8_blow_16 : decode cX8_blow 16 = .ok (.iload_n 1, 1) := by decide +kernel
theorem dX8_blow_17 : decode cX8_blow 17 = .ok (.invokevirtual 144, 3) := by decide +kernel
theorem dX8_blow_20 : decode cX8_blow 20 = .ok (.aload_n 0, 1) := by decide +kernel
theorem dX8_blow_21 : decode cX8_blow 21 = .ok (.getfield 19, 3) := by decide +kernel
theorem dX8_blow_24 : decode cX8_blow 24 = .ok (.bipush 25, 2) := by decide +kernel
theorem dX8_blow_26 : decode cX8_blow 26 = .ok (.iaload, 1) := by decide +kernel
theorem dX8_blow_27 : decode cX8_blow 27 = .ok (.ireturn, 1) := by decide +kernel
set_option maxRecDepth 20000 in
theorem ggX8_fell_X8_in : GoodIn wsX8_fell wsX8_in := goodIn_r _ [6] (by decide +kernel) (by decide +kernel)
set_option maxRecDepth 20000 in
theorem gX8_fell_X8_in : GoodIn wsX8_fell (va_wsS RX8 59 yX8_in wsX8_in) := goodIn_app (goodIn_of _ (by decide +kernel)) ggX8_fell_X8_in
set_option maxRecDepth 20000 in
theorem ggX8_fell_X8_keepAct : GoodIn wsX8_fell wsX8_keepAct := goodIn_r _ [10, 11, 12, 2, 13, 14, 15, 16, 17, 18, 19, 20, 21, 22, 23, 24, 25, 26, 27, 28, 29, 30, 31, 32, 33, 34, 35, 36, 37, 38, 39, 40, 41, 42, 43, 44] (by decide +kernel) (by decide +kernel)
set_option maxRecDepth 20000 in
theorem gX8_fell_X8_keepAct : GoodIn wsX8_fell (wsV RX8 141 RX8 yX8_keepAct wsX8_keepAct) := goodIn_app (goodIn_of _ (by decide +kernel)) ggX8_fell_X8_keepAct
theorem dX8_fell_0 : decode cX8_fell 0 = .ok (.iload_n 1, 1) := by decide +kernel
theorem dX8_fell_1 : decode cX8_fell 1 = .ok (.i2l, 1) := by decide +kernel
theorem dX8_fell_2 : decode cX8_fell 2 = .ok (.lconst 0, 1) := by decide +kernel
theorem dX8_fell_3 : decode cX8_fell 3 = .ok (.ldc2_w 72, 3) := by decide +kernel
theorem dX8_fell_6 : decode cX8_fell 6 = .ok (.invokestatic 59, 3) := by decide +kernel
theorem dX8_fell_9 : decode cX8_fell 9 = .ok (.ifCond .ne 6, 3) := by decide +kernel
theorem dX8_fell_12 : decode cX8_fell 12 = .ok (.bipush (-2), 2) := by decide +kernel
theorem dX8_fell_14 : decode cX8_fell 14 = .ok (.ireturn, 1) := by decide +kernel
theorem dX8_fell_15 : decode cX8_fell 15 = .ok (.aload_n 0, 1) := by decide +kernel
theorem dX8_fell_16 : decode cX8_fell 16 = .ok (.getfield 19, 3) := by decide +kernel
theorem dX8_fell_19 : decode cX8_fell 19 = .ok (.bipush 12, 2) := by decide +kernel
theorem dX8_fell_21 : decode cX8_fell 21 = .ok (.iload_n 1, 1) := by decide +kernel
theorem dX8_fell_22 : decode cX8_fell 22 = .ok (.iadd, 1) := by decide +kernel
theorem dX8_fell_23 : decode cX8_fell 23 = .ok (.iaload, 1) := by decide +kernel
theorem dX8_fell_24 : decode cX8_fell 24 = .ok (.ifCond .ne 6, 3) := by decide +kernel
theorem dX8_fell_27 : decode cX8_fell 27 = .ok (.bipush (-3), 2) := by decide +kernel
theorem dX8_fell_29 : decode cX8_fell 29 = .ok (.ireturn, 1) := by decide +kernel
theorem dX8_fell_30 : decode cX8_fell 30 = .ok (.aload_n 0, 1) := by decide +kernel
theorem dX8_fell_31 : decode cX8_fell 31 = .ok (.invokevirtual 141, 3) := by decide +kernel
theorem dX8_fell_34 : decode cX8_fell 34 = .ok (.aload_n 0, 1) := by decide +kernel
theorem dX8_fell_35 : decode cX8_fell 35 = .ok (.getfield 19, 3) := by decide +kernel
theorem dX8_fell_38 : decode cX8_fell 38 = .ok (.bipush 12, 2) := by decide +kernel
theorem dX8_fell_40 : decode cX8_fell 40 = .ok (.iload_n 1, 1) := by decide +kernel
theorem dX8_fell_41 : decode cX8_fell 41 = .ok (.iadd, 1) := by decide +kernel
theorem dX8_fell_42 : decode cX8_fell 42 = .ok (.iaload, 1) := by decide +kernel
theorem dX8_fell_43 : decode cX8_fell 43 = .ok (.istore_n 2, 1) := by decide +kernel
theorem dX8_fell_44 : decode cX8_fell 44 = .ok (.aload_n 0, 1) := by decide +kernel
theorem dX8_fell_45 : decode cX8_fell 45 = .ok (.getfield 19, 3) := by decide +kernel
theorem dX8_fell_48 : decode cX8_fell 48 = .ok (.bipush 12, 2) := by decide +kernel
theorem dX8_fell_50 : decode cX8_fell 50 = .ok (.iload_n 1, 1) := by decide +kernel
theorem dX8_fell_51 : decode cX8_fell 51 = .ok (.iadd, 1) := by decide +kernel
theorem dX8_fell_52 : decode cX8_fell 52 = .ok (.iconst 0, 1) := by decide +kernel
theorem dX8_fell_53 : decode cX8_fell 53 = .ok (.iastore, 1) := by decide +kernel
theorem dX8_fell_54 : decode cX8_fell 54 = .ok (.iload_n 2, 1) := by decide +kernel
theorem dX8_fell_55 : decode cX8_fell 55 = .ok (.ireturn, 1) := by decide +kernel
theorem dX8_isCockOn_0 : decode cX8_isCockOn 0 = .ok (.iconst 0, 1) := by decide +kernel
theorem dX8_isCockOn_1 : decode cX8_isCockOn 1 = .ok (.istore_n 2, 1) := by decide +kernel
theorem dX8_isCockOn_2 : decode cX8_isCockOn 2 = .ok (.iconst 0, 1) := by decide +kernel
theorem dX8_isCockOn_3 : decode cX8_isCockOn 3 = .ok (.istore_n 3, 1) := by decide +kernel
theorem dX8_isCockOn_4 : decode cX8_isCockOn 4 = .ok (.iload_n 3, 1) := by decide +kernel
theorem dX8_isCockOn_5 : decode cX8_isCockOn 5 = .ok (.aload_n 0, 1) := by decide +kernel
theorem dX8_isCockOn_6 : decode cX8_isCockOn 6 = .ok (.getfield 53, 3) := by decide +kernel
theorem dX8_isCockOn_9 : decode cX8_isCockOn 9 = .ok (.if_icmp .ge 29, 3) := by decide +kernel
theorem dX8_isCockOn_12 : decode cX8_isCockOn 12 = .ok (.iload_n 2, 1) := by decide +kernel
theorem dX8_isCockOn_13 : decode cX8_isCockOn 13 = .ok (.ifCond .ne 13, 3) := by decide +kernel
theorem dX8_isCockOn_16 : decode cX8_isCockOn 16 = .ok (.aload_n 0, 1) := by decide +kernel
theorem dX8_isCockOn_17 : decode cX8_isCockOn 17 = .ok (.getfield 19, 3) := by decide +kernel
theorem dX8_isCockOn_20 : decode cX8_isCockOn 20 = .ok (.iload_n 3, 1) := by decide +kernel
theorem dX8_isCockOn_21 : decode cX8_isCockOn 21 = .ok (.iaload, 1) := by decide +kernel
theorem dX8_isCockOn_22 : decode cX8_isCockOn 22 = .ok (.iload_n 1, 1) := by decide +kernel
theorem dX8_isCockOn_23 : decode cX8_isCockOn 23 = .ok (.if_icmp .ne 7, 3) := by decide +kernel
theorem dX8_isCockOn_26 : decode cX8_isCockOn 26 = .ok (.iconst 1, 1) := by decide +kernel
theorem dX8_isCockOn_27 : decode cX8_isCockOn 27 = .ok (.goto 4, 3) := by decide +kernel
theorem dX8_isCockOn_30 : decode cX8_isCockOn 30 = .ok (.iconst 0, 1) := by decide +kernel
theorem dX8_isCockOn_31 : decode cX8_isCockOn 31 = .ok (.istore_n 2, 1) := by decide +kernel
theorem dX8_isCockOn_32 : decode cX8_isCockOn 32 = .ok (.iinc 3 1, 3) := by decide +kernel
theorem dX8_isCockOn_35 : decode cX8_isCockOn 35 = .ok (.goto (-31), 3) := by decide +kernel
theorem dX8_isCockOn_38 : decode cX8_isCockOn 38 = .ok (.iload_n 2, 1) := by decide +kernel
theorem dX8_isCockOn_39 : decode cX8_isCockOn 39 = .ok (.ireturn, 1) := by decide +kernel
set_option maxRecDepth 20000 in
theorem ggX8_move_X8_isCock : GoodIn wsX8_move wsX8_isCock := goodIn_r _ [7, 8, 9, 10, 6, 11, 23, 24, 25, 26, 27, 28, 29, 30, 31, 32, 33, 34, 35, 36, 37, 38, 39, 40, 41, 42, 43, 44, 45, 46, 47, 48, 49, 50, 51, 52, 53] (by decide +kernel) (by decide +kernel)
set_option maxRecDepth 20000 in
theorem gX8_move_X8_isCock : GoodIn wsX8_move (wsV RX8 115 RX8 yX8_isCock wsX8_isCock) := goodIn_app (goodIn_of _ (by decide +kernel)) ggX8_move_X8_isCock
set_option maxRecDepth 20000 in
theorem ggX8_move_X8_in : GoodIn wsX8_move wsX8_in := goodIn_r _ [11] (by decide +kernel) (by decide +kernel)
set_option maxRecDepth 20000 in
theorem gX8_move_X8_in : GoodIn wsX8_move (va_wsS RX8 59 yX8_in wsX8_in) := goodIn_app (goodIn_of _ (by decide +kernel)) ggX8_move_X8_in
set_option maxRecDepth 20000 in
theorem ggX8_move_X8_isCockOn : GoodIn wsX8_move wsX8_isCockOn := goodIn_r _ [15, 8, 2, 23, 24, 25, 26, 27, 28, 29, 30, 31, 32, 33, 34, 35, 36, 37, 38, 39, 40, 41, 42, 43, 44, 45, 46, 47, 48, 49, 50, 51, 52, 53] (by decide +kernel) (by decide +kernel)
set_option maxRecDepth 20000 in
theorem gX8_move_X8_isCockOn : GoodIn wsX8_move (wsV RX8 148 RX8 yX8_isCockOn wsX8_isCockOn) := goodIn_app (goodIn_of _ (by decide +kernel)) ggX8_move_X8_isCockOn
set_option maxRecDepth 20000 in
theorem ggX8_move_X8_keepAct : GoodIn wsX8_move wsX8_keepAct := goodIn_r _ [19, 20, 21, 2, 22, 23, 24, 25, 26, 27, 28, 29, 30, 31, 32, 33, 34, 35, 36, 37, 38, 39, 40, 41, 42, 43, 44, 45, 46, 47, 48, 49, 50, 51, 52, 53] (by decide +kernel) (by decide +kernel)
set_option maxRecDepth 20000 in
theorem gX8_move_X8_keepAct : GoodIn wsX8_move (wsV RX8 141 RX8 yX8_keepAct wsX8_keepAct) := goodIn_app (goodIn_of _ (by decide +kernel)) ggX8_move_X8_keepAct
theorem dX8_move_0 : decode cX8_move 0 = .ok (.aload_n 0, 1) := by decide +kernel
theorem dX8_move_1 : decode cX8_move 1 = .ok (.iload_n 1, 1) := by decide +kernel
theorem dX8_move_2 : decode cX8_move 2 = .ok (.invokevirtual 115, 3) := by decide +kernel
theorem dX8_move_5 : decode cX8_move 5 = .ok (.ifCond .ne 5, 3) := by decide +kernel
theorem dX8_move_8 : decode cX8_move 8 = .ok (.iconst (-1), 1) := by decide +kernel
theorem dX8_move_9 : decode cX8_move 9 = .ok (.ireturn, 1) := by decide +kernel
theorem dX8_move_10 : decode cX8_move 10 = .ok (.iload_n 2, 1) := by decide +kernel
theorem dX8_move_11 : decode cX8_move 11 = .ok (.i2l, 1) := by decide +kernel
theorem dX8_move_12 : decode cX8_move 12 = .ok (.lconst 0, 1) := by decide +kernel
theorem dX8_move_13 : decode cX8_move 13 = .ok (.ldc2_w 72, 3) := by decide +kernel
theorem dX8_move_16 : decode cX8_move 16 = .ok (.invokestatic 59, 3) := by decide +kernel
theorem dX8_move_19 : decode cX8_move 19 = .ok (.ifCond .ne 6, 3) := by decide +kernel
theorem dX8_move_22 : decode cX8_move 22 = .ok (.bipush (-2), 2) := by decide +kernel
theorem dX8_move_24 : decode cX8_move 24 = .ok (.ireturn, 1) := by decide +kernel
theorem dX8_move_25 : decode cX8_move 25 = .ok (.aload_n 0, 1) := by decide +kernel
theorem dX8_move_26 : decode cX8_move 26 = .ok (.iload_n 2, 1) := by decide +kernel
theorem dX8_move_27 : decode cX8_move 27 = .ok (.invokevirtual 148, 3) := by decide +kernel
theorem dX8_move_30 : decode cX8_move 30 = .ok (.ifCond .eq 6, 3) := by decide +kernel
theorem dX8_move_33 : decode cX8_move 33 = .ok (.bipush (-3), 2) := by decide +kernel
theorem dX8_move_35 : decode cX8_move 35 = .ok (.ireturn, 1) := by decide +kernel
theorem dX8_move_36 : decode cX8_move 36 = .ok (.aload_n 0, 1) := by decide +kernel
theorem dX8_move_37 : decode cX8_move 37 = .ok (.invokevirtual 141, 3) := by decide +kernel
theorem dX8_move_40 : decode cX8_move 40 = .ok (.aload_n 0, 1) := by decide +kernel
theorem dX8_move_41 : decode cX8_move 41 = .ok (.getfield 19, 3) := by decide +kernel
theorem dX8_move_44 : decode cX8_move 44 = .ok (.iload_n 1, 1) := by decide +kernel
theorem dX8_move_45 : decode cX8_move 45 = .ok (.iaload, 1) := by decide +kernel
theorem dX8_move_46 : decode cX8_move 46 = .ok (.istore_n 3, 1) := by decide +kernel
theorem dX8_move_47 : decode cX8_move 47 = .ok (.aload_n 0, 1) := by decide +kernel
theorem dX8_move_48 : decode cX8_move 48 = .ok (.getfield 19, 3) := by decide +kernel
theorem dX8_move_51 : decode cX8_move 51 = .ok (.iload_n 1, 1) := by decide +kernel
theorem dX8_move_52 : decode cX8_move 52 = .ok (.iload_n 2, 1) := by decide +kernel
theorem dX8_move_53 : decode cX8_move 53 = .ok (.iastore, 1) := by decide +kernel
theorem dX8_move_54 : decode cX8_move 54 = .ok (.iload_n 3, 1) := by decide +kernel
theorem dX8_move_55 : decode cX8_move 55 = .ok (.ireturn, 1) := by decide +kernel
set_option maxRecDepth 20000 in
theorem ggX8_grease_X8_isCock : GoodIn wsX8_grease wsX8_isCock := goodIn_r _ [6, 7, 8, 9, 5, 10, 18, 19, 20, 21, 22, 23, 24, 25, 26, 27, 28, 29, 30, 31, 32, 33, 34, 35, 36, 37, 38, 39, 40, 41, 42, 43, 44, 45, 46, 47, 48] (by decide +kernel) (by decide +kernel)
set_option maxRecDepth 20000 in
theorem gX8_grease_X8_isCock : GoodIn wsX8_grease (wsV RX8 115 RX8 yX8_isCock wsX8_isCock) := goodIn_app (goodIn_of _ (by decide +kernel)) ggX8_grease_X8_isCock
set_option maxRecDepth 20000 in
theorem ggX8_grease_X8_keepAct : GoodIn wsX8_grease wsX8_keepAct := goodIn_r _ [14, 15, 16, 1, 17, 18, 19, 20, 21, 22, 23, 24, 25, 26, 27, 28, 29, 30, 31, 32, 33, 34, 35, 36, 37, 38, 39, 40, 41, 42, 43, 44, 45, 46, 47, 48] (by decide +kernel) (by decide +kernel)
set_option maxRecDepth 20000 in
theorem gX8_grease_X8_keepAct : GoodIn wsX8_grease (wsV RX8 141 RX8 yX8_keepAct wsX8_keepAct) := goodIn_app (goodIn_of _ (by decide +kernel)) ggX8_grease_X8_keepAct
theorem dX8_grease_0 : decode cX8_grease 0 = .ok (.aload_n 0, 1) := by decide +kernel
theorem dX8_grease_1 : decode cX8_grease 1 = .ok (.iload_n 1, 1) := by decide +kernel
theorem dX8_grease_2 : decode cX8_grease 2 = .ok (.invokevirtual 115, 3) := by decide +kernel
theorem dX8_grease_5 : decode cX8_grease 5 = .ok (.ifCond .ne 5, 3) := by decide +kernel
theorem dX8_grease_8 : decode cX8_grease 8 = .ok (.iconst (-1), 1) := by decide +kernel
theorem dX8_grease_9 : decode cX8_grease 9 = .ok (.ireturn, 1) := by decide +kernel
theorem dX8_grease_10 : decode cX8_grease 10 = .ok (.aload_n 0, 1) := by decide +kernel
theorem dX8_grease_11 : decode cX8_grease 11 = .ok (.getfield 19, 3) := by decide +kernel
theorem dX8_grease_14 : decode cX8_grease 14 = .ok (.bipush 6, 2) := by decide +kernel
theorem dX8_grease_16 : decode cX8_grease 16 = .ok (.iload_n 1, 1) := by decide +kernel
theorem dX8_grease_17 : decode cX8_grease 17 = .ok (.iadd, 1) := by decide +kernel
theorem dX8_grease_18 : decode cX8_grease 18 = .ok (.iaload, 1) := by decide +kernel
theorem dX8_grease_19 : decode cX8_grease 19 = .ok (.ifCond .ne 6, 3) := by decide +kernel
theorem dX8_grease_22 : decode cX8_grease 22 = .ok (.bipush (-3), 2) := by decide +kernel
theorem dX8_grease_24 : decode cX8_grease 24 = .ok (.ireturn, 1) := by decide +kernel
theorem dX8_grease_25 : decode cX8_grease 25 = .ok (.aload_n 0, 1) := by decide +kernel
theorem dX8_grease_26 : decode cX8_grease 26 = .ok (.invokevirtual 141, 3) := by decide +kernel
theorem dX8_grease_29 : decode cX8_grease 29 = .ok (.aload_n 0, 1) := by decide +kernel
theorem dX8_grease_30 : decode cX8_grease 30 = .ok (.getfield 19, 3) := by decide +kernel
theorem dX8_grease_33 : decode cX8_grease 33 = .ok (.bipush 6, 2) := by decide +kernel
theorem dX8_grease_35 : decode cX8_grease 35 = .ok (.iload_n 1, 1) := by decide +kernel
theorem dX8_grease_36 : decode cX8_grease 36 = .ok (.iadd, 1) := by decide +kernel
theorem dX8_grease_37 : decode cX8_grease 37 = .ok (.iaload, 1) := by decide +kernel
theorem dX8_grease_38 : decode cX8_grease 38 = .ok (.istore_n 2, 1) := by decide +kernel
theorem dX8_grease_39 : decode cX8_grease 39 = .ok (.aload_n 0, 1) := by decide +kernel
theorem dX8_grease_40 : decode cX8_grease 40 = .ok (.getfield 19, 3) := by decide +kernel
theorem dX8_grease_43 : decode cX8_grease 43 = .ok (.bipush 6, 2) := by decide +kernel
theorem dX8_grease_45 : decode cX8_grease 45 = .ok (.iload_n 1, 1) := by decide +kernel
theorem dX8_grease_46 : decode cX8_grease 46 = .ok (.iadd, 1) := by decide +kernel
theorem dX8_grease_47 : decode cX8_grease 47 = .ok (.iconst 0, 1) := by decide +kernel
theorem dX8_grease_48 : decode cX8_grease 48 = .ok (.iastore, 1) := by decide +kernel
theorem dX8_grease_49 : decode cX8_grease 49 = .ok (.iload_n 2, 1) := by decide +kernel
theorem dX8_grease_50 : decode cX8_grease 50 = .ok (.ireturn, 1) := by decide +kernel
set_option maxRecDepth 20000 in
theorem ggX8_capture_X8_isCock : GoodIn wsX8_capture wsX8_isCock := goodIn_r _ [6, 7, 8, 9, 5, 10, 18, 19, 20, 21, 22, 23, 24, 25, 26, 27, 28, 29, 30, 31, 32, 33, 34, 35, 36, 37, 38, 39, 40, 41, 42, 43, 44, 45, 46, 47, 48] (by decide +kernel) (by decide +kernel)
set_option maxRecDepth 20000 in
theorem gX8_capture_X8_isCock : GoodIn wsX8_capture (wsV RX8 115 RX8 yX8_isCock wsX8_isCock) := goodIn_app (goodIn_of _ (by decide +kernel)) ggX8_capture_X8_isCock
set_option maxRecDepth 20000 in
theorem ggX8_capture_X8_keepAct : GoodIn wsX8_capture wsX8_keepAct := goodIn_r _ [14, 15, 16, 1, 17, 18, 19, 20, 21, 22, 23, 24, 25, 26, 27, 28, 29, 30, 31, 32, 33, 34, 35, 36, 37, 38, 39, 40, 41, 42, 43, 44, 45, 46, 47, 48] (by decide +kernel) (by decide +kernel)
set_option maxRecDepth 20000 in
theorem gX8_capture_X8_keepAct : GoodIn wsX8_capture (wsV RX8 141 RX8 yX8_keepAct wsX8_keepAct) := goodIn_app (goodIn_of _ (by decide +kernel)) ggX8_capture_X8_keepAct
theorem dX8_capture_0 : decode cX8_capture 0 = .ok (.aload_n 0, 1) := by decide +kernel
theorem dX8_capture_1 : decode cX8_capture 1 = .ok (.iload_n 1, 1) := by decide +kernel
theorem dX8_capture_2 : decode cX8_capture 2 = .ok (.invokevirtual 115, 3) := by decide +kernel
theorem dX8_capture_5 : decode cX8_capture 5 = .ok (.ifCond .ne 5, 3) := by decide +kernel
theorem dX8_capture_8 : decode cX8_capture 8 = .ok (.iconst (-1), 1) := by decide +kernel
theorem dX8_capture_9 : decode cX8_capture 9 = .ok (.ireturn, 1) := by decide +kernel
theorem dX8_capture_10 : decode cX8_capture 10 = .ok (.aload_n 0, 1) := by decide +kernel
theorem dX8_capture_11 : decode cX8_capture 11 = .ok (.invokevirtual 141, 3) := by decide +kernel
theorem dX8_capture_14 : decode cX8_capture 14 = .ok (.aload_n 0, 1) := by decide +kernel
theorem dX8_capture_15 : decode cX8_capture 15 = .ok (.getfield 19, 3) := by decide +kernel
theorem dX8_capture_18 : decode cX8_capture 18 = .ok (.bipush 22, 2) := by decide +kernel
theorem dX8_capture_20 : decode cX8_capture 20 = .ok (.dup2, 1) := by decide +kernel
theorem dX8_capture_21 : decode cX8_capture 21 = .ok (.iaload, 1) := by decide +kernel
theorem dX8_capture_22 : decode cX8_capture 22 = .ok (.iconst 1, 1) := by decide +kernel
theorem dX8_capture_23 : decode cX8_capture 23 = .ok (.iload_n 1, 1) := by decide +kernel
theorem dX8_capture_24 : decode cX8_capture 24 = .ok (.ishl, 1) := by decide +kernel
theorem dX8_capture_25 : decode cX8_capture 25 = .ok (.ixor, 1) := by decide +kernel
theorem dX8_capture_26 : decode cX8_capture 26 = .ok (.iastore, 1) := by decide +kernel
theorem dX8_capture_27 : decode cX8_capture 27 = .ok (.aload_n 0, 1) := by decide +kernel
theorem dX8_capture_28 : decode cX8_capture 28 = .ok (.getfield 19, 3) := by decide +kernel
theorem dX8_capture_31 : decode cX8_capture 31 = .ok (.bipush 22, 2) := by decide +kernel
theorem dX8_capture_33 : decode cX8_capture 33 = .ok (.iaload, 1) := by decide +kernel
theorem dX8_capture_34 : decode cX8_capture 34 = .ok (.iload_n 1, 1) := by decide +kernel
theorem dX8_capture_35 : decode cX8_capture 35 = .ok (.ishr, 1) := by decide +kernel
theorem dX8_capture_36 : decode cX8_capture 36 = .ok (.iconst 1, 1) := by decide +kernel
theorem dX8_capture_37 : decode cX8_capture 37 = .ok (.iand, 1) := by decide +kernel
theorem dX8_capture_38 : decode cX8_capture 38 = .ok (.ireturn, 1) := by decide +kernel
set_option maxRecDepth 20000 in
theorem ggX8_hold_X8_isCock : GoodIn wsX8_hold wsX8_isCock := goodIn_r _ [6, 7, 8, 9, 5, 10, 18, 19, 20, 21, 22, 23, 24, 25, 26, 27, 28, 29, 30, 31, 32, 33, 34, 35, 36, 37, 38, 39, 40, 41, 42, 43, 44, 45, 46, 47, 48] (by decide +kernel) (by decide +kernel)
set_option maxRecDepth 20000 in
theorem gX8_hold_X8_isCock : GoodIn wsX8_hold (wsV RX8 115 RX8 yX8_isCock wsX8_isCock) := goodIn_app (goodIn_of _ (by decide +kernel)) ggX8_hold_X8_isCock
set_option maxRecDepth 20000 in
theorem ggX8_hold_X8_keepAct : GoodIn wsX8_hold wsX8_keepAct := goodIn_r _ [14, 15, 16, 1, 17, 18, 19, 20, 21, 22, 23, 24, 25, 26, 27, 28, 29, 30, 31, 32, 33, 34, 35, 36, 37, 38, 39, 40, 41, 42, 43, 44, 45, 46, 47, 48] (by decide +kernel) (by decide +kernel)
set_option maxRecDepth 20000 in
theorem gX8_hold_X8_keepAct : GoodIn wsX8_hold (wsV RX8 141 RX8 yX8_keepAct wsX8_keepAct) := goodIn_app (goodIn_of _ (by decide +kernel)) ggX8_hold_X8_keepAct
theorem dX8_hold_0 : decode cX8_hold 0 = .ok (.aload_n 0, 1) := by decide +kernel
theorem dX8_hold_1 : decode cX8_hold 1 = .ok (.iload_n 1, 1) := by decide +kernel
theorem dX8_hold_2 : decode cX8_hold 2 = .ok (.invokevirtual 115, 3) := by decide +kernel
theorem dX8_hold_5 : decode cX8_hold 5 = .ok (.ifCond .ne 5, 3) := by decide +kernel
theorem dX8_hold_8 : decode cX8_hold 8 = .ok (.iconst (-1), 1) := by decide +kernel
theorem dX8_hold_9 : decode cX8_hold 9 = .ok (.ireturn, 1) := by decide +kernel
theorem dX8_hold_10 : decode cX8_hold 10 = .ok (.aload_n 0, 1) := by decide +kernel
theorem dX8_hold_11 : decode cX8_hold 11 = .ok (.invokevirtual 141, 3) := by decide +kernel
theorem dX8_hold_14 : decode cX8_hold 14 = .ok (.aload_n 0, 1) := by decide +kernel
theorem dX8_hold_15 : decode cX8_hold 15 = .ok (.getfield 19, 3) := by decide +kernel
theorem dX8_hold_18 : decode cX8_hold 18 = .ok (.bipush 24, 2) := by decide +kernel
theorem dX8_hold_20 : decode cX8_hold 20 = .ok (.dup2, 1) := by decide +kernel
theorem dX8_hold_21 : decode cX8_hold 21 = .ok (.iaload, 1) := by decide +kernel
theorem dX8_hold_22 : decode cX8_hold 22 = .ok (.iconst 1, 1) := by decide +kernel
theorem dX8_hold_23 : decode cX8_hold 23 = .ok (.iload_n 1, 1) := by decide +kernel
theorem dX8_hold_24 : decode cX8_hold 24 = .ok (.ishl, 1) := by decide +kernel
theorem dX8_hold_25 : decode cX8_hold 25 = .ok (.ixor, 1) := by decide +kernel
theorem dX8_hold_26 : decode cX8_hold 26 = .ok (.iastore, 1) := by decide +kernel
theorem dX8_hold_27 : decode cX8_hold 27 = .ok (.aload_n 0, 1) := by decide +kernel
theorem dX8_hold_28 : decode cX8_hold 28 = .ok (.getfield 19, 3) := by decide +kernel
theorem dX8_hold_31 : decode cX8_hold 31 = .ok (.bipush 24, 2) := by decide +kernel
theorem dX8_hold_33 : decode cX8_hold 33 = .ok (.iaload, 1) := by decide +kernel
theorem dX8_hold_34 : decode cX8_hold 34 = .ok (.iload_n 1, 1) := by decide +kernel
theorem dX8_hold_35 : decode cX8_hold 35 = .ok (.ishr, 1) := by decide +kernel
theorem dX8_hold_36 : decode cX8_hold 36 = .ok (.iconst 1, 1) := by decide +kernel
theorem dX8_hold_37 : decode cX8_hold 37 = .ok (.iand, 1) := by decide +kernel
theorem dX8_hold_38 : decode cX8_hold 38 = .ok (.ireturn, 1) := by decide +kernel
theorem dX8_undo_0 : decode cX8_undo 0 = .ok (.aload_n 0, 1) := by decide +kernel
theorem dX8_undo_1 : decode cX8_undo 1 = .ok (.getfield 112, 3) := by decide +kernel
theorem dX8_undo_4 : decode cX8_undo 4 = .ok (.ifCond .ne 6, 3) := by decide +kernel
theorem dX8_undo_7 : decode cX8_undo 7 = .ok (.bipush (-3), 2) := by decide +kernel
theorem dX8_undo_9 : decode cX8_undo 9 = .ok (.ireturn, 1) := by decide +kernel
theorem dX8_undo_10 : decode cX8_undo 10 = .ok (.aload_n 0, 1) := by decide +kernel
theorem dX8_undo_11 : decode cX8_undo 11 = .ok (.dup, 1) := by decide +kernel
theorem dX8_undo_12 : decode cX8_undo 12 = .ok (.getfield 112, 3) := by decide +kernel
theorem dX8_undo_15 : decode cX8_undo 15 = .ok (.iconst 1, 1) := by decide +kernel
theorem dX8_undo_16 : decode cX8_undo 16 = .ok (.isub, 1) := by decide +kernel
theorem dX8_undo_17 : decode cX8_undo 17 = .ok (.putfield 112, 3) := by decide +kernel
theorem dX8_undo_20 : decode cX8_undo 20 = .ok (.aload_n 0, 1) := by decide +kernel
theorem dX8_undo_21 : decode cX8_undo 21 = .ok (.aload_n 0, 1) := by decide +kernel
theorem dX8_undo_22 : decode cX8_undo 22 = .ok (.getfield 138, 3) := by decide +kernel
theorem dX8_undo_25 : decode cX8_undo 25 = .ok (.bipush 13, 2) := by decide +kernel
theorem dX8_undo_27 : decode cX8_undo 27 = .ok (.iadd, 1) := by decide +kernel
theorem dX8_undo_28 : decode cX8_undo 28 = .ok (.bipush 14, 2) := by decide +kernel
theorem dX8_undo_30 : decode cX8_undo 30 = .ok (.irem, 1) := by decide +kernel
theorem dX8_undo_31 : decode cX8_undo 31 = .ok (.putfield 138, 3) := by decide +kernel
theorem dX8_undo_34 : decode cX8_undo 34 = .ok (.iconst 0, 1) := by decide +kernel
theorem dX8_undo_35 : decode cX8_undo 35 = .ok (.istore_n 1, 1) := by decide +kernel
theorem dX8_undo_36 : decode cX8_undo 36 = .ok (.iload_n 1, 1) := by decide +kernel
theorem dX8_undo_37 : decode cX8_undo 37 = .ok (.bipush 27, 2) := by decide +kernel
theorem dX8_undo_39 : decode cX8_undo 39 = .ok (.if_icmp .ge 29, 3) := by decide +kernel
theorem dX8_undo_42 : decode cX8_undo 42 = .ok (.aload_n 0, 1) := by decide +kernel
theorem dX8_undo_43 : decode cX8_undo 43 = .ok (.getfield 19, 3) := by decide +kernel
theorem dX8_undo_46 : decode cX8_undo 46 = .ok (.iload_n 1, 1) := by decide +kernel
theorem dX8_undo_47 : decode cX8_undo 47 = .ok (.aload_n 0, 1) := by decide +kernel
theorem dX8_undo_48 : decode cX8_undo 48 = .ok (.getfield 37, 3) := by decide +kernel
theorem dX8_undo_51 : decode cX8_undo 51 = .ok (.bipush 27, 2) := by decide +kernel
theorem dX8_undo_53 : decode cX8_undo 53 = .ok (.aload_n 0, 1) := by decide +kernel
theorem dX8_undo_54 : decode cX8_undo 54 = .ok (.getfield 138, 3) := by decide +kernel
theorem dX8_undo_57 : decode cX8_undo 57 = .ok (.imul, 1) := by decide +kernel
theorem dX8_undo_58 : decode cX8_undo 58 = .ok (.iload_n 1, 1) := by decide +kernel
theorem dX8_undo_59 : decode cX8_undo 59 = .ok (.iadd, 1) := by decide +kernel
theorem dX8_undo_60 : decode cX8_undo 60 = .ok (.iaload, 1) := by decide +kernel
theorem dX8_undo_61 : decode cX8_undo 61 = .ok (.iastore, 1) := by decide +kernel
theorem dX8_undo_62 : decode cX8_undo 62 = .ok (.iinc 1 1, 3) := by decide +kernel
theorem dX8_undo_65 : decode cX8_undo 65 = .ok (.goto (-29), 3) := by decide +kernel
theorem dX8_undo_68 : decode cX8_undo 68 = .ok (.aload_n 0, 1) := by decide +kernel
theorem dX8_undo_69 : decode cX8_undo 69 = .ok (.getfield 112, 3) := by decide +kernel
theorem dX8_undo_72 : decode cX8_undo 72 = .ok (.ireturn, 1) := by decide +kernel
set_option maxRecDepth 20000 in
theorem ggX8_underOf_X8_pointsBy : GoodIn wsX8_underOf wsX8_pointsBy := goodIn_r _ [5, 6, 7, 8, 9, 10, 4, 11, 12, 13, 14, 15, 16, 17, 18, 19, 20, 30, 31, 32, 33, 34, 35, 36, 37, 38, 39, 40, 41, 42, 43, 44, 45, 46, 47, 48, 49, 50, 51, 52, 53, 54, 55, 56, 57, 58, 59, 60] (by decide +kernel) (by decide +kernel)
set_option maxRecDepth 20000 in
theorem gX8_underOf_X8_pointsBy : GoodIn wsX8_underOf (wsV RX8 127 RX8 yX8_pointsBy wsX8_pointsBy) := goodIn_app (goodIn_of _ (by decide +kernel)) ggX8_underOf_X8_pointsBy
set_option maxRecDepth 20000 in
theorem ggX8_underOf_X8_brookBy : GoodIn wsX8_underOf wsX8_brookBy := goodIn_r _ [24, 6, 25, 26, 27, 4, 28, 7, 29, 9, 10, 11, 30, 31, 32, 33, 34, 35, 36, 37, 38, 39, 40, 41, 42, 43, 44, 45, 46, 47, 48, 49, 50, 51, 52, 53, 54, 55, 56, 57, 58, 59, 60] (by decide +kernel) (by decide +kernel)
set_option maxRecDepth 20000 in
theorem gX8_underOf_X8_brookBy : GoodIn wsX8_underOf (wsV RX8 130 RX8 yX8_brookBy wsX8_brookBy) := goodIn_app (goodIn_of _ (by decide +kernel)) ggX8_underOf_X8_brookBy
theorem dX8_underOf_0 : decode cX8_underOf 0 = .ok (.aload_n 0, 1) := by decide +kernel
theorem dX8_underOf_1 : decode cX8_underOf 1 = .ok (.iload_n 1, 1) := by decide +kernel
theorem dX8_underOf_2 : decode cX8_underOf 2 = .ok (.aload_n 0, 1) := by decide +kernel
theorem dX8_underOf_3 : decode cX8_underOf 3 = .ok (.iload_n 1, 1) := by decide +kernel
theorem dX8_underOf_4 : decode cX8_underOf 4 = .ok (.iload_n 2, 1) := by decide +kernel
theorem dX8_underOf_5 : decode cX8_underOf 5 = .ok (.iload_n 3, 1) := by decide +kernel
theorem dX8_underOf_6 : decode cX8_underOf 6 = .ok (.invokevirtual 127, 3) := by decide +kernel
theorem dX8_underOf_9 : decode cX8_underOf 9 = .ok (.invokevirtual 130, 3) := by decide +kernel
theorem dX8_underOf_12 : decode cX8_underOf 12 = .ok (.ireturn, 1) := by decide +kernel
set_option maxRecDepth 20000 in
theorem ggX8_under_X8_isWind : GoodIn wsX8_under wsX8_isWind := goodIn_r _ [6, 7, 8, 9, 5, 10, 39, 40, 41, 42, 43, 44, 45, 46, 47, 48, 49, 50, 51, 52, 53, 54, 55, 56, 57, 58, 59, 60, 61, 62, 63, 64, 65, 66, 67, 68, 69] (by decide +kernel) (by decide +kernel)
set_option maxRecDepth 20000 in
theorem gX8_under_X8_isWind : GoodIn wsX8_under (wsV RX8 133 RX8 yX8_isWind wsX8_isWind) := goodIn_app (goodIn_of _ (by decide +kernel)) ggX8_under_X8_isWind
set_option maxRecDepth 20000 in
theorem ggX8_under_X8_underOf : GoodIn wsX8_under wsX8_underOf := goodIn_r _ [14, 15, 16, 17, 5, 18, 1, 19, 20, 21, 22, 23, 24, 25, 26, 27, 28, 29, 8, 9, 10, 30, 31, 32, 33, 34, 35, 36, 37, 38, 39, 40, 41, 42, 43, 44, 45, 46, 47, 48, 49, 50, 51, 52, 53, 54, 55, 56, 57, 58, 59, 60, 61, 62, 63, 64, 65, 66, 67, 68, 69] (by decide +kernel) (by decide +kernel)
set_option maxRecDepth 20000 in
theorem gX8_under_X8_underOf : GoodIn wsX8_under (wsV RX8 151 RX8 yX8_underOf wsX8_underOf) := goodIn_app (goodIn_of _ (by decide +kernel)) ggX8_under_X8_underOf
theorem dX8_under_0 : decode cX8_under 0 = .ok (.aload_n 0, 1) := by decide +kernel
theorem dX8_under_1 : decode cX8_under 1 = .ok (.iload_n 1, 1) := by decide +kernel
theorem dX8_under_2 : decode cX8_under 2 = .ok (.invokevirtual 133, 3) := by decide +kernel
theorem dX8_under_5 : decode cX8_under 5 = .ok (.ifCond .eq 19, 3) := by decide +kernel
theorem dX8_under_8 : decode cX8_under 8 = .ok (.aload_n 0, 1) := by decide +kernel
theorem dX8_under_9 : decode cX8_under 9 = .ok (.iconst 0, 1) := by decide +kernel
theorem dX8_under_10 : decode cX8_under 10 = .ok (.iload_n 1, 1) := by decide +kernel
theorem dX8_under_11 : decode cX8_under 11 = .ok (.aload_n 0, 1) := by decide +kernel
theorem dX8_under_12 : decode cX8_under 12 = .ok (.getfield 19, 3) := by decide +kernel
theorem dX8_under_15 : decode cX8_under 15 = .ok (.bipush 24, 2) := by decide +kernel
theorem dX8_under_17 : decode cX8_under 17 = .ok (.iaload, 1) := by decide +kernel
theorem dX8_under_18 : decode cX8_under 18 = .ok (.invokevirtual 151, 3) := by decide +kernel
theorem dX8_under_21 : decode cX8_under 21 = .ok (.goto 4, 3) := by decide +kernel
theorem dX8_under_24 : decode cX8_under 24 = .ok (.iconst (-1), 1) := by decide +kernel
theorem dX8_under_25 : decode cX8_under 25 = .ok (.ireturn, 1) := by decide +kernel
set_option maxRecDepth 20000 in
theorem ggX8_yearOf_X8_underOf : GoodIn wsX8_yearOf wsX8_underOf := goodIn_r _ [8, 9, 10, 11, 7, 12, 2, 13, 3, 14, 15, 16, 17, 18, 19, 20, 21, 22, 23, 24, 25, 26, 27, 28, 29, 30, 31, 32, 33, 34, 35, 36, 37, 38, 39, 40, 41, 42, 43, 44, 45, 46, 47, 48, 49, 50, 51, 52, 53, 54, 55, 56, 57, 58, 59, 60, 61, 62, 63, 64, 65] (by decide +kernel) (by decide +kernel)
set_option maxRecDepth 20000 in
theorem gX8_yearOf_X8_underOf : GoodIn wsX8_yearOf (wsV RX8 151 RX8 yX8_underOf wsX8_underOf) := goodIn_app (goodIn_of _ (by decide +kernel)) ggX8_yearOf_X8_underOf
theorem dX8_yearOf_0 : decode cX8_yearOf 0 = .ok (.iconst 0, 1) := by decide +kernel
theorem dX8_yearOf_1 : decode cX8_yearOf 1 = .ok (.istore_n 2, 1) := by decide +kernel
theorem dX8_yearOf_2 : decode cX8_yearOf 2 = .ok (.iconst 0, 1) := by decide +kernel
theorem dX8_yearOf_3 : decode cX8_yearOf 3 = .ok (.istore_n 3, 1) := by decide +kernel
theorem dX8_yearOf_4 : decode cX8_yearOf 4 = .ok (.iload_n 3, 1) := by decide +kernel
theorem dX8_yearOf_5 : decode cX8_yearOf 5 = .ok (.aload_n 0, 1) := by decide +kernel
theorem dX8_yearOf_6 : decode cX8_yearOf 6 = .ok (.getfield 109, 3) := by decide +kernel
theorem dX8_yearOf_9 : decode cX8_yearOf 9 = .ok (.if_icmp .ge 43, 3) := by decide +kernel
theorem dX8_yearOf_12 : decode cX8_yearOf 12 = .ok (.iload_n 2, 1) := by decide +kernel
theorem dX8_yearOf_13 : decode cX8_yearOf 13 = .ok (.aload_n 0, 1) := by decide +kernel
theorem dX8_yearOf_14 : decode cX8_yearOf 14 = .ok (.iconst 0, 1) := by decide +kernel
theorem dX8_yearOf_15 : decode cX8_yearOf 15 = .ok (.iload_n 3, 1) := by decide +kernel
theorem dX8_yearOf_16 : decode cX8_yearOf 16 = .ok (.aload_n 0, 1) := by decide +kernel
theorem dX8_yearOf_17 : decode cX8_yearOf 17 = .ok (.getfield 19, 3) := by decide +kernel
theorem dX8_yearOf_20 : decode cX8_yearOf 20 = .ok (.bipush 24, 2) := by decide +kernel
theorem dX8_yearOf_22 : decode cX8_yearOf 22 = .ok (.iaload, 1) := by decide +kernel
theorem dX8_yearOf_23 : decode cX8_yearOf 23 = .ok (.invokevirtual 151, 3) := by decide +kernel
theorem dX8_yearOf_26 : decode cX8_yearOf 26 = .ok (.iload_n 1, 1) := by decide +kernel
theorem dX8_yearOf_27 : decode cX8_yearOf 27 = .ok (.if_icmp .ne 16, 3) := by decide +kernel
theorem dX8_yearOf_30 : decode cX8_yearOf 30 = .ok (.aload_n 0, 1) := by decide +kernel
theorem dX8_yearOf_31 : decode cX8_yearOf 31 = .ok (.getfield 16, 3) := by decide +kernel
theorem dX8_yearOf_34 : decode cX8_yearOf 34 = .ok (.iconst 3, 1) := by decide +kernel
theorem dX8_yearOf_35 : decode cX8_yearOf 35 = .ok (.iload_n 3, 1) := by decide +kernel
theorem dX8_yearOf_36 : decode cX8_yearOf 36 = .ok (.imul, 1) := by decide +kernel
theorem dX8_yearOf_37 : decode cX8_yearOf 37 = .ok (.iconst 2, 1) := by decide +kernel
theorem dX8_yearOf_38 : decode cX8_yearOf 38 = .ok (.iadd, 1) := by decide +kernel
theorem dX8_yearOf_39 : decode cX8_yearOf 39 = .ok (.iaload, 1) := by decide +kernel
theorem dX8_yearOf_40 : decode cX8_yearOf 40 = .ok (.goto 4, 3) := by decide +kernel
theorem dX8_yearOf_43 : decode cX8_yearOf 43 = .ok (.iconst 0, 1) := by decide +kernel
theorem dX8_yearOf_44 : decode cX8_yearOf 44 = .ok (.iadd, 1) := by decide +kernel
theorem dX8_yearOf_45 : decode cX8_yearOf 45 = .ok (.istore_n 2, 1) := by decide +kernel
theorem dX8_yearOf_46 : decode cX8_yearOf 46 = .ok (.iinc 3 1, 3) := by decide +kernel
theorem dX8_yearOf_49 : decode cX8_yearOf 49 = .ok (.goto (-45), 3) := by decide +kernel
theorem dX8_yearOf_52 : decode cX8_yearOf 52 = .ok (.iload_n 2, 1) := by decide +kernel
theorem dX8_yearOf_53 : decode cX8_yearOf 53 = .ok (.ireturn, 1) := by decide +kernel
set_option maxRecDepth 20000 in
theorem ggX8_year_X8_in : GoodIn wsX8_year wsX8_in := goodIn_r _ [4] (by decide +kernel) (by decide +kernel)
set_option maxRecDepth 20000 in
theorem gX8_year_X8_in : GoodIn wsX8_year (va_wsS RX8 59 yX8_in wsX8_in) := goodIn_app (goodIn_of _ (by decide +kernel)) ggX8_year_X8_in
set_option maxRecDepth 20000 in
theorem ggX8_year_X8_yearOf : GoodIn wsX8_year wsX8_yearOf := goodIn_r _ [8, 9, 10, 11, 12, 13, 14, 3, 15, 16, 17, 18, 19, 20, 21, 22, 23, 24, 25, 26, 27, 28, 29, 1, 2, 4, 30, 31, 32, 33, 34, 35, 36, 37, 38, 39, 40, 41, 42, 43, 44, 45, 46, 47, 48, 49, 50, 51, 52, 53, 54, 55, 56, 57, 58, 59, 60, 61, 62, 63, 64, 65, 66, 67, 68, 69] (by decide +kernel) (by decide +kernel)
set_option maxRecDepth 20000 in
theorem gX8_year_X8_yearOf : GoodIn wsX8_year (wsV RX8 154 RX8 yX8_yearOf wsX8_yearOf) := goodIn_app (goodIn_of _ (by decide +kernel)) ggX8_year_X8_yearOf
theorem dX8_year_0 : decode cX8_year 0 = .ok (.iload_n 1, 1) := by decide +kernel
theorem dX8_year_1 : decode cX8_year 1 = .ok (.i2l, 1) := by decide +kernel
theorem dX8_year_2 : decode cX8_year 2 = .ok (.lconst 0, 1) := by decide +kernel
theorem dX8_year_3 : decode cX8_year 3 = .ok (.lconst 1, 1) := by decide +kernel
theorem dX8_year_4 : decode cX8_year 4 = .ok (.invokestatic 59, 3) := by decide +kernel
theorem dX8_year_7 : decode cX8_year 7 = .ok (.ifCond .eq 11, 3) := by decide +kernel
theorem dX8_year_10 : decode cX8_year 10 = .ok (.aload_n 0, 1) := by decide +kernel
theorem dX8_year_11 : decode cX8_year 11 = .ok (.iload_n 1, 1) := by decide +kernel
theorem dX8_year_12 : decode cX8_year 12 = .ok (.invokevirtual 154, 3) := by decide +kernel
theorem dX8_year_15 : decode cX8_year 15 = .ok (.goto 5, 3) := by decide +kernel
theorem dX8_year_18 : decode cX8_year 18 = .ok (.bipush (-2), 2) := by decide +kernel
theorem dX8_year_20 : decode cX8_year 20 = .ok (.ireturn, 1) := by decide +kernel
set_option maxRecDepth 20000 in
theorem ggX8_tryTrees_X8_yearOf : GoodIn wsX8_tryTrees wsX8_yearOf := goodIn_r _ [10, 11, 1, 12, 13, 14, 15, 9, 16, 17, 18, 19, 20, 21, 22, 23, 24, 25, 26, 27, 28, 29, 30, 31, 32, 33, 34, 35, 36, 37, 38, 39, 40, 41, 42, 43, 44, 45, 46, 47, 48, 49, 50, 51, 52, 53, 54, 55, 56, 57, 58, 59, 60, 61, 62, 63, 64, 65, 66, 67, 68, 69, 70, 71, 72, 73] (by decide +kernel) (by decide +kernel)
set_option maxRecDepth 20000 in
theorem gX8_tryTrees_X8_yearOf : GoodIn wsX8_tryTrees (wsV RX8 154 RX8 yX8_yearOf wsX8_yearOf) := goodIn_app (goodIn_of _ (by decide +kernel)) ggX8_tryTrees_X8_yearOf
theorem dX8_tryTrees_0 : decode cX8_tryTrees 0 = .ok (.iconst (-1), 1) := by decide +kernel
theorem dX8_tryTrees_1 : decode cX8_tryTrees 1 = .ok (.istore 4, 2) := by decide +kernel
theorem dX8_tryTrees_3 : decode cX8_tryTrees 3 = .ok (.iload 4, 2) := by decide +kernel
theorem dX8_tryTrees_5 : decode cX8_tryTrees 5 = .ok (.bipush 10, 2) := by decide +kernel
theorem dX8_tryTrees_7 : decode cX8_tryTrees 7 = .ok (.if_icmp .ge 140, 3) := by decide +kernel
theorem dX8_tryTrees_10 : decode cX8_tryTrees 10 = .ok (.iload 4, 2) := by decide +kernel
theorem dX8_tryTrees_12 : decode cX8_tryTrees 12 = .ok (.ifCond .ge 7, 3) := by decide +kernel
theorem dX8_tryTrees_15 : decode cX8_tryTrees 15 = .ok (.iconst 0, 1) := by decide +kernel
theorem dX8_tryTrees_16 : decode cX8_tryTrees 16 = .ok (.goto 13, 3) := by decide +kernel
theorem dX8_tryTrees_19 : decode cX8_tryTrees 19 = .ok (.aload_n 0, 1) := by decide +kernel
theorem dX8_tryTrees_20 : decode cX8_tryTrees 20 = .ok (.getfield 19, 3) := by decide +kernel
theorem dX8_tryTrees_23 : decode cX8_tryTrees 23 = .ok (.bipush 12, 2) := by decide +kernel
theorem dX8_tryTrees_25 : decode cX8_tryTrees 25 = .ok (.iload 4, 2) := by decide +kernel
theorem dX8_tryTrees_27 : decode cX8_tryTrees 27 = .ok (.iadd, 1) := by decide +kernel
theorem dX8_tryTrees_28 : decode cX8_tryTrees 28 = .ok (.iaload, 1) := by decide +kernel
theorem dX8_tryTrees_29 : decode cX8_tryTrees 29 = .ok (.istore 5, 2) := by decide +kernel
theorem dX8_tryTrees_31 : decode cX8_tryTrees 31 = .ok (.iload 4, 2) := by decide +kernel
theorem dX8_tryTrees_33 : decode cX8_tryTrees 33 = .ok (.ifCond .lt 8, 3) := by decide +kernel
theorem dX8_tryTrees_36 : decode cX8_tryTrees 36 = .ok (.iload 5, 2) := by decide +kernel
theorem dX8_tryTrees_38 : decode cX8_tryTrees 38 = .ok (.ifCond .le 103, 3) := by decide +kernel
theorem dX8_tryTrees_41 : decode cX8_tryTrees 41 = .ok (.bipush 12, 2) := by decide +kernel
theorem dX8_tryTrees_43 : decode cX8_tryTrees 43 = .ok (.iload 4, 2) := by decide +kernel
theorem dX8_tryTrees_45 : decode cX8_tryTrees 45 = .ok (.ifCond .ge 7, 3) := by decide +kernel
theorem dX8_tryTrees_48 : decode cX8_tryTrees 48 = .ok (.iconst 0, 1) := by decide +kernel
theorem dX8_tryTrees_49 : decode cX8_tryTrees 49 = .ok (.goto 5, 3) := by decide +kernel
theorem dX8_tryTrees_52 : decode cX8_tryTrees 52 = .ok (.iload 4, 2) := by decide +kernel
theorem dX8_tryTrees_54 : decode cX8_tryTrees 54 = .ok (.iadd, 1) := by decide +kernel
theorem dX8_tryTrees_55 : decode cX8_tryTrees 55 = .ok (.istore 6, 2) := by decide +kernel
theorem dX8_tryTrees_57 : decode cX8_tryTrees 57 = .ok (.aload_n 0, 1) := by decide +kernel
theorem dX8_tryTrees_58 : decode cX8_tryTrees 58 = .ok (.getfield 19, 3) := by decide +kernel
theorem dX8_tryTrees_61 : decode cX8_tryTrees 61 = .ok (.iload 6, 2) := by decide +kernel
theorem dX8_tryTrees_63 : decode cX8_tryTrees 63 = .ok (.iaload, 1) := by decide +kernel
theorem dX8_tryTrees_64 : decode cX8_tryTrees 64 = .ok (.istore 7, 2) := by decide +kernel
theorem dX8_tryTrees_66 : decode cX8_tryTrees 66 = .ok (.aload_n 0, 1) := by decide +kernel
theorem dX8_tryTrees_67 : decode cX8_tryTrees 67 = .ok (.getfield 19, 3) := by decide +kernel
theorem dX8_tryTrees_70 : decode cX8_tryTrees 70 = .ok (.iload 6, 2) := by decide +kernel
theorem dX8_tryTrees_72 : decode cX8_tryTrees 72 = .ok (.iload 4, 2) := by decide +kernel
theorem dX8_tryTrees_74 : decode cX8_tryTrees 74 = .ok (.ifCond .ge 8, 3) := by decide +kernel
theorem dX8_tryTrees_77 : decode cX8_tryTrees 77 = .ok (.iload 7, 2) := by decide +kernel
theorem dX8_tryTrees_79 : decode cX8_tryTrees 79 = .ok (.goto 4, 3) := by decide +kernel
theorem dX8_tryTrees_82 : decode cX8_tryTrees 82 = .ok (.iconst 0, 1) := by decide +kernel
theorem dX8_tryTrees_83 : decode cX8_tryTrees 83 = .ok (.iastore, 1) := by decide +kernel
theorem dX8_tryTrees_84 : decode cX8_tryTrees 84 = .ok (.aload_n 0, 1) := by decide +kernel
theorem dX8_tryTrees_85 : decode cX8_tryTrees 85 = .ok (.iload_n 1, 1) := by decide +kernel
theorem dX8_tryTrees_86 : decode cX8_tryTrees 86 = .ok (.invokevirtual 154, 3) := by decide +kernel
theorem dX8_tryTrees_89 : decode cX8_tryTrees 89 = .ok (.istore 8, 2) := by decide +kernel
theorem dX8_tryTrees_91 : decode cX8_tryTrees 91 = .ok (.aload_n 0, 1) := by decide +kernel
theorem dX8_tryTrees_92 : decode cX8_tryTrees 92 = .ok (.getfield 19, 3) := by decide +kernel
theorem dX8_tryTrees_95 : decode cX8_tryTrees 95 = .ok (.iload 6, 2) := by decide +kernel
theorem dX8_tryTrees_97 : decode cX8_tryTrees 97 = .ok (.iload 7, 2) := by decide +kernel
theorem dX8_tryTrees_99 : decode cX8_tryTrees 99 = .ok (.iastore, 1) := by decide +kernel
theorem dX8_tryTrees_100 : decode cX8_tryTrees 100 = .ok (.iload 8, 2) := by decide +kernel
theorem dX8_tryTrees_102 : decode cX8_tryTrees 102 = .ok (.aload_n 0, 1) := by decide +kernel
theorem dX8_tryTrees_103 : decode cX8_tryTrees 103 = .ok (.getfield 157, 3) := by decide +kernel
theorem dX8_tryTrees_106 : decode cX8_tryTrees 106 = .ok (.if_icmp .le 35, 3) := by decide +kernel
theorem dX8_tryTrees_109 : decode cX8_tryTrees 109 = .ok (.aload_n 0, 1) := by decide +kernel
theorem dX8_tryTrees_110 : decode cX8_tryTrees 110 = .ok (.iload 8, 2) := by decide +kernel
theorem dX8_tryTrees_112 : decode cX8_tryTrees 112 = .ok (.putfield 157, 3) := by decide +kernel
theorem dX8_tryTrees_115 : decode cX8_tryTrees 115 = .ok (.aload_n 0, 1) := by decide +kernel
theorem dX8_tryTrees_116 : decode cX8_tryTrees 116 = .ok (.iload_n 2, 1) := by decide +kernel
theorem dX8_tryTrees_117 : decode cX8_tryTrees 117 = .ok (.putfield 160, 3) := by decide +kernel
theorem dX8_tryTrees_120 : decode cX8_tryTrees 120 = .ok (.aload_n 0, 1) := by decide +kernel
theorem dX8_tryTrees_121 : decode cX8_tryTrees 121 = .ok (.iload_n 3, 1) := by decide +kernel
theorem dX8_tryTrees_122 : decode cX8_tryTrees 122 = .ok (.putfield 163, 3) := by decide +kernel
theorem dX8_tryTrees_125 : decode cX8_tryTrees 125 = .ok (.aload_n 0, 1) := by decide +kernel
theorem dX8_tryTrees_126 : decode cX8_tryTrees 126 = .ok (.iload 4, 2) := by decide +kernel
theorem dX8_tryTrees_128 : decode cX8_tryTrees 128 = .ok (.ifCond .ge 8, 3) := by decide +kernel
theorem dX8_tryTrees_131 : decode cX8_tryTrees 131 = .ok (.bipush (-9), 2) := by decide +kernel
theorem dX8_tryTrees_133 : decode cX8_tryTrees 133 = .ok (.goto 5, 3) := by decide +kernel
theorem dX8_tryTrees_136 : decode cX8_tryTrees 136 = .ok (.iload 4, 2) := by decide +kernel
theorem dX8_tryTrees_138 : decode cX8_tryTrees 138 = .ok (.putfield 166, 3) := by decide +kernel
theorem dX8_tryTrees_141 : decode cX8_tryTrees 141 = .ok (.iinc 4 1, 3) := by decide +kernel
theorem dX8_tryTrees_144 : decode cX8_tryTrees 144 = .ok (.goto (-141), 3) := by decide +kernel
theorem dX8_tryTrees_147 : decode cX8_tryTrees 147 = .ok (.return_, 1) := by decide +kernel
set_option maxRecDepth 20000 in
theorem ggX8_placing_X8_in : GoodIn wsX8_placing wsX8_in := goodIn_r _ [11] (by decide +kernel) (by decide +kernel)
set_option maxRecDepth 20000 in
theorem gX8_placing_X8_in : GoodIn wsX8_placing (va_wsS RX8 59 yX8_in wsX8_in) := goodIn_app (goodIn_of _ (by decide +kernel)) ggX8_placing_X8_in
set_option maxRecDepth 20000 in
theorem ggX8_placing_X8_tryTrees : GoodIn wsX8_placing wsX8_tryTrees := goodIn_r _ [15, 4, 2, 5, 6, 7, 16, 17, 18, 10, 19, 20, 21, 22, 23, 24, 25, 26, 27, 28, 29, 3, 30, 31, 32, 33, 34, 35, 36, 37, 38, 8, 9, 11, 39, 40, 41, 42, 43, 44, 45, 46, 47, 52, 53, 54, 55, 56, 57, 58, 59, 60, 61, 62, 63, 64, 65, 66, 67, 68, 69, 70, 71, 72, 73, 74, 75, 76, 77, 78, 79, 80, 81, 82] (by decide +kernel) (by decide +kernel)
set_option maxRecDepth 20000 in
theorem gX8_placing_X8_tryTrees : GoodIn wsX8_placing (wsV RX8 171 RX8 yX8_tryTrees wsX8_tryTrees) := goodIn_app (goodIn_of _ (by decide +kernel)) ggX8_placing_X8_tryTrees
set_option maxRecDepth 20000 in
theorem ggX8_placing_X8_isCockOn : GoodIn wsX8_placing wsX8_isCockOn := goodIn_r _ [51, 3, 4, 52, 53, 54, 55, 56, 57, 58, 59, 60, 61, 62, 63, 64, 65, 66, 67, 68, 69, 70, 71, 72, 73, 74, 75, 76, 77, 78, 79, 80, 81, 82] (by decide +kernel) (by decide +kernel)
set_option maxRecDepth 20000 in
theorem gX8_placing_X8_isCockOn : GoodIn wsX8_placing (wsV RX8 148 RX8 yX8_isCockOn wsX8_isCockOn) := goodIn_app (goodIn_of _ (by decide +kernel)) ggX8_placing_X8_isCockOn
theorem dX8_placing_0 : decode cX8_placing 0 = .ok (.iload_n 1, 1) := by decide +kernel
theorem dX8_placing_1 : decode cX8_placing 1 = .ok (.i2l, 1) := by decide +kernel
theorem dX8_placing_2 : decode cX8_placing 2 = .ok (.lconst 0, 1) := by decide +kernel
theorem dX8_placing_3 : decode cX8_placing 3 = .ok (.lconst 1, 1) := by decide +kernel
theorem dX8_placing_4 : decode cX8_placing 4 = .ok (.invokestatic 59, 3) := by decide +kernel
theorem dX8_placing_7 : decode cX8_placing 7 = .ok (.ifCond .eq 15, 3) := by decide +kernel
theorem dX8_placing_10 : decode cX8_placing 10 = .ok (.iload_n 2, 1) := by decide +kernel
theorem dX8_placing_11 : decode cX8_placing 11 = .ok (.i2l, 1) := by decide +kernel
theorem dX8_placing_12 : decode cX8_placing 12 = .ok (.lconst 0, 1) := by decide +kernel
theorem dX8_placing_13 : decode cX8_placing 13 = .ok (.ldc2_w 169, 3) := by decide +kernel
theorem dX8_placing_16 : decode cX8_placing 16 = .ok (.invokestatic 59, 3) := by decide +kernel
theorem dX8_placing_19 : decode cX8_placing 19 = .ok (.ifCond .ne 6, 3) := by decide +kernel
theorem dX8_placing_22 : decode cX8_placing 22 = .ok (.bipush (-2), 2) := by decide +kernel
theorem dX8_placing_24 : decode cX8_placing 24 = .ok (.ireturn, 1) := by decide +kernel
theorem dX8_placing_25 : decode cX8_placing 25 = .ok (.aload_n 0, 1) := by decide +kernel
theorem dX8_placing_26 : decode cX8_placing 26 = .ok (.iconst (-1), 1) := by decide +kernel
theorem dX8_placing_27 : decode cX8_placing 27 = .ok (.putfield 157, 3) := by decide +kernel
theorem dX8_placing_30 : decode cX8_placing 30 = .ok (.aload_n 0, 1) := by decide +kernel
theorem dX8_placing_31 : decode cX8_placing 31 = .ok (.iload_n 1, 1) := by decide +kernel
theorem dX8_placing_32 : decode cX8_placing 32 = .ok (.bipush (-9), 2) := by decide +kernel
theorem dX8_placing_34 : decode cX8_placing 34 = .ok (.bipush (-9), 2) := by decide +kernel
theorem dX8_placing_36 : decode cX8_placing 36 = .ok (.invokevirtual 171, 3) := by decide +kernel
theorem dX8_placing_39 : decode cX8_placing 39 = .ok (.iconst 0, 1) := by decide +kernel
theorem dX8_placing_40 : decode cX8_placing 40 = .ok (.istore_n 3, 1) := by decide +kernel
theorem dX8_placing_41 : decode cX8_placing 41 = .ok (.iload_n 3, 1) := by decide +kernel
theorem dX8_placing_42 : decode cX8_placing 42 = .ok (.aload_n 0, 1) := by decide +kernel
theorem dX8_placing_43 : decode cX8_placing 43 = .ok (.getfield 53, 3) := by decide +kernel
theorem dX8_placing_46 : decode cX8_placing 46 = .ok (.if_icmp .ge 81, 3) := by decide +kernel
theorem dX8_placing_49 : decode cX8_placing 49 = .ok (.iconst 0, 1) := by decide +kernel
theorem dX8_placing_50 : decode cX8_placing 50 = .ok (.istore 4, 2) := by decide +kernel
theorem dX8_placing_52 : decode cX8_placing 52 = .ok (.iload 4, 2) := by decide +kernel
theorem dX8_placing_54 : decode cX8_placing 54 = .ok (.bipush 10, 2) := by decide +kernel
theorem dX8_placing_56 : decode cX8_placing 56 = .ok (.if_icmp .ge 65, 3) := by decide +kernel
theorem dX8_placing_59 : decode cX8_placing 59 = .ok (.aload_n 0, 1) := by decide +kernel
theorem dX8_placing_60 : decode cX8_placing 60 = .ok (.getfield 19, 3) := by decide +kernel
theorem dX8_placing_63 : decode cX8_placing 63 = .ok (.bipush 22, 2) := by decide +kernel
theorem dX8_placing_65 : decode cX8_placing 65 = .ok (.iaload, 1) := by decide +kernel
theorem dX8_placing_66 : decode cX8_placing 66 = .ok (.iload_n 3, 1) := by decide +kernel
theorem dX8_placing_67 : decode cX8_placing 67 = .ok (.ishr, 1) := by decide +kernel
theorem dX8_placing_68 : decode cX8_placing 68 = .ok (.iconst 1, 1) := by decide +kernel
theorem dX8_placing_69 : decode cX8_placing 69 = .ok (.iand, 1) := by decide +kernel
theorem dX8_placing_70 : decode cX8_placing 70 = .ok (.iload_n 1, 1) := by decide +kernel
theorem dX8_placing_71 : decode cX8_placing 71 = .ok (.if_icmp .ne 44, 3) := by decide +kernel
theorem dX8_placing_74 : decode cX8_placing 74 = .ok (.aload_n 0, 1) := by decide +kernel
theorem dX8_placing_75 : decode cX8_placing 75 = .ok (.iload 4, 2) := by decide +kernel
theorem dX8_placing_77 : decode cX8_placing 77 = .ok (.invokevirtual 148, 3) := by decide +kernel
theorem dX8_placing_80 : decode cX8_placing 80 = .ok (.ifCond .ne 35, 3) := by decide +kernel
theorem dX8_placing_83 : decode cX8_placing 83 = .ok (.aload_n 0, 1) := by decide +kernel
theorem dX8_placing_84 : decode cX8_placing 84 = .ok (.getfield 19, 3) := by decide +kernel
theorem dX8_placing_87 : decode cX8_placing 87 = .ok (.iload_n 3, 1) := by decide +kernel
theorem dX8_placing_88 : decode cX8_placing 88 = .ok (.iaload, 1) := by decide +kernel
theorem dX8_placing_89 : decode cX8_placing 89 = .ok (.istore 5, 2) := by decide +kernel
theorem dX8_placing_91 : decode cX8_placing 91 = .ok (.aload_n 0, 1) := by decide +kernel
theorem dX8_placing_92 : decode cX8_placing 92 = .ok (.getfield 19, 3) := by decide +kernel
theorem dX8_placing_95 : decode cX8_placing 95 = .ok (.iload_n 3, 1) := by decide +kernel
theorem dX8_placing_96 : decode cX8_placing 96 = .ok (.iload 4, 2) := by decide +kernel
theorem dX8_placing_98 : decode cX8_placing 98 = .ok (.iastore, 1) := by decide +kernel
theorem dX8_placing_99 : decode cX8_placing 99 = .ok (.aload_n 0, 1) := by decide +kernel
theorem dX8_placing_100 : decode cX8_placing 100 = .ok (.iload_n 1, 1) := by decide +kernel
theorem dX8_placing_101 : decode cX8_placing 101 = .ok (.iload_n 3, 1) := by decide +kernel
theorem dX8_placing_102 : decode cX8_placing 102 = .ok (.iload 4, 2) := by decide +kernel
theorem dX8_placing_104 : decode cX8_placing 104 = .ok (.invokevirtual 171, 3) := by decide +kernel
theorem dX8_placing_107 : decode cX8_placing 107 = .ok (.aload_n 0, 1) := by decide +kernel
theorem dX8_placing_108 : decode cX8_placing 108 = .ok (.getfield 19, 3) := by decide +kernel
theorem dX8_placing_111 : decode cX8_placing 111 = .ok (.iload_n 3, 1) := by decide +kernel
theorem dX8_placing_112 : decode cX8_placing 112 = .ok (.iload 5, 2) := by decide +kernel
theorem dX8_placing_114 : decode cX8_placing 114 = .ok (.iastore, 1) := by decide +kernel
theorem dX8_placing_115 : decode cX8_placing 115 = .ok (.iinc 4 1, 3) := by decide +kernel
theorem dX8_placing_118 : decode cX8_placing 118 = .ok (.goto (-66), 3) := by decide +kernel
theorem dX8_placing_121 : decode cX8_placing 121 = .ok (.iinc 3 1, 3) := by decide +kernel
theorem dX8_placing_124 : decode cX8_placing 124 = .ok (.goto (-83), 3) := by decide +kernel
theorem dX8_placing_127 : decode cX8_placing 127 = .ok (.iload_n 2, 1) := by decide +kernel
theorem dX8_placing_128 : decode cX8_placing 128 = .ok (.ifCond .ne 10, 3) := by decide +kernel
theorem dX8_placing_131 : decode cX8_placing 131 = .ok (.aload_n 0, 1) := by decide +kernel
theorem dX8_placing_132 : decode cX8_placing 132 = .ok (.getfield 157, 3) := by decide +kernel
theorem dX8_placing_135 : decode cX8_placing 135 = .ok (.goto 31, 3) := by decide +kernel
theorem dX8_placing_138 : decode cX8_placing 138 = .ok (.iload_n 2, 1) := by decide +kernel
theorem dX8_placing_139 : decode cX8_placing 139 = .ok (.iconst 1, 1) := by decide +kernel
theorem dX8_placing_140 : decode cX8_placing 140 = .ok (.if_icmp .ne 10, 3) := by decide +kernel
theorem dX8_placing_143 : decode cX8_placing 143 = .ok (.aload_n 0, 1) := by decide +kernel
theorem dX8_placing_144 : decode cX8_placing 144 = .ok (.getfield 160, 3) := by decide +kernel
theorem dX8_placing_147 : decode cX8_placing 147 = .ok (.goto 19, 3) := by decide +kernel
theorem dX8_placing_150 : decode cX8_placing 150 = .ok (.iload_n 2, 1) := by decide +kernel
theorem dX8_placing_151 : decode cX8_placing 151 = .ok (.iconst 2, 1) := by decide +kernel
theorem dX8_placing_152 : decode cX8_placing 152 = .ok (.if_icmp .ne 10, 3) := by decide +kernel
theorem dX8_placing_155 : decode cX8_placing 155 = .ok (.aload_n 0, 1) := by decide +kernel
theorem dX8_placing_156 : decode cX8_placing 156 = .ok (.getfield 163, 3) := by decide +kernel
theorem dX8_placing_159 : decode cX8_placing 159 = .ok (.goto 7, 3) := by decide +kernel
theorem dX8_placing_162 : decode cX8_placing 162 = .ok (.aload_n 0, 1) := by decide +kernel
theorem dX8_placing_163 : decode cX8_placing 163 = .ok (.getfield 166, 3) := by decide +kernel
theorem dX8_placing_166 : decode cX8_placing 166 = .ok (.ireturn, 1) := by decide +kernel
theorem dX8_layTrial_0 : decode cX8_layTrial 0 = .ok (.iconst 0, 1) := by decide +kernel
theorem dX8_layTrial_1 : decode cX8_layTrial 1 = .ok (.istore_n 1, 1) := by decide +kernel
theorem dX8_layTrial_2 : decode cX8_layTrial 2 = .ok (.iload_n 1, 1) := by decide +kernel
theorem dX8_layTrial_3 : decode cX8_layTrial 3 = .ok (.bipush 27, 2) := by decide +kernel
theorem dX8_layTrial_5 : decode cX8_layTrial 5 = .ok (.if_icmp .ge 24, 3) := by decide +kernel
theorem dX8_layTrial_8 : decode cX8_layTrial 8 = .ok (.aload_n 0, 1) := by decide +kernel
theorem dX8_layTrial_9 : decode cX8_layTrial 9 = .ok (.getfield 19, 3) := by decide +kernel
theorem dX8_layTrial_12 : decode cX8_layTrial 12 = .ok (.bipush 27, 2) := by decide +kernel
theorem dX8_layTrial_14 : decode cX8_layTrial 14 = .ok (.iload_n 1, 1) := by decide +kernel
theorem dX8_layTrial_15 : decode cX8_layTrial 15 = .ok (.iadd, 1) := by decide +kernel
theorem dX8_layTrial_16 : decode cX8_layTrial 16 = .ok (.aload_n 0, 1) := by decide +kernel
theorem dX8_layTrial_17 : decode cX8_layTrial 17 = .ok (.getfield 19, 3) := by decide +kernel
theorem dX8_layTrial_20 : decode cX8_layTrial 20 = .ok (.iload_n 1, 1) := by decide +kernel
theorem dX8_layTrial_21 : decode cX8_layTrial 21 = .ok (.iaload, 1) := by decide +kernel
theorem dX8_layTrial_22 : decode cX8_layTrial 22 = .ok (.iastore, 1) := by decide +kernel
theorem dX8_layTrial_23 : decode cX8_layTrial 23 = .ok (.iinc 1 1, 3) := by decide +kernel
theorem dX8_layTrial_26 : decode cX8_layTrial 26 = .ok (.goto (-24), 3) := by decide +kernel
theorem dX8_layTrial_29 : decode cX8_layTrial 29 = .ok (.return_, 1) := by decide +kernel
theorem dX8_treesNow_0 : decode cX8_treesNow 0 = .ok (.iconst 0, 1) := by decide +kernel
theorem dX8_treesNow_1 : decode cX8_treesNow 1 = .ok (.istore_n 1, 1) := by decide +kernel
theorem dX8_treesNow_2 : decode cX8_treesNow 2 = .ok (.iconst 0, 1) := by decide +kernel
theorem dX8_treesNow_3 : decode cX8_treesNow 3 = .ok (.istore_n 2, 1) := by decide +kernel
theorem dX8_treesNow_4 : decode cX8_treesNow 4 = .ok (.iload_n 2, 1) := by decide +kernel
theorem dX8_treesNow_5 : decode cX8_treesNow 5 = .ok (.bipush 10, 2) := by decide +kernel
theorem dX8_treesNow_7 : decode cX8_treesNow 7 = .ok (.if_icmp .ge 31, 3) := by decide +kernel
theorem dX8_treesNow_10 : decode cX8_treesNow 10 = .ok (.iload_n 1, 1) := by decide +kernel
theorem dX8_treesNow_11 : decode cX8_treesNow 11 = .ok (.aload_n 0, 1) := by decide +kernel
theorem dX8_treesNow_12 : decode cX8_treesNow 12 = .ok (.getfield 19, 3) := by decide +kernel
theorem dX8_treesNow_15 : decode cX8_treesNow 15 = .ok (.bipush 12, 2) := by decide +kernel
theorem dX8_treesNow_17 : decode cX8_treesNow 17 = .ok (.iload_n 2, 1) := by decide +kernel
theorem dX8_treesNow_18 : decode cX8_treesNow 18 = .ok (.iadd, 1) := by decide +kernel
theorem dX8_treesNow_19 : decode cX8_treesNow 19 = .ok (.iaload, 1) := by decide +kernel
theorem dX8_treesNow_20 : decode cX8_treesNow 20 = .ok (.ifCond .le 9, 3) := by decide +kernel
theorem dX8_treesNow_23 : decode cX8_treesNow 23 = .ok (.iconst 1, 1) := by decide +kernel
theorem dX8_treesNow_24 : decode cX8_treesNow 24 = .ok (.iload_n 2, 1) := by decide +kernel
theorem dX8_treesNow_25 : decode cX8_treesNow 25 = .ok (.ishl, 1) := by decide +kernel
theorem dX8_treesNow_26 : decode cX8_treesNow 26 = .ok (.goto 4, 3) := by decide +kernel
theorem dX8_treesNow_29 : decode cX8_treesNow 29 = .ok (.iconst 0, 1) := by decide +kernel
theorem dX8_treesNow_30 : decode cX8_treesNow 30 = .ok (.ior, 1) := by decide +kernel
theorem dX8_treesNow_31 : decode cX8_treesNow 31 = .ok (.istore_n 1, 1) := by decide +kernel
theorem dX8_treesNow_32 : decode cX8_treesNow 32 = .ok (.iinc 2 1, 3) := by decide +kernel
theorem dX8_treesNow_35 : decode cX8_treesNow 35 = .ok (.goto (-31), 3) := by decide +kernel
theorem dX8_treesNow_38 : decode cX8_treesNow 38 = .ok (.iload_n 1, 1) := by decide +kernel
theorem dX8_treesNow_39 : decode cX8_treesNow 39 = .ok (.ireturn, 1) := by decide +kernel
set_option maxRecDepth 20000 in
theorem ggX8_trees_X8_in : GoodIn wsX8_trees wsX8_in := goodIn_r _ [5] (by decide +kernel) (by decide +kernel)
set_option maxRecDepth 20000 in
theorem gX8_trees_X8_in : GoodIn wsX8_trees (va_wsS RX8 59 yX8_in wsX8_in) := goodIn_app (goodIn_of _ (by decide +kernel)) ggX8_trees_X8_in
set_option maxRecDepth 20000 in
theorem ggX8_trees_X8_isWind : GoodIn wsX8_trees wsX8_isWind := goodIn_r _ [9, 10, 2, 3, 4, 5, 50, 51, 52, 53, 54, 55, 56, 57, 58, 59, 60, 61, 62, 63, 64, 65, 66, 67, 68, 69, 70, 71, 72, 73, 74, 75, 76, 77, 78, 79, 80] (by decide +kernel) (by decide +kernel)
set_option maxRecDepth 20000 in
theorem gX8_trees_X8_isWind : GoodIn wsX8_trees (wsV RX8 133 RX8 yX8_isWind wsX8_isWind) := goodIn_app (goodIn_of _ (by decide +kernel)) ggX8_trees_X8_isWind
set_option maxRecDepth 20000 in
theorem ggX8_trees_X8_treesNow : GoodIn wsX8_trees wsX8_treesNow := goodIn_r _ [14, 1, 50, 51, 52, 53, 54, 55, 56, 57, 58, 59, 60, 61, 62, 63, 64, 65, 66, 67, 68, 69, 70, 71, 72, 73, 74, 75, 76, 77, 78, 79, 80] (by decide +kernel) (by decide +kernel)
set_option maxRecDepth 20000 in
theorem gX8_trees_X8_treesNow : GoodIn wsX8_trees (wsV RX8 175 RX8 yX8_treesNow wsX8_treesNow) := goodIn_app (goodIn_of _ (by decide +kernel)) ggX8_trees_X8_treesNow
set_option maxRecDepth 20000 in
theorem ggX8_trees_X8_ones : GoodIn wsX8_trees wsX8_ones := goodIn_r _ [17] (by decide +kernel) (by decide +kernel)
set_option maxRecDepth 20000 in
theorem gX8_trees_X8_ones : GoodIn wsX8_trees (va_wsS RX8 178 yX8_ones wsX8_ones) := goodIn_app (goodIn_of _ (by decide +kernel)) ggX8_trees_X8_ones
set_option maxRecDepth 20000 in
theorem ggX8_trees_X8_layTrial : GoodIn wsX8_trees wsX8_layTrial := goodIn_r _ [21, 1, 50, 51, 52, 53, 54, 55, 56, 57, 58, 59, 60, 61, 62, 63, 64, 65, 66, 67, 68, 69, 70, 71, 72, 73, 74, 75, 76, 77, 78, 79, 80] (by decide +kernel) (by decide +kernel)
set_option maxRecDepth 20000 in
theorem gX8_trees_X8_layTrial : GoodIn wsX8_trees (wsV RX8 181 RX8 yX8_layTrial wsX8_layTrial) := goodIn_app (goodIn_of _ (by decide +kernel)) ggX8_trees_X8_layTrial
set_option maxRecDepth 20000 in
theorem ggX8_trees_X8_has : GoodIn wsX8_trees wsX8_has := goodIn_r _ [24] (by decide +kernel) (by decide +kernel)
set_option maxRecDepth 20000 in
theorem gX8_trees_X8_has : GoodIn wsX8_trees (va_wsS RX8 74 yX8_has wsX8_has) := goodIn_app (goodIn_of _ (by decide +kernel)) ggX8_trees_X8_has
set_option maxRecDepth 20000 in
theorem ggX8_trees_X8_underOf : GoodIn wsX8_trees wsX8_underOf := goodIn_r _ [28, 29, 30, 31, 4, 32, 1, 33, 34, 22, 23, 24, 35, 36, 37, 38, 39, 40, 2, 3, 5, 41, 42, 43, 44, 45, 46, 47, 48, 49, 50, 51, 52, 53, 54, 55, 56, 57, 58, 59, 60, 61, 62, 63, 64, 65, 66, 67, 68, 69, 70, 71, 72, 73, 74, 75, 76, 77, 78, 79, 80] (by decide +kernel) (by decide +kernel)
set_option maxRecDepth 20000 in
theorem gX8_trees_X8_underOf : GoodIn wsX8_trees (wsV RX8 151 RX8 yX8_underOf wsX8_underOf) := goodIn_app (goodIn_of _ (by decide +kernel)) ggX8_trees_X8_underOf
theorem dX8_trees_0 : decode cX8_trees 0 = .ok (.iload_n 1, 1) := by decide +kernel
theorem dX8_trees_1 : decode cX8_trees 1 = .ok (.i2l, 1) := by decide +kernel
theorem dX8_trees_2 : decode cX8_trees 2 = .ok (.lconst 0, 1) := by decide +kernel
theorem dX8_trees_3 : decode cX8_trees 3 = .ok (.lconst 1, 1) := by decide +kernel
theorem dX8_trees_4 : decode cX8_trees 4 = .ok (.invokestatic 59, 3) := by decide +kernel
theorem dX8_trees_7 : decode cX8_trees 7 = .ok (.ifCond .ne 6, 3) := by decide +kernel
theorem dX8_trees_10 : decode cX8_trees 10 = .ok (.bipush (-2), 2) := by decide +kernel
theorem dX8_trees_12 : decode cX8_trees 12 = .ok (.ireturn, 1) := by decide +kernel
theorem dX8_trees_13 : decode cX8_trees 13 = .ok (.aload_n 0, 1) := by decide +kernel
theorem dX8_trees_14 : decode cX8_trees 14 = .ok (.iload_n 2, 1) := by decide +kernel
theorem dX8_trees_15 : decode cX8_trees 15 = .ok (.invokevirtual 133, 3) := by decide +kernel
theorem dX8_trees_18 : decode cX8_trees 18 = .ok (.ifCond .ne 5, 3) := by decide +kernel
theorem dX8_trees_21 : decode cX8_trees 21 = .ok (.iconst (-1), 1) := by decide +kernel
theorem dX8_trees_22 : decode cX8_trees 22 = .ok (.ireturn, 1) := by decide +kernel
theorem dX8_trees_23 : decode cX8_trees 23 = .ok (.bipush (-9), 2) := by decide +kernel
theorem dX8_trees_25 : decode cX8_trees 25 = .ok (.istore_n 3, 1) := by decide +kernel
theorem dX8_trees_26 : decode cX8_trees 26 = .ok (.iconst 0, 1) := by decide +kernel
theorem dX8_trees_27 : decode cX8_trees 27 = .ok (.istore 4, 2) := by decide +kernel
theorem dX8_trees_29 : decode cX8_trees 29 = .ok (.iload 4, 2) := by decide +kernel
theorem dX8_trees_31 : decode cX8_trees 31 = .ok (.sipush 1024, 3) := by decide +kernel
theorem dX8_trees_34 : decode cX8_trees 34 = .ok (.if_icmp .ge 117, 3) := by decide +kernel
theorem dX8_trees_37 : decode cX8_trees 37 = .ok (.iload 4, 2) := by decide +kernel
theorem dX8_trees_39 : decode cX8_trees 39 = .ok (.aload_n 0, 1) := by decide +kernel
theorem dX8_trees_40 : decode cX8_trees 40 = .ok (.invokevirtual 175, 3) := by decide +kernel
theorem dX8_trees_43 : decode cX8_trees 43 = .ok (.iconst (-1), 1) := by decide +kernel
theorem dX8_trees_44 : decode cX8_trees 44 = .ok (.ixor, 1) := by decide +kernel
theorem dX8_trees_45 : decode cX8_trees 45 = .ok (.iand, 1) := by decide +kernel
theorem dX8_trees_46 : decode cX8_trees 46 = .ok (.ifCond .ne 99, 3) := by decide +kernel
theorem dX8_trees_49 : decode cX8_trees 49 = .ok (.iload_n 3, 1) := by decide +kernel
theorem dX8_trees_50 : decode cX8_trees 50 = .ok (.bipush (-9), 2) := by decide +kernel
theorem dX8_trees_52 : decode cX8_trees 52 = .ok (.if_icmp .eq 15, 3) := by decide +kernel
theorem dX8_trees_55 : decode cX8_trees 55 = .ok (.iload 4, 2) := by decide +kernel
theorem dX8_trees_57 : decode cX8_trees 57 = .ok (.invokestatic 178, 3) := by decide +kernel
theorem dX8_trees_60 : decode cX8_trees 60 = .ok (.iload_n 3, 1) := by decide +kernel
theorem dX8_trees_61 : decode cX8_trees 61 = .ok (.invokestatic 178, 3) := by decide +kernel
theorem dX8_trees_64 : decode cX8_trees 64 = .ok (.if_icmp .ge 81, 3) := by decide +kernel
theorem dX8_trees_67 : decode cX8_trees 67 = .ok (.aload_n 0, 1) := by decide +kernel
theorem dX8_trees_68 : decode cX8_trees 68 = .ok (.invokevirtual 181, 3) := by decide +kernel
theorem dX8_trees_71 : decode cX8_trees 71 = .ok (.iconst 0, 1) := by decide +kernel
theorem dX8_trees_72 : decode cX8_trees 72 = .ok (.istore 5, 2) := by decide +kernel
theorem dX8_trees_74 : decode cX8_trees 74 = .ok (.iload 5, 2) := by decide +kernel
theorem dX8_trees_76 : decode cX8_trees 76 = .ok (.bipush 10, 2) := by decide +kernel
theorem dX8_trees_78 : decode cX8_trees 78 = .ok (.if_icmp .ge 43, 3) := by decide +kernel
theorem dX8_trees_81 : decode cX8_trees 81 = .ok (.aload_n 0, 1) := by decide +kernel
theorem dX8_trees_82 : decode cX8_trees 82 = .ok (.getfield 19, 3) := by decide +kernel
theorem dX8_trees_85 : decode cX8_trees 85 = .ok (.bipush 39, 2) := by decide +kernel
theorem dX8_trees_87 : decode cX8_trees 87 = .ok (.iload 5, 2) := by decide +kernel
theorem dX8_trees_89 : decode cX8_trees 89 = .ok (.iadd, 1) := by decide +kernel
theorem dX8_trees_90 : decode cX8_trees 90 = .ok (.iload 4, 2) := by decide +kernel
theorem dX8_trees_92 : decode cX8_trees 92 = .ok (.iload 5, 2) := by decide +kernel
theorem dX8_trees_94 : decode cX8_trees 94 = .ok (.invokestatic 74, 3) := by decide +kernel
theorem dX8_trees_97 : decode cX8_trees 97 = .ok (.ifCond .eq 7, 3) := by decide +kernel
theorem dX8_trees_100 : decode cX8_trees 100 = .ok (.iconst 0, 1) := by decide +kernel
theorem dX8_trees_101 : decode cX8_trees 101 = .ok (.goto 13, 3) := by decide +kernel
theorem dX8_trees_104 : decode cX8_trees 104 = .ok (.aload_n 0, 1) := by decide +kernel
theorem dX8_trees_105 : decode cX8_trees 105 = .ok (.getfield 19, 3) := by decide +kernel
theorem dX8_trees_108 : decode cX8_trees 108 = .ok (.bipush 39, 2) := by decide +kernel
theorem dX8_trees_110 : decode cX8_trees 110 = .ok (.iload 5, 2) := by decide +kernel
theorem dX8_trees_112 : decode cX8_trees 112 = .ok (.iadd, 1) := by decide +kernel
theorem dX8_trees_113 : decode cX8_trees 113 = .ok (.iaload, 1) := by decide +kernel
theorem dX8_trees_114 : decode cX8_trees 114 = .ok (.iastore, 1) := by decide +kernel
theorem dX8_trees_115 : decode cX8_trees 115 = .ok (.iinc 5 1, 3) := by decide +kernel
theorem dX8_trees_118 : decode cX8_trees 118 = .ok (.goto (-44), 3) := by decide +kernel
theorem dX8_trees_121 : decode cX8_trees 121 = .ok (.aload_n 0, 1) := by decide +kernel
theorem dX8_trees_122 : decode cX8_trees 122 = .ok (.iconst 1, 1) := by decide +kernel
theorem dX8_trees_123 : decode cX8_trees 123 = .ok (.iload_n 2, 1) := by decide +kernel
theorem dX8_trees_124 : decode cX8_trees 124 = .ok (.aload_n 0, 1) := by decide +kernel
theorem dX8_trees_125 : decode cX8_trees 125 = .ok (.getfield 19, 3) := by decide +kernel
theorem dX8_trees_128 : decode cX8_trees 128 = .ok (.bipush 24, 2) := by decide +kernel
theorem dX8_trees_130 : decode cX8_trees 130 = .ok (.iaload, 1) := by decide +kernel
theorem dX8_trees_131 : decode cX8_trees 131 = .ok (.invokevirtual 151, 3) := by decide +kernel
theorem dX8_trees_134 : decode cX8_trees 134 = .ok (.iload_n 1, 1) := by decide +kernel
theorem dX8_trees_135 : decode cX8_trees 135 = .ok (.if_icmp .ne 8, 3) := by decide +kernel
theorem dX8_trees_138 : decode cX8_trees 138 = .ok (.iload 4, 2) := by decide +kernel
theorem dX8_trees_140 : decode cX8_trees 140 = .ok (.goto 4, 3) := by decide +kernel
theorem dX8_trees_143 : decode cX8_trees 143 = .ok (.iload_n 3, 1) := by decide +kernel
theorem dX8_trees_144 : decode cX8_trees 144 = .ok (.istore_n 3, 1) := by decide +kernel
theorem dX8_trees_145 : decode cX8_trees 145 = .ok (.iinc 4 1, 3) := by decide +kernel
theorem dX8_trees_148 : decode cX8_trees 148 = .ok (.goto (-119), 3) := by decide +kernel
theorem dX8_trees_151 : decode cX8_trees 151 = .ok (.iload_n 3, 1) := by decide +kernel
theorem dX8_trees_152 : decode cX8_trees 152 = .ok (.ireturn, 1) := by decide +kernel
set_option maxRecDepth 20000 in
theorem ggX8_decides_X8_isWind : GoodIn wsX8_decides wsX8_isWind := goodIn_r _ [7, 8, 9, 10, 6, 11, 35, 36, 37, 38, 39, 40, 41, 42, 43, 44, 45, 46, 47, 48, 49, 50, 51, 52, 53, 54, 55, 56, 57, 58, 59, 60, 61, 62, 63, 64, 65] (by decide +kernel) (by decide +kernel)
set_option maxRecDepth 20000 in
theorem gX8_decides_X8_isWind : GoodIn wsX8_decides (wsV RX8 133 RX8 yX8_isWind wsX8_isWind) := goodIn_app (goodIn_of _ (by decide +kernel)) ggX8_decides_X8_isWind
set_option maxRecDepth 20000 in
theorem ggX8_decides_X8_pointsBy : GoodIn wsX8_decides wsX8_pointsBy := goodIn_r _ [15, 1, 2, 16, 17, 18, 6, 19, 20, 21, 22, 23, 24, 25, 9, 10, 11, 35, 36, 37, 38, 39, 40, 41, 42, 43, 44, 45, 46, 47, 48, 49, 50, 51, 52, 53, 54, 55, 56, 57, 58, 59, 60, 61, 62, 63, 64, 65] (by decide +kernel) (by decide +kernel)
set_option maxRecDepth 20000 in
theorem gX8_decides_X8_pointsBy : GoodIn wsX8_decides (wsV RX8 127 RX8 yX8_pointsBy wsX8_pointsBy) := goodIn_app (goodIn_of _ (by decide +kernel)) ggX8_decides_X8_pointsBy
set_option maxRecDepth 20000 in
theorem ggX8_decides_X8_brookBy : GoodIn wsX8_decides wsX8_brookBy := goodIn_r _ [29, 1, 30, 31, 32, 6, 33, 2, 34, 17, 18, 19, 35, 36, 37, 38, 39, 40, 41, 42, 43, 44, 45, 46, 47, 48, 49, 50, 51, 52, 53, 54, 55, 56, 57, 58, 59, 60, 61, 62, 63, 64, 65] (by decide +kernel) (by decide +kernel)
set_option maxRecDepth 20000 in
theorem gX8_decides_X8_brookBy : GoodIn wsX8_decides (wsV RX8 130 RX8 yX8_brookBy wsX8_brookBy) := goodIn_app (goodIn_of _ (by decide +kernel)) ggX8_decides_X8_brookBy
theorem dX8_decides_0 : decode cX8_decides 0 = .ok (.aload_n 0, 1) := by decide +kernel
theorem dX8_decides_1 : decode cX8_decides 1 = .ok (.iload_n 1, 1) := by decide +kernel
theorem dX8_decides_2 : decode cX8_decides 2 = .ok (.invokevirtual 133, 3) := by decide +kernel
theorem dX8_decides_5 : decode cX8_decides 5 = .ok (.ifCond .ne 5, 3) := by decide +kernel
theorem dX8_decides_8 : decode cX8_decides 8 = .ok (.iconst (-1), 1) := by decide +kernel
theorem dX8_decides_9 : decode cX8_decides 9 = .ok (.ireturn, 1) := by decide +kernel
theorem dX8_decides_10 : decode cX8_decides 10 = .ok (.aload_n 0, 1) := by decide +kernel
theorem dX8_decides_11 : decode cX8_decides 11 = .ok (.iconst 0, 1) := by decide +kernel
theorem dX8_decides_12 : decode cX8_decides 12 = .ok (.iload_n 1, 1) := by decide +kernel
theorem dX8_decides_13 : decode cX8_decides 13 = .ok (.aload_n 0, 1) := by decide +kernel
theorem dX8_decides_14 : decode cX8_decides 14 = .ok (.getfield 19, 3) := by decide +kernel
theorem dX8_decides_17 : decode cX8_decides 17 = .ok (.bipush 24, 2) := by decide +kernel
theorem dX8_decides_19 : decode cX8_decides 19 = .ok (.iaload, 1) := by decide +kernel
theorem dX8_decides_20 : decode cX8_decides 20 = .ok (.invokevirtual 127, 3) := by decide +kernel
theorem dX8_decides_23 : decode cX8_decides 23 = .ok (.istore_n 2, 1) := by decide +kernel
theorem dX8_decides_24 : decode cX8_decides 24 = .ok (.iconst 0, 1) := by decide +kernel
theorem dX8_decides_25 : decode cX8_decides 25 = .ok (.istore_n 3, 1) := by decide +kernel
theorem dX8_decides_26 : decode cX8_decides 26 = .ok (.iconst 0, 1) := by decide +kernel
theorem dX8_decides_27 : decode cX8_decides 27 = .ok (.istore 4, 2) := by decide +kernel
theorem dX8_decides_29 : decode cX8_decides 29 = .ok (.iload 4, 2) := by decide +kernel
theorem dX8_decides_31 : decode cX8_decides 31 = .ok (.aload_n 0, 1) := by decide +kernel
theorem dX8_decides_32 : decode cX8_decides 32 = .ok (.getfield 53, 3) := by decide +kernel
theorem dX8_decides_35 : decode cX8_decides 35 = .ok (.if_icmp .ge 40, 3) := by decide +kernel
theorem dX8_decides_38 : decode cX8_decides 38 = .ok (.iload_n 3, 1) := by decide +kernel
theorem dX8_decides_39 : decode cX8_decides 39 = .ok (.aload_n 0, 1) := by decide +kernel
theorem dX8_decides_40 : decode cX8_decides 40 = .ok (.iconst 0, 1) := by decide +kernel
theorem dX8_decides_41 : decode cX8_decides 41 = .ok (.iload_n 2, 1) := by decide +kernel
theorem dX8_decides_42 : decode cX8_decides 42 = .ok (.iconst 1, 1) := by decide +kernel
theorem dX8_decides_43 : decode cX8_decides 43 = .ok (.iload 4, 2) := by decide +kernel
theorem dX8_decides_45 : decode cX8_decides 45 = .ok (.ishl, 1) := by decide +kernel
theorem dX8_decides_46 : decode cX8_decides 46 = .ok (.ixor, 1) := by decide +kernel
theorem dX8_decides_47 : decode cX8_decides 47 = .ok (.invokevirtual 130, 3) := by decide +kernel
theorem dX8_decides_50 : decode cX8_decides 50 = .ok (.aload_n 0, 1) := by decide +kernel
theorem dX8_decides_51 : decode cX8_decides 51 = .ok (.iconst 0, 1) := by decide +kernel
theorem dX8_decides_52 : decode cX8_decides 52 = .ok (.iload_n 2, 1) := by decide +kernel
theorem dX8_decides_53 : decode cX8_decides 53 = .ok (.invokevirtual 130, 3) := by decide +kernel
theorem dX8_decides_56 : decode cX8_decides 56 = .ok (.if_icmp .eq 10, 3) := by decide +kernel
theorem dX8_decides_59 : decode cX8_decides 59 = .ok (.iconst 1, 1) := by decide +kernel
theorem dX8_decides_60 : decode cX8_decides 60 = .ok (.iload 4, 2) := by decide +kernel
theorem dX8_decides_62 : decode cX8_decides 62 = .ok (.ishl, 1) := by decide +kernel
theorem dX8_decides_63 : decode cX8_decides 63 = .ok (.goto 4, 3) := by decide +kernel
theorem dX8_decides_66 : decode cX8_decides 66 = .ok (.iconst 0, 1) := by decide +kernel
theorem dX8_decides_67 : decode cX8_decides 67 = .ok (.ior, 1) := by decide +kernel
theorem dX8_decides_68 : decode cX8_decides 68 = .ok (.istore_n 3, 1) := by decide +kernel
theorem dX8_decides_69 : decode cX8_decides 69 = .ok (.iinc 4 1, 3) := by decide +kernel
theorem dX8_decides_72 : decode cX8_decides 72 = .ok (.goto (-43), 3) := by decide +kernel
theorem dX8_decides_75 : decode cX8_decides 75 = .ok (.iload_n 3, 1) := by decide +kernel
theorem dX8_decides_76 : decode cX8_decides 76 = .ok (.ireturn, 1) := by decide +kernel
set_option maxRecDepth 20000 in
theorem ggX8_power_X8_isCock : GoodIn wsX8_power wsX8_isCock := goodIn_r _ [6, 1, 7, 8, 5, 9, 23, 24, 25, 26, 27, 28, 29, 30, 31, 32, 33, 34, 35, 36, 37, 38, 39, 40, 41, 42, 43, 44, 45, 46, 47, 48, 49, 50, 51, 52, 53] (by decide +kernel) (by decide +kernel)
set_option maxRecDepth 20000 in
theorem gX8_power_X8_isCock : GoodIn wsX8_power (wsV RX8 115 RX8 yX8_isCock wsX8_isCock) := goodIn_app (goodIn_of _ (by decide +kernel)) ggX8_power_X8_isCock
set_option maxRecDepth 20000 in
theorem ggX8_power_X8_has : GoodIn wsX8_power wsX8_has := goodIn_r _ [12] (by decide +kernel) (by decide +kernel)
set_option maxRecDepth 20000 in
theorem gX8_power_X8_has : GoodIn wsX8_power (va_wsS RX8 74 yX8_has wsX8_has) := goodIn_app (goodIn_of _ (by decide +kernel)) ggX8_power_X8_has
set_option maxRecDepth 20000 in
theorem ggX8_power_X8_brookBy : GoodIn wsX8_power wsX8_brookBy := goodIn_r _ [16, 17, 18, 19, 20, 5, 21, 1, 22, 10, 11, 12, 23, 24, 25, 26, 27, 28, 29, 30, 31, 32, 33, 34, 35, 36, 37, 38, 39, 40, 41, 42, 43, 44, 45, 46, 47, 48, 49, 50, 51, 52, 53] (by decide +kernel) (by decide +kernel)
set_option maxRecDepth 20000 in
theorem gX8_power_X8_brookBy : GoodIn wsX8_power (wsV RX8 130 RX8 yX8_brookBy wsX8_brookBy) := goodIn_app (goodIn_of _ (by decide +kernel)) ggX8_power_X8_brookBy
theorem dX8_power_0 : decode cX8_power 0 = .ok (.aload_n 0, 1) := by decide +kernel
theorem dX8_power_1 : decode cX8_power 1 = .ok (.iload_n 1, 1) := by decide +kernel
theorem dX8_power_2 : decode cX8_power 2 = .ok (.invokevirtual 115, 3) := by decide +kernel
theorem dX8_power_5 : decode cX8_power 5 = .ok (.ifCond .ne 5, 3) := by decide +kernel
theorem dX8_power_8 : decode cX8_power 8 = .ok (.iconst (-1), 1) := by decide +kernel
theorem dX8_power_9 : decode cX8_power 9 = .ok (.ireturn, 1) := by decide +kernel
theorem dX8_power_10 : decode cX8_power 10 = .ok (.iconst 0, 1) := by decide +kernel
theorem dX8_power_11 : decode cX8_power 11 = .ok (.istore_n 2, 1) := by decide +kernel
theorem dX8_power_12 : decode cX8_power 12 = .ok (.iconst 0, 1) := by decide +kernel
theorem dX8_power_13 : decode cX8_power 13 = .ok (.istore_n 3, 1) := by decide +kernel
theorem dX8_power_14 : decode cX8_power 14 = .ok (.iload_n 3, 1) := by decide +kernel
theorem dX8_power_15 : decode cX8_power 15 = .ok (.iconst 1, 1) := by decide +kernel
theorem dX8_power_16 : decode cX8_power 16 = .ok (.aload_n 0, 1) := by decide +kernel
theorem dX8_power_17 : decode cX8_power 17 = .ok (.getfield 53, 3) := by decide +kernel
theorem dX8_power_20 : decode cX8_power 20 = .ok (.ishl, 1) := by decide +kernel
theorem dX8_power_21 : decode cX8_power 21 = .ok (.if_icmp .ge 44, 3) := by decide +kernel
theorem dX8_power_24 : decode cX8_power 24 = .ok (.iload_n 2, 1) := by decide +kernel
theorem dX8_power_25 : decode cX8_power 25 = .ok (.iload_n 3, 1) := by decide +kernel
theorem dX8_power_26 : decode cX8_power 26 = .ok (.iload_n 1, 1) := by decide +kernel
theorem dX8_power_27 : decode cX8_power 27 = .ok (.invokestatic 74, 3) := by decide +kernel
theorem dX8_power_30 : decode cX8_power 30 = .ok (.ifCond .ne 26, 3) := by decide +kernel
theorem dX8_power_33 : decode cX8_power 33 = .ok (.aload_n 0, 1) := by decide +kernel
theorem dX8_power_34 : decode cX8_power 34 = .ok (.iconst 0, 1) := by decide +kernel
theorem dX8_power_35 : decode cX8_power 35 = .ok (.iload_n 3, 1) := by decide +kernel
theorem dX8_power_36 : decode cX8_power 36 = .ok (.invokevirtual 130, 3) := by decide +kernel
theorem dX8_power_39 : decode cX8_power 39 = .ok (.aload_n 0, 1) := by decide +kernel
theorem dX8_power_40 : decode cX8_power 40 = .ok (.iconst 0, 1) := by decide +kernel
theorem dX8_power_41 : decode cX8_power 41 = .ok (.iload_n 3, 1) := by decide +kernel
theorem dX8_power_42 : decode cX8_power 42 = .ok (.iconst 1, 1) := by decide +kernel
theorem dX8_power_43 : decode cX8_power 43 = .ok (.iload_n 1, 1) := by decide +kernel
theorem dX8_power_44 : decode cX8_power 44 = .ok (.ishl, 1) := by decide +kernel
theorem dX8_power_45 : decode cX8_power 45 = .ok (.ior, 1) := by decide +kernel
theorem dX8_power_46 : decode cX8_power 46 = .ok (.invokevirtual 130, 3) := by decide +kernel
theorem dX8_power_49 : decode cX8_power 49 = .ok (.if_icmp .eq 7, 3) := by decide +kernel
theorem dX8_power_52 : decode cX8_power 52 = .ok (.iconst 1, 1) := by decide +kernel
theorem dX8_power_53 : decode cX8_power 53 = .ok (.goto 4, 3) := by decide +kernel
theorem dX8_power_56 : decode cX8_power 56 = .ok (.iconst 0, 1) := by decide +kernel
theorem dX8_power_57 : decode cX8_power 57 = .ok (.iadd, 1) := by decide +kernel
theorem dX8_power_58 : decode cX8_power 58 = .ok (.istore_n 2, 1) := by decide +kernel
theorem dX8_power_59 : decode cX8_power 59 = .ok (.iinc 3 1, 3) := by decide +kernel
theorem dX8_power_62 : decode cX8_power 62 = .ok (.goto (-48), 3) := by decide +kernel
theorem dX8_power_65 : decode cX8_power 65 = .ok (.iload_n 2, 1) := by decide +kernel
theorem dX8_power_66 : decode cX8_power 66 = .ok (.ireturn, 1) := by decide +kernel
theorem dX8_tenTo_0 : decode cX8_tenTo 0 = .ok (.iconst 1, 1) := by decide +kernel
theorem dX8_tenTo_1 : decode cX8_tenTo 1 = .ok (.istore_n 1, 1) := by decide +kernel
theorem dX8_tenTo_2 : decode cX8_tenTo 2 = .ok (.iconst 0, 1) := by decide +kernel
theorem dX8_tenTo_3 : decode cX8_tenTo 3 = .ok (.istore_n 2, 1) := by decide +kernel
theorem dX8_tenTo_4 : decode cX8_tenTo 4 = .ok (.iload_n 2, 1) := by decide +kernel
theorem dX8_tenTo_5 : decode cX8_tenTo 5 = .ok (.iload_n 0, 1) := by decide +kernel
theorem dX8_tenTo_6 : decode cX8_tenTo 6 = .ok (.if_icmp .ge 14, 3) := by decide +kernel
theorem dX8_tenTo_9 : decode cX8_tenTo 9 = .ok (.iload_n 1, 1) := by decide +kernel
theorem dX8_tenTo_10 : decode cX8_tenTo 10 = .ok (.bipush 10, 2) := by decide +kernel
theorem dX8_tenTo_12 : decode cX8_tenTo 12 = .ok (.imul, 1) := by decide +kernel
theorem dX8_tenTo_13 : decode cX8_tenTo 13 = .ok (.istore_n 1, 1) := by decide +kernel
theorem dX8_tenTo_14 : decode cX8_tenTo 14 = .ok (.iinc 2 1, 3) := by decide +kernel
theorem dX8_tenTo_17 : decode cX8_tenTo 17 = .ok (.goto (-13), 3) := by decide +kernel
theorem dX8_tenTo_20 : decode cX8_tenTo 20 = .ok (.iload_n 1, 1) := by decide +kernel
theorem dX8_tenTo_21 : decode cX8_tenTo 21 = .ok (.ireturn, 1) := by decide +kernel
set_option maxRecDepth 20000 in
theorem ggX8_judge_X8_in : GoodIn wsX8_judge wsX8_in := goodIn_r _ [6] (by decide +kernel) (by decide +kernel)
set_option maxRecDepth 20000 in
theorem gX8_judge_X8_in : GoodIn wsX8_judge (va_wsS RX8 59 yX8_in wsX8_in) := goodIn_app (goodIn_of _ (by decide +kernel)) ggX8_judge_X8_in
set_option maxRecDepth 20000 in
theorem ggX8_judge_X8_tenTo : GoodIn wsX8_judge wsX8_tenTo := goodIn_r _ [9] (by decide +kernel) (by decide +kernel)
set_option maxRecDepth 20000 in
theorem gX8_judge_X8_tenTo : GoodIn wsX8_judge (va_wsS RX8 186 yX8_tenTo wsX8_tenTo) := goodIn_app (goodIn_of _ (by decide +kernel)) ggX8_judge_X8_tenTo
set_option maxRecDepth 20000 in
theorem ggX8_judge_X8_layTrial : GoodIn wsX8_judge wsX8_layTrial := goodIn_r _ [13, 2, 47, 48, 49, 50, 51, 52, 53, 54, 55, 56, 57, 58, 59, 60, 61, 62, 63, 64, 65, 66, 67, 68, 69, 70, 71, 72, 73, 74, 75, 76, 77] (by decide +kernel) (by decide +kernel)
set_option maxRecDepth 20000 in
theorem gX8_judge_X8_layTrial : GoodIn wsX8_judge (wsV RX8 181 RX8 yX8_layTrial wsX8_layTrial) := goodIn_app (goodIn_of _ (by decide +kernel)) ggX8_judge_X8_layTrial
set_option maxRecDepth 20000 in
theorem ggX8_judge_X8_isWind : GoodIn wsX8_judge wsX8_isWind := goodIn_r _ [17, 18, 3, 4, 5, 6, 47, 48, 49, 50, 51, 52, 53, 54, 55, 56, 57, 58, 59, 60, 61, 62, 63, 64, 65, 66, 67, 68, 69, 70, 71, 72, 73, 74, 75, 76, 77] (by decide +kernel) (by decide +kernel)
set_option maxRecDepth 20000 in
theorem gX8_judge_X8_isWind : GoodIn wsX8_judge (wsV RX8 133 RX8 yX8_isWind wsX8_isWind) := goodIn_app (goodIn_of _ (by decide +kernel)) ggX8_judge_X8_isWind
set_option maxRecDepth 20000 in
theorem ggX8_judge_X8_blowOn : GoodIn wsX8_judge wsX8_blowOn := goodIn_r _ [22, 2, 23, 24, 25, 5, 26, 27, 28, 29, 30, 31, 32, 33, 34, 35, 36, 37, 3, 4, 6, 38, 39, 40, 41, 42, 43, 44, 45, 46, 47, 48, 49, 50, 51, 52, 53, 54, 55, 56, 57, 58, 59, 60, 61, 62, 63, 64, 65, 66, 67, 68, 69, 70, 71, 72, 73, 74, 75, 76, 77] (by decide +kernel) (by decide +kernel)
set_option maxRecDepth 20000 in
theorem gX8_judge_X8_blowOn : GoodIn wsX8_judge (wsV RX8 144 RX8 yX8_blowOn wsX8_blowOn) := goodIn_app (goodIn_of _ (by decide +kernel)) ggX8_judge_X8_blowOn
theorem dX8_judge_0 : decode cX8_judge 0 = .ok (.iload_n 1, 1) := by decide +kernel
theorem dX8_judge_1 : decode cX8_judge 1 = .ok (.i2l, 1) := by decide +kernel
theorem dX8_judge_2 : decode cX8_judge 2 = .ok (.lconst 1, 1) := by decide +kernel
theorem dX8_judge_3 : decode cX8_judge 3 = .ok (.ldc2_w 184, 3) := by decide +kernel
theorem dX8_judge_6 : decode cX8_judge 6 = .ok (.invokestatic 59, 3) := by decide +kernel
theorem dX8_judge_9 : decode cX8_judge 9 = .ok (.ifCond .eq 19, 3) := by decide +kernel
theorem dX8_judge_12 : decode cX8_judge 12 = .ok (.iload_n 2, 1) := by decide +kernel
theorem dX8_judge_13 : decode cX8_judge 13 = .ok (.i2l, 1) := by decide +kernel
theorem dX8_judge_14 : decode cX8_judge 14 = .ok (.lconst 0, 1) := by decide +kernel
theorem dX8_judge_15 : decode cX8_judge 15 = .ok (.iload_n 1, 1) := by decide +kernel
theorem dX8_judge_16 : decode cX8_judge 16 = .ok (.invokestatic 186, 3) := by decide +kernel
theorem dX8_judge_19 : decode cX8_judge 19 = .ok (.iconst 1, 1) := by decide +kernel
theorem dX8_judge_20 : decode cX8_judge 20 = .ok (.isub, 1) := by decide +kernel
theorem dX8_judge_21 : decode cX8_judge 21 = .ok (.i2l, 1) := by decide +kernel
theorem dX8_judge_22 : decode cX8_judge 22 = .ok (.invokestatic 59, 3) := by decide +kernel
theorem dX8_judge_25 : decode cX8_judge 25 = .ok (.ifCond .ne 6, 3) := by decide +kernel
theorem dX8_judge_28 : decode cX8_judge 28 = .ok (.bipush (-2), 2) := by decide +kernel
theorem dX8_judge_30 : decode cX8_judge 30 = .ok (.ireturn, 1) := by decide +kernel
theorem dX8_judge_31 : decode cX8_judge 31 = .ok (.aload_n 0, 1) := by decide +kernel
theorem dX8_judge_32 : decode cX8_judge 32 = .ok (.invokevirtual 181, 3) := by decide +kernel
theorem dX8_judge_35 : decode cX8_judge 35 = .ok (.iconst 0, 1) := by decide +kernel
theorem dX8_judge_36 : decode cX8_judge 36 = .ok (.istore_n 3, 1) := by decide +kernel
theorem dX8_judge_37 : decode cX8_judge 37 = .ok (.iload_n 3, 1) := by decide +kernel
theorem dX8_judge_38 : decode cX8_judge 38 = .ok (.iload_n 1, 1) := by decide +kernel
theorem dX8_judge_39 : decode cX8_judge 39 = .ok (.if_icmp .ge 54, 3) := by decide +kernel
theorem dX8_judge_42 : decode cX8_judge 42 = .ok (.iload_n 2, 1) := by decide +kernel
theorem dX8_judge_43 : decode cX8_judge 43 = .ok (.iload_n 1, 1) := by decide +kernel
theorem dX8_judge_44 : decode cX8_judge 44 = .ok (.iconst 1, 1) := by decide +kernel
theorem dX8_judge_45 : decode cX8_judge 45 = .ok (.isub, 1) := by decide +kernel
theorem dX8_judge_46 : decode cX8_judge 46 = .ok (.iload_n 3, 1) := by decide +kernel
theorem dX8_judge_47 : decode cX8_judge 47 = .ok (.isub, 1) := by decide +kernel
theorem dX8_judge_48 : decode cX8_judge 48 = .ok (.invokestatic 186, 3) := by decide +kernel
theorem dX8_judge_51 : decode cX8_judge 51 = .ok (.idiv, 1) := by decide +kernel
theorem dX8_judge_52 : decode cX8_judge 52 = .ok (.bipush 10, 2) := by decide +kernel
theorem dX8_judge_54 : decode cX8_judge 54 = .ok (.irem, 1) := by decide +kernel
theorem dX8_judge_55 : decode cX8_judge 55 = .ok (.istore 4, 2) := by decide +kernel
theorem dX8_judge_57 : decode cX8_judge 57 = .ok (.aload_n 0, 1) := by decide +kernel
theorem dX8_judge_58 : decode cX8_judge 58 = .ok (.iload 4, 2) := by decide +kernel
theorem dX8_judge_60 : decode cX8_judge 60 = .ok (.invokevirtual 133, 3) := by decide +kernel
end
section
theorem dX8_judge_63 : decode cX8_judge 63 = .ok (.ifCond .ne 5, 3) := by decide +kernel
theorem dX8_judge_66 : decode cX8_judge 66 = .ok (.iload_n 3, 1) := by decide +kernel
theorem dX8_judge_67 : decode cX8_judge 67 = .ok (.ireturn, 1) := by decide +kernel
theorem dX8_judge_68 : decode cX8_judge 68 = .ok (.aload_n 0, 1) := by decide +kernel
theorem dX8_judge_69 : decode cX8_judge 69 = .ok (.iconst 1, 1) := by decide +kernel
theorem dX8_judge_70 : decode cX8_judge 70 = .ok (.iload 4, 2) := by decide +kernel
theorem dX8_judge_72 : decode cX8_judge 72 = .ok (.invokevirtual 144, 3) := by decide +kernel
theorem dX8_judge_75 : decode cX8_judge 75 = .ok (.aload_n 0, 1) := by decide +kernel
theorem dX8_judge_76 : decode cX8_judge 76 = .ok (.getfield 19, 3) := by decide +kernel
theorem dX8_judge_79 : decode cX8_judge 79 = .ok (.bipush 52, 2) := by decide +kernel
theorem dX8_judge_81 : decode cX8_judge 81 = .ok (.iaload, 1) := by decide +kernel
theorem dX8_judge_82 : decode cX8_judge 82 = .ok (.ifCond .eq 5, 3) := by decide +kernel
theorem dX8_judge_85 : decode cX8_judge 85 = .ok (.iload_n 3, 1) := by decide +kernel
theorem dX8_judge_86 : decode cX8_judge 86 = .ok (.ireturn, 1) := by decide +kernel
theorem dX8_judge_87 : decode cX8_judge 87 = .ok (.iinc 3 1, 3) := by decide +kernel
theorem dX8_judge_90 : decode cX8_judge 90 = .ok (.goto (-53), 3) := by decide +kernel
theorem dX8_judge_93 : decode cX8_judge 93 = .ok (.bipush (-9), 2) := by decide +kernel
theorem dX8_judge_95 : decode cX8_judge 95 = .ok (.ireturn, 1) := by decide +kernel
set_option maxRecDepth 20000 in
theorem ggX8_see_X8_isCock : GoodIn wsX8_see wsX8_isCock := goodIn_r _ [8, 9, 10, 11, 7, 12, 13, 14, 15, 16, 17, 18, 19, 20, 21, 22, 23, 24, 25, 26, 27, 28, 29, 30, 31, 32, 33, 34, 35, 36, 37, 38, 39, 40, 41, 42, 43] (by decide +kernel) (by decide +kernel)
set_option maxRecDepth 20000 in
theorem gX8_see_X8_isCock : GoodIn wsX8_see (wsV RX8 115 RX8 yX8_isCock wsX8_isCock) := goodIn_app (goodIn_of _ (by decide +kernel)) ggX8_see_X8_isCock
set_option maxRecDepth 20000 in
theorem ggX8_see_X8_in : GoodIn wsX8_see wsX8_in := goodIn_r _ [12] (by decide +kernel) (by decide +kernel)
set_option maxRecDepth 20000 in
theorem gX8_see_X8_in : GoodIn wsX8_see (va_wsS RX8 59 yX8_in wsX8_in) := goodIn_app (goodIn_of _ (by decide +kernel)) ggX8_see_X8_in
theorem dX8_see_0 : decode cX8_see 0 = .ok (.aload_n 0, 1) := by decide +kernel
theorem dX8_see_1 : decode cX8_see 1 = .ok (.iload_n 1, 1) := by decide +kernel
theorem dX8_see_2 : decode cX8_see 2 = .ok (.invokevirtual 115, 3) := by decide +kernel
theorem dX8_see_5 : decode cX8_see 5 = .ok (.ifCond .ne 5, 3) := by decide +kernel
theorem dX8_see_8 : decode cX8_see 8 = .ok (.iconst (-1), 1) := by decide +kernel
theorem dX8_see_9 : decode cX8_see 9 = .ok (.ireturn, 1) := by decide +kernel
theorem dX8_see_10 : decode cX8_see 10 = .ok (.iload_n 2, 1) := by decide +kernel
theorem dX8_see_11 : decode cX8_see 11 = .ok (.i2l, 1) := by decide +kernel
theorem dX8_see_12 : decode cX8_see 12 = .ok (.lconst 0, 1) := by decide +kernel
theorem dX8_see_13 : decode cX8_see 13 = .ok (.lconst 1, 1) := by decide +kernel
theorem dX8_see_14 : decode cX8_see 14 = .ok (.invokestatic 59, 3) := by decide +kernel
theorem dX8_see_17 : decode cX8_see 17 = .ok (.ifCond .ne 6, 3) := by decide +kernel
theorem dX8_see_20 : decode cX8_see 20 = .ok (.bipush (-2), 2) := by decide +kernel
theorem dX8_see_22 : decode cX8_see 22 = .ok (.ireturn, 1) := by decide +kernel
theorem dX8_see_23 : decode cX8_see 23 = .ok (.aload_n 0, 1) := by decide +kernel
theorem dX8_see_24 : decode cX8_see 24 = .ok (.getfield 189, 3) := by decide +kernel
theorem dX8_see_27 : decode cX8_see 27 = .ok (.bipush 6, 2) := by decide +kernel
theorem dX8_see_29 : decode cX8_see 29 = .ok (.if_icmp .ne 6, 3) := by decide +kernel
theorem dX8_see_32 : decode cX8_see 32 = .ok (.bipush (-4), 2) := by decide +kernel
theorem dX8_see_34 : decode cX8_see 34 = .ok (.ireturn, 1) := by decide +kernel
theorem dX8_see_35 : decode cX8_see 35 = .ok (.aload_n 0, 1) := by decide +kernel
theorem dX8_see_36 : decode cX8_see 36 = .ok (.getfield 40, 3) := by decide +kernel
theorem dX8_see_39 : decode cX8_see 39 = .ok (.aload_n 0, 1) := by decide +kernel
theorem dX8_see_40 : decode cX8_see 40 = .ok (.getfield 189, 3) := by decide +kernel
theorem dX8_see_43 : decode cX8_see 43 = .ok (.iload_n 1, 1) := by decide +kernel
theorem dX8_see_44 : decode cX8_see 44 = .ok (.iastore, 1) := by decide +kernel
theorem dX8_see_45 : decode cX8_see 45 = .ok (.aload_n 0, 1) := by decide +kernel
theorem dX8_see_46 : decode cX8_see 46 = .ok (.getfield 43, 3) := by decide +kernel
theorem dX8_see_49 : decode cX8_see 49 = .ok (.aload_n 0, 1) := by decide +kernel
theorem dX8_see_50 : decode cX8_see 50 = .ok (.getfield 189, 3) := by decide +kernel
theorem dX8_see_53 : decode cX8_see 53 = .ok (.iload_n 2, 1) := by decide +kernel
theorem dX8_see_54 : decode cX8_see 54 = .ok (.iastore, 1) := by decide +kernel
theorem dX8_see_55 : decode cX8_see 55 = .ok (.aload_n 0, 1) := by decide +kernel
theorem dX8_see_56 : decode cX8_see 56 = .ok (.dup, 1) := by decide +kernel
theorem dX8_see_57 : decode cX8_see 57 = .ok (.getfield 189, 3) := by decide +kernel
theorem dX8_see_60 : decode cX8_see 60 = .ok (.iconst 1, 1) := by decide +kernel
theorem dX8_see_61 : decode cX8_see 61 = .ok (.iadd, 1) := by decide +kernel
theorem dX8_see_62 : decode cX8_see 62 = .ok (.putfield 189, 3) := by decide +kernel
theorem dX8_see_65 : decode cX8_see 65 = .ok (.aload_n 0, 1) := by decide +kernel
theorem dX8_see_66 : decode cX8_see 66 = .ok (.getfield 189, 3) := by decide +kernel
theorem dX8_see_69 : decode cX8_see 69 = .ok (.ireturn, 1) := by decide +kernel
theorem dX8_unsee_0 : decode cX8_unsee 0 = .ok (.aload_n 0, 1) := by decide +kernel
theorem dX8_unsee_1 : decode cX8_unsee 1 = .ok (.getfield 189, 3) := by decide +kernel
theorem dX8_unsee_4 : decode cX8_unsee 4 = .ok (.istore_n 1, 1) := by decide +kernel
theorem dX8_unsee_5 : decode cX8_unsee 5 = .ok (.aload_n 0, 1) := by decide +kernel
theorem dX8_unsee_6 : decode cX8_unsee 6 = .ok (.iconst 0, 1) := by decide +kernel
theorem dX8_unsee_7 : decode cX8_unsee 7 = .ok (.putfield 189, 3) := by decide +kernel
theorem dX8_unsee_10 : decode cX8_unsee 10 = .ok (.iload_n 1, 1) := by decide +kernel
theorem dX8_unsee_11 : decode cX8_unsee 11 = .ok (.ireturn, 1) := by decide +kernel
set_option maxRecDepth 20000 in
theorem ggX8_isSeen_X8_pointsBy : GoodIn wsX8_isSeen wsX8_pointsBy := goodIn_r _ [8, 9, 10, 11, 12, 13, 7, 14, 15, 16, 17, 18, 19, 20, 21, 22, 23, 28, 29, 30, 31, 32, 33, 34, 35, 36, 37, 38, 39, 40, 41, 42, 43, 44, 45, 46, 47, 48, 49, 50, 51, 52, 53, 54, 55, 56, 57, 58] (by decide +kernel) (by decide +kernel)
set_option maxRecDepth 20000 in
theorem gX8_isSeen_X8_pointsBy : GoodIn wsX8_isSeen (wsV RX8 127 RX8 yX8_pointsBy wsX8_pointsBy) := goodIn_app (goodIn_of _ (by decide +kernel)) ggX8_isSeen_X8_pointsBy
set_option maxRecDepth 20000 in
theorem ggX8_isSeen_X8_isCock : GoodIn wsX8_isSeen wsX8_isCock := goodIn_r _ [27, 10, 21, 22, 7, 23, 28, 29, 30, 31, 32, 33, 34, 35, 36, 37, 38, 39, 40, 41, 42, 43, 44, 45, 46, 47, 48, 49, 50, 51, 52, 53, 54, 55, 56, 57, 58] (by decide +kernel) (by decide +kernel)
set_option maxRecDepth 20000 in
theorem gX8_isSeen_X8_isCock : GoodIn wsX8_isSeen (wsV RX8 115 RX8 yX8_isCock wsX8_isCock) := goodIn_app (goodIn_of _ (by decide +kernel)) ggX8_isSeen_X8_isCock
theorem dX8_isSeen_0 : decode cX8_isSeen 0 = .ok (.aload_n 0, 1) := by decide +kernel
theorem dX8_isSeen_1 : decode cX8_isSeen 1 = .ok (.iconst 0, 1) := by decide +kernel
theorem dX8_isSeen_2 : decode cX8_isSeen 2 = .ok (.iload_n 1, 1) := by decide +kernel
theorem dX8_isSeen_3 : decode cX8_isSeen 3 = .ok (.iload_n 2, 1) := by decide +kernel
theorem dX8_isSeen_4 : decode cX8_isSeen 4 = .ok (.invokevirtual 127, 3) := by decide +kernel
theorem dX8_isSeen_7 : decode cX8_isSeen 7 = .ok (.istore_n 3, 1) := by decide +kernel
theorem dX8_isSeen_8 : decode cX8_isSeen 8 = .ok (.iconst 1, 1) := by decide +kernel
theorem dX8_isSeen_9 : decode cX8_isSeen 9 = .ok (.istore 4, 2) := by decide +kernel
theorem dX8_isSeen_11 : decode cX8_isSeen 11 = .ok (.iconst 0, 1) := by decide +kernel
theorem dX8_isSeen_12 : decode cX8_isSeen 12 = .ok (.istore 5, 2) := by decide +kernel
theorem dX8_isSeen_14 : decode cX8_isSeen 14 = .ok (.iload 5, 2) := by decide +kernel
theorem dX8_isSeen_16 : decode cX8_isSeen 16 = .ok (.aload_n 0, 1) := by decide +kernel
theorem dX8_isSeen_17 : decode cX8_isSeen 17 = .ok (.getfield 189, 3) := by decide +kernel
theorem dX8_isSeen_20 : decode cX8_isSeen 20 = .ok (.if_icmp .ge 56, 3) := by decide +kernel
theorem dX8_isSeen_23 : decode cX8_isSeen 23 = .ok (.iload 4, 2) := by decide +kernel
theorem dX8_isSeen_25 : decode cX8_isSeen 25 = .ok (.ifCond .eq 42, 3) := by decide +kernel
theorem dX8_isSeen_28 : decode cX8_isSeen 28 = .ok (.aload_n 0, 1) := by decide +kernel
theorem dX8_isSeen_29 : decode cX8_isSeen 29 = .ok (.aload_n 0, 1) := by decide +kernel
theorem dX8_isSeen_30 : decode cX8_isSeen 30 = .ok (.getfield 40, 3) := by decide +kernel
theorem dX8_isSeen_33 : decode cX8_isSeen 33 = .ok (.iload 5, 2) := by decide +kernel
theorem dX8_isSeen_35 : decode cX8_isSeen 35 = .ok (.iaload, 1) := by decide +kernel
theorem dX8_isSeen_36 : decode cX8_isSeen 36 = .ok (.invokevirtual 115, 3) := by decide +kernel
theorem dX8_isSeen_39 : decode cX8_isSeen 39 = .ok (.ifCond .eq 24, 3) := by decide +kernel
theorem dX8_isSeen_42 : decode cX8_isSeen 42 = .ok (.iload_n 3, 1) := by decide +kernel
theorem dX8_isSeen_43 : decode cX8_isSeen 43 = .ok (.aload_n 0, 1) := by decide +kernel
theorem dX8_isSeen_44 : decode cX8_isSeen 44 = .ok (.getfield 40, 3) := by decide +kernel
theorem dX8_isSeen_47 : decode cX8_isSeen 47 = .ok (.iload 5, 2) := by decide +kernel
theorem dX8_isSeen_49 : decode cX8_isSeen 49 = .ok (.iaload, 1) := by decide +kernel
theorem dX8_isSeen_50 : decode cX8_isSeen 50 = .ok (.ishr, 1) := by decide +kernel
theorem dX8_isSeen_51 : decode cX8_isSeen 51 = .ok (.iconst 1, 1) := by decide +kernel
theorem dX8_isSeen_52 : decode cX8_isSeen 52 = .ok (.iand, 1) := by decide +kernel
theorem dX8_isSeen_53 : decode cX8_isSeen 53 = .ok (.aload_n 0, 1) := by decide +kernel
theorem dX8_isSeen_54 : decode cX8_isSeen 54 = .ok (.getfield 43, 3) := by decide +kernel
theorem dX8_isSeen_57 : decode cX8_isSeen 57 = .ok (.iload 5, 2) := by decide +kernel
theorem dX8_isSeen_59 : decode cX8_isSeen 59 = .ok (.iaload, 1) := by decide +kernel
theorem dX8_isSeen_60 : decode cX8_isSeen 60 = .ok (.if_icmp .ne 7, 3) := by decide +kernel
theorem dX8_isSeen_63 : decode cX8_isSeen 63 = .ok (.iconst 1, 1) := by decide +kernel
theorem dX8_isSeen_64 : decode cX8_isSeen 64 = .ok (.goto 4, 3) := by decide +kernel
theorem dX8_isSeen_67 : decode cX8_isSeen 67 = .ok (.iconst 0, 1) := by decide +kernel
theorem dX8_isSeen_68 : decode cX8_isSeen 68 = .ok (.istore 4, 2) := by decide +kernel
theorem dX8_isSeen_70 : decode cX8_isSeen 70 = .ok (.iinc 5 1, 3) := by decide +kernel
theorem dX8_isSeen_73 : decode cX8_isSeen 73 = .ok (.goto (-59), 3) := by decide +kernel
theorem dX8_isSeen_76 : decode cX8_isSeen 76 = .ok (.iload 4, 2) := by decide +kernel
theorem dX8_isSeen_78 : decode cX8_isSeen 78 = .ok (.ireturn, 1) := by decide +kernel
set_option maxRecDepth 20000 in
theorem ggX8_strings_X8_isWind : GoodIn wsX8_strings wsX8_isWind := goodIn_r _ [7, 8, 9, 10, 6, 11, 38, 39, 40, 41, 42, 43, 44, 45, 46, 47, 48, 49, 50, 51, 52, 53, 54, 55, 56, 57, 58, 59, 60, 61, 62, 63, 64, 65, 66, 67, 68] (by decide +kernel) (by decide +kernel)
set_option maxRecDepth 20000 in
theorem gX8_strings_X8_isWind : GoodIn wsX8_strings (wsV RX8 133 RX8 yX8_isWind wsX8_isWind) := goodIn_app (goodIn_of _ (by decide +kernel)) ggX8_strings_X8_isWind
set_option maxRecDepth 20000 in
theorem ggX8_strings_X8_in : GoodIn wsX8_strings wsX8_in := goodIn_r _ [11] (by decide +kernel) (by decide +kernel)
set_option maxRecDepth 20000 in
theorem gX8_strings_X8_in : GoodIn wsX8_strings (va_wsS RX8 59 yX8_in wsX8_in) := goodIn_app (goodIn_of _ (by decide +kernel)) ggX8_strings_X8_in
set_option maxRecDepth 20000 in
theorem ggX8_strings_X8_isSeen : GoodIn wsX8_strings wsX8_isSeen := goodIn_r _ [15, 16, 17, 18, 19, 20, 21, 6, 22, 23, 2, 24, 25, 26, 27, 28, 29, 30, 31, 32, 33, 9, 10, 11, 34, 35, 36, 37, 38, 39, 40, 41, 42, 43, 44, 45, 46, 47, 48, 49, 50, 51, 52, 53, 54, 55, 56, 57, 58, 59, 60, 61, 62, 63, 64, 65, 66, 67, 68] (by decide +kernel) (by decide +kernel)
set_option maxRecDepth 20000 in
theorem gX8_strings_X8_isSeen : GoodIn wsX8_strings (wsV RX8 192 RX8 yX8_isSeen wsX8_isSeen) := goodIn_app (goodIn_of _ (by decide +kernel)) ggX8_strings_X8_isSeen
theorem dX8_strings_0 : decode cX8_strings 0 = .ok (.aload_n 0, 1) := by decide +kernel
theorem dX8_strings_1 : decode cX8_strings 1 = .ok (.iload_n 1, 1) := by decide +kernel
theorem dX8_strings_2 : decode cX8_strings 2 = .ok (.invokevirtual 133, 3) := by decide +kernel
theorem dX8_strings_5 : decode cX8_strings 5 = .ok (.ifCond .ne 5, 3) := by decide +kernel
theorem dX8_strings_8 : decode cX8_strings 8 = .ok (.iconst (-1), 1) := by decide +kernel
theorem dX8_strings_9 : decode cX8_strings 9 = .ok (.ireturn, 1) := by decide +kernel
theorem dX8_strings_10 : decode cX8_strings 10 = .ok (.iload_n 2, 1) := by decide +kernel
theorem dX8_strings_11 : decode cX8_strings 11 = .ok (.i2l, 1) := by decide +kernel
theorem dX8_strings_12 : decode cX8_strings 12 = .ok (.lconst 0, 1) := by decide +kernel
theorem dX8_strings_13 : decode cX8_strings 13 = .ok (.ldc2_w 136, 3) := by decide +kernel
theorem dX8_strings_16 : decode cX8_strings 16 = .ok (.invokestatic 59, 3) := by decide +kernel
theorem dX8_strings_19 : decode cX8_strings 19 = .ok (.ifCond .ne 6, 3) := by decide +kernel
theorem dX8_strings_22 : decode cX8_strings 22 = .ok (.bipush (-2), 2) := by decide +kernel
theorem dX8_strings_24 : decode cX8_strings 24 = .ok (.ireturn, 1) := by decide +kernel
theorem dX8_strings_25 : decode cX8_strings 25 = .ok (.iconst 0, 1) := by decide +kernel
theorem dX8_strings_26 : decode cX8_strings 26 = .ok (.istore_n 3, 1) := by decide +kernel
theorem dX8_strings_27 : decode cX8_strings 27 = .ok (.iconst 1, 1) := by decide +kernel
theorem dX8_strings_28 : decode cX8_strings 28 = .ok (.aload_n 0, 1) := by decide +kernel
theorem dX8_strings_29 : decode cX8_strings 29 = .ok (.getfield 53, 3) := by decide +kernel
theorem dX8_strings_32 : decode cX8_strings 32 = .ok (.ishl, 1) := by decide +kernel
theorem dX8_strings_33 : decode cX8_strings 33 = .ok (.iconst 1, 1) := by decide +kernel
theorem dX8_strings_34 : decode cX8_strings 34 = .ok (.isub, 1) := by decide +kernel
theorem dX8_strings_35 : decode cX8_strings 35 = .ok (.istore 4, 2) := by decide +kernel
theorem dX8_strings_37 : decode cX8_strings 37 = .ok (.iconst 0, 1) := by decide +kernel
theorem dX8_strings_38 : decode cX8_strings 38 = .ok (.istore 5, 2) := by decide +kernel
theorem dX8_strings_40 : decode cX8_strings 40 = .ok (.iconst 0, 1) := by decide +kernel
theorem dX8_strings_41 : decode cX8_strings 41 = .ok (.istore 6, 2) := by decide +kernel
theorem dX8_strings_43 : decode cX8_strings 43 = .ok (.iload 6, 2) := by decide +kernel
theorem dX8_strings_45 : decode cX8_strings 45 = .ok (.iconst 1, 1) := by decide +kernel
theorem dX8_strings_46 : decode cX8_strings 46 = .ok (.aload_n 0, 1) := by decide +kernel
theorem dX8_strings_47 : decode cX8_strings 47 = .ok (.getfield 53, 3) := by decide +kernel
theorem dX8_strings_50 : decode cX8_strings 50 = .ok (.ishl, 1) := by decide +kernel
theorem dX8_strings_51 : decode cX8_strings 51 = .ok (.if_icmp .ge 36, 3) := by decide +kernel
theorem dX8_strings_54 : decode cX8_strings 54 = .ok (.aload_n 0, 1) := by decide +kernel
theorem dX8_strings_55 : decode cX8_strings 55 = .ok (.iload_n 1, 1) := by decide +kernel
theorem dX8_strings_56 : decode cX8_strings 56 = .ok (.iload 6, 2) := by decide +kernel
theorem dX8_strings_58 : decode cX8_strings 58 = .ok (.invokevirtual 192, 3) := by decide +kernel
theorem dX8_strings_61 : decode cX8_strings 61 = .ok (.ifCond .eq 20, 3) := by decide +kernel
theorem dX8_strings_64 : decode cX8_strings 64 = .ok (.iinc 3 1, 3) := by decide +kernel
theorem dX8_strings_67 : decode cX8_strings 67 = .ok (.iload 4, 2) := by decide +kernel
theorem dX8_strings_69 : decode cX8_strings 69 = .ok (.iload 6, 2) := by decide +kernel
theorem dX8_strings_71 : decode cX8_strings 71 = .ok (.iand, 1) := by decide +kernel
theorem dX8_strings_72 : decode cX8_strings 72 = .ok (.istore 4, 2) := by decide +kernel
theorem dX8_strings_74 : decode cX8_strings 74 = .ok (.iload 5, 2) := by decide +kernel
theorem dX8_strings_76 : decode cX8_strings 76 = .ok (.iload 6, 2) := by decide +kernel
theorem dX8_strings_78 : decode cX8_strings 78 = .ok (.ior, 1) := by decide +kernel
theorem dX8_strings_79 : decode cX8_strings 79 = .ok (.istore 5, 2) := by decide +kernel
theorem dX8_strings_81 : decode cX8_strings 81 = .ok (.iinc 6 1, 3) := by decide +kernel
theorem dX8_strings_84 : decode cX8_strings 84 = .ok (.goto (-41), 3) := by decide +kernel
theorem dX8_strings_87 : decode cX8_strings 87 = .ok (.iload_n 2, 1) := by decide +kernel
theorem dX8_strings_88 : decode cX8_strings 88 = .ok (.ifCond .ne 7, 3) := by decide +kernel
theorem dX8_strings_91 : decode cX8_strings 91 = .ok (.iload_n 3, 1) := by decide +kernel
theorem dX8_strings_92 : decode cX8_strings 92 = .ok (.goto 35, 3) := by decide +kernel
theorem dX8_strings_95 : decode cX8_strings 95 = .ok (.iload_n 3, 1) := by decide +kernel
theorem dX8_strings_96 : decode cX8_strings 96 = .ok (.ifCond .ne 8, 3) := by decide +kernel
theorem dX8_strings_99 : decode cX8_strings 99 = .ok (.bipush (-9), 2) := by decide +kernel
theorem dX8_strings_101 : decode cX8_strings 101 = .ok (.goto 26, 3) := by decide +kernel
theorem dX8_strings_104 : decode cX8_strings 104 = .ok (.iload_n 2, 1) := by decide +kernel
theorem dX8_strings_105 : decode cX8_strings 105 = .ok (.iconst 1, 1) := by decide +kernel
theorem dX8_strings_106 : decode cX8_strings 106 = .ok (.if_icmp .ne 8, 3) := by decide +kernel
theorem dX8_strings_109 : decode cX8_strings 109 = .ok (.iload 4, 2) := by decide +kernel
theorem dX8_strings_111 : decode cX8_strings 111 = .ok (.goto 16, 3) := by decide +kernel
theorem dX8_strings_114 : decode cX8_strings 114 = .ok (.iconst 1, 1) := by decide +kernel
theorem dX8_strings_115 : decode cX8_strings 115 = .ok (.aload_n 0, 1) := by decide +kernel
theorem dX8_strings_116 : decode cX8_strings 116 = .ok (.getfield 53, 3) := by decide +kernel
theorem dX8_strings_119 : decode cX8_strings 119 = .ok (.ishl, 1) := by decide +kernel
theorem dX8_strings_120 : decode cX8_strings 120 = .ok (.iconst 1, 1) := by decide +kernel
theorem dX8_strings_121 : decode cX8_strings 121 = .ok (.isub, 1) := by decide +kernel
theorem dX8_strings_122 : decode cX8_strings 122 = .ok (.iload 5, 2) := by decide +kernel
theorem dX8_strings_124 : decode cX8_strings 124 = .ok (.iconst (-1), 1) := by decide +kernel
theorem dX8_strings_125 : decode cX8_strings 125 = .ok (.ixor, 1) := by decide +kernel
theorem dX8_strings_126 : decode cX8_strings 126 = .ok (.iand, 1) := by decide +kernel
theorem dX8_strings_127 : decode cX8_strings 127 = .ok (.ireturn, 1) := by decide +kernel
set_option maxRecDepth 20000 in
theorem ggX8_winds_X8_isSeen : GoodIn wsX8_winds wsX8_isSeen := goodIn_r _ [6, 7, 8, 9, 10, 11, 12, 5, 13, 14, 15, 16, 17, 18, 19, 20, 21, 22, 23, 24, 25, 26, 27, 28, 29, 30, 31, 32, 33, 34, 35, 36, 37, 38, 39, 40, 41, 42, 43, 44, 45, 46, 47, 48, 49, 50, 51, 52, 53, 54, 55, 56, 57, 58, 59, 60, 61, 62, 63] (by decide +kernel) (by decide +kernel)
set_option maxRecDepth 20000 in
theorem gX8_winds_X8_isSeen : GoodIn wsX8_winds (wsV RX8 192 RX8 yX8_isSeen wsX8_isSeen) := goodIn_app (goodIn_of _ (by decide +kernel)) ggX8_winds_X8_isSeen
theorem dX8_winds_0 : decode cX8_winds 0 = .ok (.iconst 0, 1) := by decide +kernel
theorem dX8_winds_1 : decode cX8_winds 1 = .ok (.istore_n 1, 1) := by decide +kernel
theorem dX8_winds_2 : decode cX8_winds 2 = .ok (.iconst 0, 1) := by decide +kernel
theorem dX8_winds_3 : decode cX8_winds 3 = .ok (.istore_n 2, 1) := by decide +kernel
theorem dX8_winds_4 : decode cX8_winds 4 = .ok (.iload_n 2, 1) := by decide +kernel
theorem dX8_winds_5 : decode cX8_winds 5 = .ok (.aload_n 0, 1) := by decide +kernel
theorem dX8_winds_6 : decode cX8_winds 6 = .ok (.getfield 109, 3) := by decide +kernel
theorem dX8_winds_9 : decode cX8_winds 9 = .ok (.if_icmp .ge 28, 3) := by decide +kernel
theorem dX8_winds_12 : decode cX8_winds 12 = .ok (.iload_n 1, 1) := by decide +kernel
theorem dX8_winds_13 : decode cX8_winds 13 = .ok (.aload_n 0, 1) := by decide +kernel
theorem dX8_winds_14 : decode cX8_winds 14 = .ok (.iload_n 2, 1) := by decide +kernel
theorem dX8_winds_15 : decode cX8_winds 15 = .ok (.iconst 0, 1) := by decide +kernel
theorem dX8_winds_16 : decode cX8_winds 16 = .ok (.invokevirtual 192, 3) := by decide +kernel
theorem dX8_winds_19 : decode cX8_winds 19 = .ok (.ifCond .eq 9, 3) := by decide +kernel
theorem dX8_winds_22 : decode cX8_winds 22 = .ok (.iconst 1, 1) := by decide +kernel
theorem dX8_winds_23 : decode cX8_winds 23 = .ok (.iload_n 2, 1) := by decide +kernel
theorem dX8_winds_24 : decode cX8_winds 24 = .ok (.ishl, 1) := by decide +kernel
theorem dX8_winds_25 : decode cX8_winds 25 = .ok (.goto 4, 3) := by decide +kernel
theorem dX8_winds_28 : decode cX8_winds 28 = .ok (.iconst 0, 1) := by decide +kernel
theorem dX8_winds_29 : decode cX8_winds 29 = .ok (.ior, 1) := by decide +kernel
theorem dX8_winds_30 : decode cX8_winds 30 = .ok (.istore_n 1, 1) := by decide +kernel
theorem dX8_winds_31 : decode cX8_winds 31 = .ok (.iinc 2 1, 3) := by decide +kernel
theorem dX8_winds_34 : decode cX8_winds 34 = .ok (.goto (-30), 3) := by decide +kernel
theorem dX8_winds_37 : decode cX8_winds 37 = .ok (.iload_n 1, 1) := by decide +kernel
theorem dX8_winds_38 : decode cX8_winds 38 = .ok (.ireturn, 1) := by decide +kernel
set_option maxRecDepth 20000 in
theorem ggX8_isChoice_X8_isCock : GoodIn wsX8_isChoice wsX8_isCock := goodIn_r _ [6, 7, 8, 9, 5, 10, 11, 12, 13, 14, 15, 16, 17, 18, 19, 20, 21, 22, 23, 24, 25, 26, 27, 28, 29, 30, 31, 32, 33, 34, 35, 36, 37, 38, 39, 40, 41] (by decide +kernel) (by decide +kernel)
set_option maxRecDepth 20000 in
theorem gX8_isChoice_X8_isCock : GoodIn wsX8_isChoice (wsV RX8 115 RX8 yX8_isCock wsX8_isCock) := goodIn_app (goodIn_of _ (by decide +kernel)) ggX8_isChoice_X8_isCock
theorem dX8_isChoice_0 : decode cX8_isChoice 0 = .ok (.iload_n 2, 1) := by decide +kernel
theorem dX8_isChoice_1 : decode cX8_isChoice 1 = .ok (.ifCond .eq 30, 3) := by decide +kernel
theorem dX8_isChoice_4 : decode cX8_isChoice 4 = .ok (.aload_n 0, 1) := by decide +kernel
theorem dX8_isChoice_5 : decode cX8_isChoice 5 = .ok (.iload_n 2, 1) := by decide +kernel
theorem dX8_isChoice_6 : decode cX8_isChoice 6 = .ok (.iconst 1, 1) := by decide +kernel
theorem dX8_isChoice_7 : decode cX8_isChoice 7 = .ok (.isub, 1) := by decide +kernel
theorem dX8_isChoice_8 : decode cX8_isChoice 8 = .ok (.invokevirtual 115, 3) := by decide +kernel
theorem dX8_isChoice_11 : decode cX8_isChoice 11 = .ok (.ifCond .eq 24, 3) := by decide +kernel
theorem dX8_isChoice_14 : decode cX8_isChoice 14 = .ok (.aload_n 0, 1) := by decide +kernel
theorem dX8_isChoice_15 : decode cX8_isChoice 15 = .ok (.getfield 19, 3) := by decide +kernel
theorem dX8_isChoice_18 : decode cX8_isChoice 18 = .ok (.bipush 22, 2) := by decide +kernel
theorem dX8_isChoice_20 : decode cX8_isChoice 20 = .ok (.iaload, 1) := by decide +kernel
theorem dX8_isChoice_21 : decode cX8_isChoice 21 = .ok (.iload_n 2, 1) := by decide +kernel
theorem dX8_isChoice_22 : decode cX8_isChoice 22 = .ok (.iconst 1, 1) := by decide +kernel
theorem dX8_isChoice_23 : decode cX8_isChoice 23 = .ok (.isub, 1) := by decide +kernel
theorem dX8_isChoice_24 : decode cX8_isChoice 24 = .ok (.ishr, 1) := by decide +kernel
theorem dX8_isChoice_25 : decode cX8_isChoice 25 = .ok (.iconst 1, 1) := by decide +kernel
theorem dX8_isChoice_26 : decode cX8_isChoice 26 = .ok (.iand, 1) := by decide +kernel
theorem dX8_isChoice_27 : decode cX8_isChoice 27 = .ok (.iload_n 1, 1) := by decide +kernel
theorem dX8_isChoice_28 : decode cX8_isChoice 28 = .ok (.if_icmp .ne 7, 3) := by decide +kernel
theorem dX8_isChoice_31 : decode cX8_isChoice 31 = .ok (.iconst 1, 1) := by decide +kernel
theorem dX8_isChoice_32 : decode cX8_isChoice 32 = .ok (.goto 4, 3) := by decide +kernel
theorem dX8_isChoice_35 : decode cX8_isChoice 35 = .ok (.iconst 0, 1) := by decide +kernel
theorem dX8_isChoice_36 : decode cX8_isChoice 36 = .ok (.ireturn, 1) := by decide +kernel
set_option maxRecDepth 20000 in
theorem ggX8_heldBy_X8_underOf : GoodIn wsX8_heldBy wsX8_underOf := goodIn_r _ [5, 6, 7, 8, 4, 9, 10, 11, 12, 13, 14, 15, 16, 17, 18, 19, 20, 21, 22, 23, 24, 25, 26, 27, 28, 29, 30, 31, 32, 33, 34, 35, 36, 37, 38, 39, 40, 41, 42, 43, 44, 45, 46, 47, 48, 49, 50, 51, 52, 53, 54, 55, 56, 57, 58, 59, 60, 61, 62, 63, 64] (by decide +kernel) (by decide +kernel)
set_option maxRecDepth 20000 in
theorem gX8_heldBy_X8_underOf : GoodIn wsX8_heldBy (wsV RX8 151 RX8 yX8_underOf wsX8_underOf) := goodIn_app (goodIn_of _ (by decide +kernel)) ggX8_heldBy_X8_underOf
theorem dX8_heldBy_0 : decode cX8_heldBy 0 = .ok (.iload_n 2, 1) := by decide +kernel
theorem dX8_heldBy_1 : decode cX8_heldBy 1 = .ok (.ifCond .ne 7, 3) := by decide +kernel
theorem dX8_heldBy_4 : decode cX8_heldBy 4 = .ok (.iconst 0, 1) := by decide +kernel
theorem dX8_heldBy_5 : decode cX8_heldBy 5 = .ok (.goto 8, 3) := by decide +kernel
theorem dX8_heldBy_8 : decode cX8_heldBy 8 = .ok (.iconst 1, 1) := by decide +kernel
theorem dX8_heldBy_9 : decode cX8_heldBy 9 = .ok (.iload_n 2, 1) := by decide +kernel
theorem dX8_heldBy_10 : decode cX8_heldBy 10 = .ok (.iconst 1, 1) := by decide +kernel
theorem dX8_heldBy_11 : decode cX8_heldBy 11 = .ok (.isub, 1) := by decide +kernel
theorem dX8_heldBy_12 : decode cX8_heldBy 12 = .ok (.ishl, 1) := by decide +kernel
theorem dX8_heldBy_13 : decode cX8_heldBy 13 = .ok (.iload_n 3, 1) := by decide +kernel
theorem dX8_heldBy_14 : decode cX8_heldBy 14 = .ok (.ifCond .ne 7, 3) := by decide +kernel
theorem dX8_heldBy_17 : decode cX8_heldBy 17 = .ok (.iconst 0, 1) := by decide +kernel
theorem dX8_heldBy_18 : decode cX8_heldBy 18 = .ok (.goto 8, 3) := by decide +kernel
theorem dX8_heldBy_21 : decode cX8_heldBy 21 = .ok (.iconst 1, 1) := by decide +kernel
theorem dX8_heldBy_22 : decode cX8_heldBy 22 = .ok (.iload_n 3, 1) := by decide +kernel
theorem dX8_heldBy_23 : decode cX8_heldBy 23 = .ok (.iconst 1, 1) := by decide +kernel
theorem dX8_heldBy_24 : decode cX8_heldBy 24 = .ok (.isub, 1) := by decide +kernel
theorem dX8_heldBy_25 : decode cX8_heldBy 25 = .ok (.ishl, 1) := by decide +kernel
theorem dX8_heldBy_26 : decode cX8_heldBy 26 = .ok (.ior, 1) := by decide +kernel
theorem dX8_heldBy_27 : decode cX8_heldBy 27 = .ok (.istore 4, 2) := by decide +kernel
theorem dX8_heldBy_29 : decode cX8_heldBy 29 = .ok (.aload_n 0, 1) := by decide +kernel
theorem dX8_heldBy_30 : decode cX8_heldBy 30 = .ok (.iconst 0, 1) := by decide +kernel
theorem dX8_heldBy_31 : decode cX8_heldBy 31 = .ok (.iload_n 1, 1) := by decide +kernel
theorem dX8_heldBy_32 : decode cX8_heldBy 32 = .ok (.iload 4, 2) := by decide +kernel
theorem dX8_heldBy_34 : decode cX8_heldBy 34 = .ok (.invokevirtual 151, 3) := by decide +kernel
theorem dX8_heldBy_37 : decode cX8_heldBy 37 = .ok (.ireturn, 1) := by decide +kernel
set_option maxRecDepth 20000 in
theorem ggX8_isRest_X8_heldBy : GoodIn wsX8_isRest wsX8_heldBy := goodIn_r _ [5, 6, 7, 8, 4, 9, 10, 11, 12, 13, 14, 15, 16, 17, 18, 19, 20, 21, 22, 23, 24, 25, 26, 27, 28, 29, 30, 31, 32, 33, 34, 35, 36, 37, 46, 47, 48, 49, 50, 51, 52, 53, 54, 55, 56, 57, 58, 59, 60, 61, 62, 63, 64, 65, 66, 67, 68, 69, 70, 71, 72, 73, 74, 75, 76] (by decide +kernel) (by decide +kernel)
set_option maxRecDepth 20000 in
theorem gX8_isRest_X8_heldBy : GoodIn wsX8_isRest (wsV RX8 195 RX8 yX8_heldBy wsX8_heldBy) := goodIn_app (goodIn_of _ (by decide +kernel)) ggX8_isRest_X8_heldBy
set_option maxRecDepth 20000 in
theorem ggX8_isRest_X8_isChoice : GoodIn wsX8_isRest wsX8_isChoice := goodIn_r _ [41, 14, 42, 43, 44, 4, 45, 15, 26, 27, 28, 46, 47, 48, 49, 50, 51, 52, 53, 54, 55, 56, 57, 58, 59, 60, 61, 62, 63, 64, 65, 66, 67, 68, 69, 70, 71, 72, 73, 74, 75, 76] (by decide +kernel) (by decide +kernel)
set_option maxRecDepth 20000 in
theorem gX8_isRest_X8_isChoice : GoodIn wsX8_isRest (wsV RX8 198 RX8 yX8_isChoice wsX8_isChoice) := goodIn_app (goodIn_of _ (by decide +kernel)) ggX8_isRest_X8_isChoice
theorem dX8_isRest_0 : decode cX8_isRest 0 = .ok (.iconst 1, 1) := by decide +kernel
theorem dX8_isRest_1 : decode cX8_isRest 1 = .ok (.istore 4, 2) := by decide +kernel
theorem dX8_isRest_3 : decode cX8_isRest 3 = .ok (.aload_n 0, 1) := by decide +kernel
theorem dX8_isRest_4 : decode cX8_isRest 4 = .ok (.iload_n 1, 1) := by decide +kernel
theorem dX8_isRest_5 : decode cX8_isRest 5 = .ok (.iload_n 2, 1) := by decide +kernel
theorem dX8_isRest_6 : decode cX8_isRest 6 = .ok (.iload_n 3, 1) := by decide +kernel
theorem dX8_isRest_7 : decode cX8_isRest 7 = .ok (.invokevirtual 195, 3) := by decide +kernel
theorem dX8_isRest_10 : decode cX8_isRest 10 = .ok (.istore 5, 2) := by decide +kernel
theorem dX8_isRest_12 : decode cX8_isRest 12 = .ok (.iconst 0, 1) := by decide +kernel
theorem dX8_isRest_13 : decode cX8_isRest 13 = .ok (.istore 6, 2) := by decide +kernel
theorem dX8_isRest_15 : decode cX8_isRest 15 = .ok (.iload 6, 2) := by decide +kernel
theorem dX8_isRest_17 : decode cX8_isRest 17 = .ok (.bipush 7, 2) := by decide +kernel
theorem dX8_isRest_19 : decode cX8_isRest 19 = .ok (.if_icmp .ge 87, 3) := by decide +kernel
theorem dX8_isRest_22 : decode cX8_isRest 22 = .ok (.iload 4, 2) := by decide +kernel
theorem dX8_isRest_24 : decode cX8_isRest 24 = .ok (.ifCond .eq 33, 3) := by decide +kernel
theorem dX8_isRest_27 : decode cX8_isRest 27 = .ok (.iload 5, 2) := by decide +kernel
theorem dX8_isRest_29 : decode cX8_isRest 29 = .ok (.ifCond .eq 24, 3) := by decide +kernel
theorem dX8_isRest_32 : decode cX8_isRest 32 = .ok (.aload_n 0, 1) := by decide +kernel
theorem dX8_isRest_33 : decode cX8_isRest 33 = .ok (.iconst 0, 1) := by decide +kernel
theorem dX8_isRest_34 : decode cX8_isRest 34 = .ok (.iload 6, 2) := by decide +kernel
theorem dX8_isRest_36 : decode cX8_isRest 36 = .ok (.invokevirtual 198, 3) := by decide +kernel
theorem dX8_isRest_39 : decode cX8_isRest 39 = .ok (.ifCond .eq 14, 3) := by decide +kernel
theorem dX8_isRest_42 : decode cX8_isRest 42 = .ok (.aload_n 0, 1) := by decide +kernel
theorem dX8_isRest_43 : decode cX8_isRest 43 = .ok (.iload_n 1, 1) := by decide +kernel
theorem dX8_isRest_44 : decode cX8_isRest 44 = .ok (.iload 6, 2) := by decide +kernel
theorem dX8_isRest_46 : decode cX8_isRest 46 = .ok (.iload_n 3, 1) := by decide +kernel
theorem dX8_isRest_47 : decode cX8_isRest 47 = .ok (.invokevirtual 195, 3) := by decide +kernel
theorem dX8_isRest_50 : decode cX8_isRest 50 = .ok (.ifCond .eq 7, 3) := by decide +kernel
theorem dX8_isRest_53 : decode cX8_isRest 53 = .ok (.iconst 1, 1) := by decide +kernel
theorem dX8_isRest_54 : decode cX8_isRest 54 = .ok (.goto 4, 3) := by decide +kernel
theorem dX8_isRest_57 : decode cX8_isRest 57 = .ok (.iconst 0, 1) := by decide +kernel
theorem dX8_isRest_58 : decode cX8_isRest 58 = .ok (.istore 4, 2) := by decide +kernel
theorem dX8_isRest_60 : decode cX8_isRest 60 = .ok (.iload 4, 2) := by decide +kernel
theorem dX8_isRest_62 : decode cX8_isRest 62 = .ok (.ifCond .eq 35, 3) := by decide +kernel
theorem dX8_isRest_65 : decode cX8_isRest 65 = .ok (.iload 5, 2) := by decide +kernel
theorem dX8_isRest_67 : decode cX8_isRest 67 = .ok (.iconst 1, 1) := by decide +kernel
theorem dX8_isRest_68 : decode cX8_isRest 68 = .ok (.if_icmp .eq 25, 3) := by decide +kernel
theorem dX8_isRest_71 : decode cX8_isRest 71 = .ok (.aload_n 0, 1) := by decide +kernel
theorem dX8_isRest_72 : decode cX8_isRest 72 = .ok (.iconst 1, 1) := by decide +kernel
theorem dX8_isRest_73 : decode cX8_isRest 73 = .ok (.iload 6, 2) := by decide +kernel
theorem dX8_isRest_75 : decode cX8_isRest 75 = .ok (.invokevirtual 198, 3) := by decide +kernel
theorem dX8_isRest_78 : decode cX8_isRest 78 = .ok (.ifCond .eq 15, 3) := by decide +kernel
theorem dX8_isRest_81 : decode cX8_isRest 81 = .ok (.aload_n 0, 1) := by decide +kernel
theorem dX8_isRest_82 : decode cX8_isRest 82 = .ok (.iload_n 1, 1) := by decide +kernel
theorem dX8_isRest_83 : decode cX8_isRest 83 = .ok (.iload_n 2, 1) := by decide +kernel
theorem dX8_isRest_84 : decode cX8_isRest 84 = .ok (.iload 6, 2) := by decide +kernel
theorem dX8_isRest_86 : decode cX8_isRest 86 = .ok (.invokevirtual 195, 3) := by decide +kernel
theorem dX8_isRest_89 : decode cX8_isRest 89 = .ok (.iconst 1, 1) := by decide +kernel
theorem dX8_isRest_90 : decode cX8_isRest 90 = .ok (.if_icmp .eq 7, 3) := by decide +kernel
theorem dX8_isRest_93 : decode cX8_isRest 93 = .ok (.iconst 1, 1) := by decide +kernel
theorem dX8_isRest_94 : decode cX8_isRest 94 = .ok (.goto 4, 3) := by decide +kernel
theorem dX8_isRest_97 : decode cX8_isRest 97 = .ok (.iconst 0, 1) := by decide +kernel
theorem dX8_isRest_98 : decode cX8_isRest 98 = .ok (.istore 4, 2) := by decide +kernel
theorem dX8_isRest_100 : decode cX8_isRest 100 = .ok (.iinc 6 1, 3) := by decide +kernel
theorem dX8_isRest_103 : decode cX8_isRest 103 = .ok (.goto (-88), 3) := by decide +kernel
theorem dX8_isRest_106 : decode cX8_isRest 106 = .ok (.iload 4, 2) := by decide +kernel
theorem dX8_isRest_108 : decode cX8_isRest 108 = .ok (.ireturn, 1) := by decide +kernel
set_option maxRecDepth 20000 in
theorem ggX8_rests_X8_isWind : GoodIn wsX8_rests wsX8_isWind := goodIn_r _ [5, 6, 7, 8, 4, 9, 55, 56, 57, 58, 59, 60, 61, 62, 63, 64, 65, 66, 67, 68, 69, 70, 71, 72, 73, 74, 75, 76, 77, 78, 79, 80, 81, 82, 83, 84, 85] (by decide +kernel) (by decide +kernel)
set_option maxRecDepth 20000 in
theorem gX8_rests_X8_isWind : GoodIn wsX8_rests (wsV RX8 133 RX8 yX8_isWind wsX8_isWind) := goodIn_app (goodIn_of _ (by decide +kernel)) ggX8_rests_X8_isWind
set_option maxRecDepth 20000 in
theorem ggX8_rests_X8_in : GoodIn wsX8_rests wsX8_in := goodIn_r _ [9] (by decide +kernel) (by decide +kernel)
set_option maxRecDepth 20000 in
theorem gX8_rests_X8_in : GoodIn wsX8_rests (va_wsS RX8 59 yX8_in wsX8_in) := goodIn_app (goodIn_of _ (by decide +kernel)) ggX8_rests_X8_in
set_option maxRecDepth 20000 in
theorem ggX8_rests_X8_isChoice : GoodIn wsX8_rests wsX8_isChoice := goodIn_r _ [13, 14, 15, 16, 17, 4, 18, 19, 7, 8, 9, 55, 56, 57, 58, 59, 60, 61, 62, 63, 64, 65, 66, 67, 68, 69, 70, 71, 72, 73, 74, 75, 76, 77, 78, 79, 80, 81, 82, 83, 84, 85] (by decide +kernel) (by decide +kernel)
set_option maxRecDepth 20000 in
theorem gX8_rests_X8_isChoice : GoodIn wsX8_rests (wsV RX8 198 RX8 yX8_isChoice wsX8_isChoice) := goodIn_app (goodIn_of _ (by decide +kernel)) ggX8_rests_X8_isChoice
set_option maxRecDepth 20000 in
theorem ggX8_rests_X8_isRest : GoodIn wsX8_rests wsX8_isRest := goodIn_r _ [23, 24, 25, 26, 4, 27, 28, 29, 30, 31, 32, 33, 34, 35, 14, 19, 36, 37, 38, 39, 40, 41, 42, 43, 44, 45, 7, 8, 9, 46, 47, 48, 49, 50, 51, 52, 53, 54, 10, 11, 12, 13, 15, 16, 17, 18, 55, 56, 57, 58, 59, 60, 61, 62, 63, 64, 65, 66, 67, 68, 69, 70, 71, 72, 73, 74, 75, 76, 77, 78, 79, 80, 81, 82, 83, 84, 85] (by decide +kernel) (by decide +kernel)
set_option maxRecDepth 20000 in
theorem gX8_rests_X8_isRest : GoodIn wsX8_rests (wsV RX8 201 RX8 yX8_isRest wsX8_isRest) := goodIn_app (goodIn_of _ (by decide +kernel)) ggX8_rests_X8_isRest
theorem dX8_rests_0 : decode cX8_rests 0 = .ok (.aload_n 0, 1) := by decide +kernel
theorem dX8_rests_1 : decode cX8_rests 1 = .ok (.iload_n 1, 1) := by decide +kernel
theorem dX8_rests_2 : decode cX8_rests 2 = .ok (.invokevirtual 133, 3) := by decide +kernel
theorem dX8_rests_5 : decode cX8_rests 5 = .ok (.ifCond .ne 5, 3) := by decide +kernel
theorem dX8_rests_8 : decode cX8_rests 8 = .ok (.iconst (-1), 1) := by decide +kernel
theorem dX8_rests_9 : decode cX8_rests 9 = .ok (.ireturn, 1) := by decide +kernel
theorem dX8_rests_10 : decode cX8_rests 10 = .ok (.iload_n 2, 1) := by decide +kernel
theorem dX8_rests_11 : decode cX8_rests 11 = .ok (.i2l, 1) := by decide +kernel
theorem dX8_rests_12 : decode cX8_rests 12 = .ok (.lconst 0, 1) := by decide +kernel
theorem dX8_rests_13 : decode cX8_rests 13 = .ok (.lconst 1, 1) := by decide +kernel
theorem dX8_rests_14 : decode cX8_rests 14 = .ok (.invokestatic 59, 3) := by decide +kernel
theorem dX8_rests_17 : decode cX8_rests 17 = .ok (.ifCond .ne 6, 3) := by decide +kernel
theorem dX8_rests_20 : decode cX8_rests 20 = .ok (.bipush (-2), 2) := by decide +kernel
theorem dX8_rests_22 : decode cX8_rests 22 = .ok (.ireturn, 1) := by decide +kernel
theorem dX8_rests_23 : decode cX8_rests 23 = .ok (.iconst 0, 1) := by decide +kernel
theorem dX8_rests_24 : decode cX8_rests 24 = .ok (.istore_n 3, 1) := by decide +kernel
theorem dX8_rests_25 : decode cX8_rests 25 = .ok (.bipush (-9), 2) := by decide +kernel
theorem dX8_rests_27 : decode cX8_rests 27 = .ok (.istore 4, 2) := by decide +kernel
theorem dX8_rests_29 : decode cX8_rests 29 = .ok (.iconst 0, 1) := by decide +kernel
theorem dX8_rests_30 : decode cX8_rests 30 = .ok (.istore 5, 2) := by decide +kernel
theorem dX8_rests_32 : decode cX8_rests 32 = .ok (.iload 5, 2) := by decide +kernel
theorem dX8_rests_34 : decode cX8_rests 34 = .ok (.bipush 7, 2) := by decide +kernel
theorem dX8_rests_36 : decode cX8_rests 36 = .ok (.if_icmp .ge 79, 3) := by decide +kernel
theorem dX8_rests_39 : decode cX8_rests 39 = .ok (.iconst 0, 1) := by decide +kernel
theorem dX8_rests_40 : decode cX8_rests 40 = .ok (.istore 6, 2) := by decide +kernel
theorem dX8_rests_42 : decode cX8_rests 42 = .ok (.iload 6, 2) := by decide +kernel
theorem dX8_rests_44 : decode cX8_rests 44 = .ok (.bipush 7, 2) := by decide +kernel
theorem dX8_rests_46 : decode cX8_rests 46 = .ok (.if_icmp .ge 63, 3) := by decide +kernel
theorem dX8_rests_49 : decode cX8_rests 49 = .ok (.aload_n 0, 1) := by decide +kernel
theorem dX8_rests_50 : decode cX8_rests 50 = .ok (.iconst 0, 1) := by decide +kernel
theorem dX8_rests_51 : decode cX8_rests 51 = .ok (.iload 5, 2) := by decide +kernel
theorem dX8_rests_53 : decode cX8_rests 53 = .ok (.invokevirtual 198, 3) := by decide +kernel
theorem dX8_rests_56 : decode cX8_rests 56 = .ok (.ifCond .eq 47, 3) := by decide +kernel
theorem dX8_rests_59 : decode cX8_rests 59 = .ok (.aload_n 0, 1) := by decide +kernel
theorem dX8_rests_60 : decode cX8_rests 60 = .ok (.iconst 1, 1) := by decide +kernel
theorem dX8_rests_61 : decode cX8_rests 61 = .ok (.iload 6, 2) := by decide +kernel
theorem dX8_rests_63 : decode cX8_rests 63 = .ok (.invokevirtual 198, 3) := by decide +kernel
theorem dX8_rests_66 : decode cX8_rests 66 = .ok (.ifCond .eq 37, 3) := by decide +kernel
theorem dX8_rests_69 : decode cX8_rests 69 = .ok (.aload_n 0, 1) := by decide +kernel
theorem dX8_rests_70 : decode cX8_rests 70 = .ok (.iload_n 1, 1) := by decide +kernel
theorem dX8_rests_71 : decode cX8_rests 71 = .ok (.iload 5, 2) := by decide +kernel
theorem dX8_rests_73 : decode cX8_rests 73 = .ok (.iload 6, 2) := by decide +kernel
theorem dX8_rests_75 : decode cX8_rests 75 = .ok (.invokevirtual 201, 3) := by decide +kernel
theorem dX8_rests_78 : decode cX8_rests 78 = .ok (.ifCond .eq 25, 3) := by decide +kernel
theorem dX8_rests_81 : decode cX8_rests 81 = .ok (.iload_n 3, 1) := by decide +kernel
theorem dX8_rests_82 : decode cX8_rests 82 = .ok (.ifCond .ne 14, 3) := by decide +kernel
theorem dX8_rests_85 : decode cX8_rests 85 = .ok (.bipush 10, 2) := by decide +kernel
theorem dX8_rests_87 : decode cX8_rests 87 = .ok (.iload 5, 2) := by decide +kernel
theorem dX8_rests_89 : decode cX8_rests 89 = .ok (.imul, 1) := by decide +kernel
theorem dX8_rests_90 : decode cX8_rests 90 = .ok (.iload 6, 2) := by decide +kernel
theorem dX8_rests_92 : decode cX8_rests 92 = .ok (.iadd, 1) := by decide +kernel
theorem dX8_rests_93 : decode cX8_rests 93 = .ok (.goto 5, 3) := by decide +kernel
theorem dX8_rests_96 : decode cX8_rests 96 = .ok (.iload 4, 2) := by decide +kernel
theorem dX8_rests_98 : decode cX8_rests 98 = .ok (.istore 4, 2) := by decide +kernel
theorem dX8_rests_100 : decode cX8_rests 100 = .ok (.iinc 3 1, 3) := by decide +kernel
theorem dX8_rests_103 : decode cX8_rests 103 = .ok (.iinc 6 1, 3) := by decide +kernel
theorem dX8_rests_106 : decode cX8_rests 106 = .ok (.goto (-64), 3) := by decide +kernel
theorem dX8_rests_109 : decode cX8_rests 109 = .ok (.iinc 5 1, 3) := by decide +kernel
theorem dX8_rests_112 : decode cX8_rests 112 = .ok (.goto (-80), 3) := by decide +kernel
theorem dX8_rests_115 : decode cX8_rests 115 = .ok (.iload_n 2, 1) := by decide +kernel
theorem dX8_rests_116 : decode cX8_rests 116 = .ok (.ifCond .ne 7, 3) := by decide +kernel
theorem dX8_rests_119 : decode cX8_rests 119 = .ok (.iload_n 3, 1) := by decide +kernel
theorem dX8_rests_120 : decode cX8_rests 120 = .ok (.goto 5, 3) := by decide +kernel
theorem dX8_rests_123 : decode cX8_rests 123 = .ok (.iload 4, 2) := by decide +kernel
theorem dX8_rests_125 : decode cX8_rests 125 = .ok (.ireturn, 1) := by decide +kernel
theorem dX8_common_0 : decode cX8_common 0 = .ok (.iload_n 0, 1) := by decide +kernel
theorem dX8_common_1 : decode cX8_common 1 = .ok (.istore_n 2, 1) := by decide +kernel
theorem dX8_common_2 : decode cX8_common 2 = .ok (.iload_n 1, 1) := by decide +kernel
theorem dX8_common_3 : decode cX8_common 3 = .ok (.istore_n 3, 1) := by decide +kernel
theorem dX8_common_4 : decode cX8_common 4 = .ok (.iload_n 3, 1) := by decide +kernel
theorem dX8_common_5 : decode cX8_common 5 = .ok (.ifCond .eq 16, 3) := by decide +kernel
theorem dX8_common_8 : decode cX8_common 8 = .ok (.iload_n 2, 1) := by decide +kernel
theorem dX8_common_9 : decode cX8_common 9 = .ok (.iload_n 3, 1) := by decide +kernel
theorem dX8_common_10 : decode cX8_common 10 = .ok (.irem, 1) := by decide +kernel
theorem dX8_common_11 : decode cX8_common 11 = .ok (.istore 4, 2) := by decide +kernel
theorem dX8_common_13 : decode cX8_common 13 = .ok (.iload_n 3, 1) := by decide +kernel
theorem dX8_common_14 : decode cX8_common 14 = .ok (.istore_n 2, 1) := by decide +kernel
theorem dX8_common_15 : decode cX8_common 15 = .ok (.iload 4, 2) := by decide +kernel
theorem dX8_common_17 : decode cX8_common 17 = .ok (.istore_n 3, 1) := by decide +kernel
theorem dX8_common_18 : decode cX8_common 18 = .ok (.goto (-14), 3) := by decide +kernel
theorem dX8_common_21 : decode cX8_common 21 = .ok (.iload_n 2, 1) := by decide +kernel
theorem dX8_common_22 : decode cX8_common 22 = .ok (.ireturn, 1) := by decide +kernel
set_option maxRecDepth 20000 in
theorem ggX8_frost_X8_isWind : GoodIn wsX8_frost wsX8_isWind := goodIn_r _ [8, 9, 10, 11, 7, 12, 43, 44, 45, 46, 47, 48, 49, 50, 51, 52, 53, 54, 55, 56, 57, 58, 59, 60, 61, 62, 63, 64, 65, 66, 67, 68, 69, 70, 71, 72, 73] (by decide +kernel) (by decide +kernel)
set_option maxRecDepth 20000 in
theorem gX8_frost_X8_isWind : GoodIn wsX8_frost (wsV RX8 133 RX8 yX8_isWind wsX8_isWind) := goodIn_app (goodIn_of _ (by decide +kernel)) ggX8_frost_X8_isWind
set_option maxRecDepth 20000 in
theorem ggX8_frost_X8_in : GoodIn wsX8_frost wsX8_in := goodIn_r _ [12] (by decide +kernel) (by decide +kernel)
set_option maxRecDepth 20000 in
theorem gX8_frost_X8_in : GoodIn wsX8_frost (va_wsS RX8 59 yX8_in wsX8_in) := goodIn_app (goodIn_of _ (by decide +kernel)) ggX8_frost_X8_in
set_option maxRecDepth 20000 in
theorem ggX8_frost_X8_has : GoodIn wsX8_frost wsX8_has := goodIn_r _ [15] (by decide +kernel) (by decide +kernel)
set_option maxRecDepth 20000 in
theorem gX8_frost_X8_has : GoodIn wsX8_frost (va_wsS RX8 74 yX8_has wsX8_has) := goodIn_app (goodIn_of _ (by decide +kernel)) ggX8_frost_X8_has
set_option maxRecDepth 20000 in
theorem ggX8_frost_X8_underOf : GoodIn wsX8_frost wsX8_underOf := goodIn_r _ [19, 20, 21, 22, 7, 23, 3, 2, 24, 13, 14, 15, 25, 26, 27, 28, 29, 30, 10, 11, 12, 31, 32, 33, 34, 35, 36, 37, 38, 39, 43, 44, 45, 46, 47, 48, 49, 50, 51, 52, 53, 54, 55, 56, 57, 58, 59, 60, 61, 62, 63, 64, 65, 66, 67, 68, 69, 70, 71, 72, 73] (by decide +kernel) (by decide +kernel)
set_option maxRecDepth 20000 in
theorem gX8_frost_X8_underOf : GoodIn wsX8_frost (wsV RX8 151 RX8 yX8_underOf wsX8_underOf) := goodIn_app (goodIn_of _ (by decide +kernel)) ggX8_frost_X8_underOf
set_option maxRecDepth 20000 in
theorem ggX8_frost_X8_common : GoodIn wsX8_frost wsX8_common := goodIn_r _ [42] (by decide +kernel) (by decide +kernel)
set_option maxRecDepth 20000 in
theorem gX8_frost_X8_common : GoodIn wsX8_frost (va_wsS RX8 206 yX8_common wsX8_common) := goodIn_app (goodIn_of _ (by decide +kernel)) ggX8_frost_X8_common
theorem dX8_frost_0 : decode cX8_frost 0 = .ok (.aload_n 0, 1) := by decide +kernel
theorem dX8_frost_1 : decode cX8_frost 1 = .ok (.iload_n 1, 1) := by decide +kernel
theorem dX8_frost_2 : decode cX8_frost 2 = .ok (.invokevirtual 133, 3) := by decide +kernel
theorem dX8_frost_5 : decode cX8_frost 5 = .ok (.ifCond .ne 5, 3) := by decide +kernel
theorem dX8_frost_8 : decode cX8_frost 8 = .ok (.iconst (-1), 1) := by decide +kernel
theorem dX8_frost_9 : decode cX8_frost 9 = .ok (.ireturn, 1) := by decide +kernel
theorem dX8_frost_10 : decode cX8_frost 10 = .ok (.iload_n 2, 1) := by decide +kernel
theorem dX8_frost_11 : decode cX8_frost 11 = .ok (.i2l, 1) := by decide +kernel
theorem dX8_frost_12 : decode cX8_frost 12 = .ok (.lconst 0, 1) := by decide +kernel
theorem dX8_frost_13 : decode cX8_frost 13 = .ok (.ldc2_w 204, 3) := by decide +kernel
theorem dX8_frost_16 : decode cX8_frost 16 = .ok (.invokestatic 59, 3) := by decide +kernel
theorem dX8_frost_19 : decode cX8_frost 19 = .ok (.ifCond .ne 6, 3) := by decide +kernel
theorem dX8_frost_22 : decode cX8_frost 22 = .ok (.bipush (-2), 2) := by decide +kernel
theorem dX8_frost_24 : decode cX8_frost 24 = .ok (.ireturn, 1) := by decide +kernel
theorem dX8_frost_25 : decode cX8_frost 25 = .ok (.iconst 0, 1) := by decide +kernel
theorem dX8_frost_26 : decode cX8_frost 26 = .ok (.istore 4, 2) := by decide +kernel
theorem dX8_frost_28 : decode cX8_frost 28 = .ok (.iconst 0, 1) := by decide +kernel
theorem dX8_frost_29 : decode cX8_frost 29 = .ok (.istore 5, 2) := by decide +kernel
theorem dX8_frost_31 : decode cX8_frost 31 = .ok (.iconst 0, 1) := by decide +kernel
theorem dX8_frost_32 : decode cX8_frost 32 = .ok (.istore 6, 2) := by decide +kernel
theorem dX8_frost_34 : decode cX8_frost 34 = .ok (.iload 6, 2) := by decide +kernel
theorem dX8_frost_36 : decode cX8_frost 36 = .ok (.iconst 1, 1) := by decide +kernel
theorem dX8_frost_37 : decode cX8_frost 37 = .ok (.aload_n 0, 1) := by decide +kernel
theorem dX8_frost_38 : decode cX8_frost 38 = .ok (.getfield 53, 3) := by decide +kernel
theorem dX8_frost_41 : decode cX8_frost 41 = .ok (.ishl, 1) := by decide +kernel
theorem dX8_frost_42 : decode cX8_frost 42 = .ok (.if_icmp .ge 90, 3) := by decide +kernel
theorem dX8_frost_45 : decode cX8_frost 45 = .ok (.iconst 1, 1) := by decide +kernel
theorem dX8_frost_46 : decode cX8_frost 46 = .ok (.istore 7, 2) := by decide +kernel
theorem dX8_frost_48 : decode cX8_frost 48 = .ok (.iconst 0, 1) := by decide +kernel
theorem dX8_frost_49 : decode cX8_frost 49 = .ok (.istore 8, 2) := by decide +kernel
theorem dX8_frost_51 : decode cX8_frost 51 = .ok (.iload 8, 2) := by decide +kernel
theorem dX8_frost_53 : decode cX8_frost 53 = .ok (.aload_n 0, 1) := by decide +kernel
theorem dX8_frost_54 : decode cX8_frost 54 = .ok (.getfield 53, 3) := by decide +kernel
theorem dX8_frost_57 : decode cX8_frost 57 = .ok (.if_icmp .ge 32, 3) := by decide +kernel
theorem dX8_frost_60 : decode cX8_frost 60 = .ok (.iload 7, 2) := by decide +kernel
theorem dX8_frost_62 : decode cX8_frost 62 = .ok (.iload 6, 2) := by decide +kernel
theorem dX8_frost_64 : decode cX8_frost 64 = .ok (.iload 8, 2) := by decide +kernel
theorem dX8_frost_66 : decode cX8_frost 66 = .ok (.invokestatic 74, 3) := by decide +kernel
theorem dX8_frost_69 : decode cX8_frost 69 = .ok (.ifCond .eq 7, 3) := by decide +kernel
theorem dX8_frost_72 : decode cX8_frost 72 = .ok (.iload_n 2, 1) := by decide +kernel
theorem dX8_frost_73 : decode cX8_frost 73 = .ok (.goto 7, 3) := by decide +kernel
theorem dX8_frost_76 : decode cX8_frost 76 = .ok (.bipush 10, 2) := by decide +kernel
theorem dX8_frost_78 : decode cX8_frost 78 = .ok (.iload_n 2, 1) := by decide +kernel
theorem dX8_frost_79 : decode cX8_frost 79 = .ok (.isub, 1) := by decide +kernel
theorem dX8_frost_80 : decode cX8_frost 80 = .ok (.imul, 1) := by decide +kernel
theorem dX8_frost_81 : decode cX8_frost 81 = .ok (.istore 7, 2) := by decide +kernel
theorem dX8_frost_83 : decode cX8_frost 83 = .ok (.iinc 8 1, 3) := by decide +kernel
theorem dX8_frost_86 : decode cX8_frost 86 = .ok (.goto (-35), 3) := by decide +kernel
theorem dX8_frost_89 : decode cX8_frost 89 = .ok (.iload 5, 2) := by decide +kernel
theorem dX8_frost_91 : decode cX8_frost 91 = .ok (.iload 7, 2) := by decide +kernel
theorem dX8_frost_93 : decode cX8_frost 93 = .ok (.iadd, 1) := by decide +kernel
theorem dX8_frost_94 : decode cX8_frost 94 = .ok (.istore 5, 2) := by decide +kernel
theorem dX8_frost_96 : decode cX8_frost 96 = .ok (.iload 4, 2) := by decide +kernel
theorem dX8_frost_98 : decode cX8_frost 98 = .ok (.aload_n 0, 1) := by decide +kernel
theorem dX8_frost_99 : decode cX8_frost 99 = .ok (.iconst 0, 1) := by decide +kernel
theorem dX8_frost_100 : decode cX8_frost 100 = .ok (.iload_n 1, 1) := by decide +kernel
theorem dX8_frost_101 : decode cX8_frost 101 = .ok (.aload_n 0, 1) := by decide +kernel
theorem dX8_frost_102 : decode cX8_frost 102 = .ok (.getfield 19, 3) := by decide +kernel
theorem dX8_frost_105 : decode cX8_frost 105 = .ok (.bipush 24, 2) := by decide +kernel
theorem dX8_frost_107 : decode cX8_frost 107 = .ok (.iaload, 1) := by decide +kernel
theorem dX8_frost_108 : decode cX8_frost 108 = .ok (.iload 6, 2) := by decide +kernel
theorem dX8_frost_110 : decode cX8_frost 110 = .ok (.ior, 1) := by decide +kernel
theorem dX8_frost_111 : decode cX8_frost 111 = .ok (.invokevirtual 151, 3) := by decide +kernel
theorem dX8_frost_114 : decode cX8_frost 114 = .ok (.ifCond .ne 8, 3) := by decide +kernel
theorem dX8_frost_117 : decode cX8_frost 117 = .ok (.iload 7, 2) := by decide +kernel
theorem dX8_frost_119 : decode cX8_frost 119 = .ok (.goto 4, 3) := by decide +kernel
theorem dX8_frost_122 : decode cX8_frost 122 = .ok (.iconst 0, 1) := by decide +kernel
theorem dX8_frost_123 : decode cX8_frost 123 = .ok (.iadd, 1) := by decide +kernel
theorem dX8_frost_124 : decode cX8_frost 124 = .ok (.istore 4, 2) := by decide +kernel
theorem dX8_frost_126 : decode cX8_frost 126 = .ok (.iinc 6 1, 3) := by decide +kernel
theorem dX8_frost_129 : decode cX8_frost 129 = .ok (.goto (-95), 3) := by decide +kernel
theorem dX8_frost_132 : decode cX8_frost 132 = .ok (.iload 4, 2) := by decide +kernel
theorem dX8_frost_134 : decode cX8_frost 134 = .ok (.iload 5, 2) := by decide +kernel
theorem dX8_frost_136 : decode cX8_frost 136 = .ok (.invokestatic 206, 3) := by decide +kernel
theorem dX8_frost_139 : decode cX8_frost 139 = .ok (.istore 6, 2) := by decide +kernel
theorem dX8_frost_141 : decode cX8_frost 141 = .ok (.iload_n 3, 1) := by decide +kernel
theorem dX8_frost_142 : decode cX8_frost 142 = .ok (.ifCond .eq 11, 3) := by decide +kernel
theorem dX8_frost_145 : decode cX8_frost 145 = .ok (.iload 4, 2) := by decide +kernel
theorem dX8_frost_147 : decode cX8_frost 147 = .ok (.iload 6, 2) := by decide +kernel
theorem dX8_frost_149 : decode cX8_frost 149 = .ok (.idiv, 1) := by decide +kernel
theorem dX8_frost_150 : decode cX8_frost 150 = .ok (.goto 8, 3) := by decide +kernel
theorem dX8_frost_153 : decode cX8_frost 153 = .ok (.iload 5, 2) := by decide +kernel
theorem dX8_frost_155 : decode cX8_frost 155 = .ok (.iload 6, 2) := by decide +kernel
theorem dX8_frost_157 : decode cX8_frost 157 = .ok (.idiv, 1) := by decide +kernel
theorem dX8_frost_158 : decode cX8_frost 158 = .ok (.ireturn, 1) := by decide +kernel
theorem dX8_seed_0 : decode cX8_seed 0 = .ok (.aload_n 0, 1) := by decide +kernel
theorem dX8_seed_1 : decode cX8_seed 1 = .ok (.getfield 209, 3) := by decide +kernel
theorem dX8_seed_4 : decode cX8_seed 4 = .ok (.lstore_n 3, 1) := by decide +kernel
theorem dX8_seed_5 : decode cX8_seed 5 = .ok (.aload_n 0, 1) := by decide +kernel
theorem dX8_seed_6 : decode cX8_seed 6 = .ok (.lload_n 1, 1) := by decide +kernel
theorem dX8_seed_7 : decode cX8_seed 7 = .ok (.putfield 209, 3) := by decide +kernel
theorem dX8_seed_10 : decode cX8_seed 10 = .ok (.lload_n 3, 1) := by decide +kernel
theorem dX8_seed_11 : decode cX8_seed 11 = .ok (.lreturn, 1) := by decide +kernel
set_option maxRecDepth 20000 in
theorem ggX8_years_X8_in : GoodIn wsX8_years wsX8_in := goodIn_r _ [11] (by decide +kernel) (by decide +kernel)
set_option maxRecDepth 20000 in
theorem gX8_years_X8_in : GoodIn wsX8_years (va_wsS RX8 59 yX8_in wsX8_in) := goodIn_app (goodIn_of _ (by decide +kernel)) ggX8_years_X8_in
set_option maxRecDepth 20000 in
theorem ggX8_years_X8_layTrial : GoodIn wsX8_years wsX8_layTrial := goodIn_r _ [15, 7, 43, 44, 45, 46, 47, 48, 49, 50, 51, 52, 53, 54, 55, 56, 57, 58, 59, 60, 61, 62, 63, 64, 65, 66, 67, 68, 69, 70, 71, 72, 73] (by decide +kernel) (by decide +kernel)
set_option maxRecDepth 20000 in
theorem gX8_years_X8_layTrial : GoodIn wsX8_years (wsV RX8 181 RX8 yX8_layTrial wsX8_layTrial) := goodIn_app (goodIn_of _ (by decide +kernel)) ggX8_years_X8_layTrial
set_option maxRecDepth 20000 in
theorem ggX8_years_X8_blowOn : GoodIn wsX8_years wsX8_blowOn := goodIn_r _ [19, 7, 20, 21, 22, 10, 23, 24, 3, 25, 26, 27, 28, 29, 30, 31, 32, 33, 8, 9, 11, 34, 35, 36, 37, 38, 39, 40, 41, 42, 43, 44, 45, 46, 47, 48, 49, 50, 51, 52, 53, 54, 55, 56, 57, 58, 59, 60, 61, 62, 63, 64, 65, 66, 67, 68, 69, 70, 71, 72, 73] (by decide +kernel) (by decide +kernel)
set_option maxRecDepth 20000 in
theorem gX8_years_X8_blowOn : GoodIn wsX8_years (wsV RX8 144 RX8 yX8_blowOn wsX8_blowOn) := goodIn_app (goodIn_of _ (by decide +kernel)) ggX8_years_X8_blowOn
theorem dX8_years_0 : decode cX8_years 0 = .ok (.iload_n 1, 1) := by decide +kernel
theorem dX8_years_1 : decode cX8_years 1 = .ok (.i2l, 1) := by decide +kernel
theorem dX8_years_2 : decode cX8_years 2 = .ok (.lconst 1, 1) := by decide +kernel
theorem dX8_years_3 : decode cX8_years 3 = .ok (.ldc2_w 213, 3) := by decide +kernel
theorem dX8_years_6 : decode cX8_years 6 = .ok (.invokestatic 59, 3) := by decide +kernel
theorem dX8_years_9 : decode cX8_years 9 = .ok (.ifCond .ne 6, 3) := by decide +kernel
theorem dX8_years_12 : decode cX8_years 12 = .ok (.bipush (-2), 2) := by decide +kernel
theorem dX8_years_14 : decode cX8_years 14 = .ok (.ireturn, 1) := by decide +kernel
theorem dX8_years_15 : decode cX8_years 15 = .ok (.aload_n 0, 1) := by decide +kernel
theorem dX8_years_16 : decode cX8_years 16 = .ok (.invokevirtual 181, 3) := by decide +kernel
theorem dX8_years_19 : decode cX8_years 19 = .ok (.iconst 0, 1) := by decide +kernel
theorem dX8_years_20 : decode cX8_years 20 = .ok (.istore_n 2, 1) := by decide +kernel
theorem dX8_years_21 : decode cX8_years 21 = .ok (.iconst 0, 1) := by decide +kernel
theorem dX8_years_22 : decode cX8_years 22 = .ok (.istore_n 3, 1) := by decide +kernel
theorem dX8_years_23 : decode cX8_years 23 = .ok (.iload_n 3, 1) := by decide +kernel
theorem dX8_years_24 : decode cX8_years 24 = .ok (.aload_n 0, 1) := by decide +kernel
theorem dX8_years_25 : decode cX8_years 25 = .ok (.getfield 109, 3) := by decide +kernel
theorem dX8_years_28 : decode cX8_years 28 = .ok (.if_icmp .ge 22, 3) := by decide +kernel
theorem dX8_years_31 : decode cX8_years 31 = .ok (.iload_n 2, 1) := by decide +kernel
theorem dX8_years_32 : decode cX8_years 32 = .ok (.aload_n 0, 1) := by decide +kernel
theorem dX8_years_33 : decode cX8_years 33 = .ok (.getfield 16, 3) := by decide +kernel
theorem dX8_years_36 : decode cX8_years 36 = .ok (.iconst 3, 1) := by decide +kernel
theorem dX8_years_37 : decode cX8_years 37 = .ok (.iload_n 3, 1) := by decide +kernel
theorem dX8_years_38 : decode cX8_years 38 = .ok (.imul, 1) := by decide +kernel
theorem dX8_years_39 : decode cX8_years 39 = .ok (.iconst 2, 1) := by decide +kernel
theorem dX8_years_40 : decode cX8_years 40 = .ok (.iadd, 1) := by decide +kernel
theorem dX8_years_41 : decode cX8_years 41 = .ok (.iaload, 1) := by decide +kernel
theorem dX8_years_42 : decode cX8_years 42 = .ok (.iadd, 1) := by decide +kernel
theorem dX8_years_43 : decode cX8_years 43 = .ok (.istore_n 2, 1) := by decide +kernel
theorem dX8_years_44 : decode cX8_years 44 = .ok (.iinc 3 1, 3) := by decide +kernel
theorem dX8_years_47 : decode cX8_years 47 = .ok (.goto (-24), 3) := by decide +kernel
theorem dX8_years_50 : decode cX8_years 50 = .ok (.iconst 0, 1) := by decide +kernel
theorem dX8_years_51 : decode cX8_years 51 = .ok (.istore_n 3, 1) := by decide +kernel
theorem dX8_years_52 : decode cX8_years 52 = .ok (.iconst 0, 1) := by decide +kernel
theorem dX8_years_53 : decode cX8_years 53 = .ok (.istore 4, 2) := by decide +kernel
theorem dX8_years_55 : decode cX8_years 55 = .ok (.iload 4, 2) := by decide +kernel
theorem dX8_years_57 : decode cX8_years 57 = .ok (.iload_n 1, 1) := by decide +kernel
theorem dX8_years_58 : decode cX8_years 58 = .ok (.if_icmp .ge 111, 3) := by decide +kernel
theorem dX8_years_61 : decode cX8_years 61 = .ok (.aload_n 0, 1) := by decide +kernel
theorem dX8_years_62 : decode cX8_years 62 = .ok (.getfield 109, 3) := by decide +kernel
theorem dX8_years_65 : decode cX8_years 65 = .ok (.ifCond .le 104, 3) := by decide +kernel
theorem dX8_years_68 : decode cX8_years 68 = .ok (.aload_n 0, 1) := by decide +kernel
theorem dX8_years_69 : decode cX8_years 69 = .ok (.aload_n 0, 1) := by decide +kernel
theorem dX8_years_70 : decode cX8_years 70 = .ok (.getfield 209, 3) := by decide +kernel
theorem dX8_years_73 : decode cX8_years 73 = .ok (.ldc2_w 215, 3) := by decide +kernel
theorem dX8_years_76 : decode cX8_years 76 = .ok (.lmul, 1) := by decide +kernel
theorem dX8_years_77 : decode cX8_years 77 = .ok (.ldc2_w 217, 3) := by decide +kernel
theorem dX8_years_80 : decode cX8_years 80 = .ok (.ladd, 1) := by decide +kernel
theorem dX8_years_81 : decode cX8_years 81 = .ok (.putfield 209, 3) := by decide +kernel
theorem dX8_years_84 : decode cX8_years 84 = .ok (.aload_n 0, 1) := by decide +kernel
theorem dX8_years_85 : decode cX8_years 85 = .ok (.getfield 209, 3) := by decide +kernel
theorem dX8_years_88 : decode cX8_years 88 = .ok (.bipush 33, 2) := by decide +kernel
theorem dX8_years_90 : decode cX8_years 90 = .ok (.lushr, 1) := by decide +kernel
theorem dX8_years_91 : decode cX8_years 91 = .ok (.iload_n 2, 1) := by decide +kernel
theorem dX8_years_92 : decode cX8_years 92 = .ok (.i2l, 1) := by decide +kernel
theorem dX8_years_93 : decode cX8_years 93 = .ok (.lrem, 1) := by decide +kernel
theorem dX8_years_94 : decode cX8_years 94 = .ok (.l2i, 1) := by decide +kernel
theorem dX8_years_95 : decode cX8_years 95 = .ok (.istore 5, 2) := by decide +kernel
theorem dX8_years_97 : decode cX8_years 97 = .ok (.iconst 0, 1) := by decide +kernel
theorem dX8_years_98 : decode cX8_years 98 = .ok (.istore 6, 2) := by decide +kernel
theorem dX8_years_100 : decode cX8_years 100 = .ok (.iload 5, 2) := by decide +kernel
theorem dX8_years_102 : decode cX8_years 102 = .ok (.aload_n 0, 1) := by decide +kernel
theorem dX8_years_103 : decode cX8_years 103 = .ok (.getfield 16, 3) := by decide +kernel
theorem dX8_years_106 : decode cX8_years 106 = .ok (.iconst 3, 1) := by decide +kernel
theorem dX8_years_107 : decode cX8_years 107 = .ok (.iload 6, 2) := by decide +kernel
theorem dX8_years_109 : decode cX8_years 109 = .ok (.imul, 1) := by decide +kernel
theorem dX8_years_110 : decode cX8_years 110 = .ok (.iconst 2, 1) := by decide +kernel
theorem dX8_years_111 : decode cX8_years 111 = .ok (.iadd, 1) := by decide +kernel
theorem dX8_years_112 : decode cX8_years 112 = .ok (.iaload, 1) := by decide +kernel
theorem dX8_years_113 : decode cX8_years 113 = .ok (.if_icmp .lt 25, 3) := by decide +kernel
theorem dX8_years_116 : decode cX8_years 116 = .ok (.iload 5, 2) := by decide +kernel
theorem dX8_years_118 : decode cX8_years 118 = .ok (.aload_n 0, 1) := by decide +kernel
theorem dX8_years_119 : decode cX8_years 119 = .ok (.getfield 16, 3) := by decide +kernel
theorem dX8_years_122 : decode cX8_years 122 = .ok (.iconst 3, 1) := by decide +kernel
theorem dX8_years_123 : decode cX8_years 123 = .ok (.iload 6, 2) := by decide +kernel
theorem dX8_years_125 : decode cX8_years 125 = .ok (.imul, 1) := by decide +kernel
theorem dX8_years_126 : decode cX8_years 126 = .ok (.iconst 2, 1) := by decide +kernel
theorem dX8_years_127 : decode cX8_years 127 = .ok (.iadd, 1) := by decide +kernel
theorem dX8_years_128 : decode cX8_years 128 = .ok (.iaload, 1) := by decide +kernel
theorem dX8_years_129 : decode cX8_years 129 = .ok (.isub, 1) := by decide +kernel
theorem dX8_years_130 : decode cX8_years 130 = .ok (.istore 5, 2) := by decide +kernel
theorem dX8_years_132 : decode cX8_years 132 = .ok (.iinc 6 1, 3) := by decide +kernel
theorem dX8_years_135 : decode cX8_years 135 = .ok (.goto (-35), 3) := by decide +kernel
theorem dX8_years_138 : decode cX8_years 138 = .ok (.aload_n 0, 1) := by decide +kernel
theorem dX8_years_139 : decode cX8_years 139 = .ok (.iconst 1, 1) := by decide +kernel
theorem dX8_years_140 : decode cX8_years 140 = .ok (.iload 6, 2) := by decide +kernel
theorem dX8_years_142 : decode cX8_years 142 = .ok (.invokevirtual 144, 3) := by decide +kernel
theorem dX8_years_145 : decode cX8_years 145 = .ok (.iload_n 3, 1) := by decide +kernel
theorem dX8_years_146 : decode cX8_years 146 = .ok (.aload_n 0, 1) := by decide +kernel
theorem dX8_years_147 : decode cX8_years 147 = .ok (.getfield 19, 3) := by decide +kernel
theorem dX8_years_150 : decode cX8_years 150 = .ok (.bipush 52, 2) := by decide +kernel
theorem dX8_years_152 : decode cX8_years 152 = .ok (.iaload, 1) := by decide +kernel
theorem dX8_years_153 : decode cX8_years 153 = .ok (.ifCond .ne 7, 3) := by decide +kernel
theorem dX8_years_156 : decode cX8_years 156 = .ok (.iconst 1, 1) := by decide +kernel
theorem dX8_years_157 : decode cX8_years 157 = .ok (.goto 4, 3) := by decide +kernel
theorem dX8_years_160 : decode cX8_years 160 = .ok (.iconst 0, 1) := by decide +kernel
theorem dX8_years_161 : decode cX8_years 161 = .ok (.iadd, 1) := by decide +kernel
theorem dX8_years_162 : decode cX8_years 162 = .ok (.istore_n 3, 1) := by decide +kernel
theorem dX8_years_163 : decode cX8_years 163 = .ok (.iinc 4 1, 3) := by decide +kernel
theorem dX8_years_166 : decode cX8_years 166 = .ok (.goto (-111), 3) := by decide +kernel
theorem dX8_years_169 : decode cX8_years 169 = .ok (.iload_n 3, 1) := by decide +kernel
theorem dX8_years_170 : decode cX8_years 170 = .ok (.ireturn, 1) := by decide +kernel
set_option maxRecDepth 20000 in
theorem ggX8_keep_X8_in : GoodIn wsX8_keep wsX8_in := goodIn_r _ [7] (by decide +kernel) (by decide +kernel)
set_option maxRecDepth 20000 in
theorem gX8_keep_X8_in : GoodIn wsX8_keep (va_wsS RX8 59 yX8_in wsX8_in) := goodIn_app (goodIn_of _ (by decide +kernel)) ggX8_keep_X8_in
theorem dX8_keep_0 : decode cX8_keep 0 = .ok (.iload_n 1, 1) := by decide +kernel
theorem dX8_keep_1 : decode cX8_keep 1 = .ok (.i2l, 1) := by decide +kernel
theorem dX8_keep_2 : decode cX8_keep 2 = .ok (.lconst 0, 1) := by decide +kernel
theorem dX8_keep_3 : decode cX8_keep 3 = .ok (.lconst 1, 1) := by decide +kernel
theorem dX8_keep_4 : decode cX8_keep 4 = .ok (.invokestatic 59, 3) := by decide +kernel
theorem dX8_keep_7 : decode cX8_keep 7 = .ok (.ifCond .ne 5, 3) := by decide +kernel
theorem dX8_keep_10 : decode cX8_keep 10 = .ok (.iconst (-1), 1) := by decide +kernel
theorem dX8_keep_11 : decode cX8_keep 11 = .ok (.ireturn, 1) := by decide +kernel
theorem dX8_keep_12 : decode cX8_keep 12 = .ok (.aload_n 0, 1) := by decide +kernel
theorem dX8_keep_13 : decode cX8_keep 13 = .ok (.getfield 46, 3) := by decide +kernel
theorem dX8_keep_16 : decode cX8_keep 16 = .ok (.iload_n 1, 1) := by decide +kernel
theorem dX8_keep_17 : decode cX8_keep 17 = .ok (.iconst 1, 1) := by decide +kernel
theorem dX8_keep_18 : decode cX8_keep 18 = .ok (.bastore, 1) := by decide +kernel
theorem dX8_keep_19 : decode cX8_keep 19 = .ok (.iconst 0, 1) := by decide +kernel
theorem dX8_keep_20 : decode cX8_keep 20 = .ok (.istore_n 2, 1) := by decide +kernel
theorem dX8_keep_21 : decode cX8_keep 21 = .ok (.iload_n 2, 1) := by decide +kernel
theorem dX8_keep_22 : decode cX8_keep 22 = .ok (.bipush 27, 2) := by decide +kernel
theorem dX8_keep_24 : decode cX8_keep 24 = .ok (.if_icmp .ge 26, 3) := by decide +kernel
theorem dX8_keep_27 : decode cX8_keep 27 = .ok (.aload_n 0, 1) := by decide +kernel
theorem dX8_keep_28 : decode cX8_keep 28 = .ok (.getfield 50, 3) := by decide +kernel
theorem dX8_keep_31 : decode cX8_keep 31 = .ok (.bipush 27, 2) := by decide +kernel
theorem dX8_keep_33 : decode cX8_keep 33 = .ok (.iload_n 1, 1) := by decide +kernel
theorem dX8_keep_34 : decode cX8_keep 34 = .ok (.imul, 1) := by decide +kernel
theorem dX8_keep_35 : decode cX8_keep 35 = .ok (.iload_n 2, 1) := by decide +kernel
theorem dX8_keep_36 : decode cX8_keep 36 = .ok (.iadd, 1) := by decide +kernel
theorem dX8_keep_37 : decode cX8_keep 37 = .ok (.aload_n 0, 1) := by decide +kernel
theorem dX8_keep_38 : decode cX8_keep 38 = .ok (.getfield 19, 3) := by decide +kernel
theorem dX8_keep_41 : decode cX8_keep 41 = .ok (.iload_n 2, 1) := by decide +kernel
theorem dX8_keep_42 : decode cX8_keep 42 = .ok (.iaload, 1) := by decide +kernel
theorem dX8_keep_43 : decode cX8_keep 43 = .ok (.iastore, 1) := by decide +kernel
theorem dX8_keep_44 : decode cX8_keep 44 = .ok (.iinc 2 1, 3) := by decide +kernel
theorem dX8_keep_47 : decode cX8_keep 47 = .ok (.goto (-26), 3) := by decide +kernel
theorem dX8_keep_50 : decode cX8_keep 50 = .ok (.aload_n 0, 1) := by decide +kernel
theorem dX8_keep_51 : decode cX8_keep 51 = .ok (.getfield 19, 3) := by decide +kernel
theorem dX8_keep_54 : decode cX8_keep 54 = .ok (.bipush 26, 2) := by decide +kernel
theorem dX8_keep_56 : decode cX8_keep 56 = .ok (.iaload, 1) := by decide +kernel
theorem dX8_keep_57 : decode cX8_keep 57 = .ok (.ireturn, 1) := by decide +kernel
set_option maxRecDepth 20000 in
theorem ggX8_again_X8_in : GoodIn wsX8_again wsX8_in := goodIn_r _ [8] (by decide +kernel) (by decide +kernel)
set_option maxRecDepth 20000 in
theorem gX8_again_X8_in : GoodIn wsX8_again (va_wsS RX8 59 yX8_in wsX8_in) := goodIn_app (goodIn_of _ (by decide +kernel)) ggX8_again_X8_in
theorem dX8_again_0 : decode cX8_again 0 = .ok (.iload_n 1, 1) := by decide +kernel
theorem dX8_again_1 : decode cX8_again 1 = .ok (.i2l, 1) := by decide +kernel
theorem dX8_again_2 : decode cX8_again 2 = .ok (.lconst 0, 1) := by decide +kernel
theorem dX8_again_3 : decode cX8_again 3 = .ok (.lconst 1, 1) := by decide +kernel
theorem dX8_again_4 : decode cX8_again 4 = .ok (.invokestatic 59, 3) := by decide +kernel
theorem dX8_again_7 : decode cX8_again 7 = .ok (.ifCond .ne 5, 3) := by decide +kernel
theorem dX8_again_10 : decode cX8_again 10 = .ok (.iconst (-1), 1) := by decide +kernel
theorem dX8_again_11 : decode cX8_again 11 = .ok (.ireturn, 1) := by decide +kernel
theorem dX8_again_12 : decode cX8_again 12 = .ok (.aload_n 0, 1) := by decide +kernel
theorem dX8_again_13 : decode cX8_again 13 = .ok (.getfield 46, 3) := by decide +kernel
theorem dX8_again_16 : decode cX8_again 16 = .ok (.iload_n 1, 1) := by decide +kernel
theorem dX8_again_17 : decode cX8_again 17 = .ok (.baload, 1) := by decide +kernel
theorem dX8_again_18 : decode cX8_again 18 = .ok (.ifCond .ne 6, 3) := by decide +kernel
theorem dX8_again_21 : decode cX8_again 21 = .ok (.bipush (-3), 2) := by decide +kernel
theorem dX8_again_23 : decode cX8_again 23 = .ok (.ireturn, 1) := by decide +kernel
theorem dX8_again_24 : decode cX8_again 24 = .ok (.iconst 0, 1) := by decide +kernel
theorem dX8_again_25 : decode cX8_again 25 = .ok (.istore_n 2, 1) := by decide +kernel
theorem dX8_again_26 : decode cX8_again 26 = .ok (.iload_n 2, 1) := by decide +kernel
theorem dX8_again_27 : decode cX8_again 27 = .ok (.bipush 27, 2) := by decide +kernel
theorem dX8_again_29 : decode cX8_again 29 = .ok (.if_icmp .ge 26, 3) := by decide +kernel
theorem dX8_again_32 : decode cX8_again 32 = .ok (.aload_n 0, 1) := by decide +kernel
theorem dX8_again_33 : decode cX8_again 33 = .ok (.getfield 19, 3) := by decide +kernel
theorem dX8_again_36 : decode cX8_again 36 = .ok (.iload_n 2, 1) := by decide +kernel
theorem dX8_again_37 : decode cX8_again 37 = .ok (.aload_n 0, 1) := by decide +kernel
theorem dX8_again_38 : decode cX8_again 38 = .ok (.getfield 50, 3) := by decide +kernel
theorem dX8_again_41 : decode cX8_again 41 = .ok (.bipush 27, 2) := by decide +kernel
theorem dX8_again_43 : decode cX8_again 43 = .ok (.iload_n 1, 1) := by decide +kernel
theorem dX8_again_44 : decode cX8_again 44 = .ok (.imul, 1) := by decide +kernel
theorem dX8_again_45 : decode cX8_again 45 = .ok (.iload_n 2, 1) := by decide +kernel
theorem dX8_again_46 : decode cX8_again 46 = .ok (.iadd, 1) := by decide +kernel
theorem dX8_again_47 : decode cX8_again 47 = .ok (.iaload, 1) := by decide +kernel
theorem dX8_again_48 : decode cX8_again 48 = .ok (.iastore, 1) := by decide +kernel
theorem dX8_again_49 : decode cX8_again 49 = .ok (.iinc 2 1, 3) := by decide +kernel
theorem dX8_again_52 : decode cX8_again 52 = .ok (.goto (-26), 3) := by decide +kernel
theorem dX8_again_55 : decode cX8_again 55 = .ok (.aload_n 0, 1) := by decide +kernel
theorem dX8_again_56 : decode cX8_again 56 = .ok (.iconst 0, 1) := by decide +kernel
theorem dX8_again_57 : decode cX8_again 57 = .ok (.putfield 112, 3) := by decide +kernel
theorem dX8_again_60 : decode cX8_again 60 = .ok (.aload_n 0, 1) := by decide +kernel
theorem dX8_again_61 : decode cX8_again 61 = .ok (.getfield 19, 3) := by decide +kernel
theorem dX8_again_64 : decode cX8_again 64 = .ok (.bipush 26, 2) := by decide +kernel
theorem dX8_again_66 : decode cX8_again 66 = .ok (.iaload, 1) := by decide +kernel
theorem dX8_again_67 : decode cX8_again 67 = .ok (.ireturn, 1) := by decide +kernel
set_option maxRecDepth 20000 in
theorem ggX8_count_X8_weightOf : GoodIn wsX8_count wsX8_weightOf := goodIn_r _ [11, 2, 4, 12, 13, 14, 10, 15, 20, 21, 22, 23, 24, 25, 26, 27, 28, 29, 30, 31, 32, 33, 34, 35, 36, 37, 38, 39, 40, 41, 42, 43, 44, 45, 46, 47, 48, 49, 50] (by decide +kernel) (by decide +kernel)
set_option maxRecDepth 20000 in
theorem gX8_count_X8_weightOf : GoodIn wsX8_count (wsV RX8 123 RX8 yX8_weightOf wsX8_weightOf) := goodIn_app (goodIn_of _ (by decide +kernel)) ggX8_count_X8_weightOf
set_option maxRecDepth 20000 in
theorem ggX8_count_X8_treesNow : GoodIn wsX8_count wsX8_treesNow := goodIn_r _ [19, 4, 20, 21, 22, 23, 24, 25, 26, 27, 28, 29, 30, 31, 32, 33, 34, 35, 36, 37, 38, 39, 40, 41, 42, 43, 44, 45, 46, 47, 48, 49, 50] (by decide +kernel) (by decide +kernel)
set_option maxRecDepth 20000 in
theorem gX8_count_X8_treesNow : GoodIn wsX8_count (wsV RX8 175 RX8 yX8_treesNow wsX8_treesNow) := goodIn_app (goodIn_of _ (by decide +kernel)) ggX8_count_X8_treesNow
theorem dX8_count_0 : decode cX8_count 0 = .ok (.iload_n 1, 1) := by decide +kernel
theorem dX8_count_1 : decode cX8_count 1 = .ok (.tableswitch 141 0 10 #[59, 64, 69, 74, 82, 90, 104, 118, 123, 131, 136], 59) := by decide +kernel
theorem dX8_count_60 : decode cX8_count 60 = .ok (.aload_n 0, 1) := by decide +kernel
theorem dX8_count_61 : decode cX8_count 61 = .ok (.getfield 63, 3) := by decide +kernel
theorem dX8_count_64 : decode cX8_count 64 = .ok (.ireturn, 1) := by decide +kernel
theorem dX8_count_65 : decode cX8_count 65 = .ok (.aload_n 0, 1) := by decide +kernel
theorem dX8_count_66 : decode cX8_count 66 = .ok (.getfield 53, 3) := by decide +kernel
theorem dX8_count_69 : decode cX8_count 69 = .ok (.ireturn, 1) := by decide +kernel
theorem dX8_count_70 : decode cX8_count 70 = .ok (.aload_n 0, 1) := by decide +kernel
theorem dX8_count_71 : decode cX8_count 71 = .ok (.getfield 109, 3) := by decide +kernel
theorem dX8_count_74 : decode cX8_count 74 = .ok (.ireturn, 1) := by decide +kernel
theorem dX8_count_75 : decode cX8_count 75 = .ok (.aload_n 0, 1) := by decide +kernel
theorem dX8_count_76 : decode cX8_count 76 = .ok (.getfield 19, 3) := by decide +kernel
theorem dX8_count_79 : decode cX8_count 79 = .ok (.bipush 25, 2) := by decide +kernel
theorem dX8_count_81 : decode cX8_count 81 = .ok (.iaload, 1) := by decide +kernel
theorem dX8_count_82 : decode cX8_count 82 = .ok (.ireturn, 1) := by decide +kernel
theorem dX8_count_83 : decode cX8_count 83 = .ok (.aload_n 0, 1) := by decide +kernel
theorem dX8_count_84 : decode cX8_count 84 = .ok (.getfield 19, 3) := by decide +kernel
theorem dX8_count_87 : decode cX8_count 87 = .ok (.bipush 26, 2) := by decide +kernel
theorem dX8_count_89 : decode cX8_count 89 = .ok (.iaload, 1) := by decide +kernel
theorem dX8_count_90 : decode cX8_count 90 = .ok (.ireturn, 1) := by decide +kernel
theorem dX8_count_91 : decode cX8_count 91 = .ok (.aload_n 0, 1) := by decide +kernel
theorem dX8_count_92 : decode cX8_count 92 = .ok (.iconst 0, 1) := by decide +kernel
theorem dX8_count_93 : decode cX8_count 93 = .ok (.iconst 0, 1) := by decide +kernel
theorem dX8_count_94 : decode cX8_count 94 = .ok (.aload_n 0, 1) := by decide +kernel
theorem dX8_count_95 : decode cX8_count 95 = .ok (.getfield 19, 3) := by decide +kernel
theorem dX8_count_98 : decode cX8_count 98 = .ok (.bipush 23, 2) := by decide +kernel
theorem dX8_count_100 : decode cX8_count 100 = .ok (.iaload, 1) := by decide +kernel
theorem dX8_count_101 : decode cX8_count 101 = .ok (.invokevirtual 123, 3) := by decide +kernel
theorem dX8_count_104 : decode cX8_count 104 = .ok (.ireturn, 1) := by decide +kernel
theorem dX8_count_105 : decode cX8_count 105 = .ok (.aload_n 0, 1) := by decide +kernel
theorem dX8_count_106 : decode cX8_count 106 = .ok (.iconst 0, 1) := by decide +kernel
theorem dX8_count_107 : decode cX8_count 107 = .ok (.iconst 1, 1) := by decide +kernel
theorem dX8_count_108 : decode cX8_count 108 = .ok (.aload_n 0, 1) := by decide +kernel
theorem dX8_count_109 : decode cX8_count 109 = .ok (.getfield 19, 3) := by decide +kernel
theorem dX8_count_112 : decode cX8_count 112 = .ok (.bipush 23, 2) := by decide +kernel
theorem dX8_count_114 : decode cX8_count 114 = .ok (.iaload, 1) := by decide +kernel
theorem dX8_count_115 : decode cX8_count 115 = .ok (.invokevirtual 123, 3) := by decide +kernel
theorem dX8_count_118 : decode cX8_count 118 = .ok (.ireturn, 1) := by decide +kernel
theorem dX8_count_119 : decode cX8_count 119 = .ok (.aload_n 0, 1) := by decide +kernel
theorem dX8_count_120 : decode cX8_count 120 = .ok (.invokevirtual 175, 3) := by decide +kernel
theorem dX8_count_123 : decode cX8_count 123 = .ok (.ireturn, 1) := by decide +kernel
theorem dX8_count_124 : decode cX8_count 124 = .ok (.aload_n 0, 1) := by decide +kernel
theorem dX8_count_125 : decode cX8_count 125 = .ok (.getfield 19, 3) := by decide +kernel
theorem dX8_count_128 : decode cX8_count 128 = .ok (.bipush 24, 2) := by decide +kernel
theorem dX8_count_130 : decode cX8_count 130 = .ok (.iaload, 1) := by decide +kernel
theorem dX8_count_131 : decode cX8_count 131 = .ok (.ireturn, 1) := by decide +kernel
theorem dX8_count_132 : decode cX8_count 132 = .ok (.aload_n 0, 1) := by decide +kernel
theorem dX8_count_133 : decode cX8_count 133 = .ok (.getfield 112, 3) := by decide +kernel
theorem dX8_count_136 : decode cX8_count 136 = .ok (.ireturn, 1) := by decide +kernel
theorem dX8_count_137 : decode cX8_count 137 = .ok (.aload_n 0, 1) := by decide +kernel
theorem dX8_count_138 : decode cX8_count 138 = .ok (.getfield 189, 3) := by decide +kernel
theorem dX8_count_141 : decode cX8_count 141 = .ok (.ireturn, 1) := by decide +kernel
theorem dX8_count_142 : decode cX8_count 142 = .ok (.bipush (-2), 2) := by decide +kernel
theorem dX8_count_144 : decode cX8_count 144 = .ok (.ireturn, 1) := by decide +kernel
theorem dJ6_bitCount_0f7a4_0 : decode cJ6_bitCount_0f7a4 0 = .ok (.iload_n 0, 1) := by decide +kernel
theorem dJ6_bitCount_0f7a4_1 : decode cJ6_bitCount_0f7a4 1 = .ok (.iload_n 0, 1) := by decide +kernel
theorem dJ6_bitCount_0f7a4_2 : decode cJ6_bitCount_0f7a4 2 = .ok (.iconst 1, 1) := by decide +kernel
theorem dJ6_bitCount_0f7a4_3 : decode cJ6_bitCount_0f7a4 3 = .ok (.iushr, 1) := by decide +kernel
theorem dJ6_bitCount_0f7a4_4 : decode cJ6_bitCount_0f7a4 4 = .ok (.ldc_w 265, 3) := by decide +kernel
theorem dJ6_bitCount_0f7a4_7 : decode cJ6_bitCount_0f7a4 7 = .ok (.iand, 1) := by decide +kernel
theorem dJ6_bitCount_0f7a4_8 : decode cJ6_bitCount_0f7a4 8 = .ok (.isub, 1) := by decide +kernel
theorem dJ6_bitCount_0f7a4_9 : decode cJ6_bitCount_0f7a4 9 = .ok (.istore_n 0, 1) := by decide +kernel
theorem dJ6_bitCount_0f7a4_10 : decode cJ6_bitCount_0f7a4 10 = .ok (.iload_n 0, 1) := by decide +kernel
theorem dJ6_bitCount_0f7a4_11 : decode cJ6_bitCount_0f7a4 11 = .ok (.ldc_w 266, 3) := by decide +kernel
theorem dJ6_bitCount_0f7a4_14 : decode cJ6_bitCount_0f7a4 14 = .ok (.iand, 1) := by decide +kernel
theorem dJ6_bitCount_0f7a4_15 : decode cJ6_bitCount_0f7a4 15 = .ok (.iload_n 0, 1) := by decide +kernel
theorem dJ6_bitCount_0f7a4_16 : decode cJ6_bitCount_0f7a4 16 = .ok (.iconst 2, 1) := by decide +kernel
theorem dJ6_bitCount_0f7a4_17 : decode cJ6_bitCount_0f7a4 17 = .ok (.iushr, 1) := by decide +kernel
theorem dJ6_bitCount_0f7a4_18 : decode cJ6_bitCount_0f7a4 18 = .ok (.ldc_w 266, 3) := by decide +kernel
theorem dJ6_bitCount_0f7a4_21 : decode cJ6_bitCount_0f7a4 21 = .ok (.iand, 1) := by decide +kernel
theorem dJ6_bitCount_0f7a4_22 : decode cJ6_bitCount_0f7a4 22 = .ok (.iadd, 1) := by decide +kernel
theorem dJ6_bitCount_0f7a4_23 : decode cJ6_bitCount_0f7a4 23 = .ok (.istore_n 0, 1) := by decide +kernel
theorem dJ6_bitCount_0f7a4_24 : decode cJ6_bitCount_0f7a4 24 = .ok (.iload_n 0, 1) := by decide +kernel
theorem dJ6_bitCount_0f7a4_25 : decode cJ6_bitCount_0f7a4 25 = .ok (.iload_n 0, 1) := by decide +kernel
theorem dJ6_bitCount_0f7a4_26 : decode cJ6_bitCount_0f7a4 26 = .ok (.iconst 4, 1) := by decide +kernel
theorem dJ6_bitCount_0f7a4_27 : decode cJ6_bitCount_0f7a4 27 = .ok (.iushr, 1) := by decide +kernel
theorem dJ6_bitCount_0f7a4_28 : decode cJ6_bitCount_0f7a4 28 = .ok (.iadd, 1) := by decide +kernel
theorem dJ6_bitCount_0f7a4_29 : decode cJ6_bitCount_0f7a4 29 = .ok (.ldc_w 267, 3) := by decide +kernel
theorem dJ6_bitCount_0f7a4_32 : decode cJ6_bitCount_0f7a4 32 = .ok (.iand, 1) := by decide +kernel
theorem dJ6_bitCount_0f7a4_33 : decode cJ6_bitCount_0f7a4 33 = .ok (.istore_n 0, 1) := by decide +kernel
theorem dJ6_bitCount_0f7a4_34 : decode cJ6_bitCount_0f7a4 34 = .ok (.iload_n 0, 1) := by decide +kernel
theorem dJ6_bitCount_0f7a4_35 : decode cJ6_bitCount_0f7a4 35 = .ok (.iload_n 0, 1) := by decide +kernel
theorem dJ6_bitCount_0f7a4_36 : decode cJ6_bitCount_0f7a4 36 = .ok (.bipush 8, 2) := by decide +kernel
theorem dJ6_bitCount_0f7a4_38 : decode cJ6_bitCount_0f7a4 38 = .ok (.iushr, 1) := by decide +kernel
theorem dJ6_bitCount_0f7a4_39 : decode cJ6_bitCount_0f7a4 39 = .ok (.iadd, 1) := by decide +kernel
theorem dJ6_bitCount_0f7a4_40 : decode cJ6_bitCount_0f7a4 40 = .ok (.istore_n 0, 1) := by decide +kernel
theorem dJ6_bitCount_0f7a4_41 : decode cJ6_bitCount_0f7a4 41 = .ok (.iload_n 0, 1) := by decide +kernel
theorem dJ6_bitCount_0f7a4_42 : decode cJ6_bitCount_0f7a4 42 = .ok (.iload_n 0, 1) := by decide +kernel
theorem dJ6_bitCount_0f7a4_43 : decode cJ6_bitCount_0f7a4 43 = .ok (.bipush 16, 2) := by decide +kernel
theorem dJ6_bitCount_0f7a4_45 : decode cJ6_bitCount_0f7a4 45 = .ok (.iushr, 1) := by decide +kernel
theorem dJ6_bitCount_0f7a4_46 : decode cJ6_bitCount_0f7a4 46 = .ok (.iadd, 1) := by decide +kernel
theorem dJ6_bitCount_0f7a4_47 : decode cJ6_bitCount_0f7a4 47 = .ok (.istore_n 0, 1) := by decide +kernel
theorem dJ6_bitCount_0f7a4_48 : decode cJ6_bitCount_0f7a4 48 = .ok (.iload_n 0, 1) := by decide +kernel
theorem dJ6_bitCount_0f7a4_49 : decode cJ6_bitCount_0f7a4 49 = .ok (.bipush 63, 2) := by decide +kernel
theorem dJ6_bitCount_0f7a4_51 : decode cJ6_bitCount_0f7a4 51 = .ok (.iand, 1) := by decide +kernel
theorem dJ6_bitCount_0f7a4_52 : decode cJ6_bitCount_0f7a4 52 = .ok (.ireturn, 1) := by decide +kernel
set_option maxRecDepth 20000 in
theorem ggL_law_X7_init : GoodIn wsL_law wsX7_init := goodIn_r _ [9, 10, 11, 12, 13, 14, 15, 16, 17, 18, 19, 20, 21, 22, 23, 24, 25, 26, 27, 28, 29, 30, 31, 32, 33, 34, 35, 36, 37, 38, 39, 40, 41, 42, 43, 44, 45, 46, 47, 48, 49, 50, 51, 52, 53, 54, 55, 56, 57, 58, 59, 60, 61, 62, 63, 64, 65, 66, 67, 68, 69, 70, 71, 72, 73, 74, 75, 76, 77, 78, 79, 80, 81, 82, 83, 84, 85, 720, 721, 722, 723, 724, 725, 680, 681, 682, 683, 684, 685, 686, 687, 688, 726, 727, 728, 729, 730, 731, 732, 733, 734, 735, 736, 737, 738, 739, 740, 741, 742, 743, 744, 745, 746, 747, 748, 749, 750, 751, 752, 753] (by decide +kernel) (by decide +kernel)
set_option maxRecDepth 20000 in
theorem gL_law_X7_init : GoodIn wsL_law (wsX7_init) := ggL_law_X7_init
set_option maxRecDepth 20000 in
theorem ggL_law_X8_init : GoodIn wsL_law wsX8_init := goodIn_r _ [88, 89, 11, 12, 46, 90, 91, 92, 93, 94, 95, 96, 97, 98, 99, 100, 101, 102, 103, 104, 105, 689, 690, 691, 692, 693, 694, 695, 696, 697, 698, 699, 700, 701, 702, 703, 704, 705, 706, 707, 708, 709, 710, 711, 712, 713, 714, 715, 716, 717, 718, 719] (by decide +kernel) (by decide +kernel)
set_option maxRecDepth 20000 in
theorem gL_law_X8_init : GoodIn wsL_law (wsX8_init) := ggL_law_X8_init
set_option maxRecDepth 20000 in
theorem ggL_law_X7_write : GoodIn wsL_law wsX7_write := goodIn_r _ [109, 16, 110, 15, 111, 112, 113, 47, 114, 2, 115, 680, 681, 682, 683, 684, 685, 686, 687, 688, 720, 721, 722, 723, 724, 725] (by decide +kernel) (by decide +kernel)
set_option maxRecDepth 20000 in
theorem gL_law_X7_write : GoodIn wsL_law (wsV RL 13 RX7 yX7_write wsX7_write) := goodIn_app (goodIn_of _ (by decide +kernel)) ggL_law_X7_write
set_option maxRecDepth 20000 in
theorem ggL_law_X8_write : GoodIn wsL_law wsX8_write := goodIn_r _ [119, 120, 121, 98, 122, 123, 5, 124, 689, 690, 691, 692, 693, 694, 695, 696, 697, 698, 699, 700, 701, 702, 703, 704, 705, 706, 707, 708, 709, 710, 711, 712, 713, 714, 715, 716, 717, 718, 719] (by decide +kernel) (by decide +kernel)
set_option maxRecDepth 20000 in
theorem gL_law_X8_write : GoodIn wsL_law (wsV RL 17 RX8 yX8_write wsX8_write) := goodIn_app (goodIn_of _ (by decide +kernel)) ggL_law_X8_write
set_option maxRecDepth 20000 in
theorem ggL_law_X7_wipe : GoodIn wsL_law wsX7_wipe := goodIn_r _ [128, 16, 680, 681, 682, 683, 684, 685, 686, 687, 688, 720, 721, 722, 723, 724, 725] (by decide +kernel) (by decide +kernel)
set_option maxRecDepth 20000 in
theorem gL_law_X7_wipe : GoodIn wsL_law (wsV RL 18 RX7 yX7_wipe wsX7_wipe) := goodIn_app (goodIn_of _ (by decide +kernel)) ggL_law_X7_wipe
set_option maxRecDepth 20000 in
theorem ggL_law_X8_wipe : GoodIn wsL_law wsX8_wipe := goodIn_r _ [132, 121, 689, 690, 691, 692, 693, 694, 695, 696, 697, 698, 699, 700, 701, 702, 703, 704, 705, 706, 707, 708, 709, 710, 711, 712, 713, 714, 715, 716, 717, 718, 719] (by decide +kernel) (by decide +kernel)
set_option maxRecDepth 20000 in
theorem gL_law_X8_wipe : GoodIn wsL_law (wsV RL 22 RX8 yX8_wipe wsX8_wipe) := goodIn_app (goodIn_of _ (by decide +kernel)) ggL_law_X8_wipe
set_option maxRecDepth 20000 in
theorem ggL_law_X7_fault : GoodIn wsL_law wsX7_fault := goodIn_r _ [136, 16, 137, 15, 138, 139, 49, 51, 140, 113, 47, 141, 142, 19, 143, 144, 55, 145, 146, 147, 148, 149, 150, 151, 2, 152, 153, 154, 155, 156, 157, 158, 159, 160, 161, 162, 163, 164, 165, 166, 167, 168, 169, 114, 115, 170, 171, 172, 173, 174, 175, 176, 56, 177, 178, 179, 57, 58, 59, 180, 181, 182, 183, 184, 23, 185, 186, 63, 187, 64, 65, 680, 681, 682, 683, 684, 685, 686, 687, 688, 720, 721, 722, 723, 724, 725, 737, 738, 739, 740, 726, 727, 728, 729, 730, 731, 732, 733, 734, 735, 736] (by decide +kernel) (by decide +kernel)
set_option maxRecDepth 20000 in
theorem gL_law_X7_fault : GoodIn wsL_law (wsV RL 23 RX7 yX7_fault wsX7_fault) := goodIn_app (goodIn_of _ (by decide +kernel)) ggL_law_X7_fault
set_option maxRecDepth 20000 in
theorem ggL_law_X8_fault : GoodIn wsL_law wsX8_fault := goodIn_r _ [191, 192, 193, 194, 5, 195, 196, 197, 198, 199, 200, 201, 94, 121, 98, 202, 203, 204, 205, 97, 206, 207, 208, 209, 210, 122, 123, 124, 211, 212, 213, 214, 215, 216, 217, 218, 219, 220, 221, 95, 96, 689, 690, 691, 692, 693, 694, 695, 696, 697, 698, 699, 700, 701, 702, 703, 704, 705, 706, 707, 708, 709, 710, 711, 712, 713, 714, 715, 716, 717, 718, 719] (by decide +kernel) (by decide +kernel)
set_option maxRecDepth 20000 in
theorem gL_law_X8_fault : GoodIn wsL_law (wsV RL 26 RX8 yX8_fault wsX8_fault) := goodIn_app (goodIn_of _ (by decide +kernel)) ggL_law_X8_fault
set_option maxRecDepth 20000 in
theorem ggL_law_X7_hill : GoodIn wsL_law wsX7_hill := goodIn_r _ [225, 16, 20, 24, 28, 36, 137, 15, 138, 139, 49, 51, 140, 113, 47, 141, 142, 19, 143, 144, 55, 145, 146, 147, 148, 149, 150, 151, 2, 152, 153, 154, 155, 156, 157, 158, 159, 160, 161, 162, 163, 164, 165, 166, 167, 168, 169, 114, 115, 170, 171, 172, 173, 174, 175, 176, 56, 177, 178, 179, 57, 58, 59, 180, 181, 182, 183, 184, 23, 185, 186, 63, 187, 64, 65, 226, 227, 228, 229, 230, 231, 232, 233, 234, 27, 235, 236, 237, 238, 35, 239, 240, 241, 680, 681, 682, 683, 684, 685, 686, 687, 688, 720, 721, 722, 723, 724, 725, 726, 727, 728, 729, 730, 731, 732, 733, 734, 735, 736, 737, 738, 739, 740, 741, 742, 743, 747, 748] (by decide +kernel) (by decide +kernel)
set_option maxRecDepth 20000 in
theorem gL_law_X7_hill : GoodIn wsL_law (wsV RL 27 RX7 yX7_hill wsX7_hill) := goodIn_app (goodIn_of _ (by decide +kernel)) ggL_law_X7_hill
set_option maxRecDepth 20000 in
theorem ggL_law_X8_hill : GoodIn wsL_law wsX8_hill := goodIn_r _ [245, 198, 105, 199, 246, 90, 95, 91, 96, 92, 97, 93, 94, 247, 103, 192, 193, 194, 5, 195, 196, 197, 200, 201, 121, 98, 202, 203, 204, 205, 206, 207, 208, 209, 210, 122, 123, 124, 211, 212, 213, 214, 215, 216, 217, 218, 219, 220, 221, 689, 690, 691, 692, 693, 694, 695, 696, 697, 698, 699, 700, 701, 702, 703, 704, 705, 706, 707, 708, 709, 710, 711, 712, 713, 714, 715, 716, 717, 718, 719] (by decide +kernel) (by decide +kernel)
set_option maxRecDepth 20000 in
theorem gL_law_X8_hill : GoodIn wsL_law (wsV RL 30 RX8 yX8_hill wsX8_hill) := goodIn_app (goodIn_of _ (by decide +kernel)) ggL_law_X8_hill
set_option maxRecDepth 20000 in
theorem ggL_law_X7_tree : GoodIn wsL_law wsX7_tree := goodIn_r _ [251, 20, 252, 253, 2, 254, 255, 151, 152, 680, 681, 682, 683, 684, 685, 686, 687, 688, 726, 727, 728, 729, 730, 731, 732, 733, 734, 735, 736] (by decide +kernel) (by decide +kernel)
set_option maxRecDepth 20000 in
theorem gL_law_X7_tree : GoodIn wsL_law (wsV RL 31 RX7 yX7_tree wsX7_tree) := goodIn_app (goodIn_of _ (by decide +kernel)) ggL_law_X7_tree
set_option maxRecDepth 20000 in
theorem ggL_law_X8_tree : GoodIn wsL_law wsX8_tree := goodIn_r _ [259, 210, 93, 122, 123, 5, 124, 689, 690, 691, 692, 693, 694, 695, 696, 697, 698, 699, 700, 701, 702, 703, 704, 705, 706, 707, 708, 709, 710, 711, 712, 713, 714, 715, 716, 717, 718, 719] (by decide +kernel) (by decide +kernel)
set_option maxRecDepth 20000 in
theorem gL_law_X8_tree : GoodIn wsL_law (wsV RL 34 RX8 yX8_tree wsX8_tree) := goodIn_app (goodIn_of _ (by decide +kernel)) ggL_law_X8_tree
set_option maxRecDepth 20000 in
theorem ggL_law_X7_cock : GoodIn wsL_law wsX7_cock := goodIn_r _ [263, 20, 264, 19, 265, 266, 145, 255, 151, 2, 152, 267, 168, 169, 680, 681, 682, 683, 684, 685, 686, 687, 688, 726, 727, 728, 729, 730, 731, 732, 733, 734, 735, 736] (by decide +kernel) (by decide +kernel)
set_option maxRecDepth 20000 in
theorem gL_law_X7_cock : GoodIn wsL_law (wsV RL 35 RX7 yX7_cock wsX7_cock) := goodIn_app (goodIn_of _ (by decide +kernel)) ggL_law_X7_cock
set_option maxRecDepth 20000 in
theorem ggL_law_X8_cock : GoodIn wsL_law wsX8_cock := goodIn_r _ [271, 93, 90, 91, 272, 273, 274, 5, 275, 105, 122, 123, 124, 689, 690, 691, 692, 693, 694, 695, 696, 697, 698, 699, 700, 701, 702, 703, 704, 705, 706, 707, 708, 709, 710, 711, 712, 713, 714, 715, 716, 717, 718, 719] (by decide +kernel) (by decide +kernel)
set_option maxRecDepth 20000 in
theorem gL_law_X8_cock : GoodIn wsL_law (wsV RL 39 RX8 yX8_cock wsX8_cock) := goodIn_app (goodIn_of _ (by decide +kernel)) ggL_law_X8_cock
set_option maxRecDepth 20000 in
theorem ggL_law_X7_wind : GoodIn wsL_law wsX7_wind := goodIn_r _ [279, 24, 20, 280, 23, 281, 282, 187, 255, 151, 2, 152, 283, 284, 285, 63, 64, 286, 19, 287, 288, 145, 56, 55, 58, 57, 168, 169, 680, 681, 682, 683, 684, 685, 686, 687, 688, 737, 738, 739, 740, 726, 727, 728, 729, 730, 731, 732, 733, 734, 735, 736] (by decide +kernel) (by decide +kernel)
set_option maxRecDepth 20000 in
theorem gL_law_X7_wind : GoodIn wsL_law (wsV RL 40 RX7 yX7_wind wsX7_wind) := goodIn_app (goodIn_of _ (by decide +kernel)) ggL_law_X7_wind
set_option maxRecDepth 20000 in
theorem ggL_law_X8_wind : GoodIn wsL_law wsX8_wind := goodIn_r _ [292, 293, 92, 93, 294, 295, 296, 5, 297, 246, 122, 123, 124, 298, 299, 300, 301, 105, 211, 212, 213, 302, 303, 304, 305, 210, 90, 689, 690, 691, 692, 693, 694, 695, 696, 697, 698, 699, 700, 701, 702, 703, 704, 705, 706, 707, 708, 709, 710, 711, 712, 713, 714, 715, 716, 717, 718, 719] (by decide +kernel) (by decide +kernel)
set_option maxRecDepth 20000 in
theorem gL_law_X8_wind : GoodIn wsL_law (wsV RL 43 RX8 yX8_wind wsX8_wind) := goodIn_app (goodIn_of _ (by decide +kernel)) ggL_law_X8_wind
set_option maxRecDepth 20000 in
theorem ggL_law_X7_blow : GoodIn wsL_law wsX7_blow := goodIn_r _ [309, 24, 28, 20, 280, 23, 281, 282, 187, 310, 27, 311, 312, 237, 313, 70, 226, 19, 227, 228, 55, 56, 57, 58, 59, 145, 146, 147, 148, 149, 150, 229, 2, 230, 314, 315, 316, 317, 283, 284, 285, 63, 64, 151, 152, 286, 287, 288, 168, 169, 318, 319, 320, 680, 681, 682, 683, 684, 685, 686, 687, 688, 737, 738, 739, 740, 741, 742, 743, 726, 727, 728, 729, 730, 731, 732, 733, 734, 735, 736] (by decide +kernel) (by decide +kernel)
set_option maxRecDepth 20000 in
theorem gL_law_X7_blow : GoodIn wsL_law (wsV RL 44 RX7 yX7_blow wsX7_blow) := goodIn_app (goodIn_of _ (by decide +kernel)) ggL_law_X7_blow
set_option maxRecDepth 20000 in
theorem ggL_law_X8_blow : GoodIn wsL_law wsX8_blow := goodIn_r _ [324, 93, 294, 295, 296, 5, 297, 246, 122, 123, 124, 325, 326, 327, 328, 99, 329, 247, 330, 331, 332, 333, 298, 299, 300, 301, 105, 92, 211, 212, 213, 302, 303, 304, 305, 210, 90, 334, 335, 336, 337, 338, 339, 340, 341, 91, 689, 690, 691, 692, 693, 694, 695, 696, 697, 698, 699, 700, 701, 702, 703, 704, 705, 706, 707, 708, 709, 710, 711, 712, 713, 714, 715, 716, 717, 718, 719] (by decide +kernel) (by decide +kernel)
set_option maxRecDepth 20000 in
theorem gL_law_X8_blow : GoodIn wsL_law (wsV RL 47 RX8 yX8_blow wsX8_blow) := goodIn_app (goodIn_of _ (by decide +kernel)) ggL_law_X8_blow
set_option maxRecDepth 20000 in
theorem ggL_law_X7_fell : GoodIn wsL_law wsX7_fell := goodIn_r _ [345, 20, 28, 252, 253, 2, 254, 255, 151, 152, 310, 27, 311, 312, 237, 313, 70, 226, 19, 227, 228, 55, 56, 57, 58, 59, 145, 146, 147, 148, 149, 150, 229, 230, 346, 114, 115, 680, 681, 682, 683, 684, 685, 686, 687, 688, 726, 727, 728, 729, 730, 731, 732, 733, 734, 735, 736, 741, 742, 743] (by decide +kernel) (by decide +kernel)
set_option maxRecDepth 20000 in
theorem gL_law_X7_fell : GoodIn wsL_law (wsV RL 48 RX7 yX7_fell wsX7_fell) := goodIn_app (goodIn_of _ (by decide +kernel)) ggL_law_X7_fell
set_option maxRecDepth 20000 in
theorem ggL_law_X8_fell : GoodIn wsL_law wsX8_fell := goodIn_r _ [350, 210, 93, 122, 123, 5, 124, 325, 326, 327, 328, 99, 329, 247, 689, 690, 691, 692, 693, 694, 695, 696, 697, 698, 699, 700, 701, 702, 703, 704, 705, 706, 707, 708, 709, 710, 711, 712, 713, 714, 715, 716, 717, 718, 719] (by decide +kernel) (by decide +kernel)
set_option maxRecDepth 20000 in
theorem gL_law_X8_fell : GoodIn wsL_law (wsV RL 51 RX8 yX8_fell wsX8_fell) := goodIn_app (goodIn_of _ (by decide +kernel)) ggL_law_X8_fell
set_option maxRecDepth 20000 in
theorem ggL_law_X7_move : GoodIn wsL_law wsX7_move := goodIn_r _ [354, 20, 28, 264, 19, 265, 266, 145, 252, 253, 2, 254, 174, 175, 176, 56, 151, 152, 267, 168, 169, 310, 27, 311, 312, 237, 313, 70, 226, 227, 228, 55, 57, 58, 59, 146, 147, 148, 149, 150, 229, 230, 255, 346, 114, 115, 680, 681, 682, 683, 684, 685, 686, 687, 688, 726, 727, 728, 729, 730, 731, 732, 733, 734, 735, 736, 741, 742, 743] (by decide +kernel) (by decide +kernel)
set_option maxRecDepth 20000 in
theorem gL_law_X7_move : GoodIn wsL_law (wsV RL 52 RX7 yX7_move wsX7_move) := goodIn_app (goodIn_of _ (by decide +kernel)) ggL_law_X7_move
set_option maxRecDepth 20000 in
theorem ggL_law_X8_move : GoodIn wsL_law wsX8_move := goodIn_r _ [358, 210, 93, 272, 273, 274, 5, 275, 105, 122, 123, 124, 359, 360, 361, 362, 325, 326, 327, 328, 99, 329, 247, 689, 690, 691, 692, 693, 694, 695, 696, 697, 698, 699, 700, 701, 702, 703, 704, 705, 706, 707, 708, 709, 710, 711, 712, 713, 714, 715, 716, 717, 718, 719] (by decide +kernel) (by decide +kernel)
set_option maxRecDepth 20000 in
theorem gL_law_X8_move : GoodIn wsL_law (wsV RL 55 RX8 yX8_move wsX8_move) := goodIn_app (goodIn_of _ (by decide +kernel)) ggL_law_X8_move
set_option maxRecDepth 20000 in
theorem ggL_law_X7_grease : GoodIn wsL_law wsX7_grease := goodIn_r _ [366, 20, 28, 264, 19, 265, 266, 145, 255, 151, 2, 152, 310, 27, 311, 312, 237, 313, 70, 226, 227, 228, 55, 56, 57, 58, 59, 146, 147, 148, 149, 150, 229, 230, 346, 114, 115, 680, 681, 682, 683, 684, 685, 686, 687, 688, 726, 727, 728, 729, 730, 731, 732, 733, 734, 735, 736, 741, 742, 743] (by decide +kernel) (by decide +kernel)
set_option maxRecDepth 20000 in
theorem gL_law_X7_grease : GoodIn wsL_law (wsV RL 56 RX7 yX7_grease wsX7_grease) := goodIn_app (goodIn_of _ (by decide +kernel)) ggL_law_X7_grease
set_option maxRecDepth 20000 in
theorem ggL_law_X8_grease : GoodIn wsL_law wsX8_grease := goodIn_r _ [370, 93, 272, 273, 274, 5, 275, 105, 122, 123, 124, 325, 326, 327, 328, 99, 329, 247, 689, 690, 691, 692, 693, 694, 695, 696, 697, 698, 699, 700, 701, 702, 703, 704, 705, 706, 707, 708, 709, 710, 711, 712, 713, 714, 715, 716, 717, 718, 719] (by decide +kernel) (by decide +kernel)
set_option maxRecDepth 20000 in
theorem gL_law_X8_grease : GoodIn wsL_law (wsV RL 59 RX8 yX8_grease wsX8_grease) := goodIn_app (goodIn_of _ (by decide +kernel)) ggL_law_X8_grease
set_option maxRecDepth 20000 in
theorem ggL_law_X7_capture : GoodIn wsL_law wsX7_capture := goodIn_r _ [374, 20, 28, 264, 19, 265, 266, 145, 310, 27, 311, 312, 237, 313, 70, 226, 227, 228, 55, 56, 57, 58, 59, 146, 147, 148, 149, 150, 229, 2, 230, 267, 168, 169, 680, 681, 682, 683, 684, 685, 686, 687, 688, 726, 727, 728, 729, 730, 731, 732, 733, 734, 735, 736, 741, 742, 743] (by decide +kernel) (by decide +kernel)
set_option maxRecDepth 20000 in
theorem gL_law_X7_capture : GoodIn wsL_law (wsV RL 60 RX7 yX7_capture wsX7_capture) := goodIn_app (goodIn_of _ (by decide +kernel)) ggL_law_X7_capture
set_option maxRecDepth 20000 in
theorem ggL_law_X8_capture : GoodIn wsL_law wsX8_capture := goodIn_r _ [378, 93, 272, 273, 274, 5, 275, 105, 122, 123, 124, 325, 326, 327, 328, 99, 329, 247, 689, 690, 691, 692, 693, 694, 695, 696, 697, 698, 699, 700, 701, 702, 703, 704, 705, 706, 707, 708, 709, 710, 711, 712, 713, 714, 715, 716, 717, 718, 719] (by decide +kernel) (by decide +kernel)
set_option maxRecDepth 20000 in
theorem gL_law_X8_capture : GoodIn wsL_law (wsV RL 63 RX8 yX8_capture wsX8_capture) := goodIn_app (goodIn_of _ (by decide +kernel)) ggL_law_X8_capture
set_option maxRecDepth 20000 in
theorem ggL_law_X7_hold : GoodIn wsL_law wsX7_hold := goodIn_r _ [382, 20, 28, 264, 19, 265, 266, 145, 310, 27, 311, 312, 237, 313, 70, 226, 227, 228, 55, 56, 57, 58, 59, 146, 147, 148, 149, 150, 229, 2, 230, 267, 168, 169, 680, 681, 682, 683, 684, 685, 686, 687, 688, 726, 727, 728, 729, 730, 731, 732, 733, 734, 735, 736, 741, 742, 743] (by decide +kernel) (by decide +kernel)
set_option maxRecDepth 20000 in
theorem gL_law_X7_hold : GoodIn wsL_law (wsV RL 64 RX7 yX7_hold wsX7_hold) := goodIn_app (goodIn_of _ (by decide +kernel)) ggL_law_X7_hold
set_option maxRecDepth 20000 in
theorem ggL_law_X8_hold : GoodIn wsL_law wsX8_hold := goodIn_r _ [386, 93, 272, 273, 274, 5, 275, 105, 122, 123, 124, 325, 326, 327, 328, 99, 329, 247, 689, 690, 691, 692, 693, 694, 695, 696, 697, 698, 699, 700, 701, 702, 703, 704, 705, 706, 707, 708, 709, 710, 711, 712, 713, 714, 715, 716, 717, 718, 719] (by decide +kernel) (by decide +kernel)
set_option maxRecDepth 20000 in
theorem gL_law_X8_hold : GoodIn wsL_law (wsV RL 67 RX8 yX8_hold wsX8_hold) := goodIn_app (goodIn_of _ (by decide +kernel)) ggL_law_X8_hold
set_option maxRecDepth 20000 in
theorem ggL_law_X7_undo : GoodIn wsL_law wsX7_undo := goodIn_r _ [390, 28, 20, 391, 27, 392, 393, 237, 313, 70, 226, 19, 227, 228, 55, 56, 57, 58, 59, 145, 146, 147, 148, 149, 150, 229, 2, 230, 680, 681, 682, 683, 684, 685, 686, 687, 688, 741, 742, 743, 726, 727, 728, 729, 730, 731, 732, 733, 734, 735, 736] (by decide +kernel) (by decide +kernel)
set_option maxRecDepth 20000 in
theorem gL_law_X7_undo : GoodIn wsL_law (wsV RL 68 RX7 yX7_undo wsX7_undo) := goodIn_app (goodIn_of _ (by decide +kernel)) ggL_law_X7_undo
set_option maxRecDepth 20000 in
theorem ggL_law_X8_undo : GoodIn wsL_law wsX8_undo := goodIn_r _ [397, 247, 329, 93, 99, 689, 690, 691, 692, 693, 694, 695, 696, 697, 698, 699, 700, 701, 702, 703, 704, 705, 706, 707, 708, 709, 710, 711, 712, 713, 714, 715, 716, 717, 718, 719] (by decide +kernel) (by decide +kernel)
set_option maxRecDepth 20000 in
theorem gL_law_X8_undo : GoodIn wsL_law (wsV RL 71 RX8 yX8_undo wsX8_undo) := goodIn_app (goodIn_of _ (by decide +kernel)) ggL_law_X8_undo
set_option maxRecDepth 20000 in
theorem ggL_law_X7_under : GoodIn wsL_law wsX7_under := goodIn_r _ [401, 24, 20, 280, 23, 281, 282, 187, 402, 403, 404, 317, 283, 284, 285, 63, 64, 151, 2, 152, 286, 19, 287, 288, 145, 56, 55, 58, 57, 168, 169, 318, 319, 320, 146, 59, 149, 680, 681, 682, 683, 684, 685, 686, 687, 688, 726, 727, 728, 729, 730, 731, 732, 733, 734, 735, 736, 737, 738, 739, 740] (by decide +kernel) (by decide +kernel)
set_option maxRecDepth 20000 in
theorem gL_law_X7_under : GoodIn wsL_law (wsV RL 72 RX7 yX7_under wsX7_under) := goodIn_app (goodIn_of _ (by decide +kernel)) ggL_law_X7_under
set_option maxRecDepth 20000 in
theorem ggL_law_X8_under : GoodIn wsL_law wsX8_under := goodIn_r _ [408, 93, 294, 295, 296, 5, 297, 246, 122, 123, 124, 409, 410, 411, 412, 298, 299, 300, 301, 105, 92, 211, 212, 213, 302, 303, 304, 305, 210, 90, 334, 335, 336, 337, 338, 339, 340, 341, 91, 689, 690, 691, 692, 693, 694, 695, 696, 697, 698, 699, 700, 701, 702, 703, 704, 705, 706, 707, 708, 709, 710, 711, 712, 713, 714, 715, 716, 717, 718, 719] (by decide +kernel) (by decide +kernel)
set_option maxRecDepth 20000 in
theorem gL_law_X8_under : GoodIn wsL_law (wsV RL 75 RX8 yX8_under wsX8_under) := goodIn_app (goodIn_of _ (by decide +kernel)) ggL_law_X8_under
set_option maxRecDepth 20000 in
theorem ggL_law_X7_year : GoodIn wsL_law wsX7_year := goodIn_r _ [416, 24, 20, 417, 418, 2, 419, 420, 23, 421, 422, 187, 65, 423, 402, 403, 404, 317, 283, 284, 285, 63, 64, 151, 152, 286, 19, 287, 288, 145, 56, 55, 58, 57, 168, 169, 318, 319, 320, 146, 59, 149, 680, 681, 682, 683, 684, 685, 686, 687, 688, 737, 738, 739, 740, 726, 727, 728, 729, 730, 731, 732, 733, 734, 735, 736] (by decide +kernel) (by decide +kernel)
set_option maxRecDepth 20000 in
theorem gL_law_X7_year : GoodIn wsL_law (wsV RL 76 RX7 yX7_year wsX7_year) := goodIn_app (goodIn_of _ (by decide +kernel)) ggL_law_X7_year
set_option maxRecDepth 20000 in
theorem ggL_law_X8_year : GoodIn wsL_law wsX8_year := goodIn_r _ [427, 122, 123, 5, 124, 428, 429, 430, 431, 246, 93, 92, 409, 410, 411, 412, 298, 299, 300, 301, 105, 211, 212, 213, 302, 303, 304, 305, 210, 90, 334, 335, 336, 337, 338, 339, 340, 341, 91, 689, 690, 691, 692, 693, 694, 695, 696, 697, 698, 699, 700, 701, 702, 703, 704, 705, 706, 707, 708, 709, 710, 711, 712, 713, 714, 715, 716, 717, 718, 719] (by decide +kernel) (by decide +kernel)
set_option maxRecDepth 20000 in
theorem gL_law_X8_year : GoodIn wsL_law (wsV RL 79 RX8 yX8_year wsX8_year) := goodIn_app (goodIn_of _ (by decide +kernel)) ggL_law_X8_year
set_option maxRecDepth 20000 in
theorem ggL_law_X7_placing : GoodIn wsL_law wsX7_placing := goodIn_r _ [435, 40, 20, 24, 417, 418, 2, 419, 436, 39, 437, 438, 439, 85, 226, 19, 227, 228, 55, 56, 57, 58, 59, 145, 146, 147, 148, 149, 150, 229, 230, 440, 441, 442, 443, 420, 23, 421, 422, 187, 65, 423, 402, 403, 404, 317, 283, 284, 285, 63, 64, 151, 152, 286, 287, 288, 168, 169, 318, 319, 320, 444, 445, 446, 447, 448, 449, 450, 174, 175, 176, 114, 115, 680, 681, 682, 683, 684, 685, 686, 687, 688, 749, 750, 751, 752, 753, 726, 727, 728, 729, 730, 731, 732, 733, 734, 735, 736, 737, 738, 739, 740] (by decide +kernel) (by decide +kernel)
set_option maxRecDepth 20000 in
theorem gL_law_X7_placing : GoodIn wsL_law (wsV RL 80 RX7 yX7_placing wsX7_placing) := goodIn_app (goodIn_of _ (by decide +kernel)) ggL_law_X7_placing
set_option maxRecDepth 20000 in
theorem ggL_law_X8_placing : GoodIn wsL_law wsX8_placing := goodIn_r _ [454, 455, 456, 105, 93, 457, 458, 459, 122, 123, 5, 124, 460, 461, 462, 463, 428, 429, 430, 431, 246, 92, 409, 410, 411, 412, 298, 299, 300, 301, 211, 212, 213, 302, 303, 304, 305, 210, 90, 334, 335, 336, 337, 338, 339, 340, 341, 91, 359, 360, 361, 362, 689, 690, 691, 692, 693, 694, 695, 696, 697, 698, 699, 700, 701, 702, 703, 704, 705, 706, 707, 708, 709, 710, 711, 712, 713, 714, 715, 716, 717, 718, 719] (by decide +kernel) (by decide +kernel)
set_option maxRecDepth 20000 in
theorem gL_law_X8_placing : GoodIn wsL_law (wsV RL 83 RX8 yX8_placing wsX8_placing) := goodIn_app (goodIn_of _ (by decide +kernel)) ggL_law_X8_placing
set_option maxRecDepth 20000 in
theorem ggL_law_X7_trees : GoodIn wsL_law wsX7_trees := goodIn_r _ [467, 24, 20, 417, 418, 2, 419, 280, 23, 281, 282, 187, 157, 19, 158, 159, 55, 468, 469, 470, 471, 472, 473, 474, 402, 403, 404, 317, 283, 284, 285, 63, 64, 151, 152, 286, 287, 288, 145, 56, 58, 57, 168, 169, 318, 319, 320, 146, 59, 149, 680, 681, 682, 683, 684, 685, 686, 687, 688, 726, 727, 728, 729, 730, 731, 732, 733, 734, 735, 736, 737, 738, 739, 740] (by decide +kernel) (by decide +kernel)
set_option maxRecDepth 20000 in
theorem gL_law_X7_trees : GoodIn wsL_law (wsV RL 84 RX7 yX7_trees wsX7_trees) := goodIn_app (goodIn_of _ (by decide +kernel)) ggL_law_X7_trees
set_option maxRecDepth 20000 in
theorem ggL_law_X8_trees : GoodIn wsL_law wsX8_trees := goodIn_r _ [478, 93, 122, 123, 5, 124, 294, 295, 296, 297, 246, 479, 480, 481, 482, 483, 484, 485, 486, 487, 488, 489, 211, 212, 213, 409, 410, 411, 412, 298, 299, 300, 301, 105, 92, 302, 303, 304, 305, 210, 90, 334, 335, 336, 337, 338, 339, 340, 341, 91, 689, 690, 691, 692, 693, 694, 695, 696, 697, 698, 699, 700, 701, 702, 703, 704, 705, 706, 707, 708, 709, 710, 711, 712, 713, 714, 715, 716, 717, 718, 719] (by decide +kernel) (by decide +kernel)
set_option maxRecDepth 20000 in
theorem gL_law_X8_trees : GoodIn wsL_law (wsV RL 87 RX8 yX8_trees wsX8_trees) := goodIn_app (goodIn_of _ (by decide +kernel)) ggL_law_X8_trees
set_option maxRecDepth 20000 in
theorem ggL_law_X7_decides : GoodIn wsL_law wsX7_decides := goodIn_r _ [493, 24, 20, 280, 23, 281, 282, 187, 283, 284, 285, 63, 64, 151, 2, 152, 286, 19, 287, 288, 145, 56, 55, 58, 57, 168, 169, 318, 319, 320, 146, 59, 149, 680, 681, 682, 683, 684, 685, 686, 687, 688, 726, 727, 728, 729, 730, 731, 732, 733, 734, 735, 736, 737, 738, 739, 740] (by decide +kernel) (by decide +kernel)
set_option maxRecDepth 20000 in
theorem gL_law_X7_decides : GoodIn wsL_law (wsV RL 88 RX7 yX7_decides wsX7_decides) := goodIn_app (goodIn_of _ (by decide +kernel)) ggL_law_X7_decides
set_option maxRecDepth 20000 in
theorem ggL_law_X8_decides : GoodIn wsL_law wsX8_decides := goodIn_r _ [497, 93, 105, 294, 295, 296, 5, 297, 246, 122, 123, 124, 298, 299, 300, 301, 92, 211, 212, 213, 302, 303, 304, 305, 210, 90, 334, 335, 336, 337, 338, 339, 340, 341, 91, 689, 690, 691, 692, 693, 694, 695, 696, 697, 698, 699, 700, 701, 702, 703, 704, 705, 706, 707, 708, 709, 710, 711, 712, 713, 714, 715, 716, 717, 718, 719] (by decide +kernel) (by decide +kernel)
set_option maxRecDepth 20000 in
theorem gL_law_X8_decides : GoodIn wsL_law (wsV RL 91 RX8 yX8_decides wsX8_decides) := goodIn_app (goodIn_of _ (by decide +kernel)) ggL_law_X8_decides
set_option maxRecDepth 20000 in
theorem ggL_law_X7_power : GoodIn wsL_law wsX7_power := goodIn_r _ [501, 20, 264, 19, 265, 266, 145, 502, 503, 504, 318, 319, 320, 146, 59, 149, 168, 2, 169, 151, 152, 680, 681, 682, 683, 684, 685, 686, 687, 688, 726, 727, 728, 729, 730, 731, 732, 733, 734, 735, 736] (by decide +kernel) (by decide +kernel)
set_option maxRecDepth 20000 in
theorem gL_law_X7_power : GoodIn wsL_law (wsV RL 92 RX7 yX7_power wsX7_power) := goodIn_app (goodIn_of _ (by decide +kernel)) ggL_law_X7_power
set_option maxRecDepth 20000 in
theorem ggL_law_X8_power : GoodIn wsL_law wsX8_power := goodIn_r _ [508, 105, 272, 273, 274, 5, 275, 122, 123, 124, 211, 212, 213, 334, 335, 336, 337, 93, 338, 339, 340, 341, 91, 689, 690, 691, 692, 693, 694, 695, 696, 697, 698, 699, 700, 701, 702, 703, 704, 705, 706, 707, 708, 709, 710, 711, 712, 713, 714, 715, 716, 717, 718, 719] (by decide +kernel) (by decide +kernel)
set_option maxRecDepth 20000 in
theorem gL_law_X8_power : GoodIn wsL_law (wsV RL 95 RX8 yX8_power wsX8_power) := goodIn_app (goodIn_of _ (by decide +kernel)) ggL_law_X8_power
set_option maxRecDepth 20000 in
theorem ggL_law_X7_judge : GoodIn wsL_law wsX7_judge := goodIn_r _ [512, 41, 20, 24, 513, 514, 2, 515, 226, 19, 227, 228, 55, 56, 57, 58, 59, 145, 146, 147, 148, 149, 150, 229, 230, 280, 23, 281, 282, 187, 314, 315, 316, 317, 283, 284, 285, 63, 64, 151, 152, 286, 287, 288, 168, 169, 318, 319, 320, 680, 681, 682, 683, 684, 685, 686, 687, 688, 726, 727, 728, 729, 730, 731, 732, 733, 734, 735, 736, 737, 738, 739, 740] (by decide +kernel) (by decide +kernel)
set_option maxRecDepth 20000 in
theorem gL_law_X7_judge : GoodIn wsL_law (wsV RL 96 RX7 yX7_judge wsX7_judge) := goodIn_app (goodIn_of _ (by decide +kernel)) ggL_law_X7_judge
set_option maxRecDepth 20000 in
theorem ggL_law_X8_judge : GoodIn wsL_law wsX8_judge := goodIn_r _ [519, 520, 93, 122, 123, 5, 124, 521, 522, 523, 486, 487, 488, 489, 294, 295, 296, 297, 246, 330, 331, 332, 333, 298, 299, 300, 301, 105, 92, 211, 212, 213, 302, 303, 304, 305, 210, 90, 334, 335, 336, 337, 338, 339, 340, 341, 91, 689, 690, 691, 692, 693, 694, 695, 696, 697, 698, 699, 700, 701, 702, 703, 704, 705, 706, 707, 708, 709, 710, 711, 712, 713, 714, 715, 716, 717, 718, 719] (by decide +kernel) (by decide +kernel)
set_option maxRecDepth 20000 in
theorem gL_law_X8_judge : GoodIn wsL_law (wsV RL 99 RX8 yX8_judge wsX8_judge) := goodIn_app (goodIn_of _ (by decide +kernel)) ggL_law_X8_judge
set_option maxRecDepth 20000 in
theorem ggL_law_X7_see : GoodIn wsL_law wsX7_see := goodIn_r _ [527, 20, 32, 264, 19, 265, 266, 145, 528, 31, 529, 530, 531, 74, 75, 114, 2, 115, 680, 681, 682, 683, 684, 685, 686, 687, 688, 726, 727, 728, 729, 730, 731, 732, 733, 734, 735, 736, 744, 745, 746] (by decide +kernel) (by decide +kernel)
set_option maxRecDepth 20000 in
theorem gL_law_X7_see : GoodIn wsL_law (wsV RL 100 RX7 yX7_see wsX7_see) := goodIn_app (goodIn_of _ (by decide +kernel)) ggL_law_X7_see
set_option maxRecDepth 20000 in
theorem ggL_law_X8_see : GoodIn wsL_law wsX8_see := goodIn_r _ [535, 536, 100, 101, 272, 273, 274, 5, 275, 105, 122, 123, 124, 689, 690, 691, 692, 693, 694, 695, 696, 697, 698, 699, 700, 701, 702, 703, 704, 705, 706, 707, 708, 709, 710, 711, 712, 713, 714, 715, 716, 717, 718, 719] (by decide +kernel) (by decide +kernel)
set_option maxRecDepth 20000 in
theorem gL_law_X8_see : GoodIn wsL_law (wsV RL 103 RX8 yX8_see wsX8_see) := goodIn_app (goodIn_of _ (by decide +kernel)) ggL_law_X8_see
set_option maxRecDepth 20000 in
theorem ggL_law_X7_unsee : GoodIn wsL_law wsX7_unsee := goodIn_r _ [540, 32, 680, 681, 682, 683, 684, 685, 686, 687, 688, 744, 745, 746] (by decide +kernel) (by decide +kernel)
set_option maxRecDepth 20000 in
theorem gL_law_X7_unsee : GoodIn wsL_law (wsV RL 104 RX7 yX7_unsee wsX7_unsee) := goodIn_app (goodIn_of _ (by decide +kernel)) ggL_law_X7_unsee
set_option maxRecDepth 20000 in
theorem ggL_law_X8_unsee : GoodIn wsL_law wsX8_unsee := goodIn_r _ [544, 536, 689, 690, 691, 692, 693, 694, 695, 696, 697, 698, 699, 700, 701, 702, 703, 704, 705, 706, 707, 708, 709, 710, 711, 712, 713, 714, 715, 716, 717, 718, 719] (by decide +kernel) (by decide +kernel)
set_option maxRecDepth 20000 in
theorem gL_law_X8_unsee : GoodIn wsL_law (wsV RL 107 RX8 yX8_unsee wsX8_unsee) := goodIn_app (goodIn_of _ (by decide +kernel)) ggL_law_X8_unsee
set_option maxRecDepth 20000 in
theorem ggL_law_X7_strings : GoodIn wsL_law wsX7_strings := goodIn_r _ [548, 24, 20, 32, 280, 23, 281, 282, 187, 502, 19, 503, 504, 145, 283, 284, 285, 63, 64, 151, 2, 152, 286, 287, 288, 56, 55, 58, 57, 168, 169, 549, 31, 550, 551, 531, 74, 75, 264, 265, 266, 680, 681, 682, 683, 684, 685, 686, 687, 688, 737, 738, 739, 740, 726, 727, 728, 729, 730, 731, 732, 733, 734, 735, 736, 744, 745, 746] (by decide +kernel) (by decide +kernel)
set_option maxRecDepth 20000 in
theorem gL_law_X7_strings : GoodIn wsL_law (wsV RL 108 RX7 yX7_strings wsX7_strings) := goodIn_app (goodIn_of _ (by decide +kernel)) ggL_law_X7_strings
set_option maxRecDepth 20000 in
theorem ggL_law_X8_strings : GoodIn wsL_law wsX8_strings := goodIn_r _ [555, 293, 105, 294, 295, 296, 5, 297, 246, 122, 123, 124, 556, 557, 558, 559, 536, 100, 101, 298, 299, 300, 301, 93, 92, 211, 212, 213, 302, 303, 304, 305, 210, 90, 272, 273, 274, 275, 689, 690, 691, 692, 693, 694, 695, 696, 697, 698, 699, 700, 701, 702, 703, 704, 705, 706, 707, 708, 709, 710, 711, 712, 713, 714, 715, 716, 717, 718, 719] (by decide +kernel) (by decide +kernel)
set_option maxRecDepth 20000 in
theorem gL_law_X8_strings : GoodIn wsL_law (wsV RL 111 RX8 yX8_strings wsX8_strings) := goodIn_app (goodIn_of _ (by decide +kernel)) ggL_law_X8_strings
set_option maxRecDepth 20000 in
theorem ggL_law_X7_winds : GoodIn wsL_law wsX7_winds := goodIn_r _ [563, 24, 32, 20, 283, 23, 284, 285, 63, 64, 151, 2, 152, 286, 19, 287, 288, 145, 56, 55, 58, 57, 168, 169, 549, 31, 550, 551, 531, 74, 75, 264, 265, 266, 680, 681, 682, 683, 684, 685, 686, 687, 688, 737, 738, 739, 740, 726, 727, 728, 729, 730, 731, 732, 733, 734, 735, 736, 744, 745, 746] (by decide +kernel) (by decide +kernel)
set_option maxRecDepth 20000 in
theorem gL_law_X7_winds : GoodIn wsL_law (wsV RL 112 RX7 yX7_winds wsX7_winds) := goodIn_app (goodIn_of _ (by decide +kernel)) ggL_law_X7_winds
set_option maxRecDepth 20000 in
theorem ggL_law_X8_winds : GoodIn wsL_law wsX8_winds := goodIn_r _ [567, 246, 556, 557, 558, 5, 559, 536, 100, 101, 298, 299, 300, 301, 93, 105, 92, 211, 212, 213, 302, 303, 304, 305, 210, 90, 122, 123, 124, 272, 273, 274, 275, 689, 690, 691, 692, 693, 694, 695, 696, 697, 698, 699, 700, 701, 702, 703, 704, 705, 706, 707, 708, 709, 710, 711, 712, 713, 714, 715, 716, 717, 718, 719] (by decide +kernel) (by decide +kernel)
set_option maxRecDepth 20000 in
theorem gL_law_X8_winds : GoodIn wsL_law (wsV RL 115 RX8 yX8_winds wsX8_winds) := goodIn_app (goodIn_of _ (by decide +kernel)) ggL_law_X8_winds
set_option maxRecDepth 20000 in
theorem ggL_law_X7_rests : GoodIn wsL_law wsX7_rests := goodIn_r _ [571, 24, 20, 280, 23, 281, 282, 187, 572, 573, 574, 2, 575, 267, 168, 169, 576, 577, 578, 579, 580, 581, 582, 583, 402, 403, 404, 317, 283, 284, 285, 63, 64, 151, 152, 286, 19, 287, 288, 145, 56, 55, 58, 57, 318, 319, 320, 146, 59, 149, 680, 681, 682, 683, 684, 685, 686, 687, 688, 726, 727, 728, 729, 730, 731, 732, 733, 734, 735, 736, 737, 738, 739, 740] (by decide +kernel) (by decide +kernel)
set_option maxRecDepth 20000 in
theorem gL_law_X7_rests : GoodIn wsL_law (wsV RL 116 RX7 yX7_rests wsX7_rests) := goodIn_app (goodIn_of _ (by decide +kernel)) ggL_law_X7_rests
set_option maxRecDepth 20000 in
theorem ggL_law_X8_rests : GoodIn wsL_law wsX8_rests := goodIn_r _ [587, 294, 295, 296, 5, 297, 246, 122, 123, 124, 588, 589, 590, 591, 93, 272, 273, 274, 275, 105, 592, 593, 594, 595, 596, 597, 598, 599, 409, 410, 411, 412, 298, 299, 300, 301, 92, 211, 212, 213, 302, 303, 304, 305, 210, 90, 334, 335, 336, 337, 338, 339, 340, 341, 91, 689, 690, 691, 692, 693, 694, 695, 696, 697, 698, 699, 700, 701, 702, 703, 704, 705, 706, 707, 708, 709, 710, 711, 712, 713, 714, 715, 716, 717, 718, 719] (by decide +kernel) (by decide +kernel)
set_option maxRecDepth 20000 in
theorem gL_law_X8_rests : GoodIn wsL_law (wsV RL 119 RX8 yX8_rests wsX8_rests) := goodIn_app (goodIn_of _ (by decide +kernel)) ggL_law_X8_rests
set_option maxRecDepth 20000 in
theorem ggL_law_X7_frost : GoodIn wsL_law wsX7_frost := goodIn_r _ [603, 24, 20, 280, 23, 281, 282, 187, 502, 19, 503, 504, 145, 402, 403, 404, 317, 283, 284, 285, 63, 64, 151, 2, 152, 286, 287, 288, 56, 55, 58, 57, 168, 169, 318, 319, 320, 146, 59, 149, 604, 605, 606, 607, 267, 608, 609, 610, 680, 681, 682, 683, 684, 685, 686, 687, 688, 726, 727, 728, 729, 730, 731, 732, 733, 734, 735, 736, 737, 738, 739, 740] (by decide +kernel) (by decide +kernel)
set_option maxRecDepth 20000 in
theorem gL_law_X7_frost : GoodIn wsL_law (wsV RL 120 RX7 yX7_frost wsX7_frost) := goodIn_app (goodIn_of _ (by decide +kernel)) ggL_law_X7_frost
set_option maxRecDepth 20000 in
theorem ggL_law_X8_frost : GoodIn wsL_law wsX8_frost := goodIn_r _ [614, 615, 105, 93, 294, 295, 296, 5, 297, 246, 122, 123, 124, 211, 212, 213, 409, 410, 411, 412, 298, 299, 300, 301, 92, 302, 303, 304, 305, 210, 90, 334, 335, 336, 337, 338, 339, 340, 341, 91, 616, 617, 618, 689, 690, 691, 692, 693, 694, 695, 696, 697, 698, 699, 700, 701, 702, 703, 704, 705, 706, 707, 708, 709, 710, 711, 712, 713, 714, 715, 716, 717, 718, 719] (by decide +kernel) (by decide +kernel)
set_option maxRecDepth 20000 in
theorem gL_law_X8_frost : GoodIn wsL_law (wsV RL 124 RX8 yX8_frost wsX8_frost) := goodIn_app (goodIn_of _ (by decide +kernel)) ggL_law_X8_frost
set_option maxRecDepth 20000 in
theorem ggL_law_X7_seed : GoodIn wsL_law wsX7_seed := goodIn_r _ [622, 42, 680, 681, 682, 683, 684, 685, 686, 687, 688] (by decide +kernel) (by decide +kernel)
set_option maxRecDepth 20000 in
theorem gL_law_X7_seed : GoodIn wsL_law (wsV RL 127 RX7 yX7_seed wsX7_seed) := goodIn_app (goodIn_of _ (by decide +kernel)) ggL_law_X7_seed
set_option maxRecDepth 20000 in
theorem ggL_law_X8_seed : GoodIn wsL_law wsX8_seed := goodIn_r _ [626, 627, 689, 690, 691, 692, 693, 694, 695, 696, 697, 698, 699, 700, 701, 702, 703, 704, 705, 706, 707, 708, 709, 710, 711, 712, 713, 714, 715, 716, 717, 718, 719] (by decide +kernel) (by decide +kernel)
set_option maxRecDepth 20000 in
theorem gL_law_X8_seed : GoodIn wsL_law (wsV RL 131 RX8 yX8_seed wsX8_seed) := goodIn_app (goodIn_of _ (by decide +kernel)) ggL_law_X8_seed
set_option maxRecDepth 20000 in
theorem ggL_law_X7_years : GoodIn wsL_law wsX7_years := goodIn_r _ [631, 24, 41, 20, 42, 632, 633, 634, 23, 635, 636, 187, 65, 151, 2, 152, 226, 19, 227, 228, 55, 56, 57, 58, 59, 145, 146, 147, 148, 149, 150, 229, 230, 637, 638, 639, 314, 315, 316, 317, 283, 284, 285, 63, 64, 286, 287, 288, 168, 169, 318, 319, 320, 680, 681, 682, 683, 684, 685, 686, 687, 688, 737, 738, 739, 740, 726, 727, 728, 729, 730, 731, 732, 733, 734, 735, 736] (by decide +kernel) (by decide +kernel)
set_option maxRecDepth 20000 in
theorem gL_law_X7_years : GoodIn wsL_law (wsV RL 132 RX7 yX7_years wsX7_years) := goodIn_app (goodIn_of _ (by decide +kernel)) ggL_law_X7_years
set_option maxRecDepth 20000 in
theorem ggL_law_X8_years : GoodIn wsL_law wsX8_years := goodIn_r _ [643, 644, 246, 92, 627, 645, 646, 93, 122, 123, 5, 124, 486, 487, 488, 489, 330, 331, 332, 333, 298, 299, 300, 301, 105, 211, 212, 213, 302, 303, 304, 305, 210, 90, 334, 335, 336, 337, 338, 339, 340, 341, 91, 689, 690, 691, 692, 693, 694, 695, 696, 697, 698, 699, 700, 701, 702, 703, 704, 705, 706, 707, 708, 709, 710, 711, 712, 713, 714, 715, 716, 717, 718, 719] (by decide +kernel) (by decide +kernel)
set_option maxRecDepth 20000 in
theorem gL_law_X8_years : GoodIn wsL_law (wsV RL 135 RX8 yX8_years wsX8_years) := goodIn_app (goodIn_of _ (by decide +kernel)) ggL_law_X8_years
set_option maxRecDepth 20000 in
theorem ggL_law_X7_keep : GoodIn wsL_law wsX7_keep := goodIn_r _ [650, 36, 20, 651, 35, 652, 653, 80, 241, 226, 19, 227, 228, 55, 56, 57, 58, 59, 145, 146, 147, 148, 149, 150, 229, 2, 230, 680, 681, 682, 683, 684, 685, 686, 687, 688, 747, 748, 726, 727, 728, 729, 730, 731, 732, 733, 734, 735, 736] (by decide +kernel) (by decide +kernel)
set_option maxRecDepth 20000 in
theorem gL_law_X7_keep : GoodIn wsL_law (wsV RL 136 RX7 yX7_keep wsX7_keep) := goodIn_app (goodIn_of _ (by decide +kernel)) ggL_law_X7_keep
set_option maxRecDepth 20000 in
theorem ggL_law_X8_keep : GoodIn wsL_law wsX8_keep := goodIn_r _ [657, 103, 104, 93, 122, 123, 5, 124, 689, 690, 691, 692, 693, 694, 695, 696, 697, 698, 699, 700, 701, 702, 703, 704, 705, 706, 707, 708, 709, 710, 711, 712, 713, 714, 715, 716, 717, 718, 719] (by decide +kernel) (by decide +kernel)
set_option maxRecDepth 20000 in
theorem gL_law_X8_keep : GoodIn wsL_law (wsV RL 139 RX8 yX8_keep wsX8_keep) := goodIn_app (goodIn_of _ (by decide +kernel)) ggL_law_X8_keep
set_option maxRecDepth 20000 in
theorem ggL_law_X7_again : GoodIn wsL_law wsX7_again := goodIn_r _ [661, 36, 20, 28, 662, 35, 663, 664, 80, 241, 168, 2, 169, 226, 19, 227, 228, 55, 56, 57, 58, 59, 145, 146, 147, 148, 149, 150, 229, 230, 234, 27, 235, 236, 237, 680, 681, 682, 683, 684, 685, 686, 687, 688, 747, 748, 726, 727, 728, 729, 730, 731, 732, 733, 734, 735, 736, 741, 742, 743] (by decide +kernel) (by decide +kernel)
set_option maxRecDepth 20000 in
theorem gL_law_X7_again : GoodIn wsL_law (wsV RL 140 RX7 yX7_again wsX7_again) := goodIn_app (goodIn_of _ (by decide +kernel)) ggL_law_X7_again
set_option maxRecDepth 20000 in
theorem ggL_law_X8_again : GoodIn wsL_law wsX8_again := goodIn_r _ [668, 103, 93, 104, 247, 122, 123, 5, 124, 689, 690, 691, 692, 693, 694, 695, 696, 697, 698, 699, 700, 701, 702, 703, 704, 705, 706, 707, 708, 709, 710, 711, 712, 713, 714, 715, 716, 717, 718, 719] (by decide +kernel) (by decide +kernel)
set_option maxRecDepth 20000 in
theorem gL_law_X8_again : GoodIn wsL_law (wsV RL 143 RX8 yX8_again wsX8_again) := goodIn_app (goodIn_of _ (by decide +kernel)) ggL_law_X8_again
set_option maxRecDepth 20000 in
theorem ggL_law_X7_count : GoodIn wsL_law wsX7_count := goodIn_r _ [672, 16, 20, 24, 28, 32, 673, 19, 674, 675, 145, 146, 147, 59, 168, 2, 169, 151, 152, 157, 158, 159, 55, 680, 681, 682, 683, 684, 685, 686, 687, 688, 720, 721, 722, 723, 724, 725, 726, 727, 728, 729, 730, 731, 732, 733, 734, 735, 736, 737, 738, 739, 740, 741, 742, 743, 744, 745, 746] (by decide +kernel) (by decide +kernel)
set_option maxRecDepth 20000 in
theorem gL_law_X7_count : GoodIn wsL_law (wsV RL 144 RX7 yX7_count wsX7_count) := goodIn_app (goodIn_of _ (by decide +kernel)) ggL_law_X7_count
set_option maxRecDepth 20000 in
theorem ggL_law_X8_count : GoodIn wsL_law wsX8_count := goodIn_r _ [679, 121, 105, 246, 93, 247, 536, 338, 339, 340, 5, 341, 91, 211, 212, 213, 479, 480, 481, 482, 689, 690, 691, 692, 693, 694, 695, 696, 697, 698, 699, 700, 701, 702, 703, 704, 705, 706, 707, 708, 709, 710, 711, 712, 713, 714, 715, 716, 717, 718, 719] (by decide +kernel) (by decide +kernel)
set_option maxRecDepth 20000 in
theorem gL_law_X8_count : GoodIn wsL_law (wsV RL 147 RX8 yX8_count wsX8_count) := goodIn_app (goodIn_of _ (by decide +kernel)) ggL_law_X8_count
end
section
/-- the nest mates' fields and methods that the tables link -/
def NFl : List (String × Nat × String × String × String × String) := [(RX3, 66, RX2, "trees", "[I", RX7), (RX4, 78, RX2, "trees", "[I", RX7), (RX7, 102, RX2, "trees", "[I", RX7), (RX3, 44, RX2, "cells", "[I", RX7), (RX7, 113, RX2, "cells", "[I", RX7), (RX7, 123, RX2, "heights", "[I", RX7), (RX7, 126, RX2, "rusts", "[I", RX7), (RX7, 129, RX2, "weights", "[I", RX7), (RX3, 34, RX2, "cocks", "I", RX7), (RX4, 65, RX2, "cocks", "I", RX7), (RX7, 92, RX2, "cocks", "I", RX7), (RX3, 37, RX2, "parishes", "I", RX7), (RX7, 116, RX2, "parishes", "I", RX7), (RX1, 43, RX2, "ways", "I", RX7), (RX7, 132, RX2, "ways", "I", RX7), (RX1, 54, RX2, "held", "I", RX7), (RX7, 135, RX2, "held", "I", RX7), (RX1, 57, RX2, "brook", "I", RX7), (RX7, 255, RX2, "brook", "I", RX7), (RX6, 26, RX2, "days", "I", RX7), (RX1, 60, RX2, "days", "I", RX7), (RX7, 258, RX2, "days", "I", RX7), (RX7, 141, RX1, "goals", "[I", RX7), (RX7, 144, RX1, "strengths", "[I", RX7), (RX7, 147, RX1, "days", "[I", RX7), (RX4, 40, RX1, "winds", "I", RX7), (RX7, 95, RX1, "winds", "I", RX7), (RX7, 77, RX4, "ground", "LCockWar$Hill;", RX7), (RX7, 84, RX4, "air", "LCockWar$Air;", RX7), (RX7, 69, RX4, "length", "I", RX7), (RX7, 262, RX0, "number", "I", RX7), (RX7, 217, RX5, "number", "I", RX7), (RX7, 186, RX3, "days", "I", RX7), (RX7, 188, RX3, "cock", "I", RX7), (RX7, 191, RX3, "cell", "I", RX7), (RX7, 194, RX3, "tree", "I", RX7)]
def NMl : List (String × Nat × MethodName × String) := [(RX7, 11, yX4_init, RX7), (RX4, 17, yX2_init, RX7), (RX4, 24, yX1_init, RX7), (RX7, 18, yX2_init, RX7), (RX7, 25, yX1_init, RX7), (RX7, 32, yX0_init, RX7), (RX0, 17, yX2_init, RX7), (RX7, 39, yX5_init, RX7), (RX7, 46, yX6_init, RX7), (RX6, 17, yX2_init, RX7), (RX7, 53, yX3_init, RX7), (RX3, 11, yX2_init, RX7), (RX7, 65, yX4_append, RX7), (RX4, 33, yX7_put, RX7), (RX7, 73, yX4_firstFault, RX7), (RX4, 37, yX2_clear, RX7), (RX4, 46, yX7_at, RX7), (RX4, 57, yX2_treeCells, RX7), (RX4, 92, yX7_bit, RX7), (RX4, 81, yX2_takenCells, RX7), (RX2, 54, yX7_at, RX7), (RX4, 84, yX2_addCock, RX7), (RX2, 50, yX7_put, RX7), (RX4, 88, yX1_addWind, RX7), (RX1, 29, yX7_put, RX7), (RX7, 80, yX2_copyFrom, RX7), (RX2, 46, yX7_copyRow, RX7), (RX7, 85, yX1_copyFrom, RX7), (RX1, 21, yX7_copyRow, RX7), (RX7, 88, yX0_forget, RX7), (RX7, 91, yX6_forget, RX7), (RX7, 110, yX2_hasCock, RX7), (RX7, 138, yX1_hasWind, RX7), (RX7, 150, yX1_waysBehind, RX7), (RX1, 33, yX7_at, RX7), (RX1, 37, yX2_yieldingTo, RX7), (RX2, 58, yX7_bit, RX7), (RX7, 154, yX0_remember, RX7), (RX0, 25, yX2_copyFrom, RX7), (RX7, 157, yX1_blowOver, RX7), (RX1, 50, yX2_brookBy, RX7), (RX7, 165, yX2_takenCells, RX7), (RX7, 168, yX0_takeBack, RX7), (RX7, 172, yX1_brookUnder, RX7), (RX7, 178, yX1_yearOf, RX7), (RX7, 182, yX3_seek, RX7), (RX3, 22, yX2_copyFrom, RX7), (RX3, 56, yX1_yearOf, RX7), (RX3, 52, yX7_at, RX7), (RX3, 30, yX2_takenCells, RX7), (RX3, 40, yX7_bit, RX7), (RX3, 48, yX7_put, RX7), (RX7, 197, yX2_treeCells, RX7), (RX7, 205, yX2_brookBy, RX7), (RX7, 208, yX2_everyCock, RX7), (RX7, 214, yX5_add, RX7), (RX5, 22, yX7_put, RX7), (RX7, 220, yX5_agree, RX7), (RX5, 26, yX7_at, RX7), (RX5, 30, yX2_hasCock, RX7), (RX5, 36, yX7_bit, RX7), (RX7, 238, yX1_daysInAll, RX7), (RX7, 245, yX1_windOfDay, RX7), (RX7, 248, yX6_store, RX7), (RX6, 22, yX2_copyFrom, RX7), (RX7, 252, yX6_fetch, RX7), (RX6, 29, yX7_bit, RX7), (RX7, 259, yX2_weightFor, RX7)]
def NW (U : State) : Prop := (∀ q ∈ NFl, va_Nw (.fieldLinkNest q.1 q.2.1 q.2.2.1 q.2.2.2.1 q.2.2.2.2.1 q.2.2.2.2.2) U) ∧ (∀ q ∈ NMl, va_Nw (.methodLinkNest q.1 q.2.1 q.2.2.1 q.2.2.2) U)
theorem kb_NW_warm {s U : State} (hW : s.WarmedH U.vm) (h : NW s) : NW U := ⟨fun q hq => va_Nw.warmF hW (h.1 q hq), fun q hq => va_Nw.warmM hW (h.2 q hq)⟩
theorem kb_NW_same {u U : State} (e : u.vm = U.vm) (h : NW u) : NW U := ⟨fun q hq => va_Nw.same rfl e (h.1 q hq), fun q hq => va_Nw.same rfl e (h.2 q hq)⟩
theorem kb_NF {U : State} {args : Array Value} (h : NW U) (i : Nat) {a b c d e : String} {n : Nat} (hi : NFl[i]? = some (a, n, b, c, d, e)) : (Cond.fieldLinkNest a n b c d e).before args U = true := va_Nw.use rfl (h.1 _ (List.mem_of_getElem? hi))
theorem kb_NM {U : State} (h : NW U) (i : Nat) {a e : String} {y : MethodName} {n : Nat} (hi : NMl[i]? = some (a, n, y, e)) : va_Nw (.methodLinkNest a n y e) U := h.2 _ (List.mem_of_getElem? hi)
/-! the classes' geometry: the classes, and the classes of the arrays of int, boolean, Hill -/
abbrev Ge : Type := va_G × ClassId × ClassId × ClassId
abbrev TY (G : Ge) : List (ClassId × FieldType) := [(G.2.1, .int), (G.2.2.1, .boolean), (G.2.2.2, .object RX2)]
def PRE (G : Ge) (WS : List va_W) (sz : Nat) (U : State) : Prop := U.heap.size = sz ∧ va_P G.1 vwCl WS.flatten U.heap ∧ va_K G.1 vwCl (TY G) U ∧ va_D (fun _ => True) WS.flatten ∧ NW U
def PST (G : Ge) (WS : List va_W) (A : Nat → Prop) (t : State) : Prop := va_P G.1 vwCl WS.flatten t.heap ∧ va_D A WS.flatten
def HP (G : Ge) (A : Nat → Prop) (H0 : Heap) (WS : List va_W) (H : Heap) (locs : List Loc) : Prop := va_P G.1 vwCl WS.flatten H ∧ va_D A WS.flatten ∧ va_S A H0 H locs
theorem kb_blind {G : Ge} {As : List Value} {WS : List va_W} {sz : Nat} : FrameBlind (va_Pc As (PRE G WS sz)) := fun a U g mk q => by
  obtain ⟨q0, q1, qP, qK, qD, qN⟩ := q
  exact ⟨q0, q1, qP, va_K.moved (u := U) (U := U.calling g mk a) (Vm.Alike.refl U.vm) qK, qD, kb_NW_same (u := U) rfl qN⟩
/-! worlds as lists of blocks -/
theorem kb_Pm {D : va_G} {cl : List vw_C} {ws : va_W} {H : Heap} : va_P D cl ws H ↔ ∀ q ∈ ws, va_at D cl q H := by
  refine ⟨fun h q hq => ?_, fun h k q hk => h q (List.mem_of_getElem? hk)⟩
  obtain ⟨i, hi⟩ := List.getElem?_of_mem hq
  exact h i q hi
theorem kb_Dn {A : Nat → Prop} {ws : va_W} : va_D A ws ↔ (ws.map Prod.fst).Nodup ∧ ∀ q ∈ ws, A q.1 := by
  refine ⟨fun h => ⟨?_, fun q hq => ?_⟩, fun h => ⟨fun i j p q hi hj e => ?_, fun k q hk => h.2 q (List.mem_of_getElem? hk)⟩⟩
  · rw [List.nodup_iff_pairwise_ne, List.pairwise_iff_getElem]
    intro i j hi hj hij e
    rw [List.length_map] at hi hj
    rw [List.getElem_map, List.getElem_map] at e
    have := h.1 i j _ _ (List.getElem?_eq_getElem hi) (List.getElem?_eq_getElem hj) e
    omega
  · obtain ⟨i, hi⟩ := List.getElem?_of_mem hq
    exact h.2 i q hi
  · have hp := h.1
    rw [List.nodup_iff_pairwise_ne, List.pairwise_iff_getElem] at hp
    have li : i < ws.length := (List.getElem?_eq_some_iff.mp hi).1
    have lj : j < ws.length := (List.getElem?_eq_some_iff.mp hj).1
    have ei : ws[i] = p := (List.getElem?_eq_some_iff.mp hi).2
    have ej : ws[j] = q := (List.getElem?_eq_some_iff.mp hj).2
    rcases Nat.lt_trichotomy i j with z | z | z
    · exact absurd (by rw [List.getElem_map, List.getElem_map, ei, ej]; exact e) (hp i j (by rw [List.length_map]; exact li) (by rw [List.length_map]; exact lj) z)
    · exact z
    · exact absurd (by rw [List.getElem_map, List.getElem_map, ei, ej]; exact e.symm) (hp j i (by rw [List.length_map]; exact lj) (by rw [List.length_map]; exact li) z)
theorem kb_Pperm {D : va_G} {cl : List vw_C} {w1 w2 : va_W} {H : Heap} (p : w1.Perm w2) (h : va_P D cl w1 H) : va_P D cl w2 H := kb_Pm.mpr fun q hq => kb_Pm.mp h q (p.mem_iff.mpr hq)
theorem kb_Dperm {A : Nat → Prop} {w1 w2 : va_W} (p : w1.Perm w2) (h : va_D A w1) : va_D A w2 := by
  have h := kb_Dn.mp h
  exact kb_Dn.mpr ⟨(p.map _).nodup h.1, fun q hq => h.2 q (p.mem_iff.mpr hq)⟩
theorem kb_perm {G : Ge} {A : Nat → Prop} {H0 H : Heap} {W1 W2 : List va_W} {locs : List Loc} (p : W1.flatten.Perm W2.flatten) (h : HP G A H0 W1 H locs) : HP G A H0 W2 H locs := ⟨kb_Pperm p h.1, kb_Dperm p h.2.1, h.2.2⟩
def setAll : List va_W → List Nat → List va_W → List va_W
  | W, i :: is, b :: bs => setAll (W.set i b) is bs
  | W, _, _ => W
theorem kb_len : ∀ (is : List Nat) (W bs : List va_W), (setAll W is bs).length = W.length
  | [], _, _ => by simp [setAll]
  | _ :: _, _, [] => by simp [setAll]
  | i :: is, W, b :: bs => by simp [setAll, kb_len is]
theorem kb_split : ∀ (W : List va_W) (i : Nat) (B : va_W), W[i]? = some B → W.flatten.Perm (B ++ (W.set i []).flatten)
  | [], i, B, h => by simp at h
  | b :: W, 0, B, h => by
    simp at h
    subst h
    simp
  | b :: W, i + 1, B, h => by
    have h : W[i]? = some B := by simpa using h
    have ih := kb_split W i B h
    simp only [List.set_cons_succ, List.flatten_cons]
    exact (ih.append_left b).trans (List.perm_append_comm_assoc _ _ _)
theorem kb_setc : ∀ (is : List Nat) (bs W : List va_W) (i : Nat) (b : va_W), i ∉ is → setAll (W.set i b) is bs = (setAll W is bs).set i b
  | [], _, _, _, _, _ => by simp [setAll]
  | _ :: _, [], _, _, _, _ => by simp [setAll]
  | j :: is, c :: bs, W, i, b, h => by
    simp only [List.mem_cons, not_or] at h
    simp only [setAll]
    rw [List.set_comm _ _ h.1, kb_setc is bs (W.set j c) i b h.2]
theorem kb_out : ∀ (is : List Nat) (W Wc : List va_W), is.map (fun i => W[i]?) = Wc.map some → va_nd is = true → W.flatten.Perm (Wc.flatten ++ (setAll W is (is.map fun _ => [])).flatten)
  | [], W, Wc, h, _ => by
    have : Wc = [] := by cases Wc with | nil => rfl | cons => simp at h
    subst this
    simp [setAll]
  | i :: is, W, [], h, _ => by simp at h
  | i :: is, W, B :: Wc, h, hn => by
    simp only [List.map_cons, List.cons.injEq] at h
    simp only [va_nd, Bool.and_eq_true, decide_eq_true_eq] at hn
    have h1 := kb_split W i B h.1
    have h2 := kb_out is (W.set i []) Wc (by
      rw [← h.2]
      refine List.map_congr_left fun j hj => ?_
      rw [List.getElem?_set_ne (fun e => hn.1 (e ▸ hj))]) hn.2
    simp only [List.map_cons, setAll, List.flatten_cons, List.append_assoc]
    exact h1.trans (h2.append_left B)
theorem kb_in : ∀ (is : List Nat) (W Wc' : List va_W), (∀ i ∈ is, i < W.length) → va_nd is = true → Wc'.length = is.length → (setAll W is Wc').flatten.Perm (Wc'.flatten ++ (setAll W is (is.map fun _ => [])).flatten)
  | [], W, Wc', _, _, hl => by
    have : Wc' = [] := List.length_eq_zero_iff.mp hl
    subst this
    simp [setAll]
  | i :: is, W, [], _, _, hl => by simp at hl
  | i :: is, W, b :: bs, hi, hn, hl => by
    simp only [va_nd, Bool.and_eq_true, decide_eq_true_eq] at hn
    have ih := kb_in is (W.set i b) bs (fun j hj => by rw [List.length_set]; exact hi j (List.mem_cons_of_mem _ hj)) hn.2 (by simpa using hl)
    simp only [List.map_cons, setAll, List.flatten_cons, List.append_assoc]
    refine ih.trans ?_
    rw [kb_setc is _ W i b hn.1, kb_setc is _ W i [] hn.1]
    have hlt : i < (setAll W is (is.map fun _ => [])).length := by rw [kb_len]; exact hi i List.mem_cons_self
    have h3 := kb_split ((setAll W is (is.map fun _ => [])).set i b) i b (by rw [List.getElem?_set_self hlt])
    rw [List.set_set] at h3
    exact (h3.append_left bs.flatten).trans (List.perm_append_comm_assoc _ _ _)
theorem kb_join {G : Ge} {A : Nat → Prop} {H0 H H1 : Heap} {WS Wc Wc' : List va_W} {locs : List Loc} (hH : HP G A H0 WS H locs) (is : List Nat) (hc : is.map (fun i => WS[i]?) = Wc.map some) (hn : va_nd is = true) (hl : Wc'.length = is.length)
    (hk : ∀ q : Nat, q < H.size → ¬ va_A Wc.flatten H.size q → H1[q]? = H[q]?) (hF : ∀ q, va_A Wc.flatten H.size q → A q) (hP1 : va_P G.1 vwCl Wc'.flatten H1) (hD1 : va_D (va_A Wc.flatten H.size) Wc'.flatten) :
    va_P G.1 vwCl (setAll WS is Wc').flatten H1 ∧ va_D A (setAll WS is Wc').flatten := by
  have hi : ∀ i ∈ is, i < WS.length := by
    intro i hi
    have h1 : WS[i]? ∈ is.map (fun i => WS[i]?) := List.mem_map.mpr ⟨i, hi, rfl⟩
    rw [hc] at h1
    obtain ⟨B, -, hB⟩ := List.mem_map.mp h1
    exact (List.getElem?_eq_some_iff.mp hB.symm).1
  have p1 := kb_out is WS Wc hc hn
  have p2 := kb_in is WS Wc' hi hn hl
  generalize (setAll WS is (is.map fun _ => [])).flatten = R at p1 p2
  have hP0 := kb_Pm.mp (kb_Pperm p1 hH.1)
  have hD0 := kb_Dn.mp (kb_Dperm p1 hH.2.1)
  have hD1' := kb_Dn.mp hD1
  rw [List.map_append, List.nodup_append] at hD0
  have apart : ∀ q ∈ R, q.1 < H.size ∧ ¬ va_A Wc.flatten H.size q.1 := by
    intro q hq
    have hlt := (hP0 q (List.mem_append_right _ hq)).lt
    refine ⟨hlt, fun h => ?_⟩
    rcases h with ⟨k, e, h⟩ | h
    · exact hD0.1.2.2 _ (List.mem_map.mpr ⟨_, List.mem_of_getElem? h, rfl⟩) _ (List.mem_map.mpr ⟨q, hq, rfl⟩) rfl
    · omega
  refine ⟨kb_Pperm p2.symm (kb_Pm.mpr fun q hq => ?_), kb_Dperm p2.symm (kb_Dn.mpr ⟨?_, fun q hq => ?_⟩)⟩
  · rcases List.mem_append.mp hq with h | h
    · exact kb_Pm.mp hP1 q h
    · obtain ⟨g1, g2⟩ := apart q h
      exact (hP0 q (List.mem_append_right _ h)).kept (hk q.1 g1 g2)
  · rw [List.map_append, List.nodup_append]
    refine ⟨hD1'.1, hD0.1.2.1, fun a ha b hb e => ?_⟩
    obtain ⟨x, hx, rfl⟩ := List.mem_map.mp ha
    obtain ⟨y, hy, rfl⟩ := List.mem_map.mp hb
    exact (apart y hy).2 (by rw [← e]; exact hD1'.2 x hx)
  · rcases List.mem_append.mp hq with h | h
    · exact hF _ (hD1'.2 q h)
    · exact hD0.2 q (List.mem_append_right _ h)
theorem kb_free {G : Ge} {A : Nat → Prop} {H0 H : Heap} {WS Wc : List va_W} {locs : List Loc} (hH : HP G A H0 WS H locs) (hA : ∀ q, H0.size ≤ q → A q) (is : List Nat) (hc : is.map (fun i => WS[i]?) = Wc.map some) (hn : va_nd is = true) : ∀ q, va_A Wc.flatten H.size q → A q := by
  intro q h
  have hD0 := kb_Dn.mp (kb_Dperm (kb_out is WS Wc hc hn) hH.2.1)
  rcases h with ⟨k, e, h⟩ | h
  · exact hD0.2 (q, e) (List.mem_append_left _ (List.mem_of_getElem? h))
  · exact hA q (Nat.le_trans hH.2.2.1 h)
theorem kb_sub {G : Ge} {A : Nat → Prop} {H0 H : Heap} {WS Wc : List va_W} {locs : List Loc} (hH : HP G A H0 WS H locs) (is : List Nat) (hc : is.map (fun i => WS[i]?) = Wc.map some) (hn : va_nd is = true) : va_P G.1 vwCl Wc.flatten H ∧ va_D (fun _ => True) Wc.flatten := by
  have hP0 := kb_Pm.mp (kb_Pperm (kb_out is WS Wc hc hn) hH.1)
  have hD0 := kb_Dn.mp (kb_Dperm (kb_out is WS Wc hc hn) hH.2.1)
  rw [List.map_append, List.nodup_append] at hD0
  exact ⟨kb_Pm.mpr fun q hq => hP0 q (List.mem_append_left _ hq), kb_Dn.mpr ⟨hD0.1.1, fun _ _ => trivial⟩⟩
theorem kb_preS {G : Ge} {A : Nat → Prop} {s : State} {H : Heap} {WS Wc : List va_W} {locs : List Loc} {As : List Value} (hH : HP G A s.heap WS H locs) (hK : va_K G.1 vwCl (TY G) s) (hN : NW s) (is : List Nat) (hc : is.map (fun i => WS[i]?) = Wc.map some) (hn : va_nd is = true) : PreS s H (va_Pc As (PRE G Wc H.size)) As := by
  have h := kb_sub hH is hc hn
  exact ⟨kb_blind, fun U hU hW => ⟨rfl, by rw [hU], by rw [hU]; exact h.1, va_K.moved hW.alike hK, h.2, kb_NW_warm hW hN⟩⟩
theorem kb_at {G : Ge} {A : Nat → Prop} {H0 H : Heap} {WS : List va_W} {locs : List Loc} (hH : HP G A H0 WS H locs) (i : Nat) {B : va_W} (hB : WS[i]? = some B) (j : Nat) {q : Nat × va_E} (hq : B[j]? = some q) : ∃ k : Nat, WS.flatten[k]? = some q := by
  have p := kb_split WS i B hB
  exact List.getElem?_of_mem (p.mem_iff.mpr (List.mem_append_left _ (List.mem_of_getElem? hq)))
theorem kb_preV {G : Ge} {A : Nat → Prop} {s : State} {H : Heap} {WS Wc : List va_W} {locs : List Loc} {As : List Value} {b : Nat} {C : String} (hH : HP G A s.heap WS H locs) (hK : va_K G.1 vwCl (TY G) s) (hN : NW s) (is : List Nat) (hc : is.map (fun i => WS[i]?) = Wc.map some) (hn : va_nd is = true)
    (i : Nat) {B : va_W} (hB : WS[i]? = some B) {ci : Nat} {fs : List Value} (he : B[0]? = some (b, .inr (ci, fs))) {q : vw_C} (hcl : vwCl[ci]? = some q) (hC : q.1 = C) : PreV s H C b (va_Pc (.ref b :: As) (PRE G Wc H.size)) As := by
  obtain ⟨k, hk⟩ := kb_at hH i hB 0 he
  have hr := va_recv hK hH.1 hcl hk
  rw [hC] at hr
  exact ⟨kb_blind, hr, (kb_preS hH hK hN is hc hn).2⟩
/-- a method's contract: from the world WS it answers r and leaves the world WS', and makes nothing -/
abbrev CI (l : Launch) (y : MethodName) (ws : List Cond) (rm : Room) (As : List Value) (G : Ge) (WS WS' : List va_W) (r : Int32) : Prop := ∀ sz : Nat, Met l y ws rm (va_Pc As (PRE G WS sz)) (va_Qi (fun q (_ : Unit) => q = r) (fun _ => PST G WS' (va_A WS.flatten sz)) (va_A WS.flatten sz)) 0 0 (va_A WS.flatten sz)
abbrev CJ (l : Launch) (y : MethodName) (ws : List Cond) (rm : Room) (As : List Value) (G : Ge) (WS WS' : List va_W) (r : Int64) : Prop := ∀ sz : Nat, Met l y ws rm (va_Pc As (PRE G WS sz)) (va_Ql (fun q (_ : Unit) => q = r) (fun _ => PST G WS' (va_A WS.flatten sz)) (va_A WS.flatten sz)) 0 0 (va_A WS.flatten sz)
abbrev CV (l : Launch) (y : MethodName) (ws : List Cond) (rm : Room) (As : List Value) (G : Ge) (WS WS' : List va_W) : Prop := ∀ sz : Nat, Met l y ws rm (va_Pc As (PRE G WS sz)) (va_Qv (fun (_ : Unit) => True) (fun _ => PST G WS' (va_A WS.flatten sz)) (va_A WS.flatten sz)) 0 0 (va_A WS.flatten sz)
section KB
variable {p : Program} {l : Launch} {e : Env} {R : Room} {s : State} {m : MethodId} {args : Array Value} {below : List Frame} {meth : Method} {c : Code} {H : Heap} {locs : List Loc} {cells slots : Nat} {Q : State → Prop} {cc : ByteArray} {pc : Nat} {ls : Array Slot} {rest st0 : List Value} {G : Ge} {A : Nat → Prop} {WS : List va_W} {a : Nat} {av : Array Value}
theorem kb_ci (hH : HP G A s.heap WS H locs) (hA : ∀ q, s.heap.size ≤ q → A q) (is : List Nat) {Wc Wc' WS' : List va_W} {r : Int32} (hc : is.map (fun i => WS[i]?) = Wc.map some) (hn : va_nd is = true) (hl : Wc'.length = is.length) (hW' : setAll WS is Wc' = WS')
    (hr : va_Run p l e R s m args below meth c H locs cells slots 0 0 (F0 m pc ls st0) rest (va_Qi (fun q (_ : Unit) => q = r) (fun _ => PST G Wc' (va_A Wc.flatten H.size)) (va_A Wc.flatten H.size) av) (va_A Wc.flatten H.size))
    (kk : ∀ (H1 : Heap) (locs1 : List Loc), HP G A s.heap WS' H1 locs1 → W p l e R s m args below meth c H1 locs1 cells slots Q (F0 m (pc + 3) ls (.int r :: rest))) : W p l e R s m args below meth c H locs cells slots Q (F0 m pc ls st0) := by
  have hF := kb_free hH hA is hc hn
  refine va_calli hr hH.2.2 (fun q _ h => hF q h) hF (fun r1 u t H1 locs1 ht hvm hw hB hz1 hk1 hS => ?_)
  subst hw
  obtain ⟨hP1, hD1⟩ := hB
  rw [ht] at hP1
  have hj := kb_join hH is hc hn hl hk1 hF hP1 hD1
  rw [hW'] at hj
  exact kk H1 locs1 ⟨hj.1, hj.2, hS⟩
theorem kb_cj (hH : HP G A s.heap WS H locs) (hA : ∀ q, s.heap.size ≤ q → A q) (is : List Nat) {Wc Wc' WS' : List va_W} {r : Int64} (hc : is.map (fun i => WS[i]?) = Wc.map some) (hn : va_nd is = true) (hl : Wc'.length = is.length) (hW' : setAll WS is Wc' = WS')
    (hr : va_Run p l e R s m args below meth c H locs cells slots 0 0 (F0 m pc ls st0) rest (va_Ql (fun q (_ : Unit) => q = r) (fun _ => PST G Wc' (va_A Wc.flatten H.size)) (va_A Wc.flatten H.size) av) (va_A Wc.flatten H.size))
    (kk : ∀ (H1 : Heap) (locs1 : List Loc), HP G A s.heap WS' H1 locs1 → W p l e R s m args below meth c H1 locs1 cells slots Q (F0 m (pc + 3) ls (.long r :: rest))) : W p l e R s m args below meth c H locs cells slots Q (F0 m pc ls st0) := by
  have hF := kb_free hH hA is hc hn
  refine va_calll hr hH.2.2 (fun q _ h => hF q h) hF (fun r1 u t H1 locs1 ht hvm hw hB hz1 hk1 hS => ?_)
  subst hw
  obtain ⟨hP1, hD1⟩ := hB
  rw [ht] at hP1
  have hj := kb_join hH is hc hn hl hk1 hF hP1 hD1
  rw [hW'] at hj
  exact kk H1 locs1 ⟨hj.1, hj.2, hS⟩
theorem kb_cv (hH : HP G A s.heap WS H locs) (hA : ∀ q, s.heap.size ≤ q → A q) (is : List Nat) {Wc Wc' WS' : List va_W} (hc : is.map (fun i => WS[i]?) = Wc.map some) (hn : va_nd is = true) (hl : Wc'.length = is.length) (hW' : setAll WS is Wc' = WS')
    (hr : va_Run p l e R s m args below meth c H locs cells slots 0 0 (F0 m pc ls st0) rest (va_Qv (fun (_ : Unit) => True) (fun _ => PST G Wc' (va_A Wc.flatten H.size)) (va_A Wc.flatten H.size) av) (va_A Wc.flatten H.size))
    (kk : ∀ (H1 : Heap) (locs1 : List Loc), HP G A s.heap WS' H1 locs1 → W p l e R s m args below meth c H1 locs1 cells slots Q (F0 m (pc + 3) ls rest)) : W p l e R s m args below meth c H locs cells slots Q (F0 m pc ls st0) := by
  have hF := kb_free hH hA is hc hn
  refine va_callv hr hH.2.2 (fun q _ h => hF q h) hF (fun u t H1 locs1 ht hvm hw hB hz1 hk1 hS => ?_)
  obtain ⟨hP1, hD1⟩ := hB
  rw [ht] at hP1
  have hj := kb_join hH is hc hn hl hk1 hF hP1 hD1
  rw [hW'] at hj
  exact kk H1 locs1 ⟨hj.1, hj.2, hS⟩
/-! fields and arrays -/
theorem kb_get (hx : p.tables.exec = Jvm.exec) (hb : c.code = cc) {own ref C : String} {T : u_T} {N ci index : Nat} {Ts : List Cond} (hts : ∀ w ∈ Ts, w.before args s = true) (hin : ∀ w ∈ u_ws C T N, w ∈ Ts) (hown : s.vm.findClass own = some m.cls) (hK : va_K G.1 vwCl (TY G) s) (hH : HP G A s.heap WS H locs) (i : Nat) {B : va_W} (hB : WS[i]? = some B) {fs : List Value} (he : B[0]? = some (a, .inr (ci, fs))) (hc : vwCl[ci]? = some (C, T, N)) (k : Nat) (hk : k < N) (hlink : (Cond.fieldLink own index ref (T k).2.1 (T k).2.2.1).before args s = true) (hsame : ∀ x, s.fieldFound? (T k).1 (T k).2.1 (T k).2.2.1 = some x → s.fieldFound? ref (T k).2.1 (T k).2.2.1 = some x) {v : Value} (hv : fs[k]? = some v) (hdg : decode cc pc = .ok (.getfield index, 3))
    (kk : W p l e R s m args below meth c H locs cells slots Q (F0 m (pc + 3) ls (v :: rest))) : W p l e R s m args below meth c H locs cells slots Q (F0 m pc ls (.ref a :: rest)) := by
  obtain ⟨z, hz⟩ := kb_at hH i hB 0 he
  exact va_get hx hb hts hin hown hK hH.1 z hz hc k hk hlink hsame hv hdg kk
theorem kb_getN (hx : p.tables.exec = Jvm.exec) (hb : c.code = cc) {own ref C host : String} {T : u_T} {N ci index : Nat} {Ts : List Cond} (hts : ∀ w ∈ Ts, w.before args s = true) (hin : ∀ w ∈ u_ws C T N, w ∈ Ts) (hown : s.vm.findClass own = some m.cls) (hK : va_K G.1 vwCl (TY G) s) (hH : HP G A s.heap WS H locs) (i : Nat) {B : va_W} (hB : WS[i]? = some B) {fs : List Value} (he : B[0]? = some (a, .inr (ci, fs))) (hc : vwCl[ci]? = some (C, T, N)) (k : Nat) (hk : k < N) (hlink : (Cond.fieldLinkNest own index ref (T k).2.1 (T k).2.2.1 host).before args s = true) (hsame : ∀ x, s.fieldFound? (T k).1 (T k).2.1 (T k).2.2.1 = some x → s.fieldFound? ref (T k).2.1 (T k).2.2.1 = some x) {v : Value} (hv : fs[k]? = some v) (hdg : decode cc pc = .ok (.getfield index, 3))
    (kk : W p l e R s m args below meth c H locs cells slots Q (F0 m (pc + 3) ls (v :: rest))) : W p l e R s m args below meth c H locs cells slots Q (F0 m pc ls (.ref a :: rest)) := by
  obtain ⟨z, hz⟩ := kb_at hH i hB 0 he
  exact va_getN hx hb hts hin hown hK hH.1 z hz hc k hk hlink hsame hv hdg kk
theorem kb_setp {D : va_G} {A' : Nat → Prop} {a : Nat} {e0 e1 : va_E} {z : Nat} {H1 : Heap} (hz : WS.flatten[z]? = some (a, e0)) (i : Nat) (hB : WS[i]? = some [(a, e0)]) (hD0 : va_D A' WS.flatten) (hP : va_P D vwCl (WS.flatten.set z (a, e1)) H1) (hD : va_D A' (WS.flatten.set z (a, e1))) : va_P D vwCl (WS.set i [(a, e1)]).flatten H1 ∧ va_D A' (WS.set i [(a, e1)]).flatten := by
  have hi : i < WS.length := (List.getElem?_eq_some_iff.mp hB).1
  have hzl : z < WS.flatten.length := (List.getElem?_eq_some_iff.mp hz).1
  have p1 := kb_split WS i _ hB
  have p2 := kb_split (WS.set i [(a, e1)]) i [(a, e1)] (by rw [List.getElem?_set_self hi])
  rw [List.set_set] at p2
  have hn := (kb_Dn.mp (kb_Dperm p1 hD0)).1
  simp only [List.map_append, List.map_cons, List.map_nil, List.cons_append, List.nil_append, List.nodup_cons] at hn
  have key : ∀ q ∈ (WS.set i [(a, e1)]).flatten, q ∈ WS.flatten.set z (a, e1) := by
    intro q hq
    rcases List.mem_append.mp (p2.mem_iff.mp hq) with h | h
    · rw [List.mem_singleton.mp h]
      exact List.mem_of_getElem? (i := z) (by rw [List.getElem?_set_self hzl])
    · have hq0 := p1.mem_iff.mpr (List.mem_append_right _ h)
      obtain ⟨k, hk⟩ := List.getElem?_of_mem hq0
      have hkz : z ≠ k := by
        intro ez
        rw [← ez, hz] at hk
        cases hk
        exact hn.1 (List.mem_map.mpr ⟨_, h, rfl⟩)
      exact List.mem_of_getElem? (i := k) (by rw [List.getElem?_set_ne hkz]; exact hk)
  have hPm := kb_Pm.mp hP
  have hDm := kb_Dn.mp hD
  refine ⟨kb_Pm.mpr fun q hq => hPm q (key q hq), kb_Dn.mpr ⟨?_, fun q hq => hDm.2 q (key q hq)⟩⟩
  have p3 := p2.map Prod.fst
  refine p3.symm.nodup ?_
  simp only [List.map_append, List.map_cons, List.map_nil, List.cons_append, List.nil_append, List.nodup_cons]
  exact hn
theorem kb_put (hx : p.tables.exec = Jvm.exec) (hb : c.code = cc) {own ref C : String} {T : u_T} {N ci index : Nat} {Ts : List Cond} (hts : ∀ w ∈ Ts, w.before args s = true) (hin : ∀ w ∈ u_ws C T N, w ∈ Ts) (ty0 : Nat → FieldType) (hty : ∀ k, k < N → parseFieldDescriptor (T k).2.2.1 = some (ty0 k)) (hnm : ∀ a, a < N → ∀ b, b < N → a ≠ b → (T a).2.1 ≠ (T b).2.1) (hown : s.vm.findClass own = some m.cls) (hK : va_K G.1 vwCl (TY G) s) (hH : HP G A s.heap WS H locs) (i : Nat) {fs : List Value} (hB : WS[i]? = some [(a, .inr (ci, fs))]) (hc : vwCl[ci]? = some (C, T, N)) (k : Nat) (hk : k < N) (hlink : (Cond.fieldLink own index ref (T k).2.1 (T k).2.2.1).before args s = true) (hsame : ∀ x, s.fieldFound? (T k).1 (T k).2.1 (T k).2.2.1 = some x → s.fieldFound? ref (T k).2.1 (T k).2.2.1 = some x) (hfin : (T k).2.2.2 = false) {ty : FieldType} {v : Value} (hd : parseFieldDescriptor (T k).2.2.1 = some ty) (hn : narrow ty v = v) (hfit : fits ty v = true) (hl : k < fs.length) {WS' : List va_W} (hW' : WS.set i [(a, .inr (ci, fs.set k v))] = WS')
    (hdg : decode cc pc = .ok (.putfield index, 3)) (kk : ∀ (H1 : Heap) (locs1 : List Loc), HP G A s.heap WS' H1 locs1 → W p l e R s m args below meth c H1 locs1 cells slots Q (F0 m (pc + 3) ls rest)) : W p l e R s m args below meth c H locs cells slots Q (F0 m pc ls (v :: .ref a :: rest)) := by
  obtain ⟨z, hz⟩ := kb_at hH i hB 0 rfl
  refine va_put hx hb hts hin ty0 hty hnm hown hK hH.1 hH.2.1 hH.2.2 z hz hc k hk hlink hsame hfin hd hn hfit hl hdg (fun H1 locs1 hP hD hS => ?_)
  have h := kb_setp hz i hB hH.2.1 hP hD
  rw [hW'] at h
  exact kk H1 locs1 ⟨h.1, h.2, hS⟩
theorem kb_putN (hx : p.tables.exec = Jvm.exec) (hb : c.code = cc) {own ref C host : String} {T : u_T} {N ci index : Nat} {Ts : List Cond} (hts : ∀ w ∈ Ts, w.before args s = true) (hin : ∀ w ∈ u_ws C T N, w ∈ Ts) (ty0 : Nat → FieldType) (hty : ∀ k, k < N → parseFieldDescriptor (T k).2.2.1 = some (ty0 k)) (hnm : ∀ a, a < N → ∀ b, b < N → a ≠ b → (T a).2.1 ≠ (T b).2.1) (hown : s.vm.findClass own = some m.cls) (hK : va_K G.1 vwCl (TY G) s) (hH : HP G A s.heap WS H locs) (i : Nat) {fs : List Value} (hB : WS[i]? = some [(a, .inr (ci, fs))]) (hc : vwCl[ci]? = some (C, T, N)) (k : Nat) (hk : k < N) (hlink : (Cond.fieldLinkNest own index ref (T k).2.1 (T k).2.2.1 host).before args s = true) (hsame : ∀ x, s.fieldFound? (T k).1 (T k).2.1 (T k).2.2.1 = some x → s.fieldFound? ref (T k).2.1 (T k).2.2.1 = some x) (hfin : (T k).2.2.2 = false) {ty : FieldType} {v : Value} (hd : parseFieldDescriptor (T k).2.2.1 = some ty) (hn : narrow ty v = v) (hfit : fits ty v = true) (hl : k < fs.length) {WS' : List va_W} (hW' : WS.set i [(a, .inr (ci, fs.set k v))] = WS')
    (hdg : decode cc pc = .ok (.putfield index, 3)) (kk : ∀ (H1 : Heap) (locs1 : List Loc), HP G A s.heap WS' H1 locs1 → W p l e R s m args below meth c H1 locs1 cells slots Q (F0 m (pc + 3) ls rest)) : W p l e R s m args below meth c H locs cells slots Q (F0 m pc ls (v :: .ref a :: rest)) := by
  obtain ⟨z, hz⟩ := kb_at hH i hB 0 rfl
  refine va_putN hx hb hts hin ty0 hty hnm hown hK hH.1 hH.2.1 hH.2.2 z hz hc k hk hlink hsame hfin hd hn hfit hl hdg (fun H1 locs1 hP hD hS => ?_)
  have h := kb_setp hz i hB hH.2.1 hP hD
  rw [hW'] at h
  exact kk H1 locs1 ⟨h.1, h.2, hS⟩
theorem kb_iald (hx : p.tables.exec = Jvm.exec) (hb : c.code = cc) (hK : va_K G.1 vwCl (TY G) s) (hH : HP G A s.heap WS H locs) (i : Nat) {n : Nat} {f : Nat → Int32} (hB : WS[i]? = some [(a, .inl (G.2.1, n, .inl f))]) {x : Int32} (hin : vp_in x n) (hdg : decode cc pc = .ok (.iaload, 1))
    (kk : W p l e R s m args below meth c H locs cells slots Q (F0 m (pc + 1) ls (.int (f x.toNatClampNeg) :: rest))) : W p l e R s m args below meth c H locs cells slots Q (F0 m pc ls (.int x :: .ref a :: rest)) := by
  obtain ⟨z, hz⟩ := kb_at hH i hB 0 rfl
  exact va_iald hx hb hK hH.1 z 0 hz rfl hin hdg kk
theorem kb_zald (hx : p.tables.exec = Jvm.exec) (hb : c.code = cc) (hK : va_K G.1 vwCl (TY G) s) (hH : HP G A s.heap WS H locs) (i : Nat) {n : Nat} {f : Nat → Int32} (hB : WS[i]? = some [(a, .inl (G.2.2.1, n, .inl f))]) {x : Int32} (hin : vp_in x n) (hdg : decode cc pc = .ok (.baload, 1))
    (kk : W p l e R s m args below meth c H locs cells slots Q (F0 m (pc + 1) ls (.int (f x.toNatClampNeg) :: rest))) : W p l e R s m args below meth c H locs cells slots Q (F0 m pc ls (.int x :: .ref a :: rest)) := by
  obtain ⟨z, hz⟩ := kb_at hH i hB 0 rfl
  exact va_zald hx hb hK hH.1 z 1 hz rfl hin hdg kk
theorem kb_aald (hx : p.tables.exec = Jvm.exec) (hb : c.code = cc) (hK : va_K G.1 vwCl (TY G) s) (hH : HP G A s.heap WS H locs) (i : Nat) {n : Nat} {f : Nat → Option Nat} (hB : WS[i]? = some [(a, .inl (G.2.2.2, n, .inr (.inr (.inr (.inr f)))))]) {x : Int32} (hin : vp_in x n) (hdg : decode cc pc = .ok (.aaload, 1))
    (kk : W p l e R s m args below meth c H locs cells slots Q (F0 m (pc + 1) ls (va_rf (f x.toNatClampNeg) :: rest))) : W p l e R s m args below meth c H locs cells slots Q (F0 m pc ls (.int x :: .ref a :: rest)) := by
  obtain ⟨z, hz⟩ := kb_at hH i hB 0 rfl
  exact va_aldq hx hb hK hH.1 z 2 hz rfl hin hdg kk
theorem kb_iast (hx : p.tables.exec = Jvm.exec) (hb : c.code = cc) (hK : va_K G.1 vwCl (TY G) s) (hH : HP G A s.heap WS H locs) (i : Nat) {n : Nat} {f : Nat → Int32} (hB : WS[i]? = some [(a, .inl (G.2.1, n, .inl f))]) {x y : Int32} (hin : vp_in x n) {WS' : List va_W} (hW' : WS.set i [(a, .inl (G.2.1, n, .inl (upd f x.toNatClampNeg y)))] = WS') (hdg : decode cc pc = .ok (.iastore, 1))
    (kk : ∀ (H1 : Heap) (locs1 : List Loc), HP G A s.heap WS' H1 locs1 → W p l e R s m args below meth c H1 locs1 cells slots Q (F0 m (pc + 1) ls rest)) : W p l e R s m args below meth c H locs cells slots Q (F0 m pc ls (.int y :: .int x :: .ref a :: rest)) := by
  obtain ⟨z, hz⟩ := kb_at hH i hB 0 rfl
  refine va_iast hx hb hK hH.1 hH.2.1 hH.2.2 z 0 hz rfl hin hdg (fun H1 locs1 hP hD hS => ?_)
  have h := kb_setp hz i hB hH.2.1 hP hD
  rw [hW'] at h
  exact kk H1 locs1 ⟨h.1, h.2, hS⟩
theorem kb_zast (hx : p.tables.exec = Jvm.exec) (hb : c.code = cc) (hK : va_K G.1 vwCl (TY G) s) (hH : HP G A s.heap WS H locs) (i : Nat) {n : Nat} {f : Nat → Int32} (hB : WS[i]? = some [(a, .inl (G.2.2.1, n, .inl f))]) {x y : Int32} (hin : vp_in x n) {WS' : List va_W} (hW' : WS.set i [(a, .inl (G.2.2.1, n, .inl (upd f x.toNatClampNeg (vp_nar .boolean y))))] = WS') (hdg : decode cc pc = .ok (.bastore, 1))
    (kk : ∀ (H1 : Heap) (locs1 : List Loc), HP G A s.heap WS' H1 locs1 → W p l e R s m args below meth c H1 locs1 cells slots Q (F0 m (pc + 1) ls rest)) : W p l e R s m args below meth c H locs cells slots Q (F0 m pc ls (.int y :: .int x :: .ref a :: rest)) := by
  obtain ⟨z, hz⟩ := kb_at hH i hB 0 rfl
  refine va_zast hx hb hK hH.1 hH.2.1 hH.2.2 z 1 hz rfl hin hdg (fun H1 locs1 hP hD hS => ?_)
  have h := kb_setp hz i hB hH.2.1 hP hD
  rw [hW'] at h
  exact kk H1 locs1 ⟨h.1, h.2, hS⟩
theorem kb_alen (hx : p.tables.exec = Jvm.exec) (hb : c.code = cc) (hK : va_K G.1 vwCl (TY G) s) (hH : HP G A s.heap WS H locs) (i : Nat) (t : Nat) {cA : ClassId} {ty : FieldType} {x : vp_A} (hB : WS[i]? = some [(a, .inl (cA, x))]) (ht : (TY G)[t]? = some (cA, ty)) {v : Int32} (hv : Int32.ofNat x.1 = v) (hdg : decode cc pc = .ok (.arraylength, 1))
    (kk : W p l e R s m args below meth c H locs cells slots Q (F0 m (pc + 1) ls (.int v :: rest))) : W p l e R s m args below meth c H locs cells slots Q (F0 m pc ls (.ref a :: rest)) := by
  obtain ⟨z, hz⟩ := kb_at hH i hB 0 rfl
  exact va_alen hx hb hK hH.1 z t hz ht hv hdg kk
/-! ends -/
theorem kb_iret {WS' : List va_W} {r v : Int32} (hx : p.tables.exec = Jvm.exec) (hb : c.code = cc) (hr : meth.sig.returnType = some .int) (hH : HP G A s.heap WS H locs) (hW : WS = WS') (hv : v = r) (hdg : decode cc pc = .ok (.ireturn, 1)) (hlocks : meth.locks = false) :
    W p l e R s m args below meth c H locs cells slots (MQ below (va_Qi (fun q (_ : Unit) => q = r) (fun _ => PST G WS' A) A) args s cells slots A) (F0 m pc ls [.int v]) := by
  subst hW; subst hv
  exact W.iret hx hb hr (fun t ht hW => ⟨⟨v, (), rfl, rfl, by rw [ht]; exact hH.1, hH.2.1⟩, hH.2.2.F ht⟩) hH.2.2.2.2 hdg hlocks
theorem kb_zret {WS' : List va_W} {r v : Int32} (hx : p.tables.exec = Jvm.exec) (hb : c.code = cc) (hr : meth.sig.returnType = some .boolean) (hH : HP G A s.heap WS H locs) (hW : WS = WS') (hv : v = r) (hn : narrow .boolean (.int v) = .int v) (hdg : decode cc pc = .ok (.ireturn, 1)) (hlocks : meth.locks = false) :
    W p l e R s m args below meth c H locs cells slots (MQ below (va_Qi (fun q (_ : Unit) => q = r) (fun _ => PST G WS' A) A) args s cells slots A) (F0 m pc ls [.int v]) := by
  subst hW; subst hv
  exact W.zret hx hb hr hn (fun t ht hW => ⟨⟨v, (), rfl, rfl, by rw [ht]; exact hH.1, hH.2.1⟩, hH.2.2.F ht⟩) hH.2.2.2.2 hdg hlocks
theorem kb_vret {WS' : List va_W} (hx : p.tables.exec = Jvm.exec) (hb : c.code = cc) (hr : meth.sig.returnType = none) (hH : HP G A s.heap WS H locs) (hW : WS = WS') (hdg : decode cc pc = .ok (.return_, 1)) (hlocks : meth.locks = false) :
    W p l e R s m args below meth c H locs cells slots (MQ below (va_Qv (fun (_ : Unit) => True) (fun _ => PST G WS' A) A) args s cells slots A) (F0 m pc ls []) := by
  subst hW
  exact W.vret hx hb hr (fun t ht hW => ⟨⟨(), rfl, trivial, by rw [ht]; exact hH.1, hH.2.1⟩, hH.2.2.F ht⟩) hH.2.2.2.2 hdg hlocks
theorem kb_lret {WS' : List va_W} {r v : Int64} (hx : p.tables.exec = Jvm.exec) (hb : c.code = cc) (hr : meth.sig.returnType = some .long) (hH : HP G A s.heap WS H locs) (hW : WS = WS') (hv : v = r) (hdg : decode cc pc = .ok (.lreturn, 1)) (hlocks : meth.locks = false) :
    W p l e R s m args below meth c H locs cells slots (MQ below (va_Ql (fun q (_ : Unit) => q = r) (fun _ => PST G WS' A) A) args s cells slots A) (F0 m pc ls [.long v]) := by
  subst hW; subst hv
  exact W.lret hx hb hr (fun t ht hW => ⟨⟨v, (), rfl, rfl, by rw [ht]; exact hH.1, hH.2.1⟩, hH.2.2.F ht⟩) hH.2.2.2.2 hdg hlocks
end KB
/-- a method's start: its world, the frame's addresses -/
theorem kb_start {G : Ge} {WS : List va_W} {s : State} {sz : Nat} (h : PRE G WS sz s) : sz = s.heap.size ∧ HP G (va_A WS.flatten s.heap.size) s.heap WS s.heap [] ∧ va_K G.1 vwCl (TY G) s ∧ NW s ∧ ∀ q, s.heap.size ≤ q → va_A WS.flatten s.heap.size q :=
  ⟨h.1.symm, ⟨h.2.1, (h.2.2.2.1).self, va_S.rf⟩, h.2.2.1, h.2.2.2.2, fun _ hq => Or.inr hq⟩
end
