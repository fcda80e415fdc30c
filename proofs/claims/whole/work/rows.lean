section
-- ===== PART A: goes FIRST, ahead of the names: the tables' words, and 'selects' of the private methods out of them =====
/-- a private method of a class that the tables say can be made, by its rows of tables_1 -/
def lw_okq (q : MethodName × Nat) : Prop := (q.1.cls ≠ "java/lang/invoke/MethodHandle" ∧ q.1.cls ≠ "java/lang/invoke/VarHandle") ∧ Cond.instantiable q.1.cls q.2 ∈ tables_1 ∧ Cond.privateMethod q.1 ∈ tables_1 ∧ Cond.instanceMethod q.1 ∈ tables_1
theorem lw_p0 : lw_okq (⟨"OffsetChains$Course", "clear", "()V"⟩, 10) := ⟨⟨by decide +kernel, by decide +kernel⟩, List.mem_of_getElem? (i := 113) (by decide +kernel), List.mem_of_getElem? (i := 120) (by decide +kernel), List.mem_of_getElem? (i := 121) (by decide +kernel)⟩
theorem lw_p1 : lw_okq (⟨"OffsetChains", "found", "(I)I"⟩, 6) := ⟨⟨by decide +kernel, by decide +kernel⟩, List.mem_of_getElem? (i := 12) (by decide +kernel), List.mem_of_getElem? (i := 254) (by decide +kernel), List.mem_of_getElem? (i := 255) (by decide +kernel)⟩
theorem lw_p2 : lw_okq (⟨"OffsetChains", "traitOf", "(II)I"⟩, 6) := ⟨⟨by decide +kernel, by decide +kernel⟩, List.mem_of_getElem? (i := 12) (by decide +kernel), List.mem_of_getElem? (i := 265) (by decide +kernel), List.mem_of_getElem? (i := 266) (by decide +kernel)⟩
theorem lw_p3 : lw_okq (⟨"OffsetChains$Answers", "boundAll", "()Z"⟩, 18) := ⟨⟨by decide +kernel, by decide +kernel⟩, List.mem_of_getElem? (i := 50) (by decide +kernel), List.mem_of_getElem? (i := 284) (by decide +kernel), List.mem_of_getElem? (i := 285) (by decide +kernel)⟩
theorem lw_p4 : lw_okq (⟨"OffsetChains$Answers", "placeComings", "()V"⟩, 18) := ⟨⟨by decide +kernel, by decide +kernel⟩, List.mem_of_getElem? (i := 50) (by decide +kernel), List.mem_of_getElem? (i := 288) (by decide +kernel), List.mem_of_getElem? (i := 289) (by decide +kernel)⟩
theorem lw_p5 : lw_okq (⟨"OffsetChains$Answers", "gatherRivals", "(I)V"⟩, 18) := ⟨⟨by decide +kernel, by decide +kernel⟩, List.mem_of_getElem? (i := 50) (by decide +kernel), List.mem_of_getElem? (i := 303) (by decide +kernel), List.mem_of_getElem? (i := 304) (by decide +kernel)⟩
theorem lw_p6 : lw_okq (⟨"OffsetChains$Plan", "loadAbove", "(I)I"⟩, 3) := ⟨⟨by decide +kernel, by decide +kernel⟩, List.mem_of_getElem? (i := 20) (by decide +kernel), List.mem_of_getElem? (i := 316) (by decide +kernel), List.mem_of_getElem? (i := 317) (by decide +kernel)⟩
theorem lw_p7 : lw_okq (⟨"OffsetChains$Plan", "loadBelow", "()I"⟩, 3) := ⟨⟨by decide +kernel, by decide +kernel⟩, List.mem_of_getElem? (i := 20) (by decide +kernel), List.mem_of_getElem? (i := 320) (by decide +kernel), List.mem_of_getElem? (i := 321) (by decide +kernel)⟩
theorem lw_p8 : lw_okq (⟨"OffsetChains$Answers", "findLongest", "(I)Z"⟩, 18) := ⟨⟨by decide +kernel, by decide +kernel⟩, List.mem_of_getElem? (i := 50) (by decide +kernel), List.mem_of_getElem? (i := 326) (by decide +kernel), List.mem_of_getElem? (i := 327) (by decide +kernel)⟩
theorem lw_p9 : lw_okq (⟨"OffsetChains$Answers", "leastTime", "(IIII)I"⟩, 18) := ⟨⟨by decide +kernel, by decide +kernel⟩, List.mem_of_getElem? (i := 50) (by decide +kernel), List.mem_of_getElem? (i := 330) (by decide +kernel), List.mem_of_getElem? (i := 331) (by decide +kernel)⟩
theorem lw_p10 : lw_okq (⟨"OffsetChains$Answers", "quickNeeded", "(III)I"⟩, 18) := ⟨⟨by decide +kernel, by decide +kernel⟩, List.mem_of_getElem? (i := 50) (by decide +kernel), List.mem_of_getElem? (i := 334) (by decide +kernel), List.mem_of_getElem? (i := 335) (by decide +kernel)⟩
theorem lw_p11 : lw_okq (⟨"OffsetChains$Answers", "quickComes", "(II)I"⟩, 18) := ⟨⟨by decide +kernel, by decide +kernel⟩, List.mem_of_getElem? (i := 50) (by decide +kernel), List.mem_of_getElem? (i := 338) (by decide +kernel), List.mem_of_getElem? (i := 339) (by decide +kernel)⟩
theorem lw_p12 : lw_okq (⟨"OffsetChains$Answers", "needed", "(IIII)I"⟩, 18) := ⟨⟨by decide +kernel, by decide +kernel⟩, List.mem_of_getElem? (i := 50) (by decide +kernel), List.mem_of_getElem? (i := 342) (by decide +kernel), List.mem_of_getElem? (i := 343) (by decide +kernel)⟩
theorem lw_p13 : lw_okq (⟨"OffsetChains$Answers", "comes", "(III)I"⟩, 18) := ⟨⟨by decide +kernel, by decide +kernel⟩, List.mem_of_getElem? (i := 50) (by decide +kernel), List.mem_of_getElem? (i := 346) (by decide +kernel), List.mem_of_getElem? (i := 347) (by decide +kernel)⟩
theorem lw_p14 : lw_okq (⟨"OffsetChains$Answers", "work", "(III)I"⟩, 18) := ⟨⟨by decide +kernel, by decide +kernel⟩, List.mem_of_getElem? (i := 50) (by decide +kernel), List.mem_of_getElem? (i := 350) (by decide +kernel), List.mem_of_getElem? (i := 351) (by decide +kernel)⟩
theorem lw_p15 : lw_okq (⟨"OffsetChains$Answers", "passLateness", "()Z"⟩, 18) := ⟨⟨by decide +kernel, by decide +kernel⟩, List.mem_of_getElem? (i := 50) (by decide +kernel), List.mem_of_getElem? (i := 355) (by decide +kernel), List.mem_of_getElem? (i := 356) (by decide +kernel)⟩
def lw_privs_1 : List (MethodName × Nat) := [(⟨"OffsetChains$Course", "clear", "()V"⟩, 10), (⟨"OffsetChains", "found", "(I)I"⟩, 6), (⟨"OffsetChains", "traitOf", "(II)I"⟩, 6), (⟨"OffsetChains$Answers", "boundAll", "()Z"⟩, 18), (⟨"OffsetChains$Answers", "placeComings", "()V"⟩, 18), (⟨"OffsetChains$Answers", "gatherRivals", "(I)V"⟩, 18), (⟨"OffsetChains$Plan", "loadAbove", "(I)I"⟩, 3), (⟨"OffsetChains$Plan", "loadBelow", "()I"⟩, 3), (⟨"OffsetChains$Answers", "findLongest", "(I)Z"⟩, 18), (⟨"OffsetChains$Answers", "leastTime", "(IIII)I"⟩, 18), (⟨"OffsetChains$Answers", "quickNeeded", "(III)I"⟩, 18), (⟨"OffsetChains$Answers", "quickComes", "(II)I"⟩, 18), (⟨"OffsetChains$Answers", "needed", "(IIII)I"⟩, 18), (⟨"OffsetChains$Answers", "comes", "(III)I"⟩, 18), (⟨"OffsetChains$Answers", "work", "(III)I"⟩, 18), (⟨"OffsetChains$Answers", "passLateness", "()Z"⟩, 18)]
theorem lw_r1 : ∀ q ∈ lw_privs_1, lw_okq q := List.forall_mem_cons.mpr ⟨lw_p0, List.forall_mem_cons.mpr ⟨lw_p1, List.forall_mem_cons.mpr ⟨lw_p2, List.forall_mem_cons.mpr ⟨lw_p3, List.forall_mem_cons.mpr ⟨lw_p4, List.forall_mem_cons.mpr ⟨lw_p5, List.forall_mem_cons.mpr ⟨lw_p6, List.forall_mem_cons.mpr ⟨lw_p7, List.forall_mem_cons.mpr ⟨lw_p8, List.forall_mem_cons.mpr ⟨lw_p9, List.forall_mem_cons.mpr ⟨lw_p10, List.forall_mem_cons.mpr ⟨lw_p11, List.forall_mem_cons.mpr ⟨lw_p12, List.forall_mem_cons.mpr ⟨lw_p13, List.forall_mem_cons.mpr ⟨lw_p14, List.forall_mem_cons.mpr ⟨lw_p15, fun _ h => absurd h List.not_mem_nil⟩⟩⟩⟩⟩⟩⟩⟩⟩⟩⟩⟩⟩⟩⟩⟩
theorem lw_p16 : lw_okq (⟨"OffsetChains", "infoOf", "(II)I"⟩, 6) := ⟨⟨by decide +kernel, by decide +kernel⟩, List.mem_of_getElem? (i := 12) (by decide +kernel), List.mem_of_getElem? (i := 359) (by decide +kernel), List.mem_of_getElem? (i := 360) (by decide +kernel)⟩
theorem lw_p17 : lw_okq (⟨"OffsetChains$Course", "mostUrgent", "(LOffsetChains$Plan;II)I"⟩, 10) := ⟨⟨by decide +kernel, by decide +kernel⟩, List.mem_of_getElem? (i := 113) (by decide +kernel), List.mem_of_getElem? (i := 460) (by decide +kernel), List.mem_of_getElem? (i := 461) (by decide +kernel)⟩
theorem lw_p18 : lw_okq (⟨"OffsetChains$Course", "isReady", "(LOffsetChains$Plan;II)Z"⟩, 10) := ⟨⟨by decide +kernel, by decide +kernel⟩, List.mem_of_getElem? (i := 113) (by decide +kernel), List.mem_of_getElem? (i := 465) (by decide +kernel), List.mem_of_getElem? (i := 466) (by decide +kernel)⟩
theorem lw_p19 : lw_okq (⟨"OffsetChains$Course", "doTick", "(LOffsetChains$Plan;II)V"⟩, 10) := ⟨⟨by decide +kernel, by decide +kernel⟩, List.mem_of_getElem? (i := 113) (by decide +kernel), List.mem_of_getElem? (i := 469) (by decide +kernel), List.mem_of_getElem? (i := 470) (by decide +kernel)⟩
theorem lw_p20 : lw_okq (⟨"OffsetChains", "countOf", "(I)I"⟩, 6) := ⟨⟨by decide +kernel, by decide +kernel⟩, List.mem_of_getElem? (i := 12) (by decide +kernel), List.mem_of_getElem? (i := 546) (by decide +kernel), List.mem_of_getElem? (i := 547) (by decide +kernel)⟩
theorem lw_p21 : lw_okq (⟨"OffsetChains", "withStep", "(JI)J"⟩, 6) := ⟨⟨by decide +kernel, by decide +kernel⟩, List.mem_of_getElem? (i := 12) (by decide +kernel), List.mem_of_getElem? (i := 571) (by decide +kernel), List.mem_of_getElem? (i := 572) (by decide +kernel)⟩
theorem lw_p22 : lw_okq (⟨"OffsetChainsModel", "finds", "(I)I"⟩, 36) := ⟨⟨by decide +kernel, by decide +kernel⟩, List.mem_of_getElem? (i := 575) (by decide +kernel), List.mem_of_getElem? (i := 702) (by decide +kernel), List.mem_of_getElem? (i := 703) (by decide +kernel)⟩
theorem lw_p23 : lw_okq (⟨"OffsetChainsModel", "lacks", "(III)I"⟩, 36) := ⟨⟨by decide +kernel, by decide +kernel⟩, List.mem_of_getElem? (i := 575) (by decide +kernel), List.mem_of_getElem? (i := 714) (by decide +kernel), List.mem_of_getElem? (i := 715) (by decide +kernel)⟩
theorem lw_p24 : lw_okq (⟨"OffsetChainsModel", "hasBy", "(II)I"⟩, 36) := ⟨⟨by decide +kernel, by decide +kernel⟩, List.mem_of_getElem? (i := 575) (by decide +kernel), List.mem_of_getElem? (i := 747) (by decide +kernel), List.mem_of_getElem? (i := 748) (by decide +kernel)⟩
theorem lw_p25 : lw_okq (⟨"OffsetChainsModel", "tells", "(III)V"⟩, 36) := ⟨⟨by decide +kernel, by decide +kernel⟩, List.mem_of_getElem? (i := 575) (by decide +kernel), List.mem_of_getElem? (i := 759) (by decide +kernel), List.mem_of_getElem? (i := 760) (by decide +kernel)⟩
theorem lw_p26 : lw_okq (⟨"OffsetChainsModel", "isStep", "(II)Z"⟩, 36) := ⟨⟨by decide +kernel, by decide +kernel⟩, List.mem_of_getElem? (i := 575) (by decide +kernel), List.mem_of_getElem? (i := 771) (by decide +kernel), List.mem_of_getElem? (i := 772) (by decide +kernel)⟩
theorem lw_p27 : lw_okq (⟨"OffsetChainsModel", "toldBy", "(II)I"⟩, 36) := ⟨⟨by decide +kernel, by decide +kernel⟩, List.mem_of_getElem? (i := 575) (by decide +kernel), List.mem_of_getElem? (i := 775) (by decide +kernel), List.mem_of_getElem? (i := 776) (by decide +kernel)⟩
theorem lw_p28 : lw_okq (⟨"OffsetChainsModel", "loadBy", "(II)I"⟩, 36) := ⟨⟨by decide +kernel, by decide +kernel⟩, List.mem_of_getElem? (i := 575) (by decide +kernel), List.mem_of_getElem? (i := 794) (by decide +kernel), List.mem_of_getElem? (i := 795) (by decide +kernel)⟩
theorem lw_p29 : lw_okq (⟨"OffsetChainsModel", "loads", "(I)V"⟩, 36) := ⟨⟨by decide +kernel, by decide +kernel⟩, List.mem_of_getElem? (i := 575) (by decide +kernel), List.mem_of_getElem? (i := 798) (by decide +kernel), List.mem_of_getElem? (i := 799) (by decide +kernel)⟩
theorem lw_p30 : lw_okq (⟨"OffsetChainsModel", "isRival", "(II)Z"⟩, 36) := ⟨⟨by decide +kernel, by decide +kernel⟩, List.mem_of_getElem? (i := 575) (by decide +kernel), List.mem_of_getElem? (i := 802) (by decide +kernel), List.mem_of_getElem? (i := 803) (by decide +kernel)⟩
theorem lw_p31 : lw_okq (⟨"OffsetChainsModel", "isThere", "(I)Z"⟩, 36) := ⟨⟨by decide +kernel, by decide +kernel⟩, List.mem_of_getElem? (i := 575) (by decide +kernel), List.mem_of_getElem? (i := 806) (by decide +kernel), List.mem_of_getElem? (i := 807) (by decide +kernel)⟩
def lw_privs_2 : List (MethodName × Nat) := [(⟨"OffsetChains", "infoOf", "(II)I"⟩, 6), (⟨"OffsetChains$Course", "mostUrgent", "(LOffsetChains$Plan;II)I"⟩, 10), (⟨"OffsetChains$Course", "isReady", "(LOffsetChains$Plan;II)Z"⟩, 10), (⟨"OffsetChains$Course", "doTick", "(LOffsetChains$Plan;II)V"⟩, 10), (⟨"OffsetChains", "countOf", "(I)I"⟩, 6), (⟨"OffsetChains", "withStep", "(JI)J"⟩, 6), (⟨"OffsetChainsModel", "finds", "(I)I"⟩, 36), (⟨"OffsetChainsModel", "lacks", "(III)I"⟩, 36), (⟨"OffsetChainsModel", "hasBy", "(II)I"⟩, 36), (⟨"OffsetChainsModel", "tells", "(III)V"⟩, 36), (⟨"OffsetChainsModel", "isStep", "(II)Z"⟩, 36), (⟨"OffsetChainsModel", "toldBy", "(II)I"⟩, 36), (⟨"OffsetChainsModel", "loadBy", "(II)I"⟩, 36), (⟨"OffsetChainsModel", "loads", "(I)V"⟩, 36), (⟨"OffsetChainsModel", "isRival", "(II)Z"⟩, 36), (⟨"OffsetChainsModel", "isThere", "(I)Z"⟩, 36)]
theorem lw_r2 : ∀ q ∈ lw_privs_2, lw_okq q := List.forall_mem_cons.mpr ⟨lw_p16, List.forall_mem_cons.mpr ⟨lw_p17, List.forall_mem_cons.mpr ⟨lw_p18, List.forall_mem_cons.mpr ⟨lw_p19, List.forall_mem_cons.mpr ⟨lw_p20, List.forall_mem_cons.mpr ⟨lw_p21, List.forall_mem_cons.mpr ⟨lw_p22, List.forall_mem_cons.mpr ⟨lw_p23, List.forall_mem_cons.mpr ⟨lw_p24, List.forall_mem_cons.mpr ⟨lw_p25, List.forall_mem_cons.mpr ⟨lw_p26, List.forall_mem_cons.mpr ⟨lw_p27, List.forall_mem_cons.mpr ⟨lw_p28, List.forall_mem_cons.mpr ⟨lw_p29, List.forall_mem_cons.mpr ⟨lw_p30, List.forall_mem_cons.mpr ⟨lw_p31, fun _ h => absurd h List.not_mem_nil⟩⟩⟩⟩⟩⟩⟩⟩⟩⟩⟩⟩⟩⟩⟩⟩
theorem lw_p32 : lw_okq (⟨"OffsetChainsModel", "settles", "()V"⟩, 36) := ⟨⟨by decide +kernel, by decide +kernel⟩, List.mem_of_getElem? (i := 575) (by decide +kernel), List.mem_of_getElem? (i := 815) (by decide +kernel), List.mem_of_getElem? (i := 816) (by decide +kernel)⟩
theorem lw_p33 : lw_okq (⟨"OffsetChainsModel", "picksAll", "()V"⟩, 36) := ⟨⟨by decide +kernel, by decide +kernel⟩, List.mem_of_getElem? (i := 575) (by decide +kernel), List.mem_of_getElem? (i := 819) (by decide +kernel), List.mem_of_getElem? (i := 820) (by decide +kernel)⟩
theorem lw_p34 : lw_okq (⟨"OffsetChainsModel", "boundsAll", "()Z"⟩, 36) := ⟨⟨by decide +kernel, by decide +kernel⟩, List.mem_of_getElem? (i := 575) (by decide +kernel), List.mem_of_getElem? (i := 823) (by decide +kernel), List.mem_of_getElem? (i := 824) (by decide +kernel)⟩
theorem lw_p35 : lw_okq (⟨"OffsetChainsModel", "isOver", "(I)Z"⟩, 36) := ⟨⟨by decide +kernel, by decide +kernel⟩, List.mem_of_getElem? (i := 575) (by decide +kernel), List.mem_of_getElem? (i := 827) (by decide +kernel), List.mem_of_getElem? (i := 828) (by decide +kernel)⟩
theorem lw_p36 : lw_okq (⟨"OffsetChainsModel", "answers", "(I)Z"⟩, 36) := ⟨⟨by decide +kernel, by decide +kernel⟩, List.mem_of_getElem? (i := 575) (by decide +kernel), List.mem_of_getElem? (i := 831) (by decide +kernel), List.mem_of_getElem? (i := 832) (by decide +kernel)⟩
theorem lw_p37 : lw_okq (⟨"OffsetChainsModel", "holds", "(III)I"⟩, 36) := ⟨⟨by decide +kernel, by decide +kernel⟩, List.mem_of_getElem? (i := 575) (by decide +kernel), List.mem_of_getElem? (i := 835) (by decide +kernel), List.mem_of_getElem? (i := 836) (by decide +kernel)⟩
theorem lw_p38 : lw_okq (⟨"OffsetChainsModel", "comes", "(III)I"⟩, 36) := ⟨⟨by decide +kernel, by decide +kernel⟩, List.mem_of_getElem? (i := 575) (by decide +kernel), List.mem_of_getElem? (i := 839) (by decide +kernel), List.mem_of_getElem? (i := 840) (by decide +kernel)⟩
theorem lw_p39 : lw_okq (⟨"OffsetChainsModel", "phi", "(II)I"⟩, 36) := ⟨⟨by decide +kernel, by decide +kernel⟩, List.mem_of_getElem? (i := 575) (by decide +kernel), List.mem_of_getElem? (i := 843) (by decide +kernel), List.mem_of_getElem? (i := 844) (by decide +kernel)⟩
theorem lw_p40 : lw_okq (⟨"OffsetChainsModel", "earliest", "(I)I"⟩, 36) := ⟨⟨by decide +kernel, by decide +kernel⟩, List.mem_of_getElem? (i := 575) (by decide +kernel), List.mem_of_getElem? (i := 847) (by decide +kernel), List.mem_of_getElem? (i := 848) (by decide +kernel)⟩
theorem lw_p41 : lw_okq (⟨"OffsetChainsModel", "work", "(III)I"⟩, 36) := ⟨⟨by decide +kernel, by decide +kernel⟩, List.mem_of_getElem? (i := 575) (by decide +kernel), List.mem_of_getElem? (i := 854) (by decide +kernel), List.mem_of_getElem? (i := 855) (by decide +kernel)⟩
theorem lw_p42 : lw_okq (⟨"OffsetChainsModel", "others", "(II)I"⟩, 36) := ⟨⟨by decide +kernel, by decide +kernel⟩, List.mem_of_getElem? (i := 575) (by decide +kernel), List.mem_of_getElem? (i := 858) (by decide +kernel), List.mem_of_getElem? (i := 859) (by decide +kernel)⟩
theorem lw_p43 : lw_okq (⟨"OffsetChainsModel", "answersBy", "(III)Z"⟩, 36) := ⟨⟨by decide +kernel, by decide +kernel⟩, List.mem_of_getElem? (i := 575) (by decide +kernel), List.mem_of_getElem? (i := 865) (by decide +kernel), List.mem_of_getElem? (i := 866) (by decide +kernel)⟩
theorem lw_p44 : lw_okq (⟨"OffsetChainsModel", "infoBy", "(II)I"⟩, 36) := ⟨⟨by decide +kernel, by decide +kernel⟩, List.mem_of_getElem? (i := 575) (by decide +kernel), List.mem_of_getElem? (i := 869) (by decide +kernel), List.mem_of_getElem? (i := 870) (by decide +kernel)⟩
theorem lw_p45 : lw_okq (⟨"OffsetChainsModel", "rivals", "(I)I"⟩, 36) := ⟨⟨by decide +kernel, by decide +kernel⟩, List.mem_of_getElem? (i := 575) (by decide +kernel), List.mem_of_getElem? (i := 873) (by decide +kernel), List.mem_of_getElem? (i := 874) (by decide +kernel)⟩
theorem lw_p46 : lw_okq (⟨"OffsetChainsModel", "boundBy", "(I)I"⟩, 36) := ⟨⟨by decide +kernel, by decide +kernel⟩, List.mem_of_getElem? (i := 575) (by decide +kernel), List.mem_of_getElem? (i := 881) (by decide +kernel), List.mem_of_getElem? (i := 882) (by decide +kernel)⟩
theorem lw_p47 : lw_okq (⟨"OffsetChainsModel", "searchedBy", "(I)I"⟩, 36) := ⟨⟨by decide +kernel, by decide +kernel⟩, List.mem_of_getElem? (i := 575) (by decide +kernel), List.mem_of_getElem? (i := 889) (by decide +kernel), List.mem_of_getElem? (i := 890) (by decide +kernel)⟩
def lw_privs_3 : List (MethodName × Nat) := [(⟨"OffsetChainsModel", "settles", "()V"⟩, 36), (⟨"OffsetChainsModel", "picksAll", "()V"⟩, 36), (⟨"OffsetChainsModel", "boundsAll", "()Z"⟩, 36), (⟨"OffsetChainsModel", "isOver", "(I)Z"⟩, 36), (⟨"OffsetChainsModel", "answers", "(I)Z"⟩, 36), (⟨"OffsetChainsModel", "holds", "(III)I"⟩, 36), (⟨"OffsetChainsModel", "comes", "(III)I"⟩, 36), (⟨"OffsetChainsModel", "phi", "(II)I"⟩, 36), (⟨"OffsetChainsModel", "earliest", "(I)I"⟩, 36), (⟨"OffsetChainsModel", "work", "(III)I"⟩, 36), (⟨"OffsetChainsModel", "others", "(II)I"⟩, 36), (⟨"OffsetChainsModel", "answersBy", "(III)Z"⟩, 36), (⟨"OffsetChainsModel", "infoBy", "(II)I"⟩, 36), (⟨"OffsetChainsModel", "rivals", "(I)I"⟩, 36), (⟨"OffsetChainsModel", "boundBy", "(I)I"⟩, 36), (⟨"OffsetChainsModel", "searchedBy", "(I)I"⟩, 36)]
theorem lw_r3 : ∀ q ∈ lw_privs_3, lw_okq q := List.forall_mem_cons.mpr ⟨lw_p32, List.forall_mem_cons.mpr ⟨lw_p33, List.forall_mem_cons.mpr ⟨lw_p34, List.forall_mem_cons.mpr ⟨lw_p35, List.forall_mem_cons.mpr ⟨lw_p36, List.forall_mem_cons.mpr ⟨lw_p37, List.forall_mem_cons.mpr ⟨lw_p38, List.forall_mem_cons.mpr ⟨lw_p39, List.forall_mem_cons.mpr ⟨lw_p40, List.forall_mem_cons.mpr ⟨lw_p41, List.forall_mem_cons.mpr ⟨lw_p42, List.forall_mem_cons.mpr ⟨lw_p43, List.forall_mem_cons.mpr ⟨lw_p44, List.forall_mem_cons.mpr ⟨lw_p45, List.forall_mem_cons.mpr ⟨lw_p46, List.forall_mem_cons.mpr ⟨lw_p47, fun _ h => absurd h List.not_mem_nil⟩⟩⟩⟩⟩⟩⟩⟩⟩⟩⟩⟩⟩⟩⟩⟩
theorem lw_p48 : lw_okq (⟨"OffsetChainsModel", "momentOf", "(III)I"⟩, 36) := ⟨⟨by decide +kernel, by decide +kernel⟩, List.mem_of_getElem? (i := 575) (by decide +kernel), List.mem_of_getElem? (i := 893) (by decide +kernel), List.mem_of_getElem? (i := 894) (by decide +kernel)⟩
theorem lw_p49 : lw_okq (⟨"OffsetChainsModel", "quickBy", "(I)I"⟩, 36) := ⟨⟨by decide +kernel, by decide +kernel⟩, List.mem_of_getElem? (i := 575) (by decide +kernel), List.mem_of_getElem? (i := 901) (by decide +kernel), List.mem_of_getElem? (i := 902) (by decide +kernel)⟩
theorem lw_p50 : lw_okq (⟨"OffsetChainsModel", "holdsQuick", "(II)I"⟩, 36) := ⟨⟨by decide +kernel, by decide +kernel⟩, List.mem_of_getElem? (i := 575) (by decide +kernel), List.mem_of_getElem? (i := 905) (by decide +kernel), List.mem_of_getElem? (i := 906) (by decide +kernel)⟩
theorem lw_p51 : lw_okq (⟨"OffsetChainsModel", "comesQuick", "(II)I"⟩, 36) := ⟨⟨by decide +kernel, by decide +kernel⟩, List.mem_of_getElem? (i := 575) (by decide +kernel), List.mem_of_getElem? (i := 909) (by decide +kernel), List.mem_of_getElem? (i := 910) (by decide +kernel)⟩
theorem lw_p52 : lw_okq (⟨"OffsetChainsModel", "roundsNow", "()I"⟩, 36) := ⟨⟨by decide +kernel, by decide +kernel⟩, List.mem_of_getElem? (i := 575) (by decide +kernel), List.mem_of_getElem? (i := 917) (by decide +kernel), List.mem_of_getElem? (i := 918) (by decide +kernel)⟩
theorem lw_p53 : lw_okq (⟨"OffsetChainsModel", "worstBy", "(II)I"⟩, 36) := ⟨⟨by decide +kernel, by decide +kernel⟩, List.mem_of_getElem? (i := 575) (by decide +kernel), List.mem_of_getElem? (i := 925) (by decide +kernel), List.mem_of_getElem? (i := 926) (by decide +kernel)⟩
theorem lw_p54 : lw_okq (⟨"OffsetChainsModel", "meetsNow", "()I"⟩, 36) := ⟨⟨by decide +kernel, by decide +kernel⟩, List.mem_of_getElem? (i := 575) (by decide +kernel), List.mem_of_getElem? (i := 933) (by decide +kernel), List.mem_of_getElem? (i := 934) (by decide +kernel)⟩
theorem lw_p55 : lw_okq (⟨"OffsetChainsModel", "isMet", "(I)Z"⟩, 36) := ⟨⟨by decide +kernel, by decide +kernel⟩, List.mem_of_getElem? (i := 575) (by decide +kernel), List.mem_of_getElem? (i := 937) (by decide +kernel), List.mem_of_getElem? (i := 938) (by decide +kernel)⟩
theorem lw_p56 : lw_okq (⟨"OffsetChainsModel", "isAsked", "(I)Z"⟩, 36) := ⟨⟨by decide +kernel, by decide +kernel⟩, List.mem_of_getElem? (i := 575) (by decide +kernel), List.mem_of_getElem? (i := 941) (by decide +kernel), List.mem_of_getElem? (i := 942) (by decide +kernel)⟩
theorem lw_p57 : lw_okq (⟨"OffsetChainsModel", "marginBy", "(I)I"⟩, 36) := ⟨⟨by decide +kernel, by decide +kernel⟩, List.mem_of_getElem? (i := 575) (by decide +kernel), List.mem_of_getElem? (i := 949) (by decide +kernel), List.mem_of_getElem? (i := 950) (by decide +kernel)⟩
theorem lw_p58 : lw_okq (⟨"OffsetChainsModel", "allMeet", "()Z"⟩, 36) := ⟨⟨by decide +kernel, by decide +kernel⟩, List.mem_of_getElem? (i := 575) (by decide +kernel), List.mem_of_getElem? (i := 953) (by decide +kernel), List.mem_of_getElem? (i := 954) (by decide +kernel)⟩
theorem lw_p59 : lw_okq (⟨"OffsetChainsModel", "betterBy", "(II)I"⟩, 36) := ⟨⟨by decide +kernel, by decide +kernel⟩, List.mem_of_getElem? (i := 575) (by decide +kernel), List.mem_of_getElem? (i := 961) (by decide +kernel), List.mem_of_getElem? (i := 962) (by decide +kernel)⟩
theorem lw_p60 : lw_okq (⟨"OffsetChainsModel", "begins", "()V"⟩, 36) := ⟨⟨by decide +kernel, by decide +kernel⟩, List.mem_of_getElem? (i := 575) (by decide +kernel), List.mem_of_getElem? (i := 970) (by decide +kernel), List.mem_of_getElem? (i := 971) (by decide +kernel)⟩
theorem lw_p61 : lw_okq (⟨"OffsetChainsModel", "releaseOf", "(II)I"⟩, 36) := ⟨⟨by decide +kernel, by decide +kernel⟩, List.mem_of_getElem? (i := 575) (by decide +kernel), List.mem_of_getElem? (i := 974) (by decide +kernel), List.mem_of_getElem? (i := 975) (by decide +kernel)⟩
theorem lw_p62 : lw_okq (⟨"OffsetChainsModel", "does", "(II)I"⟩, 36) := ⟨⟨by decide +kernel, by decide +kernel⟩, List.mem_of_getElem? (i := 575) (by decide +kernel), List.mem_of_getElem? (i := 978) (by decide +kernel), List.mem_of_getElem? (i := 979) (by decide +kernel)⟩
theorem lw_p63 : lw_okq (⟨"OffsetChainsModel", "ends", "(II)V"⟩, 36) := ⟨⟨by decide +kernel, by decide +kernel⟩, List.mem_of_getElem? (i := 575) (by decide +kernel), List.mem_of_getElem? (i := 982) (by decide +kernel), List.mem_of_getElem? (i := 983) (by decide +kernel)⟩
def lw_privs_4 : List (MethodName × Nat) := [(⟨"OffsetChainsModel", "momentOf", "(III)I"⟩, 36), (⟨"OffsetChainsModel", "quickBy", "(I)I"⟩, 36), (⟨"OffsetChainsModel", "holdsQuick", "(II)I"⟩, 36), (⟨"OffsetChainsModel", "comesQuick", "(II)I"⟩, 36), (⟨"OffsetChainsModel", "roundsNow", "()I"⟩, 36), (⟨"OffsetChainsModel", "worstBy", "(II)I"⟩, 36), (⟨"OffsetChainsModel", "meetsNow", "()I"⟩, 36), (⟨"OffsetChainsModel", "isMet", "(I)Z"⟩, 36), (⟨"OffsetChainsModel", "isAsked", "(I)Z"⟩, 36), (⟨"OffsetChainsModel", "marginBy", "(I)I"⟩, 36), (⟨"OffsetChainsModel", "allMeet", "()Z"⟩, 36), (⟨"OffsetChainsModel", "betterBy", "(II)I"⟩, 36), (⟨"OffsetChainsModel", "begins", "()V"⟩, 36), (⟨"OffsetChainsModel", "releaseOf", "(II)I"⟩, 36), (⟨"OffsetChainsModel", "does", "(II)I"⟩, 36), (⟨"OffsetChainsModel", "ends", "(II)V"⟩, 36)]
theorem lw_r4 : ∀ q ∈ lw_privs_4, lw_okq q := List.forall_mem_cons.mpr ⟨lw_p48, List.forall_mem_cons.mpr ⟨lw_p49, List.forall_mem_cons.mpr ⟨lw_p50, List.forall_mem_cons.mpr ⟨lw_p51, List.forall_mem_cons.mpr ⟨lw_p52, List.forall_mem_cons.mpr ⟨lw_p53, List.forall_mem_cons.mpr ⟨lw_p54, List.forall_mem_cons.mpr ⟨lw_p55, List.forall_mem_cons.mpr ⟨lw_p56, List.forall_mem_cons.mpr ⟨lw_p57, List.forall_mem_cons.mpr ⟨lw_p58, List.forall_mem_cons.mpr ⟨lw_p59, List.forall_mem_cons.mpr ⟨lw_p60, List.forall_mem_cons.mpr ⟨lw_p61, List.forall_mem_cons.mpr ⟨lw_p62, List.forall_mem_cons.mpr ⟨lw_p63, fun _ h => absurd h List.not_mem_nil⟩⟩⟩⟩⟩⟩⟩⟩⟩⟩⟩⟩⟩⟩⟩⟩
theorem lw_p64 : lw_okq (⟨"OffsetChainsModel", "endedNow", "()I"⟩, 36) := ⟨⟨by decide +kernel, by decide +kernel⟩, List.mem_of_getElem? (i := 575) (by decide +kernel), List.mem_of_getElem? (i := 989) (by decide +kernel), List.mem_of_getElem? (i := 990) (by decide +kernel)⟩
theorem lw_p65 : lw_okq (⟨"OffsetChainsModel", "seenBy", "(II)I"⟩, 36) := ⟨⟨by decide +kernel, by decide +kernel⟩, List.mem_of_getElem? (i := 575) (by decide +kernel), List.mem_of_getElem? (i := 997) (by decide +kernel), List.mem_of_getElem? (i := 998) (by decide +kernel)⟩
theorem lw_p66 : lw_okq (⟨"OffsetChainsModel", "tickBy", "(II)I"⟩, 36) := ⟨⟨by decide +kernel, by decide +kernel⟩, List.mem_of_getElem? (i := 575) (by decide +kernel), List.mem_of_getElem? (i := 1006) (by decide +kernel), List.mem_of_getElem? (i := 1007) (by decide +kernel)⟩
theorem lw_p67 : lw_okq (⟨"OffsetChainsModel", "countBy", "(I)I"⟩, 36) := ⟨⟨by decide +kernel, by decide +kernel⟩, List.mem_of_getElem? (i := 575) (by decide +kernel), List.mem_of_getElem? (i := 1018) (by decide +kernel), List.mem_of_getElem? (i := 1019) (by decide +kernel)⟩
theorem lw_p68 : lw_okq (⟨"OffsetChainsModel", "idle", "(I)I"⟩, 36) := ⟨⟨by decide +kernel, by decide +kernel⟩, List.mem_of_getElem? (i := 575) (by decide +kernel), List.mem_of_getElem? (i := 1022) (by decide +kernel), List.mem_of_getElem? (i := 1023) (by decide +kernel)⟩
theorem lw_p69 : lw_okq (⟨"OffsetChainsModel", "over", "()I"⟩, 36) := ⟨⟨by decide +kernel, by decide +kernel⟩, List.mem_of_getElem? (i := 575) (by decide +kernel), List.mem_of_getElem? (i := 1026) (by decide +kernel), List.mem_of_getElem? (i := 1027) (by decide +kernel)⟩
theorem lw_p70 : lw_okq (⟨"OffsetChainsModel", "stepTells", "(JI)J"⟩, 36) := ⟨⟨by decide +kernel, by decide +kernel⟩, List.mem_of_getElem? (i := 575) (by decide +kernel), List.mem_of_getElem? (i := 1036) (by decide +kernel), List.mem_of_getElem? (i := 1037) (by decide +kernel)⟩
def lw_privs_5 : List (MethodName × Nat) := [(⟨"OffsetChainsModel", "endedNow", "()I"⟩, 36), (⟨"OffsetChainsModel", "seenBy", "(II)I"⟩, 36), (⟨"OffsetChainsModel", "tickBy", "(II)I"⟩, 36), (⟨"OffsetChainsModel", "countBy", "(I)I"⟩, 36), (⟨"OffsetChainsModel", "idle", "(I)I"⟩, 36), (⟨"OffsetChainsModel", "over", "()I"⟩, 36), (⟨"OffsetChainsModel", "stepTells", "(JI)J"⟩, 36)]
theorem lw_r5 : ∀ q ∈ lw_privs_5, lw_okq q := List.forall_mem_cons.mpr ⟨lw_p64, List.forall_mem_cons.mpr ⟨lw_p65, List.forall_mem_cons.mpr ⟨lw_p66, List.forall_mem_cons.mpr ⟨lw_p67, List.forall_mem_cons.mpr ⟨lw_p68, List.forall_mem_cons.mpr ⟨lw_p69, List.forall_mem_cons.mpr ⟨lw_p70, fun _ h => absurd h List.not_mem_nil⟩⟩⟩⟩⟩⟩⟩
def lw_privs : List (MethodName × Nat) := lw_privs_1 ++ (lw_privs_2 ++ (lw_privs_3 ++ (lw_privs_4 ++ (lw_privs_5))))
def lw_tbl : List Cond := k2_sels lw_privs ++ tables_1
theorem lw_privs_ok : ∀ q ∈ lw_privs, lw_okq q := by
  show ∀ q ∈ lw_privs_1 ++ (lw_privs_2 ++ (lw_privs_3 ++ (lw_privs_4 ++ (lw_privs_5)))), lw_okq q
  exact List.forall_mem_append.mpr ⟨lw_r1, List.forall_mem_append.mpr ⟨lw_r2, List.forall_mem_append.mpr ⟨lw_r3, List.forall_mem_append.mpr ⟨lw_r4, lw_r5⟩⟩⟩⟩
end
section
/-! ===== BEGIN words of one list among another's, by their places ===== -/
theorem goodIn_r {big : List Cond} (ws : List Cond) (ps : List Nat) (hp : ws = ps.filterMap (fun i => big[i]?)) (h : ws.all goodWord = true) : GoodIn big ws := by
  intro w hw
  have h1 := List.all_eq_true.mp h w hw
  rw [hp] at hw
  obtain ⟨i, -, hi⟩ := List.mem_filterMap.mp hw
  have hm : w ∈ big := by first | exact List.mem_of_getElem? hi | exact List.getElem?_mem hi
  exact ⟨hm, good_of_word h1⟩
theorem goodIn_app {big a b : List Cond} (ha : GoodIn big a) (hb : GoodIn big b) : GoodIn big (a ++ b) := fun w h => (List.mem_append.mp h).elim (ha w) (hb w)
theorem goodIn_ca {big a b : List Cond} {c : Cond} (ha : GoodIn big (c :: a)) (hb : GoodIn big b) : GoodIn big (c :: (a ++ b)) := fun w h => (List.mem_cons.mp h).elim (fun e => ha w (List.mem_cons.mpr (Or.inl e))) (fun h => (List.mem_append.mp h).elim (fun h => ha w (List.mem_cons.mpr (Or.inr h))) (hb w))
theorem goodIn_sub {big ws : List Cond} (hm : ∀ w ∈ ws, w ∈ big) (h : ws.all goodWord = true) : GoodIn big ws := fun w hw => ⟨hm w hw, good_of_word (List.all_eq_true.mp h w hw)⟩
/-! ===== END ===== -/

/-! ===== BEGIN new T[n][m]: the outer array a place, the inner ones among the pooled ===== -/
/-- f, but v at every address of l -/
def vr_up {α : Type} (f : Nat → α) (l : List Nat) (v : α) : Nat → α := fun a => if a ∈ l then v else f a
theorem vr_up_in {α : Type} {f : Nat → α} {l : List Nat} {v : α} {a : Nat} (h : a ∈ l) : vr_up f l v a = v := if_pos h
theorem vr_up_ne {α : Type} {f : Nat → α} {l : List Nat} {v : α} {a : Nat} (h : a ∉ l) : vr_up f l v a = f a := if_neg h
theorem vr_rows {L l : List Nat} {f : Nat → va_E} {e : va_E} (h : ∀ a, a ∈ l → a ∉ L) : va_pl L f ++ l.map (fun a => (a, e)) = va_pl (L ++ l) (vr_up f l e) := by
  unfold va_pl
  rw [List.map_append]
  congr 1
  · apply List.map_congr_left
    intro a ha
    rw [vr_up_ne (fun q => h a q ha)]
  · apply List.map_congr_left
    intro a ha
    rw [vr_up_in ha]
theorem vr_lay {X rows : va_W} {x : Nat × va_E} {pl : va_W} {D : va_G} {cl : List vw_C} {H : Heap} (hP : va_P D cl (((X ++ pl) ++ [x]) ++ rows) H) : va_P D cl ((X ++ [x]) ++ (pl ++ rows)) H := by
  rw [List.append_assoc (X ++ pl)] at hP
  have h := va_P.swap hP
  rw [← List.append_assoc X] at h
  have h2 := va_P.swap h
  rw [List.append_assoc (X ++ [x])] at h2
  exact h2
theorem vr_layD {X rows : va_W} {x : Nat × va_E} {pl : va_W} {A : Nat → Prop} (hD : va_D A (((X ++ pl) ++ [x]) ++ rows)) : va_D A ((X ++ [x]) ++ (pl ++ rows)) := by
  rw [List.append_assoc (X ++ pl)] at hD
  have h := va_D.swap hD
  rw [← List.append_assoc X] at h
  have h2 := va_D.swap h
  rw [List.append_assoc (X ++ [x])] at h2
  exact h2
theorem vr_outer (c : ClassId) (N h0 : Nat) : ∀ i : Nat, Jvm.Free.Multi.outerC c N h0 i = arrV c N (fun j => va_rf (if j < i then some (h0 + 1 + j) else none))
  | 0 => by
    show ({ cls := c, slots := Array.replicate N .null, vm := .none } : Cell) = _
    rw [arrV_new]
    refine congrArg (arrV c N) (funext fun j => ?_)
    simp [va_rf]
  | i + 1 => by
    show (Jvm.Free.Multi.outerC c N h0 i).setSlot i (.ref (h0 + 1 + i)) = _
    rw [vr_outer c N h0 i, arrV_store]
    refine congrArg (arrV c N) (funext fun j => ?_)
    by_cases e : j = i
    · subst e
      simp [updV, va_rf]
    · by_cases h : j < i
      · simp [updV, e, h, Nat.lt_succ_of_lt h]
      · simp [updV, e, h, show ¬ j < i + 1 by omega]
/-- (NAMES uses this name, and nothing of the kit defines it) -/
def va_AOA (ty : FieldType) (U : State) : Prop := (Cond.arrayOver (.array ty)).before #[] U = true
theorem va_AOA.of {ty : FieldType} {A : Array Value} {U : State} (h : (Cond.arrayOver (.array ty)).before A U = true) : va_AOA ty U := h
theorem va_AOA.use {ty : FieldType} {A : Array Value} {U : State} (h : va_AOA ty U) : (Cond.arrayOver (.array ty)).before A U = true := h
section VGM
variable {p : Program} {l : Launch} {e : Env} {R : Room} {s : State} {m : MethodId} {args : Array Value} {below : List Frame} {meth : Method} {c : Code} {H : Heap} {locs : List Loc} {cells slots : Nat} {Q : State → Prop}
variable {cc : ByteArray} {pc : Nat} {ls : Array Slot} {rest : List Value} {D : va_G} {cl : List vw_C} {A : Nat → Prop} {a : Nat} {tys : List (ClassId × FieldType)} {ws : va_W} {H0 : Heap}
theorem va_mna {X : va_W} {L : List Nat} {f : Nat → va_E} {cc : ByteArray} (hexec : p.tables.exec = Jvm.exec) (hb : c.code = cc) {own : String} {index : Nat} {ty : FieldType} {cy : ClassId} (hown : s.vm.findClass own = some m.cls) (hclink : (Cond.classLink own index ("[" ++ (FieldType.array ty).toString)).before args s = true) (hover : va_AOA ty s) (harr : (Cond.arrayClass ty).before args s = true) (hcy : s.vm.findClass (FieldType.array ty).toString = some cy)
    (hK : va_K D cl tys s) (hP : va_P D cl (X ++ va_pl L f) H) (hD : va_D A (X ++ va_pl L f)) (hS : va_S A H0 H locs) (hA : ∀ q, H0.size ≤ q → A q) {n k : Int32} {N' K' : Nat} {z : vp_A} (hn : ¬ n < 0) (hk : ¬ k < 0) (hN : n.toNatClampNeg = N') (hM : k.toNatClampNeg = K')
    (hb1 : N' * 4 ≤ 536870912) (hb2 : K' * componentBytes ty ≤ 536870912) (hb3 : K' ≤ 536870912) (hdf : fits ty (defaultValue ty) = true) (hdd : (defaultValue ty).isDefault = true) (hcells : cells + (1 + N') ≤ R.cells) (hslots : slots + (N' + N' * K') ≤ R.slots) (hz : ∀ c : ClassId, Jvm.Free.Multi.innerC c K' (defaultValue ty) = vp_cell c z) (hdg : decode cc pc = .ok (.multianewarray index 2, 4))
    (kk : ∀ (q : Nat) (r : Nat → Nat) (cA : ClassId) (H1 : Heap), (∀ i j : Nat, i < N' → j < N' → r i = r j → i = j) → (∀ i : Nat, i < N' → r i ∉ L) → va_K D cl (tys ++ [(cA, .array ty)]) s →
      va_P D cl ((X ++ [(q, .inl (cA, N', .inr (.inr (.inr (.inr (fun i => if i < N' then some (r i) else none))))))]) ++ va_pl (L ++ (List.range N').map r) (vr_up f ((List.range N').map r) (.inl (cy, z)))) H1 → va_D A ((X ++ [(q, .inl (cA, N', .inr (.inr (.inr (.inr (fun i => if i < N' then some (r i) else none))))))]) ++ va_pl (L ++ (List.range N').map r) (vr_up f ((List.range N').map r) (.inl (cy, z)))) → va_S A H0 H1 locs →
      W p l e R s m args below meth c H1 locs (cells + 1 + N') (slots + N' + N' * K') Q (F0 m (pc + 4) ls (.ref q :: rest))) : W p l e R s m args below meth c H locs cells slots Q (F0 m pc ls (.int k :: .int n :: rest)) := by
  subst hN
  subst hM
  intro T hT Xs
  obtain ⟨vm₁, cA, comp, -, fA, fC, hO, -, X', step⟩ := Xs.multianewarray2F hexec hown hclink (va_AOA.use hover) harr (g := F0 m pc ls (.int k :: .int n :: rest)) rfl (by rw [hb]; exact hdg) rfl hn hk hb1 hb2 hb3 hdf hdd hcells hslots
  have ec : some cy = some comp := hcy.symm.trans fC
  cases ec
  generalize hF : Jvm.Free.Multi.fill (T.setVm vm₁) cA cy n.toNatClampNeg k.toNatClampNeg (defaultValue ty) n.toNatClampNeg = F at X' step
  have hTh : (T.setVm vm₁).heap = H := hT
  obtain ⟨f1, f2, -, -⟩ := Jvm.Free.Multi.fill_facts (T.setVm vm₁) cA cy n.toNatClampNeg k.toNatClampNeg (defaultValue ty) n.toNatClampNeg
  rw [hF, hTh] at f1 f2
  have hold : ∀ x : Nat, x < H.size → F.heap[x]? = H[x]? := fun x hx => by
    have := Jvm.Free.Multi.fill_old (T.setVm vm₁) cA cy n.toNatClampNeg k.toNatClampNeg (defaultValue ty) (a := x) (by rw [hTh]; exact hx) n.toNatClampNeg
    rw [hF, hTh] at this
    exact this
  have hrow : ∀ j : Nat, j < n.toNatClampNeg → F.heap[H.size + 1 + j]? = some (vp_cell cy z) := fun j hj => by
    have := Jvm.Free.Multi.fill_inner (T.setVm vm₁) cA cy n.toNatClampNeg k.toNatClampNeg (defaultValue ty) n.toNatClampNeg j hj
    rw [hF, hTh, hz] at this
    exact this
  have hout : Jvm.Free.Multi.outerC cA n.toNatClampNeg H.size n.toNatClampNeg = vp_cell cA (n.toNatClampNeg, .inr (.inr (.inr (.inr (fun i => if i < n.toNatClampNeg then some (H.size + 1 + i) else none))))) := by
    rw [vp_cell_q]
    exact vr_outer cA n.toNatClampNeg H.size n.toNatClampNeg
  rw [hout] at f2
  have hlt : ∀ a, a ∈ L → a < H.size := fun a ha => by
    obtain ⟨k9, hk9⟩ := va_pl_get (X := X) (f := f) ha
    exact (hP k9 _ hk9).lt
  have hnl : ∀ i : Nat, i < n.toNatClampNeg → H.size + 1 + i ∉ L := fun i _ h => by
    have := hlt _ h
    omega
  have hnm : ∀ a, a ∈ (List.range n.toNatClampNeg).map (fun i => H.size + 1 + i) → a ∉ L := fun a ha h => by
    obtain ⟨i, -, rfl⟩ := List.mem_map.mp ha
    have := hlt _ h
    omega
  have hP0 : va_P D cl (X ++ va_pl L f) F.heap := hP.kept (fun k9 x hx => hold x.1 ((hP k9 x hx).lt))
  have hP1 : va_P D cl ((X ++ va_pl L f) ++ [(H.size, .inl (cA, n.toNatClampNeg, .inr (.inr (.inr (.inr (fun i => if i < n.toNatClampNeg then some (H.size + 1 + i) else none))))))]) F.heap := hP0.app (fun k9 x hx => by
    have h0 : k9 < 1 := (List.getElem?_eq_some_iff.mp hx).1
    rw [show k9 = 0 by omega] at hx
    cases hx
    exact f2)
  have hP2 : va_P D cl (((X ++ va_pl L f) ++ [(H.size, .inl (cA, n.toNatClampNeg, .inr (.inr (.inr (.inr (fun i => if i < n.toNatClampNeg then some (H.size + 1 + i) else none))))))]) ++ ((List.range n.toNatClampNeg).map (fun i => H.size + 1 + i)).map (fun a => (a, .inl (cy, z)))) F.heap := hP1.app (fun k9 x hx => by
    obtain ⟨a, ha, rfl⟩ := List.mem_map.mp (List.mem_of_getElem? hx)
    obtain ⟨i, hi, rfl⟩ := List.mem_map.mp ha
    exact hrow i (List.mem_range.mp hi))
  have hD2 : va_D A (((X ++ va_pl L f) ++ [(H.size, .inl (cA, n.toNatClampNeg, .inr (.inr (.inr (.inr (fun i => if i < n.toNatClampNeg then some (H.size + 1 + i) else none))))))]) ++ ((List.range n.toNatClampNeg).map (fun i => H.size + 1 + i)).map (fun a => (a, .inl (cy, z)))) := by
    have hD1 := hD.push (e := .inl (cA, n.toNatClampNeg, .inr (.inr (.inr (.inr (fun i => if i < n.toNatClampNeg then some (H.size + 1 + i) else none)))))) hP rfl (hA _ hS.1)
    generalize hW1 : (X ++ va_pl L f) ++ [(H.size, .inl (cA, n.toNatClampNeg, .inr (.inr (.inr (.inr (fun i => if i < n.toNatClampNeg then some (H.size + 1 + i) else none))))))] = W1 at hD1 hP1 ⊢
    have hle : ∀ (k9 : Nat) (x : Nat × va_E), W1[k9]? = some x → x.1 ≤ H.size := fun k9 x hx => by
      rw [← hW1] at hx
      by_cases hl : k9 < (X ++ va_pl L f).length
      · rw [List.getElem?_append_left hl] at hx
        exact Nat.le_of_lt ((hP k9 x hx).lt)
      · rw [List.getElem?_append_right (by omega)] at hx
        have h0 : k9 - (X ++ va_pl L f).length < 1 := (List.getElem?_eq_some_iff.mp hx).1
        rw [show k9 - (X ++ va_pl L f).length = 0 by omega] at hx
        cases hx
        exact Nat.le_refl _
    have hr : ∀ (k9 : Nat) (x : Nat × va_E), (((List.range n.toNatClampNeg).map (fun i => H.size + 1 + i)).map (fun a => ((a, .inl (cy, z)) : Nat × va_E)))[k9]? = some x → x.1 = H.size + 1 + k9 := fun k9 x hx => by
      rw [List.getElem?_map, List.getElem?_map] at hx
      by_cases h9 : k9 < n.toNatClampNeg
      · rw [List.getElem?_range h9] at hx
        cases hx
        rfl
      · have hn0 : (List.range n.toNatClampNeg)[k9]? = none := List.getElem?_eq_none (by rw [List.length_range]; omega)
        rw [hn0] at hx
        cases hx
    refine ⟨fun i j x y hi hj hxy => ?_, fun k9 x hx => ?_⟩
    · by_cases h1 : i < W1.length <;> by_cases h2 : j < W1.length
      · rw [List.getElem?_append_left h1] at hi
        rw [List.getElem?_append_left h2] at hj
        exact hD1.1 i j x y hi hj hxy
      · rw [List.getElem?_append_left h1] at hi
        rw [List.getElem?_append_right (by omega)] at hj
        have := hle _ _ hi
        have := hr _ _ hj
        omega
      · rw [List.getElem?_append_right (by omega)] at hi
        rw [List.getElem?_append_left h2] at hj
        have := hle _ _ hj
        have := hr _ _ hi
        omega
      · rw [List.getElem?_append_right (by omega)] at hi hj
        have := hr _ _ hi
        have := hr _ _ hj
        omega
    · by_cases h1 : k9 < W1.length
      · rw [List.getElem?_append_left h1] at hx
        exact hD1.2 k9 x hx
      · rw [List.getElem?_append_right (by omega)] at hx
        have := hr _ _ hx
        exact hA _ (by have := hS.1; omega)
  have hAr : ArrOfT s cA (.array ty) := fun N9 z9 => by
    obtain ⟨-, k9, hk9, cm9, hkk9⟩ := (hO 0 0 0).1
    exact ⟨(fun q hq => by cases hq), k9, hk9, cm9, hkk9⟩
  have hK2 : va_K D cl (tys ++ [(cA, .array ty)]) s := ⟨hK.1, fun k9 x hx => by
    by_cases hl : k9 < tys.length
    · rw [List.getElem?_append_left hl] at hx
      exact hK.2 k9 x hx
    · rw [List.getElem?_append_right (by omega)] at hx
      have h0 : k9 - tys.length < 1 := (List.getElem?_eq_some_iff.mp hx).1
      rw [show k9 - tys.length = 0 by omega] at hx
      cases hx
      exact ⟨hAr, fA⟩⟩
  obtain ⟨t, a1, b1⟩ := kk H.size (fun i => H.size + 1 + i) cA F.heap (fun i j _ _ h => by have h9 : H.size + 1 + i = H.size + 1 + j := h; omega) hnl hK2 (by rw [← vr_rows hnm]; exact vr_lay hP2) (by rw [← vr_rows hnm]; exact vr_layD hD2) ⟨by rw [f1]; have := hS.1; omega, fun x h1 h2 => (hold x (Nat.lt_of_lt_of_le h1 hS.1)).trans (hS.2.1 x h1 h2), hS.2.2⟩ F rfl X'
  refine ⟨t, step t ?_, b1⟩
  have e : T.heap.size = H.size := by rw [hT]
  rw [e]
  exact a1
end VGM
/-! ===== END ===== -/

/-! ===== BEGIN printed: names, fields, word lists, decode rows ===== -/
def RX0 : String := "OffsetChains$Answers"
def TX0 : u_T := fun k => match k with
  | 0 => ("OffsetChains$Answers", "plan", "LOffsetChains$Plan;", true)
  | 1 => ("OffsetChains$Answers", "periods", "[I", true)
  | 2 => ("OffsetChains$Answers", "late", "[I", true)
  | 3 => ("OffsetChains$Answers", "bounds", "[I", true)
  | 4 => ("OffsetChains$Answers", "worstMoment", "[I", true)
  | 5 => ("OffsetChains$Answers", "worstTurn", "[I", true)
  | 6 => ("OffsetChains$Answers", "worstBusy", "[I", true)
  | 7 => ("OffsetChains$Answers", "phi", "[I", true)
  | 8 => ("OffsetChains$Answers", "early", "[I", true)
  | 9 => ("OffsetChains$Answers", "rivals", "[I", true)
  | 10 => ("OffsetChains$Answers", "rivalMany", "[I", true)
  | 11 => ("OffsetChains$Answers", "chosen", "[I", true)
  | 12 => ("OffsetChains$Answers", "best", "I", false)
  | 13 => ("OffsetChains$Answers", "bestMoment", "I", false)
  | 14 => ("OffsetChains$Answers", "bestTurn", "I", false)
  | 15 => ("OffsetChains$Answers", "bestBusy", "I", false)
  | 16 => ("OffsetChains$Answers", "roundsTaken", "I", false)
  | _ => ("OffsetChains$Answers", "stale", "Z", false)
def tyX0 : Nat → FieldType := fun k => match k with
  | 0 => .object "OffsetChains$Plan"
  | 1 => .array .int
  | 2 => .array .int
  | 3 => .array .int
  | 4 => .array .int
  | 5 => .array .int
  | 6 => .array .int
  | 7 => .array .int
  | 8 => .array .int
  | 9 => .array .int
  | 10 => .array .int
  | 11 => .array .int
  | 12 => .int
  | 13 => .int
  | 14 => .int
  | 15 => .int
  | 16 => .int
  | _ => .boolean
abbrev wsX00 : List Cond := u_ws RX0 TX0 18
theorem nmX0 : ∀ a, a < 18 → ∀ b, b < 18 → a ≠ b → (TX0 a).2.1 ≠ (TX0 b).2.1 := by decide +kernel
theorem tyX0_ok : ∀ k, k < 18 → parseFieldDescriptor (TX0 k).2.2.1 = some (tyX0 k) := by decide +kernel
abbrev cX0_init : ByteArray := prog_2_method_1_code
def yX0_init : MethodName := ⟨RX0, "<init>", "(LOffsetChains$Plan;)V"⟩
abbrev cX0_settle : ByteArray := prog_2_method_2_code
def yX0_settle : MethodName := ⟨RX0, "settle", "()V"⟩
abbrev cX0_lateOf : ByteArray := prog_2_method_3_code
def yX0_lateOf : MethodName := ⟨RX0, "lateOf", "(I)I"⟩
abbrev cX0_boundOf : ByteArray := prog_2_method_4_code
def yX0_boundOf : MethodName := ⟨RX0, "boundOf", "(I)I"⟩
abbrev cX0_worstOf : ByteArray := prog_2_method_5_code
def yX0_worstOf : MethodName := ⟨RX0, "worstOf", "(II)I"⟩
abbrev cX0_meetingBits : ByteArray := prog_2_method_6_code
def yX0_meetingBits : MethodName := ⟨RX0, "meetingBits", "()I"⟩
abbrev cX0_searchedOf : ByteArray := prog_2_method_7_code
def yX0_searchedOf : MethodName := ⟨RX0, "searchedOf", "(I)I"⟩
abbrev cX0_quickOf : ByteArray := prog_2_method_8_code
def yX0_quickOf : MethodName := ⟨RX0, "quickOf", "(I)I"⟩
abbrev cX0_boundAll : ByteArray := prog_2_method_9_code
def yX0_boundAll : MethodName := ⟨RX0, "boundAll", "()Z"⟩
abbrev cX0_passLateness : ByteArray := prog_2_method_10_code
def yX0_passLateness : MethodName := ⟨RX0, "passLateness", "()Z"⟩
abbrev cX0_placeComings : ByteArray := prog_2_method_11_code
def yX0_placeComings : MethodName := ⟨RX0, "placeComings", "()V"⟩
abbrev cX0_gatherRivals : ByteArray := prog_2_method_12_code
def yX0_gatherRivals : MethodName := ⟨RX0, "gatherRivals", "(I)V"⟩
abbrev cX0_findLongest : ByteArray := prog_2_method_13_code
def yX0_findLongest : MethodName := ⟨RX0, "findLongest", "(I)Z"⟩
abbrev cX0_leastTime : ByteArray := prog_2_method_14_code
def yX0_leastTime : MethodName := ⟨RX0, "leastTime", "(IIII)I"⟩
abbrev cX0_needed : ByteArray := prog_2_method_15_code
def yX0_needed : MethodName := ⟨RX0, "needed", "(IIII)I"⟩
abbrev cX0_work : ByteArray := prog_2_method_16_code
def yX0_work : MethodName := ⟨RX0, "work", "(III)I"⟩
abbrev cX0_comes : ByteArray := prog_2_method_17_code
def yX0_comes : MethodName := ⟨RX0, "comes", "(III)I"⟩
abbrev cX0_quickNeeded : ByteArray := prog_2_method_18_code
def yX0_quickNeeded : MethodName := ⟨RX0, "quickNeeded", "(III)I"⟩
abbrev cX0_quickComes : ByteArray := prog_2_method_19_code
def yX0_quickComes : MethodName := ⟨RX0, "quickComes", "(II)I"⟩
def RX1 : String := "OffsetChains$Course"
def TX1 : u_T := fun k => match k with
  | 0 => ("OffsetChains$Course", "ticks", "I", false)
  | 1 => ("OffsetChains$Course", "endedInAll", "I", false)
  | 2 => ("OffsetChains$Course", "idle", "[I", true)
  | 3 => ("OffsetChains$Course", "did", "[[I", true)
  | 4 => ("OffsetChains$Course", "longest", "[I", true)
  | 5 => ("OffsetChains$Course", "shortest", "[I", true)
  | 6 => ("OffsetChains$Course", "ended", "[I", true)
  | 7 => ("OffsetChains$Course", "worked", "[I", true)
  | 8 => ("OffsetChains$Course", "ends", "[[I", true)
  | _ => ("OffsetChains$Course", "readyAt", "[I", true)
def tyX1 : Nat → FieldType := fun k => match k with
  | 0 => .int
  | 1 => .int
  | 2 => .array .int
  | 3 => .array (.array .int)
  | 4 => .array .int
  | 5 => .array .int
  | 6 => .array .int
  | 7 => .array .int
  | 8 => .array (.array .int)
  | _ => .array .int
abbrev wsX10 : List Cond := u_ws RX1 TX1 10
theorem nmX1 : ∀ a, a < 10 → ∀ b, b < 10 → a ≠ b → (TX1 a).2.1 ≠ (TX1 b).2.1 := by decide +kernel
theorem tyX1_ok : ∀ k, k < 10 → parseFieldDescriptor (TX1 k).2.2.1 = some (tyX1 k) := by decide +kernel
abbrev cX1_init : ByteArray := prog_3_method_1_code
def yX1_init : MethodName := ⟨RX1, "<init>", "()V"⟩
abbrev cX1_clear : ByteArray := prog_3_method_2_code
def yX1_clear : MethodName := ⟨RX1, "clear", "()V"⟩
abbrev cX1_seenOf : ByteArray := prog_3_method_3_code
def yX1_seenOf : MethodName := ⟨RX1, "seenOf", "(II)I"⟩
abbrev cX1_go : ByteArray := prog_3_method_4_code
def yX1_go : MethodName := ⟨RX1, "go", "(LOffsetChains$Plan;I)V"⟩
abbrev cX1_firstReady : ByteArray := prog_3_method_5_code
def yX1_firstReady : MethodName := ⟨RX1, "firstReady", "(LOffsetChains$Plan;II)I"⟩
abbrev cX1_released : ByteArray := prog_3_method_6_code
def yX1_released : MethodName := ⟨RX1, "released", "(LOffsetChains$Plan;II)I"⟩
abbrev cX1_mostUrgent : ByteArray := prog_3_method_7_code
def yX1_mostUrgent : MethodName := ⟨RX1, "mostUrgent", "(LOffsetChains$Plan;II)I"⟩
abbrev cX1_isReady : ByteArray := prog_3_method_8_code
def yX1_isReady : MethodName := ⟨RX1, "isReady", "(LOffsetChains$Plan;II)Z"⟩
abbrev cX1_doTick : ByteArray := prog_3_method_9_code
def yX1_doTick : MethodName := ⟨RX1, "doTick", "(LOffsetChains$Plan;II)V"⟩
def RX2 : String := "OffsetChains$Plan"
def TX2 : u_T := fun k => match k with
  | 0 => ("OffsetChains$Plan", "traits", "[[I", true)
  | 1 => ("OffsetChains$Plan", "marks", "[[I", true)
  | _ => ("OffsetChains$Plan", "many", "[I", true)
def tyX2 : Nat → FieldType := fun k => match k with
  | 0 => .array (.array .int)
  | 1 => .array (.array .int)
  | _ => .array .int
abbrev wsX20 : List Cond := u_ws RX2 TX2 3
theorem nmX2 : ∀ a, a < 3 → ∀ b, b < 3 → a ≠ b → (TX2 a).2.1 ≠ (TX2 b).2.1 := by decide +kernel
theorem tyX2_ok : ∀ k, k < 3 → parseFieldDescriptor (TX2 k).2.2.1 = some (tyX2 k) := by decide +kernel
abbrev cX2_init : ByteArray := prog_4_method_1_code
def yX2_init : MethodName := ⟨RX2, "<init>", "()V"⟩
abbrev cX2_append : ByteArray := prog_4_method_2_code
def yX2_append : MethodName := ⟨RX2, "append", "(IIIII)I"⟩
abbrev cX2_numberOf : ByteArray := prog_4_method_3_code
def yX2_numberOf : MethodName := ⟨RX2, "numberOf", "(II)I"⟩
abbrev cX2_isStep : ByteArray := prog_4_method_4_code
def yX2_isStep : MethodName := ⟨RX2, "isStep", "(I)Z"⟩
abbrev cX2_lastOf : ByteArray := prog_4_method_5_code
def yX2_lastOf : MethodName := ⟨RX2, "lastOf", "(I)I"⟩
abbrev cX2_stepsInAll : ByteArray := prog_4_method_6_code
def yX2_stepsInAll : MethodName := ⟨RX2, "stepsInAll", "()I"⟩
abbrev cX2_periodOf : ByteArray := prog_4_method_7_code
def yX2_periodOf : MethodName := ⟨RX2, "periodOf", "(I)I"⟩
abbrev cX2_earliestOf : ByteArray := prog_4_method_8_code
def yX2_earliestOf : MethodName := ⟨RX2, "earliestOf", "(I)I"⟩
abbrev cX2_isRival : ByteArray := prog_4_method_9_code
def yX2_isRival : MethodName := ⟨RX2, "isRival", "(II)Z"⟩
abbrev cX2_rivalsOf : ByteArray := prog_4_method_10_code
def yX2_rivalsOf : MethodName := ⟨RX2, "rivalsOf", "(I)I"⟩
abbrev cX2_loadBelow : ByteArray := prog_4_method_11_code
def yX2_loadBelow : MethodName := ⟨RX2, "loadBelow", "()I"⟩
abbrev cX2_loadAbove : ByteArray := prog_4_method_12_code
def yX2_loadAbove : MethodName := ⟨RX2, "loadAbove", "(I)I"⟩
abbrev cX2_isOverloaded : ByteArray := prog_4_method_13_code
def yX2_isOverloaded : MethodName := ⟨RX2, "isOverloaded", "(I)Z"⟩
abbrev cX2_overloadedSteps : ByteArray := prog_4_method_14_code
def yX2_overloadedSteps : MethodName := ⟨RX2, "overloadedSteps", "()I"⟩
abbrev cX2_loadPart : ByteArray := prog_4_method_15_code
def yX2_loadPart : MethodName := ⟨RX2, "loadPart", "(II)I"⟩
abbrev cX2_greatestDivisor : ByteArray := prog_4_method_16_code
def yX2_greatestDivisor : MethodName := ⟨RX2, "greatestDivisor", "(II)I"⟩
abbrev cX2_dueBits : ByteArray := prog_4_method_17_code
def yX2_dueBits : MethodName := ⟨RX2, "dueBits", "()I"⟩
def RX3 : String := "OffsetChains$Sheet"
def TX3 : u_T := fun k => match k with
  | 0 => ("OffsetChains$Sheet", "lost", "Z", false)
  | 1 => ("OffsetChains$Sheet", "form", "I", false)
  | 2 => ("OffsetChains$Sheet", "size", "I", false)
  | _ => ("OffsetChains$Sheet", "items", "[J", true)
def tyX3 : Nat → FieldType := fun k => match k with
  | 0 => .boolean
  | 1 => .int
  | 2 => .int
  | _ => .array .long
abbrev wsX30 : List Cond := u_ws RX3 TX3 4
theorem nmX3 : ∀ a, a < 4 → ∀ b, b < 4 → a ≠ b → (TX3 a).2.1 ≠ (TX3 b).2.1 := by decide +kernel
theorem tyX3_ok : ∀ k, k < 4 → parseFieldDescriptor (TX3 k).2.2.1 = some (tyX3 k) := by decide +kernel
abbrev cX3_init : ByteArray := prog_5_method_1_code
def yX3_init : MethodName := ⟨RX3, "<init>", "()V"⟩
abbrev cX3_begin : ByteArray := prog_5_method_2_code
def yX3_begin : MethodName := ⟨RX3, "begin", "(II)V"⟩
abbrev cX3_troubleAt : ByteArray := prog_5_method_3_code
def yX3_troubleAt : MethodName := ⟨RX3, "troubleAt", "(II)I"⟩
abbrev cX3_hasRange : ByteArray := prog_5_method_4_code
def yX3_hasRange : MethodName := ⟨RX3, "hasRange", "(II)Z"⟩
abbrev cX3_put : ByteArray := prog_5_method_5_code
def yX3_put : MethodName := ⟨RX3, "put", "(IJ)V"⟩
def RX4 : String := "OffsetChains"
def TX4 : u_T := fun k => match k with
  | 0 => ("OffsetChains", "plan", "LOffsetChains$Plan;", true)
  | 1 => ("OffsetChains", "answers", "LOffsetChains$Answers;", true)
  | 2 => ("OffsetChains", "trial", "LOffsetChains$Answers;", true)
  | 3 => ("OffsetChains", "course", "LOffsetChains$Course;", true)
  | 4 => ("OffsetChains", "sheets", "[LOffsetChains$Sheet;", true)
  | _ => ("OffsetChains", "finding", "I", false)
def tyX4 : Nat → FieldType := fun k => match k with
  | 0 => .object "OffsetChains$Plan"
  | 1 => .object "OffsetChains$Answers"
  | 2 => .object "OffsetChains$Answers"
  | 3 => .object "OffsetChains$Course"
  | 4 => .array (.object "OffsetChains$Sheet")
  | _ => .int
abbrev wsX40 : List Cond := u_ws RX4 TX4 6
theorem nmX4 : ∀ a, a < 6 → ∀ b, b < 6 → a ≠ b → (TX4 a).2.1 ≠ (TX4 b).2.1 := by decide +kernel
theorem tyX4_ok : ∀ k, k < 6 → parseFieldDescriptor (TX4 k).2.2.1 = some (tyX4 k) := by decide +kernel
abbrev cX4_init : ByteArray := prog_1_method_1_code
def yX4_init : MethodName := ⟨RX4, "<init>", "()V"⟩
abbrev cX4_chain : ByteArray := prog_1_method_2_code
def yX4_chain : MethodName := ⟨RX4, "chain", "(III)I"⟩
abbrev cX4_step : ByteArray := prog_1_method_3_code
def yX4_step : MethodName := ⟨RX4, "step", "(IIIII)I"⟩
abbrev cX4_back : ByteArray := prog_1_method_4_code
def yX4_back : MethodName := ⟨RX4, "back", "(I)I"⟩
abbrev cX4_tune : ByteArray := prog_1_method_5_code
def yX4_tune : MethodName := ⟨RX4, "tune", "(IIII)I"⟩
abbrev cX4_read : ByteArray := prog_1_method_6_code
def yX4_read : MethodName := ⟨RX4, "read", "(II)I"⟩
abbrev cX4_has : ByteArray := prog_1_method_7_code
def yX4_has : MethodName := ⟨RX4, "has", "(II)I"⟩
abbrev cX4_info : ByteArray := prog_1_method_8_code
def yX4_info : MethodName := ⟨RX4, "info", "(III)I"⟩
abbrev cX4_load : ByteArray := prog_1_method_9_code
def yX4_load : MethodName := ⟨RX4, "load", "(III)I"⟩
abbrev cX4_bound : ByteArray := prog_1_method_10_code
def yX4_bound : MethodName := ⟨RX4, "bound", "(II)I"⟩
abbrev cX4_searched : ByteArray := prog_1_method_11_code
def yX4_searched : MethodName := ⟨RX4, "searched", "(II)I"⟩
abbrev cX4_quick : ByteArray := prog_1_method_12_code
def yX4_quick : MethodName := ⟨RX4, "quick", "(II)I"⟩
abbrev cX4_rounds : ByteArray := prog_1_method_13_code
def yX4_rounds : MethodName := ⟨RX4, "rounds", "()I"⟩
abbrev cX4_worst : ByteArray := prog_1_method_14_code
def yX4_worst : MethodName := ⟨RX4, "worst", "(III)I"⟩
abbrev cX4_meets : ByteArray := prog_1_method_15_code
def yX4_meets : MethodName := ⟨RX4, "meets", "()I"⟩
abbrev cX4_margin : ByteArray := prog_1_method_16_code
def yX4_margin : MethodName := ⟨RX4, "margin", "(II)I"⟩
abbrev cX4_better : ByteArray := prog_1_method_17_code
def yX4_better : MethodName := ⟨RX4, "better", "(III)I"⟩
abbrev cX4_run : ByteArray := prog_1_method_18_code
def yX4_run : MethodName := ⟨RX4, "run", "(I)I"⟩
abbrev cX4_seen : ByteArray := prog_1_method_19_code
def yX4_seen : MethodName := ⟨RX4, "seen", "(III)I"⟩
abbrev cX4_tick : ByteArray := prog_1_method_20_code
def yX4_tick : MethodName := ⟨RX4, "tick", "(II)I"⟩
abbrev cX4_sheet : ByteArray := prog_1_method_21_code
def yX4_sheet : MethodName := ⟨RX4, "sheet", "(III)I"⟩
abbrev cX4_lose : ByteArray := prog_1_method_22_code
def yX4_lose : MethodName := ⟨RX4, "lose", "(I)I"⟩
abbrev cX4_lay : ByteArray := prog_1_method_23_code
def yX4_lay : MethodName := ⟨RX4, "lay", "(IIII)I"⟩
abbrev cX4_get : ByteArray := prog_1_method_24_code
def yX4_get : MethodName := ⟨RX4, "get", "(III)J"⟩
abbrev cX4_copy : ByteArray := prog_1_method_25_code
def yX4_copy : MethodName := ⟨RX4, "copy", "(IIIII)I"⟩
abbrev cX4_write : ByteArray := prog_1_method_26_code
def yX4_write : MethodName := ⟨RX4, "write", "(I)I"⟩
abbrev cX4_count : ByteArray := prog_1_method_27_code
def yX4_count : MethodName := ⟨RX4, "count", "(I)I"⟩
abbrev cX4_digest : ByteArray := prog_1_method_28_code
def yX4_digest : MethodName := ⟨RX4, "digest", "()J"⟩
abbrev cX4_within : ByteArray := prog_1_method_29_code
def yX4_within : MethodName := ⟨RX4, "within", "(JII)Z"⟩
abbrev cX4_isChain : ByteArray := prog_1_method_30_code
def yX4_isChain : MethodName := ⟨RX4, "isChain", "(I)Z"⟩
abbrev cX4_isSheet : ByteArray := prog_1_method_31_code
def yX4_isSheet : MethodName := ⟨RX4, "isSheet", "(I)Z"⟩
abbrev cX4_isForm : ByteArray := prog_1_method_32_code
def yX4_isForm : MethodName := ⟨RX4, "isForm", "(I)Z"⟩
abbrev cX4_isMark : ByteArray := prog_1_method_33_code
def yX4_isMark : MethodName := ⟨RX4, "isMark", "(IJ)Z"⟩
abbrev cX4_holdsStep : ByteArray := prog_1_method_34_code
def yX4_holdsStep : MethodName := ⟨RX4, "holdsStep", "(LOffsetChains$Sheet;I)Z"⟩
abbrev cX4_found : ByteArray := prog_1_method_35_code
def yX4_found : MethodName := ⟨RX4, "found", "(I)I"⟩
abbrev cX4_traitOf : ByteArray := prog_1_method_36_code
def yX4_traitOf : MethodName := ⟨RX4, "traitOf", "(II)I"⟩
abbrev cX4_infoOf : ByteArray := prog_1_method_37_code
def yX4_infoOf : MethodName := ⟨RX4, "infoOf", "(II)I"⟩
abbrev cX4_countOf : ByteArray := prog_1_method_38_code
def yX4_countOf : MethodName := ⟨RX4, "countOf", "(I)I"⟩
abbrev cX4_withStep : ByteArray := prog_1_method_39_code
def yX4_withStep : MethodName := ⟨RX4, "withStep", "(JI)J"⟩
def RX5 : String := "OffsetChainsModel"
def TX5 : u_T := fun k => match k with
  | 0 => ("OffsetChainsModel", "forms", "[I", true)
  | 1 => ("OffsetChainsModel", "sizes", "[I", true)
  | 2 => ("OffsetChainsModel", "items", "[J", true)
  | 3 => ("OffsetChainsModel", "moved", "[J", true)
  | 4 => ("OffsetChainsModel", "latest", "I", false)
  | 5 => ("OffsetChainsModel", "periods", "[I", true)
  | 6 => ("OffsetChainsModel", "jitters", "[I", true)
  | 7 => ("OffsetChainsModel", "deadlines", "[I", true)
  | 8 => ("OffsetChainsModel", "phases", "[I", true)
  | 9 => ("OffsetChainsModel", "strides", "[I", true)
  | 10 => ("OffsetChainsModel", "many", "[I", true)
  | 11 => ("OffsetChainsModel", "nodes", "[I", true)
  | 12 => ("OffsetChainsModel", "costs", "[I", true)
  | 13 => ("OffsetChainsModel", "priorities", "[I", true)
  | 14 => ("OffsetChainsModel", "lags", "[I", true)
  | 15 => ("OffsetChainsModel", "loadAbove", "J", false)
  | 16 => ("OffsetChainsModel", "loadBelow", "J", false)
  | 17 => ("OffsetChainsModel", "lates", "[I", true)
  | 18 => ("OffsetChainsModel", "picks", "[I", true)
  | 19 => ("OffsetChainsModel", "answer", "I", false)
  | 20 => ("OffsetChainsModel", "answerBy", "I", false)
  | 21 => ("OffsetChainsModel", "answerQ", "I", false)
  | 22 => ("OffsetChainsModel", "answerBusy", "I", false)
  | 23 => ("OffsetChainsModel", "bounds", "[I", true)
  | 24 => ("OffsetChainsModel", "worsts", "[I", true)
  | 25 => ("OffsetChainsModel", "worstQs", "[I", true)
  | 26 => ("OffsetChainsModel", "busys", "[I", true)
  | 27 => ("OffsetChainsModel", "settled", "Z", false)
  | 28 => ("OffsetChainsModel", "rounds", "I", false)
  | 29 => ("OffsetChainsModel", "readies", "[I", true)
  | 30 => ("OffsetChainsModel", "dones", "[I", true)
  | 31 => ("OffsetChainsModel", "greatest", "[I", true)
  | 32 => ("OffsetChainsModel", "least", "[I", true)
  | 33 => ("OffsetChainsModel", "ended", "[I", true)
  | 34 => ("OffsetChainsModel", "ticks", "[I", true)
  | _ => ("OffsetChainsModel", "ran", "I", false)
def tyX5 : Nat → FieldType := fun k => match k with
  | 0 => .array .int
  | 1 => .array .int
  | 2 => .array .long
  | 3 => .array .long
  | 4 => .int
  | 5 => .array .int
  | 6 => .array .int
  | 7 => .array .int
  | 8 => .array .int
  | 9 => .array .int
  | 10 => .array .int
  | 11 => .array .int
  | 12 => .array .int
  | 13 => .array .int
  | 14 => .array .int
  | 15 => .long
  | 16 => .long
  | 17 => .array .int
  | 18 => .array .int
  | 19 => .int
  | 20 => .int
  | 21 => .int
  | 22 => .int
  | 23 => .array .int
  | 24 => .array .int
  | 25 => .array .int
  | 26 => .array .int
  | 27 => .boolean
  | 28 => .int
  | 29 => .array .int
  | 30 => .array .int
  | 31 => .array .int
  | 32 => .array .int
  | 33 => .array .int
  | 34 => .array .int
  | _ => .int
abbrev wsX50 : List Cond := u_ws RX5 TX5 36
theorem nmX5 : ∀ a, a < 36 → ∀ b, b < 36 → a ≠ b → (TX5 a).2.1 ≠ (TX5 b).2.1 := by decide +kernel
theorem tyX5_ok : ∀ k, k < 36 → parseFieldDescriptor (TX5 k).2.2.1 = some (tyX5 k) := by decide +kernel
abbrev cX5_init : ByteArray := prog_7_method_1_code
def yX5_init : MethodName := ⟨RX5, "<init>", "()V"⟩
abbrev cX5_in : ByteArray := prog_7_method_3_code
def yX5_in : MethodName := ⟨RX5, "in", "(JJJ)Z"⟩
abbrev cX5_isTwo : ByteArray := prog_7_method_4_code
def yX5_isTwo : MethodName := ⟨RX5, "isTwo", "(I)Z"⟩
abbrev cX5_no : ByteArray := prog_7_method_5_code
def yX5_no : MethodName := ⟨RX5, "no", "(I)J"⟩
abbrev cX5_lesser : ByteArray := prog_7_method_6_code
def yX5_lesser : MethodName := ⟨RX5, "lesser", "(II)I"⟩
abbrev cX5_greater : ByteArray := prog_7_method_7_code
def yX5_greater : MethodName := ⟨RX5, "greater", "(II)I"⟩
abbrev cX5_finds : ByteArray := prog_7_method_8_code
def yX5_finds : MethodName := ⟨RX5, "finds", "(I)I"⟩
abbrev cX5_isSheet : ByteArray := prog_7_method_9_code
def yX5_isSheet : MethodName := ⟨RX5, "isSheet", "(I)Z"⟩
abbrev cX5_sheet : ByteArray := prog_7_method_10_code
def yX5_sheet : MethodName := ⟨RX5, "sheet", "(III)I"⟩
abbrev cX5_lose : ByteArray := prog_7_method_11_code
def yX5_lose : MethodName := ⟨RX5, "lose", "(I)I"⟩
abbrev cX5_lacks : ByteArray := prog_7_method_12_code
def yX5_lacks : MethodName := ⟨RX5, "lacks", "(III)I"⟩
abbrev cX5_lay : ByteArray := prog_7_method_13_code
def yX5_lay : MethodName := ⟨RX5, "lay", "(IIII)I"⟩
abbrev cX5_get : ByteArray := prog_7_method_14_code
def yX5_get : MethodName := ⟨RX5, "get", "(III)J"⟩
abbrev cX5_copy : ByteArray := prog_7_method_15_code
def yX5_copy : MethodName := ⟨RX5, "copy", "(IIIII)I"⟩
abbrev cX5_isChain : ByteArray := prog_7_method_16_code
def yX5_isChain : MethodName := ⟨RX5, "isChain", "(I)Z"⟩
abbrev cX5_isStep : ByteArray := prog_7_method_17_code
def yX5_isStep : MethodName := ⟨RX5, "isStep", "(II)Z"⟩
abbrev cX5_isThere : ByteArray := prog_7_method_18_code
def yX5_isThere : MethodName := ⟨RX5, "isThere", "(I)Z"⟩
abbrev cX5_hasBy : ByteArray := prog_7_method_19_code
def yX5_hasBy : MethodName := ⟨RX5, "hasBy", "(II)I"⟩
abbrev cX5_mayChain : ByteArray := prog_7_method_20_code
def yX5_mayChain : MethodName := ⟨RX5, "mayChain", "(II)Z"⟩
abbrev cX5_chain : ByteArray := prog_7_method_21_code
def yX5_chain : MethodName := ⟨RX5, "chain", "(III)I"⟩
abbrev cX5_mayStep : ByteArray := prog_7_method_22_code
def yX5_mayStep : MethodName := ⟨RX5, "mayStep", "(IJ)Z"⟩
abbrev cX5_tells : ByteArray := prog_7_method_23_code
def yX5_tells : MethodName := ⟨RX5, "tells", "(III)V"⟩
abbrev cX5_step : ByteArray := prog_7_method_24_code
def yX5_step : MethodName := ⟨RX5, "step", "(IIIII)I"⟩
abbrev cX5_back : ByteArray := prog_7_method_25_code
def yX5_back : MethodName := ⟨RX5, "back", "(I)I"⟩
abbrev cX5_toldBy : ByteArray := prog_7_method_26_code
def yX5_toldBy : MethodName := ⟨RX5, "toldBy", "(II)I"⟩
abbrev cX5_tune : ByteArray := prog_7_method_27_code
def yX5_tune : MethodName := ⟨RX5, "tune", "(IIII)I"⟩
abbrev cX5_read : ByteArray := prog_7_method_28_code
def yX5_read : MethodName := ⟨RX5, "read", "(II)I"⟩
abbrev cX5_has : ByteArray := prog_7_method_29_code
def yX5_has : MethodName := ⟨RX5, "has", "(II)I"⟩
abbrev cX5_earliest : ByteArray := prog_7_method_30_code
def yX5_earliest : MethodName := ⟨RX5, "earliest", "(I)I"⟩
abbrev cX5_isRival : ByteArray := prog_7_method_31_code
def yX5_isRival : MethodName := ⟨RX5, "isRival", "(II)Z"⟩
abbrev cX5_rivals : ByteArray := prog_7_method_32_code
def yX5_rivals : MethodName := ⟨RX5, "rivals", "(I)I"⟩
abbrev cX5_loads : ByteArray := prog_7_method_33_code
def yX5_loads : MethodName := ⟨RX5, "loads", "(I)V"⟩
abbrev cX5_isOver : ByteArray := prog_7_method_34_code
def yX5_isOver : MethodName := ⟨RX5, "isOver", "(I)Z"⟩
abbrev cX5_loadBy : ByteArray := prog_7_method_35_code
def yX5_loadBy : MethodName := ⟨RX5, "loadBy", "(II)I"⟩
abbrev cX5_load : ByteArray := prog_7_method_36_code
def yX5_load : MethodName := ⟨RX5, "load", "(III)I"⟩
abbrev cX5_phi : ByteArray := prog_7_method_37_code
def yX5_phi : MethodName := ⟨RX5, "phi", "(II)I"⟩
abbrev cX5_up : ByteArray := prog_7_method_38_code
def yX5_up : MethodName := ⟨RX5, "up", "(II)I"⟩
abbrev cX5_comes : ByteArray := prog_7_method_39_code
def yX5_comes : MethodName := ⟨RX5, "comes", "(III)I"⟩
abbrev cX5_work : ByteArray := prog_7_method_40_code
def yX5_work : MethodName := ⟨RX5, "work", "(III)I"⟩
abbrev cX5_others : ByteArray := prog_7_method_41_code
def yX5_others : MethodName := ⟨RX5, "others", "(II)I"⟩
abbrev cX5_holds : ByteArray := prog_7_method_42_code
def yX5_holds : MethodName := ⟨RX5, "holds", "(III)I"⟩
abbrev cX5_answers : ByteArray := prog_7_method_43_code
def yX5_answers : MethodName := ⟨RX5, "answers", "(I)Z"⟩
abbrev cX5_answersBy : ByteArray := prog_7_method_44_code
def yX5_answersBy : MethodName := ⟨RX5, "answersBy", "(III)Z"⟩
abbrev cX5_picksAll : ByteArray := prog_7_method_45_code
def yX5_picksAll : MethodName := ⟨RX5, "picksAll", "()V"⟩
abbrev cX5_boundsAll : ByteArray := prog_7_method_46_code
def yX5_boundsAll : MethodName := ⟨RX5, "boundsAll", "()Z"⟩
abbrev cX5_settles : ByteArray := prog_7_method_47_code
def yX5_settles : MethodName := ⟨RX5, "settles", "()V"⟩
abbrev cX5_infoBy : ByteArray := prog_7_method_48_code
def yX5_infoBy : MethodName := ⟨RX5, "infoBy", "(II)I"⟩
abbrev cX5_info : ByteArray := prog_7_method_49_code
def yX5_info : MethodName := ⟨RX5, "info", "(III)I"⟩
abbrev cX5_boundBy : ByteArray := prog_7_method_50_code
def yX5_boundBy : MethodName := ⟨RX5, "boundBy", "(I)I"⟩
abbrev cX5_bound : ByteArray := prog_7_method_51_code
def yX5_bound : MethodName := ⟨RX5, "bound", "(II)I"⟩
abbrev cX5_momentOf : ByteArray := prog_7_method_52_code
def yX5_momentOf : MethodName := ⟨RX5, "momentOf", "(III)I"⟩
abbrev cX5_searchedBy : ByteArray := prog_7_method_53_code
def yX5_searchedBy : MethodName := ⟨RX5, "searchedBy", "(I)I"⟩
abbrev cX5_searched : ByteArray := prog_7_method_54_code
def yX5_searched : MethodName := ⟨RX5, "searched", "(II)I"⟩
abbrev cX5_comesQuick : ByteArray := prog_7_method_55_code
def yX5_comesQuick : MethodName := ⟨RX5, "comesQuick", "(II)I"⟩
abbrev cX5_holdsQuick : ByteArray := prog_7_method_56_code
def yX5_holdsQuick : MethodName := ⟨RX5, "holdsQuick", "(II)I"⟩
abbrev cX5_quickBy : ByteArray := prog_7_method_57_code
def yX5_quickBy : MethodName := ⟨RX5, "quickBy", "(I)I"⟩
abbrev cX5_quick : ByteArray := prog_7_method_58_code
def yX5_quick : MethodName := ⟨RX5, "quick", "(II)I"⟩
abbrev cX5_roundsNow : ByteArray := prog_7_method_59_code
def yX5_roundsNow : MethodName := ⟨RX5, "roundsNow", "()I"⟩
abbrev cX5_rounds : ByteArray := prog_7_method_60_code
def yX5_rounds : MethodName := ⟨RX5, "rounds", "()I"⟩
abbrev cX5_worstBy : ByteArray := prog_7_method_61_code
def yX5_worstBy : MethodName := ⟨RX5, "worstBy", "(II)I"⟩
abbrev cX5_worst : ByteArray := prog_7_method_62_code
def yX5_worst : MethodName := ⟨RX5, "worst", "(III)I"⟩
abbrev cX5_isAsked : ByteArray := prog_7_method_63_code
def yX5_isAsked : MethodName := ⟨RX5, "isAsked", "(I)Z"⟩
abbrev cX5_isMet : ByteArray := prog_7_method_64_code
def yX5_isMet : MethodName := ⟨RX5, "isMet", "(I)Z"⟩
abbrev cX5_meetsNow : ByteArray := prog_7_method_65_code
def yX5_meetsNow : MethodName := ⟨RX5, "meetsNow", "()I"⟩
abbrev cX5_meets : ByteArray := prog_7_method_66_code
def yX5_meets : MethodName := ⟨RX5, "meets", "()I"⟩
abbrev cX5_allMeet : ByteArray := prog_7_method_67_code
def yX5_allMeet : MethodName := ⟨RX5, "allMeet", "()Z"⟩
abbrev cX5_marginBy : ByteArray := prog_7_method_68_code
def yX5_marginBy : MethodName := ⟨RX5, "marginBy", "(I)I"⟩
abbrev cX5_margin : ByteArray := prog_7_method_69_code
def yX5_margin : MethodName := ⟨RX5, "margin", "(II)I"⟩
abbrev cX5_betterBy : ByteArray := prog_7_method_70_code
def yX5_betterBy : MethodName := ⟨RX5, "betterBy", "(II)I"⟩
abbrev cX5_better : ByteArray := prog_7_method_71_code
def yX5_better : MethodName := ⟨RX5, "better", "(III)I"⟩
abbrev cX5_releaseOf : ByteArray := prog_7_method_72_code
def yX5_releaseOf : MethodName := ⟨RX5, "releaseOf", "(II)I"⟩
abbrev cX5_begins : ByteArray := prog_7_method_73_code
def yX5_begins : MethodName := ⟨RX5, "begins", "()V"⟩
abbrev cX5_does : ByteArray := prog_7_method_74_code
def yX5_does : MethodName := ⟨RX5, "does", "(II)I"⟩
abbrev cX5_ends : ByteArray := prog_7_method_75_code
def yX5_ends : MethodName := ⟨RX5, "ends", "(II)V"⟩
abbrev cX5_endedNow : ByteArray := prog_7_method_76_code
def yX5_endedNow : MethodName := ⟨RX5, "endedNow", "()I"⟩
abbrev cX5_run : ByteArray := prog_7_method_77_code
def yX5_run : MethodName := ⟨RX5, "run", "(I)I"⟩
abbrev cX5_seenBy : ByteArray := prog_7_method_78_code
def yX5_seenBy : MethodName := ⟨RX5, "seenBy", "(II)I"⟩
abbrev cX5_seen : ByteArray := prog_7_method_79_code
def yX5_seen : MethodName := ⟨RX5, "seen", "(III)I"⟩
abbrev cX5_tickBy : ByteArray := prog_7_method_80_code
def yX5_tickBy : MethodName := ⟨RX5, "tickBy", "(II)I"⟩
abbrev cX5_tick : ByteArray := prog_7_method_81_code
def yX5_tick : MethodName := ⟨RX5, "tick", "(II)I"⟩
abbrev cX5_idle : ByteArray := prog_7_method_82_code
def yX5_idle : MethodName := ⟨RX5, "idle", "(I)I"⟩
abbrev cX5_write : ByteArray := prog_7_method_83_code
def yX5_write : MethodName := ⟨RX5, "write", "(I)I"⟩
abbrev cX5_over : ByteArray := prog_7_method_84_code
def yX5_over : MethodName := ⟨RX5, "over", "()I"⟩
abbrev cX5_countBy : ByteArray := prog_7_method_85_code
def yX5_countBy : MethodName := ⟨RX5, "countBy", "(I)I"⟩
abbrev cX5_count : ByteArray := prog_7_method_86_code
def yX5_count : MethodName := ⟨RX5, "count", "(I)I"⟩
abbrev cX5_stepTells : ByteArray := prog_7_method_87_code
def yX5_stepTells : MethodName := ⟨RX5, "stepTells", "(JI)J"⟩
abbrev cX5_digest : ByteArray := prog_7_method_88_code
def yX5_digest : MethodName := ⟨RX5, "digest", "()J"⟩
def RJ6 : String := "java/lang/Integer"
def TJ6 : u_T := fun k => match k with
  | _ => ("", "", "", false)
def tyJ6 : Nat → FieldType := fun k => match k with
  | _ => .int
abbrev wsJ60 : List Cond := u_ws RJ6 TJ6 0
theorem nmJ6 : ∀ a, a < 0 → ∀ b, b < 0 → a ≠ b → (TJ6 a).2.1 ≠ (TJ6 b).2.1 := by decide +kernel
theorem tyJ6_ok : ∀ k, k < 0 → parseFieldDescriptor (TJ6 k).2.2.1 = some (tyJ6 k) := by decide +kernel
abbrev cJ6_bitCount_0f7a4 : ByteArray := prog_8_method_49_code
def yJ6_bitCount_0f7a4 : MethodName := ⟨RJ6, "bitCount", "(I)I"⟩
def RJ9 : String := "java/lang/Math"
def TJ9 : u_T := fun k => match k with
  | _ => ("", "", "", false)
def tyJ9 : Nat → FieldType := fun k => match k with
  | _ => .int
abbrev wsJ90 : List Cond := u_ws RJ9 TJ9 0
theorem nmJ9 : ∀ a, a < 0 → ∀ b, b < 0 → a ≠ b → (TJ9 a).2.1 ≠ (TJ9 b).2.1 := by decide +kernel
theorem tyJ9_ok : ∀ k, k < 0 → parseFieldDescriptor (TJ9 k).2.2.1 = some (tyJ9 k) := by decide +kernel
abbrev cJ9_floorMod_7cf53 : ByteArray := prog_9_method_50_code
def yJ9_floorMod_7cf53 : MethodName := ⟨RJ9, "floorMod", "(II)I"⟩
abbrev cJ9_max_7cf53 : ByteArray := prog_9_method_65_code
def yJ9_max_7cf53 : MethodName := ⟨RJ9, "max", "(II)I"⟩
abbrev cJ9_min_7cf53 : ByteArray := prog_9_method_69_code
def yJ9_min_7cf53 : MethodName := ⟨RJ9, "min", "(II)I"⟩
def RJ10 : String := "java/lang/System"
def TJ10 : u_T := fun k => match k with
  | _ => ("", "", "", false)
def tyJ10 : Nat → FieldType := fun k => match k with
  | _ => .int
abbrev wsJ100 : List Cond := u_ws RJ10 TJ10 0
theorem nmJ10 : ∀ a, a < 0 → ∀ b, b < 0 → a ≠ b → (TJ10 a).2.1 ≠ (TJ10 b).2.1 := by decide +kernel
theorem tyJ10_ok : ∀ k, k < 0 → parseFieldDescriptor (TJ10 k).2.2.1 = some (tyJ10 k) := by decide +kernel
def RJ7 : String := "java/util/Arrays"
def TJ7 : u_T := fun k => match k with
  | _ => ("", "", "", false)
def tyJ7 : Nat → FieldType := fun k => match k with
  | _ => .int
abbrev wsJ70 : List Cond := u_ws RJ7 TJ7 0
theorem nmJ7 : ∀ a, a < 0 → ∀ b, b < 0 → a ≠ b → (TJ7 a).2.1 ≠ (TJ7 b).2.1 := by decide +kernel
theorem tyJ7_ok : ∀ k, k < 0 → parseFieldDescriptor (TJ7 k).2.2.1 = some (tyJ7 k) := by decide +kernel
abbrev cJ7_fill_d0a16 : ByteArray := prog_11_method_101_code
def yJ7_fill_d0a16 : MethodName := ⟨RJ7, "fill", "([JJ)V"⟩
abbrev cJ7_fill_53178 : ByteArray := prog_11_method_103_code
def yJ7_fill_53178 : MethodName := ⟨RJ7, "fill", "([II)V"⟩
def RL : String := "OffsetChainsLaw"
abbrev cL_law : ByteArray := code
def yL_law : MethodName := ⟨RL, "law", "([I)Z"⟩
set_option maxRecDepth 20000 in
theorem inX0 : ∀ w ∈ wsX00, w ∈ lw_tbl := by decide +kernel
set_option maxRecDepth 20000 in
theorem inX1 : ∀ w ∈ wsX10, w ∈ lw_tbl := by decide +kernel
set_option maxRecDepth 20000 in
theorem inX2 : ∀ w ∈ wsX20, w ∈ lw_tbl := by decide +kernel
set_option maxRecDepth 20000 in
theorem inX3 : ∀ w ∈ wsX30, w ∈ lw_tbl := by decide +kernel
set_option maxRecDepth 20000 in
theorem inX4 : ∀ w ∈ wsX40, w ∈ lw_tbl := by decide +kernel
set_option maxRecDepth 20000 in
theorem inX5 : ∀ w ∈ wsX50, w ∈ lw_tbl := by decide +kernel
theorem inJ6 : ∀ w ∈ wsJ60, w ∈ lw_tbl := by decide +kernel
theorem inJ9 : ∀ w ∈ wsJ90, w ∈ lw_tbl := by decide +kernel
theorem inJ10 : ∀ w ∈ wsJ100, w ∈ lw_tbl := by decide +kernel
theorem inJ7 : ∀ w ∈ wsJ70, w ∈ lw_tbl := by decide +kernel
abbrev vwCl : List vw_C := [(RX0, TX0, 18), (RX1, TX1, 10), (RX2, TX2, 3), (RX3, TX3, 4), (RX4, TX4, 6), (RX5, TX5, 36)]
end
section
theorem dX0_init_0 : decode cX0_init 0 = .ok (.aload_n 0, 1) := by decide +kernel
theorem dX0_init_1 : decode cX0_init 1 = .ok (.invokespecial 3, 3) := by decide +kernel
theorem dX0_init_4 : decode cX0_init 4 = .ok (.aload_n 0, 1) := by decide +kernel
theorem dX0_init_5 : decode cX0_init 5 = .ok (.iconst 3, 1) := by decide +kernel
theorem dX0_init_6 : decode cX0_init 6 = .ok (.newarray .int, 2) := by decide +kernel
theorem dX0_init_8 : decode cX0_init 8 = .ok (.putfield 9, 3) := by decide +kernel
theorem dX0_init_11 : decode cX0_init 11 = .ok (.aload_n 0, 1) := by decide +kernel
theorem dX0_init_12 : decode cX0_init 12 = .ok (.bipush 9, 2) := by decide +kernel
theorem dX0_init_14 : decode cX0_init 14 = .ok (.newarray .int, 2) := by decide +kernel
theorem dX0_init_16 : decode cX0_init 16 = .ok (.putfield 15, 3) := by decide +kernel
theorem dX0_init_19 : decode cX0_init 19 = .ok (.aload_n 0, 1) := by decide +kernel
theorem dX0_init_20 : decode cX0_init 20 = .ok (.bipush 9, 2) := by decide +kernel
theorem dX0_init_22 : decode cX0_init 22 = .ok (.newarray .int, 2) := by decide +kernel
theorem dX0_init_24 : decode cX0_init 24 = .ok (.putfield 18, 3) := by decide +kernel
theorem dX0_init_27 : decode cX0_init 27 = .ok (.aload_n 0, 1) := by decide +kernel
theorem dX0_init_28 : decode cX0_init 28 = .ok (.bipush 9, 2) := by decide +kernel
theorem dX0_init_30 : decode cX0_init 30 = .ok (.newarray .int, 2) := by decide +kernel
theorem dX0_init_32 : decode cX0_init 32 = .ok (.putfield 21, 3) := by decide +kernel
theorem dX0_init_35 : decode cX0_init 35 = .ok (.aload_n 0, 1) := by decide +kernel
theorem dX0_init_36 : decode cX0_init 36 = .ok (.bipush 9, 2) := by decide +kernel
theorem dX0_init_38 : decode cX0_init 38 = .ok (.newarray .int, 2) := by decide +kernel
theorem dX0_init_40 : decode cX0_init 40 = .ok (.putfield 24, 3) := by decide +kernel
theorem dX0_init_43 : decode cX0_init 43 = .ok (.aload_n 0, 1) := by decide +kernel
theorem dX0_init_44 : decode cX0_init 44 = .ok (.bipush 9, 2) := by decide +kernel
theorem dX0_init_46 : decode cX0_init 46 = .ok (.newarray .int, 2) := by decide +kernel
theorem dX0_init_48 : decode cX0_init 48 = .ok (.putfield 27, 3) := by decide +kernel
theorem dX0_init_51 : decode cX0_init 51 = .ok (.aload_n 0, 1) := by decide +kernel
theorem dX0_init_52 : decode cX0_init 52 = .ok (.bipush 27, 2) := by decide +kernel
theorem dX0_init_54 : decode cX0_init 54 = .ok (.newarray .int, 2) := by decide +kernel
theorem dX0_init_56 : decode cX0_init 56 = .ok (.putfield 30, 3) := by decide +kernel
theorem dX0_init_59 : decode cX0_init 59 = .ok (.aload_n 0, 1) := by decide +kernel
theorem dX0_init_60 : decode cX0_init 60 = .ok (.bipush 27, 2) := by decide +kernel
theorem dX0_init_62 : decode cX0_init 62 = .ok (.newarray .int, 2) := by decide +kernel
theorem dX0_init_64 : decode cX0_init 64 = .ok (.putfield 33, 3) := by decide +kernel
theorem dX0_init_67 : decode cX0_init 67 = .ok (.aload_n 0, 1) := by decide +kernel
theorem dX0_init_68 : decode cX0_init 68 = .ok (.bipush 9, 2) := by decide +kernel
theorem dX0_init_70 : decode cX0_init 70 = .ok (.newarray .int, 2) := by decide +kernel
theorem dX0_init_72 : decode cX0_init 72 = .ok (.putfield 36, 3) := by decide +kernel
theorem dX0_init_75 : decode cX0_init 75 = .ok (.aload_n 0, 1) := by decide +kernel
theorem dX0_init_76 : decode cX0_init 76 = .ok (.iconst 3, 1) := by decide +kernel
theorem dX0_init_77 : decode cX0_init 77 = .ok (.newarray .int, 2) := by decide +kernel
theorem dX0_init_79 : decode cX0_init 79 = .ok (.putfield 39, 3) := by decide +kernel
theorem dX0_init_82 : decode cX0_init 82 = .ok (.aload_n 0, 1) := by decide +kernel
theorem dX0_init_83 : decode cX0_init 83 = .ok (.iconst 3, 1) := by decide +kernel
theorem dX0_init_84 : decode cX0_init 84 = .ok (.newarray .int, 2) := by decide +kernel
theorem dX0_init_86 : decode cX0_init 86 = .ok (.putfield 42, 3) := by decide +kernel
theorem dX0_init_89 : decode cX0_init 89 = .ok (.aload_n 0, 1) := by decide +kernel
theorem dX0_init_90 : decode cX0_init 90 = .ok (.aload_n 1, 1) := by decide +kernel
theorem dX0_init_91 : decode cX0_init 91 = .ok (.putfield 45, 3) := by decide +kernel
theorem dX0_init_94 : decode cX0_init 94 = .ok (.aload_n 0, 1) := by decide +kernel
theorem dX0_init_95 : decode cX0_init 95 = .ok (.iconst (-1), 1) := by decide +kernel
theorem dX0_init_96 : decode cX0_init 96 = .ok (.putfield 49, 3) := by decide +kernel
theorem dX0_init_99 : decode cX0_init 99 = .ok (.aload_n 0, 1) := by decide +kernel
theorem dX0_init_100 : decode cX0_init 100 = .ok (.iconst 1, 1) := by decide +kernel
theorem dX0_init_101 : decode cX0_init 101 = .ok (.putfield 53, 3) := by decide +kernel
theorem dX0_init_104 : decode cX0_init 104 = .ok (.return_, 1) := by decide +kernel
theorem dX0_settle_0 : decode cX0_settle 0 = .ok (.aload_n 0, 1) := by decide +kernel
theorem dX0_settle_1 : decode cX0_settle 1 = .ok (.getfield 53, 3) := by decide +kernel
theorem dX0_settle_4 : decode cX0_settle 4 = .ok (.ifCond .ne 4, 3) := by decide +kernel
theorem dX0_settle_7 : decode cX0_settle 7 = .ok (.return_, 1) := by decide +kernel
theorem dX0_settle_8 : decode cX0_settle 8 = .ok (.aload_n 0, 1) := by decide +kernel
theorem dX0_settle_9 : decode cX0_settle 9 = .ok (.iconst 0, 1) := by decide +kernel
theorem dX0_settle_10 : decode cX0_settle 10 = .ok (.putfield 53, 3) := by decide +kernel
theorem dX0_settle_13 : decode cX0_settle 13 = .ok (.aload_n 0, 1) := by decide +kernel
theorem dX0_settle_14 : decode cX0_settle 14 = .ok (.iconst (-1), 1) := by decide +kernel
theorem dX0_settle_15 : decode cX0_settle 15 = .ok (.putfield 49, 3) := by decide +kernel
theorem dX0_settle_18 : decode cX0_settle 18 = .ok (.iconst 0, 1) := by decide +kernel
theorem dX0_settle_19 : decode cX0_settle 19 = .ok (.istore_n 1, 1) := by decide +kernel
theorem dX0_settle_20 : decode cX0_settle 20 = .ok (.iload_n 1, 1) := by decide +kernel
theorem dX0_settle_21 : decode cX0_settle 21 = .ok (.iconst 3, 1) := by decide +kernel
theorem dX0_settle_22 : decode cX0_settle 22 = .ok (.if_icmp .ge 23, 3) := by decide +kernel
theorem dX0_settle_25 : decode cX0_settle 25 = .ok (.aload_n 0, 1) := by decide +kernel
theorem dX0_settle_26 : decode cX0_settle 26 = .ok (.getfield 9, 3) := by decide +kernel
theorem dX0_settle_29 : decode cX0_settle 29 = .ok (.iload_n 1, 1) := by decide +kernel
theorem dX0_settle_30 : decode cX0_settle 30 = .ok (.aload_n 0, 1) := by decide +kernel
theorem dX0_settle_31 : decode cX0_settle 31 = .ok (.getfield 45, 3) := by decide +kernel
theorem dX0_settle_34 : decode cX0_settle 34 = .ok (.iload_n 1, 1) := by decide +kernel
theorem dX0_settle_35 : decode cX0_settle 35 = .ok (.invokevirtual 57, 3) := by decide +kernel
theorem dX0_settle_38 : decode cX0_settle 38 = .ok (.iastore, 1) := by decide +kernel
theorem dX0_settle_39 : decode cX0_settle 39 = .ok (.iinc 1 1, 3) := by decide +kernel
theorem dX0_settle_42 : decode cX0_settle 42 = .ok (.goto (-22), 3) := by decide +kernel
theorem dX0_settle_45 : decode cX0_settle 45 = .ok (.iconst 0, 1) := by decide +kernel
theorem dX0_settle_46 : decode cX0_settle 46 = .ok (.istore_n 1, 1) := by decide +kernel
theorem dX0_settle_47 : decode cX0_settle 47 = .ok (.iload_n 1, 1) := by decide +kernel
theorem dX0_settle_48 : decode cX0_settle 48 = .ok (.bipush 9, 2) := by decide +kernel
theorem dX0_settle_50 : decode cX0_settle 50 = .ok (.if_icmp .ge 38, 3) := by decide +kernel
theorem dX0_settle_53 : decode cX0_settle 53 = .ok (.aload_n 0, 1) := by decide +kernel
theorem dX0_settle_54 : decode cX0_settle 54 = .ok (.getfield 15, 3) := by decide +kernel
theorem dX0_settle_57 : decode cX0_settle 57 = .ok (.iload_n 1, 1) := by decide +kernel
theorem dX0_settle_58 : decode cX0_settle 58 = .ok (.iload_n 1, 1) := by decide +kernel
theorem dX0_settle_59 : decode cX0_settle 59 = .ok (.iconst 3, 1) := by decide +kernel
theorem dX0_settle_60 : decode cX0_settle 60 = .ok (.irem, 1) := by decide +kernel
theorem dX0_settle_61 : decode cX0_settle 61 = .ok (.ifCond .ne 19, 3) := by decide +kernel
theorem dX0_settle_64 : decode cX0_settle 64 = .ok (.aload_n 0, 1) := by decide +kernel
theorem dX0_settle_65 : decode cX0_settle 65 = .ok (.getfield 45, 3) := by decide +kernel
theorem dX0_settle_68 : decode cX0_settle 68 = .ok (.getfield 63, 3) := by decide +kernel
theorem dX0_settle_71 : decode cX0_settle 71 = .ok (.iconst 1, 1) := by decide +kernel
theorem dX0_settle_72 : decode cX0_settle 72 = .ok (.aaload, 1) := by decide +kernel
theorem dX0_settle_73 : decode cX0_settle 73 = .ok (.iload_n 1, 1) := by decide +kernel
theorem dX0_settle_74 : decode cX0_settle 74 = .ok (.iconst 3, 1) := by decide +kernel
theorem dX0_settle_75 : decode cX0_settle 75 = .ok (.idiv, 1) := by decide +kernel
theorem dX0_settle_76 : decode cX0_settle 76 = .ok (.iaload, 1) := by decide +kernel
theorem dX0_settle_77 : decode cX0_settle 77 = .ok (.goto 4, 3) := by decide +kernel
theorem dX0_settle_80 : decode cX0_settle 80 = .ok (.iconst 0, 1) := by decide +kernel
theorem dX0_settle_81 : decode cX0_settle 81 = .ok (.iastore, 1) := by decide +kernel
theorem dX0_settle_82 : decode cX0_settle 82 = .ok (.iinc 1 1, 3) := by decide +kernel
theorem dX0_settle_85 : decode cX0_settle 85 = .ok (.goto (-38), 3) := by decide +kernel
theorem dX0_settle_88 : decode cX0_settle 88 = .ok (.iconst 1, 1) := by decide +kernel
theorem dX0_settle_89 : decode cX0_settle 89 = .ok (.istore_n 1, 1) := by decide +kernel
theorem dX0_settle_90 : decode cX0_settle 90 = .ok (.iload_n 1, 1) := by decide +kernel
theorem dX0_settle_91 : decode cX0_settle 91 = .ok (.bipush 20, 2) := by decide +kernel
theorem dX0_settle_93 : decode cX0_settle 93 = .ok (.if_icmp .gt 30, 3) := by decide +kernel
theorem dX0_settle_96 : decode cX0_settle 96 = .ok (.aload_n 0, 1) := by decide +kernel
theorem dX0_settle_97 : decode cX0_settle 97 = .ok (.invokevirtual 67, 3) := by decide +kernel
theorem dX0_settle_100 : decode cX0_settle 100 = .ok (.ifCond .ne 4, 3) := by decide +kernel
theorem dX0_settle_103 : decode cX0_settle 103 = .ok (.return_, 1) := by decide +kernel
theorem dX0_settle_104 : decode cX0_settle 104 = .ok (.aload_n 0, 1) := by decide +kernel
theorem dX0_settle_105 : decode cX0_settle 105 = .ok (.invokevirtual 71, 3) := by decide +kernel
theorem dX0_settle_108 : decode cX0_settle 108 = .ok (.ifCond .ne 9, 3) := by decide +kernel
theorem dX0_settle_111 : decode cX0_settle 111 = .ok (.aload_n 0, 1) := by decide +kernel
theorem dX0_settle_112 : decode cX0_settle 112 = .ok (.iload_n 1, 1) := by decide +kernel
theorem dX0_settle_113 : decode cX0_settle 113 = .ok (.putfield 49, 3) := by decide +kernel
theorem dX0_settle_116 : decode cX0_settle 116 = .ok (.return_, 1) := by decide +kernel
theorem dX0_settle_117 : decode cX0_settle 117 = .ok (.iinc 1 1, 3) := by decide +kernel
theorem dX0_settle_120 : decode cX0_settle 120 = .ok (.goto (-30), 3) := by decide +kernel
theorem dX0_settle_123 : decode cX0_settle 123 = .ok (.return_, 1) := by decide +kernel
theorem dX0_lateOf_0 : decode cX0_lateOf 0 = .ok (.aload_n 0, 1) := by decide +kernel
theorem dX0_lateOf_1 : decode cX0_lateOf 1 = .ok (.getfield 49, 3) := by decide +kernel
theorem dX0_lateOf_4 : decode cX0_lateOf 4 = .ok (.iconst (-1), 1) := by decide +kernel
theorem dX0_lateOf_5 : decode cX0_lateOf 5 = .ok (.if_icmp .ne 7, 3) := by decide +kernel
theorem dX0_lateOf_8 : decode cX0_lateOf 8 = .ok (.iconst (-1), 1) := by decide +kernel
theorem dX0_lateOf_9 : decode cX0_lateOf 9 = .ok (.goto 9, 3) := by decide +kernel
theorem dX0_lateOf_12 : decode cX0_lateOf 12 = .ok (.aload_n 0, 1) := by decide +kernel
theorem dX0_lateOf_13 : decode cX0_lateOf 13 = .ok (.getfield 15, 3) := by decide +kernel
theorem dX0_lateOf_16 : decode cX0_lateOf 16 = .ok (.iload_n 1, 1) := by decide +kernel
theorem dX0_lateOf_17 : decode cX0_lateOf 17 = .ok (.iaload, 1) := by decide +kernel
theorem dX0_lateOf_18 : decode cX0_lateOf 18 = .ok (.ireturn, 1) := by decide +kernel
theorem dX0_boundOf_0 : decode cX0_boundOf 0 = .ok (.aload_n 0, 1) := by decide +kernel
theorem dX0_boundOf_1 : decode cX0_boundOf 1 = .ok (.getfield 49, 3) := by decide +kernel
theorem dX0_boundOf_4 : decode cX0_boundOf 4 = .ok (.iconst (-1), 1) := by decide +kernel
theorem dX0_boundOf_5 : decode cX0_boundOf 5 = .ok (.if_icmp .ne 7, 3) := by decide +kernel
theorem dX0_boundOf_8 : decode cX0_boundOf 8 = .ok (.iconst (-1), 1) := by decide +kernel
theorem dX0_boundOf_9 : decode cX0_boundOf 9 = .ok (.goto 9, 3) := by decide +kernel
theorem dX0_boundOf_12 : decode cX0_boundOf 12 = .ok (.aload_n 0, 1) := by decide +kernel
theorem dX0_boundOf_13 : decode cX0_boundOf 13 = .ok (.getfield 18, 3) := by decide +kernel
theorem dX0_boundOf_16 : decode cX0_boundOf 16 = .ok (.iload_n 1, 1) := by decide +kernel
theorem dX0_boundOf_17 : decode cX0_boundOf 17 = .ok (.iaload, 1) := by decide +kernel
theorem dX0_boundOf_18 : decode cX0_boundOf 18 = .ok (.ireturn, 1) := by decide +kernel
theorem dX0_worstOf_0 : decode cX0_worstOf 0 = .ok (.aload_n 0, 1) := by decide +kernel
theorem dX0_worstOf_1 : decode cX0_worstOf 1 = .ok (.getfield 49, 3) := by decide +kernel
theorem dX0_worstOf_4 : decode cX0_worstOf 4 = .ok (.iconst (-1), 1) := by decide +kernel
theorem dX0_worstOf_5 : decode cX0_worstOf 5 = .ok (.if_icmp .ne 5, 3) := by decide +kernel
theorem dX0_worstOf_8 : decode cX0_worstOf 8 = .ok (.iconst (-1), 1) := by decide +kernel
theorem dX0_worstOf_9 : decode cX0_worstOf 9 = .ok (.ireturn, 1) := by decide +kernel
theorem dX0_worstOf_10 : decode cX0_worstOf 10 = .ok (.iload_n 2, 1) := by decide +kernel
theorem dX0_worstOf_11 : decode cX0_worstOf 11 = .ok (.ifCond .ne 12, 3) := by decide +kernel
theorem dX0_worstOf_14 : decode cX0_worstOf 14 = .ok (.aload_n 0, 1) := by decide +kernel
theorem dX0_worstOf_15 : decode cX0_worstOf 15 = .ok (.getfield 21, 3) := by decide +kernel
theorem dX0_worstOf_18 : decode cX0_worstOf 18 = .ok (.iload_n 1, 1) := by decide +kernel
theorem dX0_worstOf_19 : decode cX0_worstOf 19 = .ok (.iaload, 1) := by decide +kernel
theorem dX0_worstOf_20 : decode cX0_worstOf 20 = .ok (.goto 23, 3) := by decide +kernel
theorem dX0_worstOf_23 : decode cX0_worstOf 23 = .ok (.iload_n 2, 1) := by decide +kernel
theorem dX0_worstOf_24 : decode cX0_worstOf 24 = .ok (.iconst 1, 1) := by decide +kernel
theorem dX0_worstOf_25 : decode cX0_worstOf 25 = .ok (.if_icmp .ne 12, 3) := by decide +kernel
theorem dX0_worstOf_28 : decode cX0_worstOf 28 = .ok (.aload_n 0, 1) := by decide +kernel
theorem dX0_worstOf_29 : decode cX0_worstOf 29 = .ok (.getfield 24, 3) := by decide +kernel
theorem dX0_worstOf_32 : decode cX0_worstOf 32 = .ok (.iload_n 1, 1) := by decide +kernel
theorem dX0_worstOf_33 : decode cX0_worstOf 33 = .ok (.iaload, 1) := by decide +kernel
theorem dX0_worstOf_34 : decode cX0_worstOf 34 = .ok (.goto 9, 3) := by decide +kernel
theorem dX0_worstOf_37 : decode cX0_worstOf 37 = .ok (.aload_n 0, 1) := by decide +kernel
theorem dX0_worstOf_38 : decode cX0_worstOf 38 = .ok (.getfield 27, 3) := by decide +kernel
theorem dX0_worstOf_41 : decode cX0_worstOf 41 = .ok (.iload_n 1, 1) := by decide +kernel
theorem dX0_worstOf_42 : decode cX0_worstOf 42 = .ok (.iaload, 1) := by decide +kernel
theorem dX0_worstOf_43 : decode cX0_worstOf 43 = .ok (.ireturn, 1) := by decide +kernel
theorem dX0_meetingBits_0 : decode cX0_meetingBits 0 = .ok (.aload_n 0, 1) := by decide +kernel
theorem dX0_meetingBits_1 : decode cX0_meetingBits 1 = .ok (.getfield 45, 3) := by decide +kernel
theorem dX0_meetingBits_4 : decode cX0_meetingBits 4 = .ok (.invokevirtual 74, 3) := by decide +kernel
theorem dX0_meetingBits_7 : decode cX0_meetingBits 7 = .ok (.istore_n 1, 1) := by decide +kernel
theorem dX0_meetingBits_8 : decode cX0_meetingBits 8 = .ok (.iconst 0, 1) := by decide +kernel
theorem dX0_meetingBits_9 : decode cX0_meetingBits 9 = .ok (.istore_n 2, 1) := by decide +kernel
theorem dX0_meetingBits_10 : decode cX0_meetingBits 10 = .ok (.iconst 0, 1) := by decide +kernel
theorem dX0_meetingBits_11 : decode cX0_meetingBits 11 = .ok (.istore_n 3, 1) := by decide +kernel
theorem dX0_meetingBits_12 : decode cX0_meetingBits 12 = .ok (.iload_n 3, 1) := by decide +kernel
theorem dX0_meetingBits_13 : decode cX0_meetingBits 13 = .ok (.iconst 3, 1) := by decide +kernel
theorem dX0_meetingBits_14 : decode cX0_meetingBits 14 = .ok (.if_icmp .ge 58, 3) := by decide +kernel
theorem dX0_meetingBits_17 : decode cX0_meetingBits 17 = .ok (.aload_n 0, 1) := by decide +kernel
theorem dX0_meetingBits_18 : decode cX0_meetingBits 18 = .ok (.getfield 49, 3) := by decide +kernel
theorem dX0_meetingBits_21 : decode cX0_meetingBits 21 = .ok (.iconst (-1), 1) := by decide +kernel
theorem dX0_meetingBits_22 : decode cX0_meetingBits 22 = .ok (.if_icmp .eq 50, 3) := by decide +kernel
theorem dX0_meetingBits_25 : decode cX0_meetingBits 25 = .ok (.iload_n 1, 1) := by decide +kernel
theorem dX0_meetingBits_26 : decode cX0_meetingBits 26 = .ok (.iload_n 3, 1) := by decide +kernel
theorem dX0_meetingBits_27 : decode cX0_meetingBits 27 = .ok (.ishr, 1) := by decide +kernel
theorem dX0_meetingBits_28 : decode cX0_meetingBits 28 = .ok (.iconst 1, 1) := by decide +kernel
theorem dX0_meetingBits_29 : decode cX0_meetingBits 29 = .ok (.iand, 1) := by decide +kernel
theorem dX0_meetingBits_30 : decode cX0_meetingBits 30 = .ok (.ifCond .eq 36, 3) := by decide +kernel
theorem dX0_meetingBits_33 : decode cX0_meetingBits 33 = .ok (.aload_n 0, 1) := by decide +kernel
theorem dX0_meetingBits_34 : decode cX0_meetingBits 34 = .ok (.getfield 18, 3) := by decide +kernel
theorem dX0_meetingBits_37 : decode cX0_meetingBits 37 = .ok (.aload_n 0, 1) := by decide +kernel
theorem dX0_meetingBits_38 : decode cX0_meetingBits 38 = .ok (.getfield 45, 3) := by decide +kernel
theorem dX0_meetingBits_41 : decode cX0_meetingBits 41 = .ok (.iload_n 3, 1) := by decide +kernel
theorem dX0_meetingBits_42 : decode cX0_meetingBits 42 = .ok (.invokevirtual 78, 3) := by decide +kernel
theorem dX0_meetingBits_45 : decode cX0_meetingBits 45 = .ok (.iaload, 1) := by decide +kernel
theorem dX0_meetingBits_46 : decode cX0_meetingBits 46 = .ok (.aload_n 0, 1) := by decide +kernel
theorem dX0_meetingBits_47 : decode cX0_meetingBits 47 = .ok (.getfield 45, 3) := by decide +kernel
theorem dX0_meetingBits_50 : decode cX0_meetingBits 50 = .ok (.getfield 63, 3) := by decide +kernel
theorem dX0_meetingBits_53 : decode cX0_meetingBits 53 = .ok (.iconst 2, 1) := by decide +kernel
theorem dX0_meetingBits_54 : decode cX0_meetingBits 54 = .ok (.aaload, 1) := by decide +kernel
theorem dX0_meetingBits_55 : decode cX0_meetingBits 55 = .ok (.iload_n 3, 1) := by decide +kernel
theorem dX0_meetingBits_56 : decode cX0_meetingBits 56 = .ok (.iaload, 1) := by decide +kernel
theorem dX0_meetingBits_57 : decode cX0_meetingBits 57 = .ok (.if_icmp .gt 9, 3) := by decide +kernel
theorem dX0_meetingBits_60 : decode cX0_meetingBits 60 = .ok (.iload_n 2, 1) := by decide +kernel
theorem dX0_meetingBits_61 : decode cX0_meetingBits 61 = .ok (.iconst 1, 1) := by decide +kernel
theorem dX0_meetingBits_62 : decode cX0_meetingBits 62 = .ok (.iload_n 3, 1) := by decide +kernel
theorem dX0_meetingBits_63 : decode cX0_meetingBits 63 = .ok (.ishl, 1) := by decide +kernel
theorem dX0_meetingBits_64 : decode cX0_meetingBits 64 = .ok (.ior, 1) := by decide +kernel
theorem dX0_meetingBits_65 : decode cX0_meetingBits 65 = .ok (.istore_n 2, 1) := by decide +kernel
theorem dX0_meetingBits_66 : decode cX0_meetingBits 66 = .ok (.iinc 3 1, 3) := by decide +kernel
theorem dX0_meetingBits_69 : decode cX0_meetingBits 69 = .ok (.goto (-57), 3) := by decide +kernel
theorem dX0_meetingBits_72 : decode cX0_meetingBits 72 = .ok (.iload_n 2, 1) := by decide +kernel
theorem dX0_meetingBits_73 : decode cX0_meetingBits 73 = .ok (.ireturn, 1) := by decide +kernel
theorem dX0_searchedOf_0 : decode cX0_searchedOf 0 = .ok (.aload_n 0, 1) := by decide +kernel
theorem dX0_searchedOf_1 : decode cX0_searchedOf 1 = .ok (.getfield 49, 3) := by decide +kernel
theorem dX0_searchedOf_4 : decode cX0_searchedOf 4 = .ok (.iconst (-1), 1) := by decide +kernel
theorem dX0_searchedOf_5 : decode cX0_searchedOf 5 = .ok (.if_icmp .ne 5, 3) := by decide +kernel
theorem dX0_searchedOf_8 : decode cX0_searchedOf 8 = .ok (.iconst (-1), 1) := by decide +kernel
theorem dX0_searchedOf_9 : decode cX0_searchedOf 9 = .ok (.ireturn, 1) := by decide +kernel
theorem dX0_searchedOf_10 : decode cX0_searchedOf 10 = .ok (.aload_n 0, 1) := by decide +kernel
theorem dX0_searchedOf_11 : decode cX0_searchedOf 11 = .ok (.iload_n 1, 1) := by decide +kernel
theorem dX0_searchedOf_12 : decode cX0_searchedOf 12 = .ok (.invokevirtual 81, 3) := by decide +kernel
theorem dX0_searchedOf_15 : decode cX0_searchedOf 15 = .ok (.iload_n 1, 1) := by decide +kernel
theorem dX0_searchedOf_16 : decode cX0_searchedOf 16 = .ok (.iconst 3, 1) := by decide +kernel
theorem dX0_searchedOf_17 : decode cX0_searchedOf 17 = .ok (.idiv, 1) := by decide +kernel
theorem dX0_searchedOf_18 : decode cX0_searchedOf 18 = .ok (.iconst 1, 1) := by decide +kernel
theorem dX0_searchedOf_19 : decode cX0_searchedOf 19 = .ok (.iadd, 1) := by decide +kernel
theorem dX0_searchedOf_20 : decode cX0_searchedOf 20 = .ok (.iconst 3, 1) := by decide +kernel
theorem dX0_searchedOf_21 : decode cX0_searchedOf 21 = .ok (.irem, 1) := by decide +kernel
theorem dX0_searchedOf_22 : decode cX0_searchedOf 22 = .ok (.istore_n 2, 1) := by decide +kernel
theorem dX0_searchedOf_23 : decode cX0_searchedOf 23 = .ok (.iload_n 1, 1) := by decide +kernel
theorem dX0_searchedOf_24 : decode cX0_searchedOf 24 = .ok (.iconst 3, 1) := by decide +kernel
theorem dX0_searchedOf_25 : decode cX0_searchedOf 25 = .ok (.idiv, 1) := by decide +kernel
theorem dX0_searchedOf_26 : decode cX0_searchedOf 26 = .ok (.iconst 2, 1) := by decide +kernel
theorem dX0_searchedOf_27 : decode cX0_searchedOf 27 = .ok (.iadd, 1) := by decide +kernel
theorem dX0_searchedOf_28 : decode cX0_searchedOf 28 = .ok (.iconst 3, 1) := by decide +kernel
theorem dX0_searchedOf_29 : decode cX0_searchedOf 29 = .ok (.irem, 1) := by decide +kernel
theorem dX0_searchedOf_30 : decode cX0_searchedOf 30 = .ok (.istore_n 3, 1) := by decide +kernel
theorem dX0_searchedOf_31 : decode cX0_searchedOf 31 = .ok (.iconst (-1), 1) := by decide +kernel
theorem dX0_searchedOf_32 : decode cX0_searchedOf 32 = .ok (.istore 4, 2) := by decide +kernel
theorem dX0_searchedOf_34 : decode cX0_searchedOf 34 = .ok (.iconst 0, 1) := by decide +kernel
theorem dX0_searchedOf_35 : decode cX0_searchedOf 35 = .ok (.istore 5, 2) := by decide +kernel
theorem dX0_searchedOf_37 : decode cX0_searchedOf 37 = .ok (.iload 5, 2) := by decide +kernel
theorem dX0_searchedOf_39 : decode cX0_searchedOf 39 = .ok (.ifCond .eq 14, 3) := by decide +kernel
theorem dX0_searchedOf_42 : decode cX0_searchedOf 42 = .ok (.iload 5, 2) := by decide +kernel
theorem dX0_searchedOf_44 : decode cX0_searchedOf 44 = .ok (.aload_n 0, 1) := by decide +kernel
theorem dX0_searchedOf_45 : decode cX0_searchedOf 45 = .ok (.getfield 39, 3) := by decide +kernel
theorem dX0_searchedOf_48 : decode cX0_searchedOf 48 = .ok (.iload_n 2, 1) := by decide +kernel
theorem dX0_searchedOf_49 : decode cX0_searchedOf 49 = .ok (.iaload, 1) := by decide +kernel
theorem dX0_searchedOf_50 : decode cX0_searchedOf 50 = .ok (.if_icmp .ge 115, 3) := by decide +kernel
theorem dX0_searchedOf_53 : decode cX0_searchedOf 53 = .ok (.aload_n 0, 1) := by decide +kernel
theorem dX0_searchedOf_54 : decode cX0_searchedOf 54 = .ok (.getfield 42, 3) := by decide +kernel
theorem dX0_searchedOf_57 : decode cX0_searchedOf 57 = .ok (.iload_n 2, 1) := by decide +kernel
theorem dX0_searchedOf_58 : decode cX0_searchedOf 58 = .ok (.aload_n 0, 1) := by decide +kernel
theorem dX0_searchedOf_59 : decode cX0_searchedOf 59 = .ok (.getfield 39, 3) := by decide +kernel
theorem dX0_searchedOf_62 : decode cX0_searchedOf 62 = .ok (.iload_n 2, 1) := by decide +kernel
theorem dX0_searchedOf_63 : decode cX0_searchedOf 63 = .ok (.iaload, 1) := by decide +kernel
theorem dX0_searchedOf_64 : decode cX0_searchedOf 64 = .ok (.ifCond .ne 7, 3) := by decide +kernel
theorem dX0_searchedOf_67 : decode cX0_searchedOf 67 = .ok (.iconst (-1), 1) := by decide +kernel
theorem dX0_searchedOf_68 : decode cX0_searchedOf 68 = .ok (.goto 14, 3) := by decide +kernel
theorem dX0_searchedOf_71 : decode cX0_searchedOf 71 = .ok (.aload_n 0, 1) := by decide +kernel
theorem dX0_searchedOf_72 : decode cX0_searchedOf 72 = .ok (.getfield 36, 3) := by decide +kernel
theorem dX0_searchedOf_75 : decode cX0_searchedOf 75 = .ok (.iload_n 2, 1) := by decide +kernel
theorem dX0_searchedOf_76 : decode cX0_searchedOf 76 = .ok (.iconst 3, 1) := by decide +kernel
theorem dX0_searchedOf_77 : decode cX0_searchedOf 77 = .ok (.imul, 1) := by decide +kernel
theorem dX0_searchedOf_78 : decode cX0_searchedOf 78 = .ok (.iload 5, 2) := by decide +kernel
theorem dX0_searchedOf_80 : decode cX0_searchedOf 80 = .ok (.iadd, 1) := by decide +kernel
theorem dX0_searchedOf_81 : decode cX0_searchedOf 81 = .ok (.iaload, 1) := by decide +kernel
theorem dX0_searchedOf_82 : decode cX0_searchedOf 82 = .ok (.iastore, 1) := by decide +kernel
theorem dX0_searchedOf_83 : decode cX0_searchedOf 83 = .ok (.iconst 0, 1) := by decide +kernel
theorem dX0_searchedOf_84 : decode cX0_searchedOf 84 = .ok (.istore 6, 2) := by decide +kernel
theorem dX0_searchedOf_86 : decode cX0_searchedOf 86 = .ok (.iload 6, 2) := by decide +kernel
theorem dX0_searchedOf_88 : decode cX0_searchedOf 88 = .ok (.ifCond .eq 14, 3) := by decide +kernel
theorem dX0_searchedOf_91 : decode cX0_searchedOf 91 = .ok (.iload 6, 2) := by decide +kernel
theorem dX0_searchedOf_93 : decode cX0_searchedOf 93 = .ok (.aload_n 0, 1) := by decide +kernel
theorem dX0_searchedOf_94 : decode cX0_searchedOf 94 = .ok (.getfield 39, 3) := by decide +kernel
theorem dX0_searchedOf_97 : decode cX0_searchedOf 97 = .ok (.iload_n 3, 1) := by decide +kernel
theorem dX0_searchedOf_98 : decode cX0_searchedOf 98 = .ok (.iaload, 1) := by decide +kernel
theorem dX0_searchedOf_99 : decode cX0_searchedOf 99 = .ok (.if_icmp .ge 60, 3) := by decide +kernel
theorem dX0_searchedOf_102 : decode cX0_searchedOf 102 = .ok (.aload_n 0, 1) := by decide +kernel
theorem dX0_searchedOf_103 : decode cX0_searchedOf 103 = .ok (.getfield 42, 3) := by decide +kernel
theorem dX0_searchedOf_106 : decode cX0_searchedOf 106 = .ok (.iload_n 3, 1) := by decide +kernel
theorem dX0_searchedOf_107 : decode cX0_searchedOf 107 = .ok (.aload_n 0, 1) := by decide +kernel
theorem dX0_searchedOf_108 : decode cX0_searchedOf 108 = .ok (.getfield 39, 3) := by decide +kernel
theorem dX0_searchedOf_111 : decode cX0_searchedOf 111 = .ok (.iload_n 3, 1) := by decide +kernel
theorem dX0_searchedOf_112 : decode cX0_searchedOf 112 = .ok (.iaload, 1) := by decide +kernel
theorem dX0_searchedOf_113 : decode cX0_searchedOf 113 = .ok (.ifCond .ne 7, 3) := by decide +kernel
theorem dX0_searchedOf_116 : decode cX0_searchedOf 116 = .ok (.iconst (-1), 1) := by decide +kernel
theorem dX0_searchedOf_117 : decode cX0_searchedOf 117 = .ok (.goto 14, 3) := by decide +kernel
theorem dX0_searchedOf_120 : decode cX0_searchedOf 120 = .ok (.aload_n 0, 1) := by decide +kernel
theorem dX0_searchedOf_121 : decode cX0_searchedOf 121 = .ok (.getfield 36, 3) := by decide +kernel
theorem dX0_searchedOf_124 : decode cX0_searchedOf 124 = .ok (.iload_n 3, 1) := by decide +kernel
theorem dX0_searchedOf_125 : decode cX0_searchedOf 125 = .ok (.iconst 3, 1) := by decide +kernel
theorem dX0_searchedOf_126 : decode cX0_searchedOf 126 = .ok (.imul, 1) := by decide +kernel
theorem dX0_searchedOf_127 : decode cX0_searchedOf 127 = .ok (.iload 6, 2) := by decide +kernel
theorem dX0_searchedOf_129 : decode cX0_searchedOf 129 = .ok (.iadd, 1) := by decide +kernel
theorem dX0_searchedOf_130 : decode cX0_searchedOf 130 = .ok (.iaload, 1) := by decide +kernel
theorem dX0_searchedOf_131 : decode cX0_searchedOf 131 = .ok (.iastore, 1) := by decide +kernel
theorem dX0_searchedOf_132 : decode cX0_searchedOf 132 = .ok (.aload_n 0, 1) := by decide +kernel
theorem dX0_searchedOf_133 : decode cX0_searchedOf 133 = .ok (.iload_n 1, 1) := by decide +kernel
theorem dX0_searchedOf_134 : decode cX0_searchedOf 134 = .ok (.invokevirtual 85, 3) := by decide +kernel
theorem dX0_searchedOf_137 : decode cX0_searchedOf 137 = .ok (.ifCond .ne 5, 3) := by decide +kernel
theorem dX0_searchedOf_140 : decode cX0_searchedOf 140 = .ok (.iconst (-1), 1) := by decide +kernel
theorem dX0_searchedOf_141 : decode cX0_searchedOf 141 = .ok (.ireturn, 1) := by decide +kernel
theorem dX0_searchedOf_142 : decode cX0_searchedOf 142 = .ok (.iload 4, 2) := by decide +kernel
theorem dX0_searchedOf_144 : decode cX0_searchedOf 144 = .ok (.aload_n 0, 1) := by decide +kernel
theorem dX0_searchedOf_145 : decode cX0_searchedOf 145 = .ok (.getfield 89, 3) := by decide +kernel
theorem dX0_searchedOf_148 : decode cX0_searchedOf 148 = .ok (.invokestatic 92, 3) := by decide +kernel
theorem dX0_searchedOf_151 : decode cX0_searchedOf 151 = .ok (.istore 4, 2) := by decide +kernel
theorem dX0_searchedOf_153 : decode cX0_searchedOf 153 = .ok (.iinc 6 1, 3) := by decide +kernel
theorem dX0_searchedOf_156 : decode cX0_searchedOf 156 = .ok (.goto (-70), 3) := by decide +kernel
theorem dX0_searchedOf_159 : decode cX0_searchedOf 159 = .ok (.iinc 5 1, 3) := by decide +kernel
theorem dX0_searchedOf_162 : decode cX0_searchedOf 162 = .ok (.goto (-125), 3) := by decide +kernel
theorem dX0_searchedOf_165 : decode cX0_searchedOf 165 = .ok (.iload 4, 2) := by decide +kernel
theorem dX0_searchedOf_167 : decode cX0_searchedOf 167 = .ok (.ireturn, 1) := by decide +kernel
theorem dX0_quickOf_0 : decode cX0_quickOf 0 = .ok (.aload_n 0, 1) := by decide +kernel
theorem dX0_quickOf_1 : decode cX0_quickOf 1 = .ok (.getfield 49, 3) := by decide +kernel
theorem dX0_quickOf_4 : decode cX0_quickOf 4 = .ok (.iconst (-1), 1) := by decide +kernel
theorem dX0_quickOf_5 : decode cX0_quickOf 5 = .ok (.if_icmp .ne 5, 3) := by decide +kernel
theorem dX0_quickOf_8 : decode cX0_quickOf 8 = .ok (.iconst (-1), 1) := by decide +kernel
theorem dX0_quickOf_9 : decode cX0_quickOf 9 = .ok (.ireturn, 1) := by decide +kernel
theorem dX0_quickOf_10 : decode cX0_quickOf 10 = .ok (.aload_n 0, 1) := by decide +kernel
theorem dX0_quickOf_11 : decode cX0_quickOf 11 = .ok (.iload_n 1, 1) := by decide +kernel
theorem dX0_quickOf_12 : decode cX0_quickOf 12 = .ok (.invokevirtual 81, 3) := by decide +kernel
theorem dX0_quickOf_15 : decode cX0_quickOf 15 = .ok (.aload_n 0, 1) := by decide +kernel
theorem dX0_quickOf_16 : decode cX0_quickOf 16 = .ok (.getfield 45, 3) := by decide +kernel
theorem dX0_quickOf_19 : decode cX0_quickOf 19 = .ok (.getfield 98, 3) := by decide +kernel
theorem dX0_quickOf_22 : decode cX0_quickOf 22 = .ok (.iconst 1, 1) := by decide +kernel
theorem dX0_quickOf_23 : decode cX0_quickOf 23 = .ok (.aaload, 1) := by decide +kernel
theorem dX0_quickOf_24 : decode cX0_quickOf 24 = .ok (.iload_n 1, 1) := by decide +kernel
theorem dX0_quickOf_25 : decode cX0_quickOf 25 = .ok (.iaload, 1) := by decide +kernel
theorem dX0_quickOf_26 : decode cX0_quickOf 26 = .ok (.istore_n 2, 1) := by decide +kernel
theorem dX0_quickOf_27 : decode cX0_quickOf 27 = .ok (.aload_n 0, 1) := by decide +kernel
theorem dX0_quickOf_28 : decode cX0_quickOf 28 = .ok (.getfield 9, 3) := by decide +kernel
theorem dX0_quickOf_31 : decode cX0_quickOf 31 = .ok (.iload_n 1, 1) := by decide +kernel
theorem dX0_quickOf_32 : decode cX0_quickOf 32 = .ok (.iconst 3, 1) := by decide +kernel
theorem dX0_quickOf_33 : decode cX0_quickOf 33 = .ok (.idiv, 1) := by decide +kernel
theorem dX0_quickOf_34 : decode cX0_quickOf 34 = .ok (.iaload, 1) := by decide +kernel
theorem dX0_quickOf_35 : decode cX0_quickOf 35 = .ok (.istore_n 3, 1) := by decide +kernel
theorem dX0_quickOf_36 : decode cX0_quickOf 36 = .ok (.aload_n 0, 1) := by decide +kernel
theorem dX0_quickOf_37 : decode cX0_quickOf 37 = .ok (.iload_n 1, 1) := by decide +kernel
theorem dX0_quickOf_38 : decode cX0_quickOf 38 = .ok (.iconst (-1), 1) := by decide +kernel
theorem dX0_quickOf_39 : decode cX0_quickOf 39 = .ok (.iconst (-1), 1) := by decide +kernel
theorem dX0_quickOf_40 : decode cX0_quickOf 40 = .ok (.iconst 1, 1) := by decide +kernel
theorem dX0_quickOf_41 : decode cX0_quickOf 41 = .ok (.invokevirtual 101, 3) := by decide +kernel
theorem dX0_quickOf_44 : decode cX0_quickOf 44 = .ok (.istore 4, 2) := by decide +kernel
theorem dX0_quickOf_46 : decode cX0_quickOf 46 = .ok (.iload 4, 2) := by decide +kernel
theorem dX0_quickOf_48 : decode cX0_quickOf 48 = .ok (.iconst (-1), 1) := by decide +kernel
theorem dX0_quickOf_49 : decode cX0_quickOf 49 = .ok (.if_icmp .ne 5, 3) := by decide +kernel
theorem dX0_quickOf_52 : decode cX0_quickOf 52 = .ok (.iconst (-1), 1) := by decide +kernel
theorem dX0_quickOf_53 : decode cX0_quickOf 53 = .ok (.ireturn, 1) := by decide +kernel
theorem dX0_quickOf_54 : decode cX0_quickOf 54 = .ok (.aload_n 0, 1) := by decide +kernel
theorem dX0_quickOf_55 : decode cX0_quickOf 55 = .ok (.iload_n 1, 1) := by decide +kernel
theorem dX0_quickOf_56 : decode cX0_quickOf 56 = .ok (.iload 4, 2) := by decide +kernel
theorem dX0_quickOf_58 : decode cX0_quickOf 58 = .ok (.invokevirtual 105, 3) := by decide +kernel
theorem dX0_quickOf_61 : decode cX0_quickOf 61 = .ok (.istore 5, 2) := by decide +kernel
theorem dX0_quickOf_63 : decode cX0_quickOf 63 = .ok (.iconst (-1), 1) := by decide +kernel
theorem dX0_quickOf_64 : decode cX0_quickOf 64 = .ok (.istore 6, 2) := by decide +kernel
theorem dX0_quickOf_66 : decode cX0_quickOf 66 = .ok (.iconst 0, 1) := by decide +kernel
theorem dX0_quickOf_67 : decode cX0_quickOf 67 = .ok (.istore 7, 2) := by decide +kernel
theorem dX0_quickOf_69 : decode cX0_quickOf 69 = .ok (.iconst 0, 1) := by decide +kernel
theorem dX0_quickOf_70 : decode cX0_quickOf 70 = .ok (.istore 8, 2) := by decide +kernel
theorem dX0_quickOf_72 : decode cX0_quickOf 72 = .ok (.iload 8, 2) := by decide +kernel
theorem dX0_quickOf_74 : decode cX0_quickOf 74 = .ok (.iload 5, 2) := by decide +kernel
theorem dX0_quickOf_76 : decode cX0_quickOf 76 = .ok (.if_icmp .ge 63, 3) := by decide +kernel
theorem dX0_quickOf_79 : decode cX0_quickOf 79 = .ok (.aload_n 0, 1) := by decide +kernel
theorem dX0_quickOf_80 : decode cX0_quickOf 80 = .ok (.iload_n 1, 1) := by decide +kernel
theorem dX0_quickOf_81 : decode cX0_quickOf 81 = .ok (.iconst (-1), 1) := by decide +kernel
theorem dX0_quickOf_82 : decode cX0_quickOf 82 = .ok (.iload 8, 2) := by decide +kernel
theorem dX0_quickOf_84 : decode cX0_quickOf 84 = .ok (.iconst 1, 1) := by decide +kernel
theorem dX0_quickOf_85 : decode cX0_quickOf 85 = .ok (.iadd, 1) := by decide +kernel
theorem dX0_quickOf_86 : decode cX0_quickOf 86 = .ok (.iload 7, 2) := by decide +kernel
theorem dX0_quickOf_88 : decode cX0_quickOf 88 = .ok (.iload_n 2, 1) := by decide +kernel
theorem dX0_quickOf_89 : decode cX0_quickOf 89 = .ok (.iadd, 1) := by decide +kernel
theorem dX0_quickOf_90 : decode cX0_quickOf 90 = .ok (.invokevirtual 101, 3) := by decide +kernel
theorem dX0_quickOf_93 : decode cX0_quickOf 93 = .ok (.istore 7, 2) := by decide +kernel
theorem dX0_quickOf_95 : decode cX0_quickOf 95 = .ok (.iload 7, 2) := by decide +kernel
theorem dX0_quickOf_97 : decode cX0_quickOf 97 = .ok (.iconst (-1), 1) := by decide +kernel
theorem dX0_quickOf_98 : decode cX0_quickOf 98 = .ok (.if_icmp .ne 5, 3) := by decide +kernel
theorem dX0_quickOf_101 : decode cX0_quickOf 101 = .ok (.iconst (-1), 1) := by decide +kernel
theorem dX0_quickOf_102 : decode cX0_quickOf 102 = .ok (.ireturn, 1) := by decide +kernel
theorem dX0_quickOf_103 : decode cX0_quickOf 103 = .ok (.iload 6, 2) := by decide +kernel
theorem dX0_quickOf_105 : decode cX0_quickOf 105 = .ok (.iload 7, 2) := by decide +kernel
theorem dX0_quickOf_107 : decode cX0_quickOf 107 = .ok (.iload_n 3, 1) := by decide +kernel
theorem dX0_quickOf_108 : decode cX0_quickOf 108 = .ok (.iload 8, 2) := by decide +kernel
theorem dX0_quickOf_110 : decode cX0_quickOf 110 = .ok (.imul, 1) := by decide +kernel
theorem dX0_quickOf_111 : decode cX0_quickOf 111 = .ok (.isub, 1) := by decide +kernel
theorem dX0_quickOf_112 : decode cX0_quickOf 112 = .ok (.aload_n 0, 1) := by decide +kernel
theorem dX0_quickOf_113 : decode cX0_quickOf 113 = .ok (.getfield 15, 3) := by decide +kernel
theorem dX0_quickOf_116 : decode cX0_quickOf 116 = .ok (.iload_n 1, 1) := by decide +kernel
theorem dX0_quickOf_117 : decode cX0_quickOf 117 = .ok (.iaload, 1) := by decide +kernel
theorem dX0_quickOf_118 : decode cX0_quickOf 118 = .ok (.iadd, 1) := by decide +kernel
theorem dX0_quickOf_119 : decode cX0_quickOf 119 = .ok (.aload_n 0, 1) := by decide +kernel
theorem dX0_quickOf_120 : decode cX0_quickOf 120 = .ok (.getfield 45, 3) := by decide +kernel
theorem dX0_quickOf_123 : decode cX0_quickOf 123 = .ok (.iload_n 1, 1) := by decide +kernel
theorem dX0_quickOf_124 : decode cX0_quickOf 124 = .ok (.invokevirtual 108, 3) := by decide +kernel
theorem dX0_quickOf_127 : decode cX0_quickOf 127 = .ok (.iadd, 1) := by decide +kernel
theorem dX0_quickOf_128 : decode cX0_quickOf 128 = .ok (.invokestatic 92, 3) := by decide +kernel
theorem dX0_quickOf_131 : decode cX0_quickOf 131 = .ok (.istore 6, 2) := by decide +kernel
theorem dX0_quickOf_133 : decode cX0_quickOf 133 = .ok (.iinc 8 1, 3) := by decide +kernel
theorem dX0_quickOf_136 : decode cX0_quickOf 136 = .ok (.goto (-64), 3) := by decide +kernel
theorem dX0_quickOf_139 : decode cX0_quickOf 139 = .ok (.iload 6, 2) := by decide +kernel
theorem dX0_quickOf_141 : decode cX0_quickOf 141 = .ok (.ireturn, 1) := by decide +kernel
theorem dX0_boundAll_0 : decode cX0_boundAll 0 = .ok (.aload_n 0, 1) := by decide +kernel
theorem dX0_boundAll_1 : decode cX0_boundAll 1 = .ok (.invokevirtual 111, 3) := by decide +kernel
theorem dX0_boundAll_4 : decode cX0_boundAll 4 = .ok (.iconst 0, 1) := by decide +kernel
theorem dX0_boundAll_5 : decode cX0_boundAll 5 = .ok (.istore_n 1, 1) := by decide +kernel
theorem dX0_boundAll_6 : decode cX0_boundAll 6 = .ok (.iload_n 1, 1) := by decide +kernel
theorem dX0_boundAll_7 : decode cX0_boundAll 7 = .ok (.bipush 9, 2) := by decide +kernel
theorem dX0_boundAll_9 : decode cX0_boundAll 9 = .ok (.if_icmp .ge 89, 3) := by decide +kernel
theorem dX0_boundAll_12 : decode cX0_boundAll 12 = .ok (.aload_n 0, 1) := by decide +kernel
theorem dX0_boundAll_13 : decode cX0_boundAll 13 = .ok (.getfield 45, 3) := by decide +kernel
theorem dX0_boundAll_16 : decode cX0_boundAll 16 = .ok (.iload_n 1, 1) := by decide +kernel
theorem dX0_boundAll_17 : decode cX0_boundAll 17 = .ok (.invokevirtual 114, 3) := by decide +kernel
theorem dX0_boundAll_20 : decode cX0_boundAll 20 = .ok (.ifCond .ne 6, 3) := by decide +kernel
theorem dX0_boundAll_23 : decode cX0_boundAll 23 = .ok (.goto 69, 3) := by decide +kernel
theorem dX0_boundAll_26 : decode cX0_boundAll 26 = .ok (.aload_n 0, 1) := by decide +kernel
theorem dX0_boundAll_27 : decode cX0_boundAll 27 = .ok (.iload_n 1, 1) := by decide +kernel
theorem dX0_boundAll_28 : decode cX0_boundAll 28 = .ok (.invokevirtual 81, 3) := by decide +kernel
theorem dX0_boundAll_31 : decode cX0_boundAll 31 = .ok (.aload_n 0, 1) := by decide +kernel
theorem dX0_boundAll_32 : decode cX0_boundAll 32 = .ok (.getfield 45, 3) := by decide +kernel
theorem dX0_boundAll_35 : decode cX0_boundAll 35 = .ok (.iload_n 1, 1) := by decide +kernel
theorem dX0_boundAll_36 : decode cX0_boundAll 36 = .ok (.invokevirtual 117, 3) := by decide +kernel
theorem dX0_boundAll_39 : decode cX0_boundAll 39 = .ok (.ifCond .ne 11, 3) := by decide +kernel
theorem dX0_boundAll_42 : decode cX0_boundAll 42 = .ok (.aload_n 0, 1) := by decide +kernel
theorem dX0_boundAll_43 : decode cX0_boundAll 43 = .ok (.iload_n 1, 1) := by decide +kernel
theorem dX0_boundAll_44 : decode cX0_boundAll 44 = .ok (.invokevirtual 85, 3) := by decide +kernel
theorem dX0_boundAll_47 : decode cX0_boundAll 47 = .ok (.ifCond .ne 5, 3) := by decide +kernel
theorem dX0_boundAll_50 : decode cX0_boundAll 50 = .ok (.iconst 0, 1) := by decide +kernel
theorem dX0_boundAll_51 : decode cX0_boundAll 51 = .ok (.ireturn, 1) := by decide +kernel
theorem dX0_boundAll_52 : decode cX0_boundAll 52 = .ok (.aload_n 0, 1) := by decide +kernel
theorem dX0_boundAll_53 : decode cX0_boundAll 53 = .ok (.getfield 18, 3) := by decide +kernel
theorem dX0_boundAll_56 : decode cX0_boundAll 56 = .ok (.iload_n 1, 1) := by decide +kernel
theorem dX0_boundAll_57 : decode cX0_boundAll 57 = .ok (.aload_n 0, 1) := by decide +kernel
theorem dX0_boundAll_58 : decode cX0_boundAll 58 = .ok (.getfield 89, 3) := by decide +kernel
theorem dX0_boundAll_61 : decode cX0_boundAll 61 = .ok (.iastore, 1) := by decide +kernel
theorem dX0_boundAll_62 : decode cX0_boundAll 62 = .ok (.aload_n 0, 1) := by decide +kernel
theorem dX0_boundAll_63 : decode cX0_boundAll 63 = .ok (.getfield 21, 3) := by decide +kernel
theorem dX0_boundAll_66 : decode cX0_boundAll 66 = .ok (.iload_n 1, 1) := by decide +kernel
theorem dX0_boundAll_67 : decode cX0_boundAll 67 = .ok (.aload_n 0, 1) := by decide +kernel
theorem dX0_boundAll_68 : decode cX0_boundAll 68 = .ok (.getfield 120, 3) := by decide +kernel
theorem dX0_boundAll_71 : decode cX0_boundAll 71 = .ok (.iastore, 1) := by decide +kernel
theorem dX0_boundAll_72 : decode cX0_boundAll 72 = .ok (.aload_n 0, 1) := by decide +kernel
theorem dX0_boundAll_73 : decode cX0_boundAll 73 = .ok (.getfield 24, 3) := by decide +kernel
theorem dX0_boundAll_76 : decode cX0_boundAll 76 = .ok (.iload_n 1, 1) := by decide +kernel
theorem dX0_boundAll_77 : decode cX0_boundAll 77 = .ok (.aload_n 0, 1) := by decide +kernel
theorem dX0_boundAll_78 : decode cX0_boundAll 78 = .ok (.getfield 123, 3) := by decide +kernel
theorem dX0_boundAll_81 : decode cX0_boundAll 81 = .ok (.iastore, 1) := by decide +kernel
theorem dX0_boundAll_82 : decode cX0_boundAll 82 = .ok (.aload_n 0, 1) := by decide +kernel
theorem dX0_boundAll_83 : decode cX0_boundAll 83 = .ok (.getfield 27, 3) := by decide +kernel
theorem dX0_boundAll_86 : decode cX0_boundAll 86 = .ok (.iload_n 1, 1) := by decide +kernel
theorem dX0_boundAll_87 : decode cX0_boundAll 87 = .ok (.aload_n 0, 1) := by decide +kernel
theorem dX0_boundAll_88 : decode cX0_boundAll 88 = .ok (.getfield 126, 3) := by decide +kernel
theorem dX0_boundAll_91 : decode cX0_boundAll 91 = .ok (.iastore, 1) := by decide +kernel
theorem dX0_boundAll_92 : decode cX0_boundAll 92 = .ok (.iinc 1 1, 3) := by decide +kernel
theorem dX0_boundAll_95 : decode cX0_boundAll 95 = .ok (.goto (-89), 3) := by decide +kernel
theorem dX0_boundAll_98 : decode cX0_boundAll 98 = .ok (.iconst 1, 1) := by decide +kernel
theorem dX0_boundAll_99 : decode cX0_boundAll 99 = .ok (.ireturn, 1) := by decide +kernel
theorem dX0_passLateness_0 : decode cX0_passLateness 0 = .ok (.iconst 0, 1) := by decide +kernel
theorem dX0_passLateness_1 : decode cX0_passLateness 1 = .ok (.istore_n 1, 1) := by decide +kernel
theorem dX0_passLateness_2 : decode cX0_passLateness 2 = .ok (.iconst 0, 1) := by decide +kernel
theorem dX0_passLateness_3 : decode cX0_passLateness 3 = .ok (.istore_n 2, 1) := by decide +kernel
theorem dX0_passLateness_4 : decode cX0_passLateness 4 = .ok (.iload_n 2, 1) := by decide +kernel
theorem dX0_passLateness_5 : decode cX0_passLateness 5 = .ok (.bipush 9, 2) := by decide +kernel
theorem dX0_passLateness_7 : decode cX0_passLateness 7 = .ok (.if_icmp .ge 78, 3) := by decide +kernel
theorem dX0_passLateness_10 : decode cX0_passLateness 10 = .ok (.iload_n 2, 1) := by decide +kernel
theorem dX0_passLateness_11 : decode cX0_passLateness 11 = .ok (.iconst 3, 1) := by decide +kernel
theorem dX0_passLateness_12 : decode cX0_passLateness 12 = .ok (.irem, 1) := by decide +kernel
theorem dX0_passLateness_13 : decode cX0_passLateness 13 = .ok (.ifCond .eq 66, 3) := by decide +kernel
theorem dX0_passLateness_16 : decode cX0_passLateness 16 = .ok (.aload_n 0, 1) := by decide +kernel
theorem dX0_passLateness_17 : decode cX0_passLateness 17 = .ok (.getfield 45, 3) := by decide +kernel
theorem dX0_passLateness_20 : decode cX0_passLateness 20 = .ok (.iload_n 2, 1) := by decide +kernel
theorem dX0_passLateness_21 : decode cX0_passLateness 21 = .ok (.invokevirtual 114, 3) := by decide +kernel
theorem dX0_passLateness_24 : decode cX0_passLateness 24 = .ok (.ifCond .ne 6, 3) := by decide +kernel
theorem dX0_passLateness_27 : decode cX0_passLateness 27 = .ok (.goto 52, 3) := by decide +kernel
theorem dX0_passLateness_30 : decode cX0_passLateness 30 = .ok (.aload_n 0, 1) := by decide +kernel
theorem dX0_passLateness_31 : decode cX0_passLateness 31 = .ok (.getfield 18, 3) := by decide +kernel
theorem dX0_passLateness_34 : decode cX0_passLateness 34 = .ok (.iload_n 2, 1) := by decide +kernel
theorem dX0_passLateness_35 : decode cX0_passLateness 35 = .ok (.iconst 1, 1) := by decide +kernel
theorem dX0_passLateness_36 : decode cX0_passLateness 36 = .ok (.isub, 1) := by decide +kernel
theorem dX0_passLateness_37 : decode cX0_passLateness 37 = .ok (.iaload, 1) := by decide +kernel
theorem dX0_passLateness_38 : decode cX0_passLateness 38 = .ok (.aload_n 0, 1) := by decide +kernel
theorem dX0_passLateness_39 : decode cX0_passLateness 39 = .ok (.getfield 45, 3) := by decide +kernel
theorem dX0_passLateness_42 : decode cX0_passLateness 42 = .ok (.getfield 98, 3) := by decide +kernel
theorem dX0_passLateness_45 : decode cX0_passLateness 45 = .ok (.iconst 3, 1) := by decide +kernel
theorem dX0_passLateness_46 : decode cX0_passLateness 46 = .ok (.aaload, 1) := by decide +kernel
theorem dX0_passLateness_47 : decode cX0_passLateness 47 = .ok (.iload_n 2, 1) := by decide +kernel
theorem dX0_passLateness_48 : decode cX0_passLateness 48 = .ok (.iaload, 1) := by decide +kernel
theorem dX0_passLateness_49 : decode cX0_passLateness 49 = .ok (.iadd, 1) := by decide +kernel
theorem dX0_passLateness_50 : decode cX0_passLateness 50 = .ok (.aload_n 0, 1) := by decide +kernel
theorem dX0_passLateness_51 : decode cX0_passLateness 51 = .ok (.getfield 45, 3) := by decide +kernel
theorem dX0_passLateness_54 : decode cX0_passLateness 54 = .ok (.iload_n 2, 1) := by decide +kernel
theorem dX0_passLateness_55 : decode cX0_passLateness 55 = .ok (.invokevirtual 108, 3) := by decide +kernel
theorem dX0_passLateness_58 : decode cX0_passLateness 58 = .ok (.isub, 1) := by decide +kernel
theorem dX0_passLateness_59 : decode cX0_passLateness 59 = .ok (.istore_n 3, 1) := by decide +kernel
theorem dX0_passLateness_60 : decode cX0_passLateness 60 = .ok (.iload_n 3, 1) := by decide +kernel
theorem dX0_passLateness_61 : decode cX0_passLateness 61 = .ok (.aload_n 0, 1) := by decide +kernel
theorem dX0_passLateness_62 : decode cX0_passLateness 62 = .ok (.getfield 15, 3) := by decide +kernel
theorem dX0_passLateness_65 : decode cX0_passLateness 65 = .ok (.iload_n 2, 1) := by decide +kernel
theorem dX0_passLateness_66 : decode cX0_passLateness 66 = .ok (.iaload, 1) := by decide +kernel
theorem dX0_passLateness_67 : decode cX0_passLateness 67 = .ok (.if_icmp .le 12, 3) := by decide +kernel
theorem dX0_passLateness_70 : decode cX0_passLateness 70 = .ok (.aload_n 0, 1) := by decide +kernel
theorem dX0_passLateness_71 : decode cX0_passLateness 71 = .ok (.getfield 15, 3) := by decide +kernel
theorem dX0_passLateness_74 : decode cX0_passLateness 74 = .ok (.iload_n 2, 1) := by decide +kernel
theorem dX0_passLateness_75 : decode cX0_passLateness 75 = .ok (.iload_n 3, 1) := by decide +kernel
theorem dX0_passLateness_76 : decode cX0_passLateness 76 = .ok (.iastore, 1) := by decide +kernel
theorem dX0_passLateness_77 : decode cX0_passLateness 77 = .ok (.iconst 1, 1) := by decide +kernel
theorem dX0_passLateness_78 : decode cX0_passLateness 78 = .ok (.istore_n 1, 1) := by decide +kernel
theorem dX0_passLateness_79 : decode cX0_passLateness 79 = .ok (.iinc 2 1, 3) := by decide +kernel
theorem dX0_passLateness_82 : decode cX0_passLateness 82 = .ok (.goto (-78), 3) := by decide +kernel
theorem dX0_passLateness_85 : decode cX0_passLateness 85 = .ok (.iload_n 1, 1) := by decide +kernel
theorem dX0_passLateness_86 : decode cX0_passLateness 86 = .ok (.ireturn, 1) := by decide +kernel
theorem dX0_placeComings_0 : decode cX0_placeComings 0 = .ok (.iconst 0, 1) := by decide +kernel
theorem dX0_placeComings_1 : decode cX0_placeComings 1 = .ok (.istore_n 1, 1) := by decide +kernel
theorem dX0_placeComings_2 : decode cX0_placeComings 2 = .ok (.iload_n 1, 1) := by decide +kernel
theorem dX0_placeComings_3 : decode cX0_placeComings 3 = .ok (.bipush 9, 2) := by decide +kernel
theorem dX0_placeComings_5 : decode cX0_placeComings 5 = .ok (.if_icmp .ge 136, 3) := by decide +kernel
theorem dX0_placeComings_8 : decode cX0_placeComings 8 = .ok (.iload_n 1, 1) := by decide +kernel
theorem dX0_placeComings_9 : decode cX0_placeComings 9 = .ok (.iconst 3, 1) := by decide +kernel
theorem dX0_placeComings_10 : decode cX0_placeComings 10 = .ok (.idiv, 1) := by decide +kernel
theorem dX0_placeComings_11 : decode cX0_placeComings 11 = .ok (.istore_n 2, 1) := by decide +kernel
theorem dX0_placeComings_12 : decode cX0_placeComings 12 = .ok (.aload_n 0, 1) := by decide +kernel
theorem dX0_placeComings_13 : decode cX0_placeComings 13 = .ok (.getfield 9, 3) := by decide +kernel
theorem dX0_placeComings_16 : decode cX0_placeComings 16 = .ok (.iload_n 2, 1) := by decide +kernel
theorem dX0_placeComings_17 : decode cX0_placeComings 17 = .ok (.iaload, 1) := by decide +kernel
theorem dX0_placeComings_18 : decode cX0_placeComings 18 = .ok (.istore_n 3, 1) := by decide +kernel
theorem dX0_placeComings_19 : decode cX0_placeComings 19 = .ok (.iconst 0, 1) := by decide +kernel
theorem dX0_placeComings_20 : decode cX0_placeComings 20 = .ok (.istore 4, 2) := by decide +kernel
theorem dX0_placeComings_22 : decode cX0_placeComings 22 = .ok (.iload 4, 2) := by decide +kernel
theorem dX0_placeComings_24 : decode cX0_placeComings 24 = .ok (.aload_n 0, 1) := by decide +kernel
theorem dX0_placeComings_25 : decode cX0_placeComings 25 = .ok (.getfield 45, 3) := by decide +kernel
theorem dX0_placeComings_28 : decode cX0_placeComings 28 = .ok (.getfield 129, 3) := by decide +kernel
theorem dX0_placeComings_31 : decode cX0_placeComings 31 = .ok (.iload_n 2, 1) := by decide +kernel
theorem dX0_placeComings_32 : decode cX0_placeComings 32 = .ok (.iaload, 1) := by decide +kernel
theorem dX0_placeComings_33 : decode cX0_placeComings 33 = .ok (.if_icmp .ge 102, 3) := by decide +kernel
theorem dX0_placeComings_36 : decode cX0_placeComings 36 = .ok (.aload_n 0, 1) := by decide +kernel
theorem dX0_placeComings_37 : decode cX0_placeComings 37 = .ok (.getfield 45, 3) := by decide +kernel
theorem dX0_placeComings_40 : decode cX0_placeComings 40 = .ok (.iload_n 1, 1) := by decide +kernel
theorem dX0_placeComings_41 : decode cX0_placeComings 41 = .ok (.invokevirtual 114, 3) := by decide +kernel
theorem dX0_placeComings_44 : decode cX0_placeComings 44 = .ok (.ifCond .eq 91, 3) := by decide +kernel
theorem dX0_placeComings_47 : decode cX0_placeComings 47 = .ok (.iload_n 2, 1) := by decide +kernel
theorem dX0_placeComings_48 : decode cX0_placeComings 48 = .ok (.iconst 3, 1) := by decide +kernel
theorem dX0_placeComings_49 : decode cX0_placeComings 49 = .ok (.imul, 1) := by decide +kernel
theorem dX0_placeComings_50 : decode cX0_placeComings 50 = .ok (.iload 4, 2) := by decide +kernel
theorem dX0_placeComings_52 : decode cX0_placeComings 52 = .ok (.iadd, 1) := by decide +kernel
theorem dX0_placeComings_53 : decode cX0_placeComings 53 = .ok (.istore 5, 2) := by decide +kernel
theorem dX0_placeComings_55 : decode cX0_placeComings 55 = .ok (.aload_n 0, 1) := by decide +kernel
theorem dX0_placeComings_56 : decode cX0_placeComings 56 = .ok (.getfield 45, 3) := by decide +kernel
theorem dX0_placeComings_59 : decode cX0_placeComings 59 = .ok (.iload 5, 2) := by decide +kernel
theorem dX0_placeComings_61 : decode cX0_placeComings 61 = .ok (.invokevirtual 108, 3) := by decide +kernel
theorem dX0_placeComings_64 : decode cX0_placeComings 64 = .ok (.aload_n 0, 1) := by decide +kernel
theorem dX0_placeComings_65 : decode cX0_placeComings 65 = .ok (.getfield 15, 3) := by decide +kernel
theorem dX0_placeComings_68 : decode cX0_placeComings 68 = .ok (.iload 5, 2) := by decide +kernel
theorem dX0_placeComings_70 : decode cX0_placeComings 70 = .ok (.iaload, 1) := by decide +kernel
theorem dX0_placeComings_71 : decode cX0_placeComings 71 = .ok (.iadd, 1) := by decide +kernel
theorem dX0_placeComings_72 : decode cX0_placeComings 72 = .ok (.aload_n 0, 1) := by decide +kernel
theorem dX0_placeComings_73 : decode cX0_placeComings 73 = .ok (.getfield 45, 3) := by decide +kernel
theorem dX0_placeComings_76 : decode cX0_placeComings 76 = .ok (.iload_n 1, 1) := by decide +kernel
theorem dX0_placeComings_77 : decode cX0_placeComings 77 = .ok (.invokevirtual 108, 3) := by decide +kernel
theorem dX0_placeComings_80 : decode cX0_placeComings 80 = .ok (.isub, 1) := by decide +kernel
theorem dX0_placeComings_81 : decode cX0_placeComings 81 = .ok (.istore 6, 2) := by decide +kernel
theorem dX0_placeComings_83 : decode cX0_placeComings 83 = .ok (.iload_n 1, 1) := by decide +kernel
theorem dX0_placeComings_84 : decode cX0_placeComings 84 = .ok (.iconst 3, 1) := by decide +kernel
theorem dX0_placeComings_85 : decode cX0_placeComings 85 = .ok (.imul, 1) := by decide +kernel
theorem dX0_placeComings_86 : decode cX0_placeComings 86 = .ok (.iload 4, 2) := by decide +kernel
theorem dX0_placeComings_88 : decode cX0_placeComings 88 = .ok (.iadd, 1) := by decide +kernel
theorem dX0_placeComings_89 : decode cX0_placeComings 89 = .ok (.istore 7, 2) := by decide +kernel
theorem dX0_placeComings_91 : decode cX0_placeComings 91 = .ok (.aload_n 0, 1) := by decide +kernel
theorem dX0_placeComings_92 : decode cX0_placeComings 92 = .ok (.getfield 30, 3) := by decide +kernel
theorem dX0_placeComings_95 : decode cX0_placeComings 95 = .ok (.iload 7, 2) := by decide +kernel
theorem dX0_placeComings_97 : decode cX0_placeComings 97 = .ok (.iload_n 3, 1) := by decide +kernel
theorem dX0_placeComings_98 : decode cX0_placeComings 98 = .ok (.iload 6, 2) := by decide +kernel
theorem dX0_placeComings_100 : decode cX0_placeComings 100 = .ok (.iload_n 3, 1) := by decide +kernel
theorem dX0_placeComings_101 : decode cX0_placeComings 101 = .ok (.invokestatic 132, 3) := by decide +kernel
theorem dX0_placeComings_104 : decode cX0_placeComings 104 = .ok (.isub, 1) := by decide +kernel
theorem dX0_placeComings_105 : decode cX0_placeComings 105 = .ok (.iastore, 1) := by decide +kernel
theorem dX0_placeComings_106 : decode cX0_placeComings 106 = .ok (.aload_n 0, 1) := by decide +kernel
theorem dX0_placeComings_107 : decode cX0_placeComings 107 = .ok (.getfield 33, 3) := by decide +kernel
theorem dX0_placeComings_110 : decode cX0_placeComings 110 = .ok (.iload 7, 2) := by decide +kernel
theorem dX0_placeComings_112 : decode cX0_placeComings 112 = .ok (.aload_n 0, 1) := by decide +kernel
theorem dX0_placeComings_113 : decode cX0_placeComings 113 = .ok (.getfield 15, 3) := by decide +kernel
theorem dX0_placeComings_116 : decode cX0_placeComings 116 = .ok (.iload_n 1, 1) := by decide +kernel
theorem dX0_placeComings_117 : decode cX0_placeComings 117 = .ok (.iaload, 1) := by decide +kernel
theorem dX0_placeComings_118 : decode cX0_placeComings 118 = .ok (.aload_n 0, 1) := by decide +kernel
theorem dX0_placeComings_119 : decode cX0_placeComings 119 = .ok (.getfield 30, 3) := by decide +kernel
theorem dX0_placeComings_122 : decode cX0_placeComings 122 = .ok (.iload 7, 2) := by decide +kernel
theorem dX0_placeComings_124 : decode cX0_placeComings 124 = .ok (.iaload, 1) := by decide +kernel
theorem dX0_placeComings_125 : decode cX0_placeComings 125 = .ok (.iadd, 1) := by decide +kernel
theorem dX0_placeComings_126 : decode cX0_placeComings 126 = .ok (.iload_n 3, 1) := by decide +kernel
theorem dX0_placeComings_127 : decode cX0_placeComings 127 = .ok (.idiv, 1) := by decide +kernel
theorem dX0_placeComings_128 : decode cX0_placeComings 128 = .ok (.iastore, 1) := by decide +kernel
theorem dX0_placeComings_129 : decode cX0_placeComings 129 = .ok (.iinc 4 1, 3) := by decide +kernel
theorem dX0_placeComings_132 : decode cX0_placeComings 132 = .ok (.goto (-110), 3) := by decide +kernel
theorem dX0_placeComings_135 : decode cX0_placeComings 135 = .ok (.iinc 1 1, 3) := by decide +kernel
theorem dX0_placeComings_138 : decode cX0_placeComings 138 = .ok (.goto (-136), 3) := by decide +kernel
theorem dX0_placeComings_141 : decode cX0_placeComings 141 = .ok (.return_, 1) := by decide +kernel
theorem dX0_gatherRivals_0 : decode cX0_gatherRivals 0 = .ok (.iconst 0, 1) := by decide +kernel
theorem dX0_gatherRivals_1 : decode cX0_gatherRivals 1 = .ok (.istore_n 2, 1) := by decide +kernel
theorem dX0_gatherRivals_2 : decode cX0_gatherRivals 2 = .ok (.iload_n 2, 1) := by decide +kernel
theorem dX0_gatherRivals_3 : decode cX0_gatherRivals 3 = .ok (.iconst 3, 1) := by decide +kernel
theorem dX0_gatherRivals_4 : decode cX0_gatherRivals 4 = .ok (.if_icmp .ge 86, 3) := by decide +kernel
theorem dX0_gatherRivals_7 : decode cX0_gatherRivals 7 = .ok (.aload_n 0, 1) := by decide +kernel
theorem dX0_gatherRivals_8 : decode cX0_gatherRivals 8 = .ok (.getfield 42, 3) := by decide +kernel
theorem dX0_gatherRivals_11 : decode cX0_gatherRivals 11 = .ok (.iload_n 2, 1) := by decide +kernel
theorem dX0_gatherRivals_12 : decode cX0_gatherRivals 12 = .ok (.iconst (-1), 1) := by decide +kernel
theorem dX0_gatherRivals_13 : decode cX0_gatherRivals 13 = .ok (.iastore, 1) := by decide +kernel
theorem dX0_gatherRivals_14 : decode cX0_gatherRivals 14 = .ok (.aload_n 0, 1) := by decide +kernel
theorem dX0_gatherRivals_15 : decode cX0_gatherRivals 15 = .ok (.getfield 39, 3) := by decide +kernel
theorem dX0_gatherRivals_18 : decode cX0_gatherRivals 18 = .ok (.iload_n 2, 1) := by decide +kernel
theorem dX0_gatherRivals_19 : decode cX0_gatherRivals 19 = .ok (.iconst 0, 1) := by decide +kernel
theorem dX0_gatherRivals_20 : decode cX0_gatherRivals 20 = .ok (.iastore, 1) := by decide +kernel
theorem dX0_gatherRivals_21 : decode cX0_gatherRivals 21 = .ok (.iconst 0, 1) := by decide +kernel
theorem dX0_gatherRivals_22 : decode cX0_gatherRivals 22 = .ok (.istore_n 3, 1) := by decide +kernel
theorem dX0_gatherRivals_23 : decode cX0_gatherRivals 23 = .ok (.iload_n 3, 1) := by decide +kernel
theorem dX0_gatherRivals_24 : decode cX0_gatherRivals 24 = .ok (.aload_n 0, 1) := by decide +kernel
theorem dX0_gatherRivals_25 : decode cX0_gatherRivals 25 = .ok (.getfield 45, 3) := by decide +kernel
theorem dX0_gatherRivals_28 : decode cX0_gatherRivals 28 = .ok (.getfield 129, 3) := by decide +kernel
theorem dX0_gatherRivals_31 : decode cX0_gatherRivals 31 = .ok (.iload_n 2, 1) := by decide +kernel
theorem dX0_gatherRivals_32 : decode cX0_gatherRivals 32 = .ok (.iaload, 1) := by decide +kernel
theorem dX0_gatherRivals_33 : decode cX0_gatherRivals 33 = .ok (.if_icmp .ge 51, 3) := by decide +kernel
theorem dX0_gatherRivals_36 : decode cX0_gatherRivals 36 = .ok (.aload_n 0, 1) := by decide +kernel
theorem dX0_gatherRivals_37 : decode cX0_gatherRivals 37 = .ok (.getfield 45, 3) := by decide +kernel
theorem dX0_gatherRivals_40 : decode cX0_gatherRivals 40 = .ok (.iload_n 1, 1) := by decide +kernel
theorem dX0_gatherRivals_41 : decode cX0_gatherRivals 41 = .ok (.iload_n 2, 1) := by decide +kernel
theorem dX0_gatherRivals_42 : decode cX0_gatherRivals 42 = .ok (.iconst 3, 1) := by decide +kernel
theorem dX0_gatherRivals_43 : decode cX0_gatherRivals 43 = .ok (.imul, 1) := by decide +kernel
theorem dX0_gatherRivals_44 : decode cX0_gatherRivals 44 = .ok (.iload_n 3, 1) := by decide +kernel
theorem dX0_gatherRivals_45 : decode cX0_gatherRivals 45 = .ok (.iadd, 1) := by decide +kernel
theorem dX0_gatherRivals_46 : decode cX0_gatherRivals 46 = .ok (.invokevirtual 135, 3) := by decide +kernel
theorem dX0_gatherRivals_49 : decode cX0_gatherRivals 49 = .ok (.ifCond .eq 29, 3) := by decide +kernel
theorem dX0_gatherRivals_52 : decode cX0_gatherRivals 52 = .ok (.aload_n 0, 1) := by decide +kernel
theorem dX0_gatherRivals_53 : decode cX0_gatherRivals 53 = .ok (.getfield 36, 3) := by decide +kernel
theorem dX0_gatherRivals_56 : decode cX0_gatherRivals 56 = .ok (.iload_n 2, 1) := by decide +kernel
theorem dX0_gatherRivals_57 : decode cX0_gatherRivals 57 = .ok (.iconst 3, 1) := by decide +kernel
theorem dX0_gatherRivals_58 : decode cX0_gatherRivals 58 = .ok (.imul, 1) := by decide +kernel
theorem dX0_gatherRivals_59 : decode cX0_gatherRivals 59 = .ok (.aload_n 0, 1) := by decide +kernel
theorem dX0_gatherRivals_60 : decode cX0_gatherRivals 60 = .ok (.getfield 39, 3) := by decide +kernel
theorem dX0_gatherRivals_63 : decode cX0_gatherRivals 63 = .ok (.iload_n 2, 1) := by decide +kernel
theorem dX0_gatherRivals_64 : decode cX0_gatherRivals 64 = .ok (.iaload, 1) := by decide +kernel
theorem dX0_gatherRivals_65 : decode cX0_gatherRivals 65 = .ok (.iadd, 1) := by decide +kernel
theorem dX0_gatherRivals_66 : decode cX0_gatherRivals 66 = .ok (.iload_n 3, 1) := by decide +kernel
theorem dX0_gatherRivals_67 : decode cX0_gatherRivals 67 = .ok (.iastore, 1) := by decide +kernel
theorem dX0_gatherRivals_68 : decode cX0_gatherRivals 68 = .ok (.aload_n 0, 1) := by decide +kernel
theorem dX0_gatherRivals_69 : decode cX0_gatherRivals 69 = .ok (.getfield 39, 3) := by decide +kernel
theorem dX0_gatherRivals_72 : decode cX0_gatherRivals 72 = .ok (.iload_n 2, 1) := by decide +kernel
theorem dX0_gatherRivals_73 : decode cX0_gatherRivals 73 = .ok (.dup2, 1) := by decide +kernel
theorem dX0_gatherRivals_74 : decode cX0_gatherRivals 74 = .ok (.iaload, 1) := by decide +kernel
theorem dX0_gatherRivals_75 : decode cX0_gatherRivals 75 = .ok (.iconst 1, 1) := by decide +kernel
theorem dX0_gatherRivals_76 : decode cX0_gatherRivals 76 = .ok (.iadd, 1) := by decide +kernel
theorem dX0_gatherRivals_77 : decode cX0_gatherRivals 77 = .ok (.iastore, 1) := by decide +kernel
theorem dX0_gatherRivals_78 : decode cX0_gatherRivals 78 = .ok (.iinc 3 1, 3) := by decide +kernel
theorem dX0_gatherRivals_81 : decode cX0_gatherRivals 81 = .ok (.goto (-58), 3) := by decide +kernel
theorem dX0_gatherRivals_84 : decode cX0_gatherRivals 84 = .ok (.iinc 2 1, 3) := by decide +kernel
theorem dX0_gatherRivals_87 : decode cX0_gatherRivals 87 = .ok (.goto (-85), 3) := by decide +kernel
theorem dX0_gatherRivals_90 : decode cX0_gatherRivals 90 = .ok (.return_, 1) := by decide +kernel
theorem dX0_findLongest_0 : decode cX0_findLongest 0 = .ok (.iload_n 1, 1) := by decide +kernel
theorem dX0_findLongest_1 : decode cX0_findLongest 1 = .ok (.iconst 3, 1) := by decide +kernel
theorem dX0_findLongest_2 : decode cX0_findLongest 2 = .ok (.idiv, 1) := by decide +kernel
theorem dX0_findLongest_3 : decode cX0_findLongest 3 = .ok (.istore_n 2, 1) := by decide +kernel
theorem dX0_findLongest_4 : decode cX0_findLongest 4 = .ok (.aload_n 0, 1) := by decide +kernel
theorem dX0_findLongest_5 : decode cX0_findLongest 5 = .ok (.getfield 45, 3) := by decide +kernel
theorem dX0_findLongest_8 : decode cX0_findLongest 8 = .ok (.getfield 98, 3) := by decide +kernel
theorem dX0_findLongest_11 : decode cX0_findLongest 11 = .ok (.iconst 1, 1) := by decide +kernel
theorem dX0_findLongest_12 : decode cX0_findLongest 12 = .ok (.aaload, 1) := by decide +kernel
theorem dX0_findLongest_13 : decode cX0_findLongest 13 = .ok (.iload_n 1, 1) := by decide +kernel
theorem dX0_findLongest_14 : decode cX0_findLongest 14 = .ok (.iaload, 1) := by decide +kernel
theorem dX0_findLongest_15 : decode cX0_findLongest 15 = .ok (.istore_n 3, 1) := by decide +kernel
theorem dX0_findLongest_16 : decode cX0_findLongest 16 = .ok (.aload_n 0, 1) := by decide +kernel
theorem dX0_findLongest_17 : decode cX0_findLongest 17 = .ok (.getfield 9, 3) := by decide +kernel
theorem dX0_findLongest_20 : decode cX0_findLongest 20 = .ok (.iload_n 2, 1) := by decide +kernel
theorem dX0_findLongest_21 : decode cX0_findLongest 21 = .ok (.iaload, 1) := by decide +kernel
theorem dX0_findLongest_22 : decode cX0_findLongest 22 = .ok (.istore 4, 2) := by decide +kernel
theorem dX0_findLongest_24 : decode cX0_findLongest 24 = .ok (.aload_n 0, 1) := by decide +kernel
theorem dX0_findLongest_25 : decode cX0_findLongest 25 = .ok (.getfield 45, 3) := by decide +kernel
theorem dX0_findLongest_28 : decode cX0_findLongest 28 = .ok (.iload_n 1, 1) := by decide +kernel
theorem dX0_findLongest_29 : decode cX0_findLongest 29 = .ok (.invokevirtual 108, 3) := by decide +kernel
theorem dX0_findLongest_32 : decode cX0_findLongest 32 = .ok (.istore 5, 2) := by decide +kernel
theorem dX0_findLongest_34 : decode cX0_findLongest 34 = .ok (.aload_n 0, 1) := by decide +kernel
theorem dX0_findLongest_35 : decode cX0_findLongest 35 = .ok (.iconst 0, 1) := by decide +kernel
theorem dX0_findLongest_36 : decode cX0_findLongest 36 = .ok (.putfield 89, 3) := by decide +kernel
theorem dX0_findLongest_39 : decode cX0_findLongest 39 = .ok (.iconst 0, 1) := by decide +kernel
theorem dX0_findLongest_40 : decode cX0_findLongest 40 = .ok (.istore 6, 2) := by decide +kernel
theorem dX0_findLongest_42 : decode cX0_findLongest 42 = .ok (.iload 6, 2) := by decide +kernel
theorem dX0_findLongest_44 : decode cX0_findLongest 44 = .ok (.aload_n 0, 1) := by decide +kernel
theorem dX0_findLongest_45 : decode cX0_findLongest 45 = .ok (.getfield 45, 3) := by decide +kernel
theorem dX0_findLongest_48 : decode cX0_findLongest 48 = .ok (.getfield 129, 3) := by decide +kernel
theorem dX0_findLongest_51 : decode cX0_findLongest 51 = .ok (.iload_n 2, 1) := by decide +kernel
theorem dX0_findLongest_52 : decode cX0_findLongest 52 = .ok (.iaload, 1) := by decide +kernel
theorem dX0_findLongest_53 : decode cX0_findLongest 53 = .ok (.if_icmp .ge 183, 3) := by decide +kernel
theorem dX0_findLongest_56 : decode cX0_findLongest 56 = .ok (.iload_n 2, 1) := by decide +kernel
theorem dX0_findLongest_57 : decode cX0_findLongest 57 = .ok (.iconst 3, 1) := by decide +kernel
theorem dX0_findLongest_58 : decode cX0_findLongest 58 = .ok (.imul, 1) := by decide +kernel
theorem dX0_findLongest_59 : decode cX0_findLongest 59 = .ok (.iload 6, 2) := by decide +kernel
theorem dX0_findLongest_61 : decode cX0_findLongest 61 = .ok (.iadd, 1) := by decide +kernel
theorem dX0_findLongest_62 : decode cX0_findLongest 62 = .ok (.istore 7, 2) := by decide +kernel
theorem dX0_findLongest_64 : decode cX0_findLongest 64 = .ok (.iload 7, 2) := by decide +kernel
theorem dX0_findLongest_66 : decode cX0_findLongest 66 = .ok (.iload_n 1, 1) := by decide +kernel
theorem dX0_findLongest_67 : decode cX0_findLongest 67 = .ok (.if_icmp .eq 19, 3) := by decide +kernel
theorem dX0_findLongest_70 : decode cX0_findLongest 70 = .ok (.aload_n 0, 1) := by decide +kernel
theorem dX0_findLongest_71 : decode cX0_findLongest 71 = .ok (.getfield 45, 3) := by decide +kernel
theorem dX0_findLongest_74 : decode cX0_findLongest 74 = .ok (.iload_n 1, 1) := by decide +kernel
theorem dX0_findLongest_75 : decode cX0_findLongest 75 = .ok (.iload 7, 2) := by decide +kernel
theorem dX0_findLongest_77 : decode cX0_findLongest 77 = .ok (.invokevirtual 135, 3) := by decide +kernel
theorem dX0_findLongest_80 : decode cX0_findLongest 80 = .ok (.ifCond .ne 6, 3) := by decide +kernel
theorem dX0_findLongest_83 : decode cX0_findLongest 83 = .ok (.goto 147, 3) := by decide +kernel
theorem dX0_findLongest_86 : decode cX0_findLongest 86 = .ok (.aload_n 0, 1) := by decide +kernel
theorem dX0_findLongest_87 : decode cX0_findLongest 87 = .ok (.iload_n 1, 1) := by decide +kernel
theorem dX0_findLongest_88 : decode cX0_findLongest 88 = .ok (.iload 6, 2) := by decide +kernel
theorem dX0_findLongest_90 : decode cX0_findLongest 90 = .ok (.iconst (-1), 1) := by decide +kernel
theorem dX0_findLongest_91 : decode cX0_findLongest 91 = .ok (.iconst 1, 1) := by decide +kernel
theorem dX0_findLongest_92 : decode cX0_findLongest 92 = .ok (.invokevirtual 101, 3) := by decide +kernel
theorem dX0_findLongest_95 : decode cX0_findLongest 95 = .ok (.istore 8, 2) := by decide +kernel
theorem dX0_findLongest_97 : decode cX0_findLongest 97 = .ok (.iload 8, 2) := by decide +kernel
theorem dX0_findLongest_99 : decode cX0_findLongest 99 = .ok (.iconst (-1), 1) := by decide +kernel
theorem dX0_findLongest_100 : decode cX0_findLongest 100 = .ok (.if_icmp .ne 5, 3) := by decide +kernel
theorem dX0_findLongest_103 : decode cX0_findLongest 103 = .ok (.iconst 0, 1) := by decide +kernel
theorem dX0_findLongest_104 : decode cX0_findLongest 104 = .ok (.ireturn, 1) := by decide +kernel
theorem dX0_findLongest_105 : decode cX0_findLongest 105 = .ok (.iload_n 1, 1) := by decide +kernel
theorem dX0_findLongest_106 : decode cX0_findLongest 106 = .ok (.iconst 3, 1) := by decide +kernel
theorem dX0_findLongest_107 : decode cX0_findLongest 107 = .ok (.imul, 1) := by decide +kernel
theorem dX0_findLongest_108 : decode cX0_findLongest 108 = .ok (.iload 6, 2) := by decide +kernel
theorem dX0_findLongest_110 : decode cX0_findLongest 110 = .ok (.iadd, 1) := by decide +kernel
theorem dX0_findLongest_111 : decode cX0_findLongest 111 = .ok (.istore 9, 2) := by decide +kernel
theorem dX0_findLongest_113 : decode cX0_findLongest 113 = .ok (.aload_n 0, 1) := by decide +kernel
theorem dX0_findLongest_114 : decode cX0_findLongest 114 = .ok (.iload_n 1, 1) := by decide +kernel
theorem dX0_findLongest_115 : decode cX0_findLongest 115 = .ok (.iload 6, 2) := by decide +kernel
theorem dX0_findLongest_117 : decode cX0_findLongest 117 = .ok (.iload 8, 2) := by decide +kernel
theorem dX0_findLongest_119 : decode cX0_findLongest 119 = .ok (.invokevirtual 139, 3) := by decide +kernel
theorem dX0_findLongest_122 : decode cX0_findLongest 122 = .ok (.istore 10, 2) := by decide +kernel
theorem dX0_findLongest_124 : decode cX0_findLongest 124 = .ok (.iconst 0, 1) := by decide +kernel
theorem dX0_findLongest_125 : decode cX0_findLongest 125 = .ok (.istore 11, 2) := by decide +kernel
theorem dX0_findLongest_127 : decode cX0_findLongest 127 = .ok (.iconst 0, 1) := by decide +kernel
theorem dX0_findLongest_128 : decode cX0_findLongest 128 = .ok (.istore 12, 2) := by decide +kernel
theorem dX0_findLongest_130 : decode cX0_findLongest 130 = .ok (.iload 12, 2) := by decide +kernel
theorem dX0_findLongest_132 : decode cX0_findLongest 132 = .ok (.iload 10, 2) := by decide +kernel
theorem dX0_findLongest_134 : decode cX0_findLongest 134 = .ok (.if_icmp .ge 96, 3) := by decide +kernel
theorem dX0_findLongest_137 : decode cX0_findLongest 137 = .ok (.aload_n 0, 1) := by decide +kernel
theorem dX0_findLongest_138 : decode cX0_findLongest 138 = .ok (.iload_n 1, 1) := by decide +kernel
theorem dX0_findLongest_139 : decode cX0_findLongest 139 = .ok (.iload 6, 2) := by decide +kernel
theorem dX0_findLongest_141 : decode cX0_findLongest 141 = .ok (.iload 12, 2) := by decide +kernel
theorem dX0_findLongest_143 : decode cX0_findLongest 143 = .ok (.iconst 1, 1) := by decide +kernel
theorem dX0_findLongest_144 : decode cX0_findLongest 144 = .ok (.iadd, 1) := by decide +kernel
theorem dX0_findLongest_145 : decode cX0_findLongest 145 = .ok (.iload 11, 2) := by decide +kernel
theorem dX0_findLongest_147 : decode cX0_findLongest 147 = .ok (.iload_n 3, 1) := by decide +kernel
theorem dX0_findLongest_148 : decode cX0_findLongest 148 = .ok (.iadd, 1) := by decide +kernel
theorem dX0_findLongest_149 : decode cX0_findLongest 149 = .ok (.invokevirtual 101, 3) := by decide +kernel
theorem dX0_findLongest_152 : decode cX0_findLongest 152 = .ok (.istore 11, 2) := by decide +kernel
theorem dX0_findLongest_154 : decode cX0_findLongest 154 = .ok (.iload 11, 2) := by decide +kernel
theorem dX0_findLongest_156 : decode cX0_findLongest 156 = .ok (.iconst (-1), 1) := by decide +kernel
theorem dX0_findLongest_157 : decode cX0_findLongest 157 = .ok (.if_icmp .ne 5, 3) := by decide +kernel
theorem dX0_findLongest_160 : decode cX0_findLongest 160 = .ok (.iconst 0, 1) := by decide +kernel
theorem dX0_findLongest_161 : decode cX0_findLongest 161 = .ok (.ireturn, 1) := by decide +kernel
theorem dX0_findLongest_162 : decode cX0_findLongest 162 = .ok (.iload 11, 2) := by decide +kernel
theorem dX0_findLongest_164 : decode cX0_findLongest 164 = .ok (.aload_n 0, 1) := by decide +kernel
theorem dX0_findLongest_165 : decode cX0_findLongest 165 = .ok (.getfield 30, 3) := by decide +kernel
theorem dX0_findLongest_168 : decode cX0_findLongest 168 = .ok (.iload 9, 2) := by decide +kernel
theorem dX0_findLongest_170 : decode cX0_findLongest 170 = .ok (.iaload, 1) := by decide +kernel
theorem dX0_findLongest_171 : decode cX0_findLongest 171 = .ok (.isub, 1) := by decide +kernel
theorem dX0_findLongest_172 : decode cX0_findLongest 172 = .ok (.iload 4, 2) := by decide +kernel
theorem dX0_findLongest_174 : decode cX0_findLongest 174 = .ok (.iload 12, 2) := by decide +kernel
theorem dX0_findLongest_176 : decode cX0_findLongest 176 = .ok (.aload_n 0, 1) := by decide +kernel
theorem dX0_findLongest_177 : decode cX0_findLongest 177 = .ok (.getfield 33, 3) := by decide +kernel
theorem dX0_findLongest_180 : decode cX0_findLongest 180 = .ok (.iload 9, 2) := by decide +kernel
theorem dX0_findLongest_182 : decode cX0_findLongest 182 = .ok (.iaload, 1) := by decide +kernel
theorem dX0_findLongest_183 : decode cX0_findLongest 183 = .ok (.isub, 1) := by decide +kernel
theorem dX0_findLongest_184 : decode cX0_findLongest 184 = .ok (.imul, 1) := by decide +kernel
theorem dX0_findLongest_185 : decode cX0_findLongest 185 = .ok (.isub, 1) := by decide +kernel
theorem dX0_findLongest_186 : decode cX0_findLongest 186 = .ok (.iload 5, 2) := by decide +kernel
theorem dX0_findLongest_188 : decode cX0_findLongest 188 = .ok (.iadd, 1) := by decide +kernel
theorem dX0_findLongest_189 : decode cX0_findLongest 189 = .ok (.istore 13, 2) := by decide +kernel
theorem dX0_findLongest_191 : decode cX0_findLongest 191 = .ok (.iload 13, 2) := by decide +kernel
theorem dX0_findLongest_193 : decode cX0_findLongest 193 = .ok (.aload_n 0, 1) := by decide +kernel
theorem dX0_findLongest_194 : decode cX0_findLongest 194 = .ok (.getfield 89, 3) := by decide +kernel
theorem dX0_findLongest_197 : decode cX0_findLongest 197 = .ok (.if_icmp .le 27, 3) := by decide +kernel
theorem dX0_findLongest_200 : decode cX0_findLongest 200 = .ok (.aload_n 0, 1) := by decide +kernel
theorem dX0_findLongest_201 : decode cX0_findLongest 201 = .ok (.iload 13, 2) := by decide +kernel
theorem dX0_findLongest_203 : decode cX0_findLongest 203 = .ok (.putfield 89, 3) := by decide +kernel
theorem dX0_findLongest_206 : decode cX0_findLongest 206 = .ok (.aload_n 0, 1) := by decide +kernel
theorem dX0_findLongest_207 : decode cX0_findLongest 207 = .ok (.iload 6, 2) := by decide +kernel
theorem dX0_findLongest_209 : decode cX0_findLongest 209 = .ok (.putfield 120, 3) := by decide +kernel
theorem dX0_findLongest_212 : decode cX0_findLongest 212 = .ok (.aload_n 0, 1) := by decide +kernel
theorem dX0_findLongest_213 : decode cX0_findLongest 213 = .ok (.iload 12, 2) := by decide +kernel
theorem dX0_findLongest_215 : decode cX0_findLongest 215 = .ok (.putfield 123, 3) := by decide +kernel
theorem dX0_findLongest_218 : decode cX0_findLongest 218 = .ok (.aload_n 0, 1) := by decide +kernel
theorem dX0_findLongest_219 : decode cX0_findLongest 219 = .ok (.iload 8, 2) := by decide +kernel
theorem dX0_findLongest_221 : decode cX0_findLongest 221 = .ok (.putfield 126, 3) := by decide +kernel
theorem dX0_findLongest_224 : decode cX0_findLongest 224 = .ok (.iinc 12 1, 3) := by decide +kernel
theorem dX0_findLongest_227 : decode cX0_findLongest 227 = .ok (.goto (-97), 3) := by decide +kernel
theorem dX0_findLongest_230 : decode cX0_findLongest 230 = .ok (.iinc 6 1, 3) := by decide +kernel
theorem dX0_findLongest_233 : decode cX0_findLongest 233 = .ok (.goto (-191), 3) := by decide +kernel
theorem dX0_findLongest_236 : decode cX0_findLongest 236 = .ok (.iconst 1, 1) := by decide +kernel
theorem dX0_findLongest_237 : decode cX0_findLongest 237 = .ok (.ireturn, 1) := by decide +kernel
theorem dX0_leastTime_0 : decode cX0_leastTime 0 = .ok (.iload 4, 2) := by decide +kernel
theorem dX0_leastTime_2 : decode cX0_leastTime 2 = .ok (.istore 5, 2) := by decide +kernel
theorem dX0_leastTime_4 : decode cX0_leastTime 4 = .ok (.iconst 0, 1) := by decide +kernel
theorem dX0_leastTime_5 : decode cX0_leastTime 5 = .ok (.istore 6, 2) := by decide +kernel
theorem dX0_leastTime_7 : decode cX0_leastTime 7 = .ok (.iload 6, 2) := by decide +kernel
theorem dX0_leastTime_9 : decode cX0_leastTime 9 = .ok (.sipush 200, 3) := by decide +kernel
theorem dX0_leastTime_12 : decode cX0_leastTime 12 = .ok (.if_icmp .gt 58, 3) := by decide +kernel
theorem dX0_leastTime_15 : decode cX0_leastTime 15 = .ok (.iload 5, 2) := by decide +kernel
theorem dX0_leastTime_17 : decode cX0_leastTime 17 = .ok (.sipush 200, 3) := by decide +kernel
theorem dX0_leastTime_20 : decode cX0_leastTime 20 = .ok (.if_icmp .gt 50, 3) := by decide +kernel
theorem dX0_leastTime_23 : decode cX0_leastTime 23 = .ok (.iload_n 2, 1) := by decide +kernel
theorem dX0_leastTime_24 : decode cX0_leastTime 24 = .ok (.iconst (-1), 1) := by decide +kernel
theorem dX0_leastTime_25 : decode cX0_leastTime 25 = .ok (.if_icmp .ne 14, 3) := by decide +kernel
theorem dX0_leastTime_28 : decode cX0_leastTime 28 = .ok (.aload_n 0, 1) := by decide +kernel
theorem dX0_leastTime_29 : decode cX0_leastTime 29 = .ok (.iload_n 1, 1) := by decide +kernel
theorem dX0_leastTime_30 : decode cX0_leastTime 30 = .ok (.iload_n 3, 1) := by decide +kernel
theorem dX0_leastTime_31 : decode cX0_leastTime 31 = .ok (.iload 5, 2) := by decide +kernel
theorem dX0_leastTime_33 : decode cX0_leastTime 33 = .ok (.invokevirtual 143, 3) := by decide +kernel
theorem dX0_leastTime_36 : decode cX0_leastTime 36 = .ok (.goto 12, 3) := by decide +kernel
theorem dX0_leastTime_39 : decode cX0_leastTime 39 = .ok (.aload_n 0, 1) := by decide +kernel
theorem dX0_leastTime_40 : decode cX0_leastTime 40 = .ok (.iload_n 1, 1) := by decide +kernel
theorem dX0_leastTime_41 : decode cX0_leastTime 41 = .ok (.iload_n 2, 1) := by decide +kernel
theorem dX0_leastTime_42 : decode cX0_leastTime 42 = .ok (.iload_n 3, 1) := by decide +kernel
theorem dX0_leastTime_43 : decode cX0_leastTime 43 = .ok (.iload 5, 2) := by decide +kernel
theorem dX0_leastTime_45 : decode cX0_leastTime 45 = .ok (.invokevirtual 146, 3) := by decide +kernel
theorem dX0_leastTime_48 : decode cX0_leastTime 48 = .ok (.istore 7, 2) := by decide +kernel
theorem dX0_leastTime_50 : decode cX0_leastTime 50 = .ok (.iload 7, 2) := by decide +kernel
theorem dX0_leastTime_52 : decode cX0_leastTime 52 = .ok (.iload 5, 2) := by decide +kernel
theorem dX0_leastTime_54 : decode cX0_leastTime 54 = .ok (.if_icmp .ne 6, 3) := by decide +kernel
theorem dX0_leastTime_57 : decode cX0_leastTime 57 = .ok (.iload 5, 2) := by decide +kernel
theorem dX0_leastTime_59 : decode cX0_leastTime 59 = .ok (.ireturn, 1) := by decide +kernel
theorem dX0_leastTime_60 : decode cX0_leastTime 60 = .ok (.iload 7, 2) := by decide +kernel
theorem dX0_leastTime_62 : decode cX0_leastTime 62 = .ok (.istore 5, 2) := by decide +kernel
theorem dX0_leastTime_64 : decode cX0_leastTime 64 = .ok (.iinc 6 1, 3) := by decide +kernel
theorem dX0_leastTime_67 : decode cX0_leastTime 67 = .ok (.goto (-60), 3) := by decide +kernel
theorem dX0_leastTime_70 : decode cX0_leastTime 70 = .ok (.iconst (-1), 1) := by decide +kernel
theorem dX0_leastTime_71 : decode cX0_leastTime 71 = .ok (.ireturn, 1) := by decide +kernel
theorem dX0_needed_0 : decode cX0_needed 0 = .ok (.iload_n 1, 1) := by decide +kernel
theorem dX0_needed_1 : decode cX0_needed 1 = .ok (.iconst 3, 1) := by decide +kernel
theorem dX0_needed_2 : decode cX0_needed 2 = .ok (.idiv, 1) := by decide +kernel
theorem dX0_needed_3 : decode cX0_needed 3 = .ok (.istore 5, 2) := by decide +kernel
theorem dX0_needed_5 : decode cX0_needed 5 = .ok (.iload_n 3, 1) := by decide +kernel
theorem dX0_needed_6 : decode cX0_needed 6 = .ok (.iconst (-1), 1) := by decide +kernel
theorem dX0_needed_7 : decode cX0_needed 7 = .ok (.if_icmp .ne 14, 3) := by decide +kernel
theorem dX0_needed_10 : decode cX0_needed 10 = .ok (.aload_n 0, 1) := by decide +kernel
theorem dX0_needed_11 : decode cX0_needed 11 = .ok (.iload_n 1, 1) := by decide +kernel
theorem dX0_needed_12 : decode cX0_needed 12 = .ok (.iload_n 2, 1) := by decide +kernel
theorem dX0_needed_13 : decode cX0_needed 13 = .ok (.iload 4, 2) := by decide +kernel
theorem dX0_needed_15 : decode cX0_needed 15 = .ok (.invokevirtual 139, 3) := by decide +kernel
theorem dX0_needed_18 : decode cX0_needed 18 = .ok (.goto 4, 3) := by decide +kernel
theorem dX0_needed_21 : decode cX0_needed 21 = .ok (.iload_n 3, 1) := by decide +kernel
theorem dX0_needed_22 : decode cX0_needed 22 = .ok (.istore 6, 2) := by decide +kernel
theorem dX0_needed_24 : decode cX0_needed 24 = .ok (.iload 6, 2) := by decide +kernel
theorem dX0_needed_26 : decode cX0_needed 26 = .ok (.aload_n 0, 1) := by decide +kernel
theorem dX0_needed_27 : decode cX0_needed 27 = .ok (.getfield 45, 3) := by decide +kernel
theorem dX0_needed_30 : decode cX0_needed 30 = .ok (.getfield 98, 3) := by decide +kernel
theorem dX0_needed_33 : decode cX0_needed 33 = .ok (.iconst 1, 1) := by decide +kernel
theorem dX0_needed_34 : decode cX0_needed 34 = .ok (.aaload, 1) := by decide +kernel
theorem dX0_needed_35 : decode cX0_needed 35 = .ok (.iload_n 1, 1) := by decide +kernel
theorem dX0_needed_36 : decode cX0_needed 36 = .ok (.iaload, 1) := by decide +kernel
theorem dX0_needed_37 : decode cX0_needed 37 = .ok (.imul, 1) := by decide +kernel
theorem dX0_needed_38 : decode cX0_needed 38 = .ok (.aload_n 0, 1) := by decide +kernel
theorem dX0_needed_39 : decode cX0_needed 39 = .ok (.iload 5, 2) := by decide +kernel
theorem dX0_needed_41 : decode cX0_needed 41 = .ok (.iload_n 2, 1) := by decide +kernel
theorem dX0_needed_42 : decode cX0_needed 42 = .ok (.iload 4, 2) := by decide +kernel
theorem dX0_needed_44 : decode cX0_needed 44 = .ok (.invokevirtual 149, 3) := by decide +kernel
theorem dX0_needed_47 : decode cX0_needed 47 = .ok (.iadd, 1) := by decide +kernel
theorem dX0_needed_48 : decode cX0_needed 48 = .ok (.istore 7, 2) := by decide +kernel
theorem dX0_needed_50 : decode cX0_needed 50 = .ok (.iconst 0, 1) := by decide +kernel
theorem dX0_needed_51 : decode cX0_needed 51 = .ok (.istore 8, 2) := by decide +kernel
theorem dX0_needed_53 : decode cX0_needed 53 = .ok (.iload 8, 2) := by decide +kernel
theorem dX0_needed_55 : decode cX0_needed 55 = .ok (.iconst 3, 1) := by decide +kernel
theorem dX0_needed_56 : decode cX0_needed 56 = .ok (.if_icmp .ge 104, 3) := by decide +kernel
theorem dX0_needed_59 : decode cX0_needed 59 = .ok (.iload 8, 2) := by decide +kernel
theorem dX0_needed_61 : decode cX0_needed 61 = .ok (.iload 5, 2) := by decide +kernel
theorem dX0_needed_63 : decode cX0_needed 63 = .ok (.if_icmp .ne 6, 3) := by decide +kernel
theorem dX0_needed_66 : decode cX0_needed 66 = .ok (.goto 88, 3) := by decide +kernel
theorem dX0_needed_69 : decode cX0_needed 69 = .ok (.iconst 0, 1) := by decide +kernel
theorem dX0_needed_70 : decode cX0_needed 70 = .ok (.istore 9, 2) := by decide +kernel
theorem dX0_needed_72 : decode cX0_needed 72 = .ok (.iconst 0, 1) := by decide +kernel
theorem dX0_needed_73 : decode cX0_needed 73 = .ok (.istore 10, 2) := by decide +kernel
theorem dX0_needed_75 : decode cX0_needed 75 = .ok (.iload 10, 2) := by decide +kernel
theorem dX0_needed_77 : decode cX0_needed 77 = .ok (.aload_n 0, 1) := by decide +kernel
theorem dX0_needed_78 : decode cX0_needed 78 = .ok (.getfield 39, 3) := by decide +kernel
theorem dX0_needed_81 : decode cX0_needed 81 = .ok (.iload 8, 2) := by decide +kernel
theorem dX0_needed_83 : decode cX0_needed 83 = .ok (.iaload, 1) := by decide +kernel
theorem dX0_needed_84 : decode cX0_needed 84 = .ok (.if_icmp .ge 63, 3) := by decide +kernel
theorem dX0_needed_87 : decode cX0_needed 87 = .ok (.aload_n 0, 1) := by decide +kernel
theorem dX0_needed_88 : decode cX0_needed 88 = .ok (.getfield 36, 3) := by decide +kernel
theorem dX0_needed_91 : decode cX0_needed 91 = .ok (.iload 8, 2) := by decide +kernel
theorem dX0_needed_93 : decode cX0_needed 93 = .ok (.iconst 3, 1) := by decide +kernel
theorem dX0_needed_94 : decode cX0_needed 94 = .ok (.imul, 1) := by decide +kernel
theorem dX0_needed_95 : decode cX0_needed 95 = .ok (.iload 10, 2) := by decide +kernel
theorem dX0_needed_97 : decode cX0_needed 97 = .ok (.iadd, 1) := by decide +kernel
theorem dX0_needed_98 : decode cX0_needed 98 = .ok (.iaload, 1) := by decide +kernel
theorem dX0_needed_99 : decode cX0_needed 99 = .ok (.istore 11, 2) := by decide +kernel
theorem dX0_needed_101 : decode cX0_needed 101 = .ok (.aload_n 0, 1) := by decide +kernel
theorem dX0_needed_102 : decode cX0_needed 102 = .ok (.getfield 42, 3) := by decide +kernel
theorem dX0_needed_105 : decode cX0_needed 105 = .ok (.iload 8, 2) := by decide +kernel
theorem dX0_needed_107 : decode cX0_needed 107 = .ok (.iaload, 1) := by decide +kernel
theorem dX0_needed_108 : decode cX0_needed 108 = .ok (.iconst (-1), 1) := by decide +kernel
theorem dX0_needed_109 : decode cX0_needed 109 = .ok (.if_icmp .eq 15, 3) := by decide +kernel
theorem dX0_needed_112 : decode cX0_needed 112 = .ok (.aload_n 0, 1) := by decide +kernel
theorem dX0_needed_113 : decode cX0_needed 113 = .ok (.getfield 42, 3) := by decide +kernel
theorem dX0_needed_116 : decode cX0_needed 116 = .ok (.iload 8, 2) := by decide +kernel
theorem dX0_needed_118 : decode cX0_needed 118 = .ok (.iaload, 1) := by decide +kernel
theorem dX0_needed_119 : decode cX0_needed 119 = .ok (.iload 11, 2) := by decide +kernel
theorem dX0_needed_121 : decode cX0_needed 121 = .ok (.if_icmp .ne 20, 3) := by decide +kernel
theorem dX0_needed_124 : decode cX0_needed 124 = .ok (.iload 9, 2) := by decide +kernel
theorem dX0_needed_126 : decode cX0_needed 126 = .ok (.aload_n 0, 1) := by decide +kernel
theorem dX0_needed_127 : decode cX0_needed 127 = .ok (.iload 8, 2) := by decide +kernel
theorem dX0_needed_129 : decode cX0_needed 129 = .ok (.iload 11, 2) := by decide +kernel
theorem dX0_needed_131 : decode cX0_needed 131 = .ok (.iload 4, 2) := by decide +kernel
theorem dX0_needed_133 : decode cX0_needed 133 = .ok (.invokevirtual 149, 3) := by decide +kernel
theorem dX0_needed_136 : decode cX0_needed 136 = .ok (.invokestatic 92, 3) := by decide +kernel
theorem dX0_needed_139 : decode cX0_needed 139 = .ok (.istore 9, 2) := by decide +kernel
theorem dX0_needed_141 : decode cX0_needed 141 = .ok (.iinc 10 1, 3) := by decide +kernel
theorem dX0_needed_144 : decode cX0_needed 144 = .ok (.goto (-69), 3) := by decide +kernel
theorem dX0_needed_147 : decode cX0_needed 147 = .ok (.iload 7, 2) := by decide +kernel
theorem dX0_needed_149 : decode cX0_needed 149 = .ok (.iload 9, 2) := by decide +kernel
theorem dX0_needed_151 : decode cX0_needed 151 = .ok (.iadd, 1) := by decide +kernel
theorem dX0_needed_152 : decode cX0_needed 152 = .ok (.istore 7, 2) := by decide +kernel
theorem dX0_needed_154 : decode cX0_needed 154 = .ok (.iinc 8 1, 3) := by decide +kernel
theorem dX0_needed_157 : decode cX0_needed 157 = .ok (.goto (-104), 3) := by decide +kernel
theorem dX0_needed_160 : decode cX0_needed 160 = .ok (.iload 7, 2) := by decide +kernel
theorem dX0_needed_162 : decode cX0_needed 162 = .ok (.ireturn, 1) := by decide +kernel
theorem dX0_work_0 : decode cX0_work 0 = .ok (.iconst 0, 1) := by decide +kernel
theorem dX0_work_1 : decode cX0_work 1 = .ok (.istore 4, 2) := by decide +kernel
theorem dX0_work_3 : decode cX0_work 3 = .ok (.iconst 0, 1) := by decide +kernel
theorem dX0_work_4 : decode cX0_work 4 = .ok (.istore 5, 2) := by decide +kernel
theorem dX0_work_6 : decode cX0_work 6 = .ok (.iload 5, 2) := by decide +kernel
theorem dX0_work_8 : decode cX0_work 8 = .ok (.aload_n 0, 1) := by decide +kernel
theorem dX0_work_9 : decode cX0_work 9 = .ok (.getfield 39, 3) := by decide +kernel
theorem dX0_work_12 : decode cX0_work 12 = .ok (.iload_n 1, 1) := by decide +kernel
theorem dX0_work_13 : decode cX0_work 13 = .ok (.iaload, 1) := by decide +kernel
theorem dX0_work_14 : decode cX0_work 14 = .ok (.if_icmp .ge 52, 3) := by decide +kernel
theorem dX0_work_17 : decode cX0_work 17 = .ok (.iload_n 1, 1) := by decide +kernel
theorem dX0_work_18 : decode cX0_work 18 = .ok (.iconst 3, 1) := by decide +kernel
theorem dX0_work_19 : decode cX0_work 19 = .ok (.imul, 1) := by decide +kernel
theorem dX0_work_20 : decode cX0_work 20 = .ok (.aload_n 0, 1) := by decide +kernel
theorem dX0_work_21 : decode cX0_work 21 = .ok (.getfield 36, 3) := by decide +kernel
theorem dX0_work_24 : decode cX0_work 24 = .ok (.iload_n 1, 1) := by decide +kernel
theorem dX0_work_25 : decode cX0_work 25 = .ok (.iconst 3, 1) := by decide +kernel
theorem dX0_work_26 : decode cX0_work 26 = .ok (.imul, 1) := by decide +kernel
theorem dX0_work_27 : decode cX0_work 27 = .ok (.iload 5, 2) := by decide +kernel
theorem dX0_work_29 : decode cX0_work 29 = .ok (.iadd, 1) := by decide +kernel
theorem dX0_work_30 : decode cX0_work 30 = .ok (.iaload, 1) := by decide +kernel
theorem dX0_work_31 : decode cX0_work 31 = .ok (.iadd, 1) := by decide +kernel
theorem dX0_work_32 : decode cX0_work 32 = .ok (.istore 6, 2) := by decide +kernel
theorem dX0_work_34 : decode cX0_work 34 = .ok (.iload 4, 2) := by decide +kernel
theorem dX0_work_36 : decode cX0_work 36 = .ok (.aload_n 0, 1) := by decide +kernel
theorem dX0_work_37 : decode cX0_work 37 = .ok (.iload 6, 2) := by decide +kernel
theorem dX0_work_39 : decode cX0_work 39 = .ok (.iload_n 2, 1) := by decide +kernel
theorem dX0_work_40 : decode cX0_work 40 = .ok (.iload_n 3, 1) := by decide +kernel
theorem dX0_work_41 : decode cX0_work 41 = .ok (.invokevirtual 139, 3) := by decide +kernel
theorem dX0_work_44 : decode cX0_work 44 = .ok (.aload_n 0, 1) := by decide +kernel
theorem dX0_work_45 : decode cX0_work 45 = .ok (.getfield 45, 3) := by decide +kernel
theorem dX0_work_48 : decode cX0_work 48 = .ok (.getfield 98, 3) := by decide +kernel
theorem dX0_work_51 : decode cX0_work 51 = .ok (.iconst 1, 1) := by decide +kernel
theorem dX0_work_52 : decode cX0_work 52 = .ok (.aaload, 1) := by decide +kernel
theorem dX0_work_53 : decode cX0_work 53 = .ok (.iload 6, 2) := by decide +kernel
theorem dX0_work_55 : decode cX0_work 55 = .ok (.iaload, 1) := by decide +kernel
theorem dX0_work_56 : decode cX0_work 56 = .ok (.imul, 1) := by decide +kernel
theorem dX0_work_57 : decode cX0_work 57 = .ok (.iadd, 1) := by decide +kernel
theorem dX0_work_58 : decode cX0_work 58 = .ok (.istore 4, 2) := by decide +kernel
theorem dX0_work_60 : decode cX0_work 60 = .ok (.iinc 5 1, 3) := by decide +kernel
theorem dX0_work_63 : decode cX0_work 63 = .ok (.goto (-57), 3) := by decide +kernel
theorem dX0_work_66 : decode cX0_work 66 = .ok (.iload 4, 2) := by decide +kernel
theorem dX0_work_68 : decode cX0_work 68 = .ok (.ireturn, 1) := by decide +kernel
theorem dX0_comes_0 : decode cX0_comes 0 = .ok (.aload_n 0, 1) := by decide +kernel
theorem dX0_comes_1 : decode cX0_comes 1 = .ok (.getfield 9, 3) := by decide +kernel
theorem dX0_comes_4 : decode cX0_comes 4 = .ok (.iload_n 1, 1) := by decide +kernel
theorem dX0_comes_5 : decode cX0_comes 5 = .ok (.iconst 3, 1) := by decide +kernel
theorem dX0_comes_6 : decode cX0_comes 6 = .ok (.idiv, 1) := by decide +kernel
theorem dX0_comes_7 : decode cX0_comes 7 = .ok (.iaload, 1) := by decide +kernel
theorem dX0_comes_8 : decode cX0_comes 8 = .ok (.istore 4, 2) := by decide +kernel
theorem dX0_comes_10 : decode cX0_comes 10 = .ok (.iload_n 1, 1) := by decide +kernel
theorem dX0_comes_11 : decode cX0_comes 11 = .ok (.iconst 3, 1) := by decide +kernel
theorem dX0_comes_12 : decode cX0_comes 12 = .ok (.imul, 1) := by decide +kernel
theorem dX0_comes_13 : decode cX0_comes 13 = .ok (.iload_n 2, 1) := by decide +kernel
theorem dX0_comes_14 : decode cX0_comes 14 = .ok (.iadd, 1) := by decide +kernel
theorem dX0_comes_15 : decode cX0_comes 15 = .ok (.istore 5, 2) := by decide +kernel
theorem dX0_comes_17 : decode cX0_comes 17 = .ok (.aload_n 0, 1) := by decide +kernel
theorem dX0_comes_18 : decode cX0_comes 18 = .ok (.getfield 33, 3) := by decide +kernel
theorem dX0_comes_21 : decode cX0_comes 21 = .ok (.iload 5, 2) := by decide +kernel
theorem dX0_comes_23 : decode cX0_comes 23 = .ok (.iaload, 1) := by decide +kernel
theorem dX0_comes_24 : decode cX0_comes 24 = .ok (.iload_n 3, 1) := by decide +kernel
theorem dX0_comes_25 : decode cX0_comes 25 = .ok (.aload_n 0, 1) := by decide +kernel
theorem dX0_comes_26 : decode cX0_comes 26 = .ok (.getfield 30, 3) := by decide +kernel
theorem dX0_comes_29 : decode cX0_comes 29 = .ok (.iload 5, 2) := by decide +kernel
theorem dX0_comes_31 : decode cX0_comes 31 = .ok (.iaload, 1) := by decide +kernel
theorem dX0_comes_32 : decode cX0_comes 32 = .ok (.isub, 1) := by decide +kernel
theorem dX0_comes_33 : decode cX0_comes 33 = .ok (.iload 4, 2) := by decide +kernel
theorem dX0_comes_35 : decode cX0_comes 35 = .ok (.iadd, 1) := by decide +kernel
theorem dX0_comes_36 : decode cX0_comes 36 = .ok (.iconst 1, 1) := by decide +kernel
theorem dX0_comes_37 : decode cX0_comes 37 = .ok (.isub, 1) := by decide +kernel
theorem dX0_comes_38 : decode cX0_comes 38 = .ok (.iload 4, 2) := by decide +kernel
theorem dX0_comes_40 : decode cX0_comes 40 = .ok (.idiv, 1) := by decide +kernel
theorem dX0_comes_41 : decode cX0_comes 41 = .ok (.iadd, 1) := by decide +kernel
theorem dX0_comes_42 : decode cX0_comes 42 = .ok (.ireturn, 1) := by decide +kernel
theorem dX0_quickNeeded_0 : decode cX0_quickNeeded 0 = .ok (.iload_n 2, 1) := by decide +kernel
theorem dX0_quickNeeded_1 : decode cX0_quickNeeded 1 = .ok (.iconst (-1), 1) := by decide +kernel
theorem dX0_quickNeeded_2 : decode cX0_quickNeeded 2 = .ok (.if_icmp .ne 12, 3) := by decide +kernel
theorem dX0_quickNeeded_5 : decode cX0_quickNeeded 5 = .ok (.aload_n 0, 1) := by decide +kernel
theorem dX0_quickNeeded_6 : decode cX0_quickNeeded 6 = .ok (.iload_n 1, 1) := by decide +kernel
theorem dX0_quickNeeded_7 : decode cX0_quickNeeded 7 = .ok (.iload_n 3, 1) := by decide +kernel
theorem dX0_quickNeeded_8 : decode cX0_quickNeeded 8 = .ok (.invokevirtual 105, 3) := by decide +kernel
theorem dX0_quickNeeded_11 : decode cX0_quickNeeded 11 = .ok (.goto 4, 3) := by decide +kernel
theorem dX0_quickNeeded_14 : decode cX0_quickNeeded 14 = .ok (.iload_n 2, 1) := by decide +kernel
theorem dX0_quickNeeded_15 : decode cX0_quickNeeded 15 = .ok (.istore 4, 2) := by decide +kernel
theorem dX0_quickNeeded_17 : decode cX0_quickNeeded 17 = .ok (.iload 4, 2) := by decide +kernel
theorem dX0_quickNeeded_19 : decode cX0_quickNeeded 19 = .ok (.aload_n 0, 1) := by decide +kernel
theorem dX0_quickNeeded_20 : decode cX0_quickNeeded 20 = .ok (.getfield 45, 3) := by decide +kernel
theorem dX0_quickNeeded_23 : decode cX0_quickNeeded 23 = .ok (.getfield 98, 3) := by decide +kernel
theorem dX0_quickNeeded_26 : decode cX0_quickNeeded 26 = .ok (.iconst 1, 1) := by decide +kernel
theorem dX0_quickNeeded_27 : decode cX0_quickNeeded 27 = .ok (.aaload, 1) := by decide +kernel
theorem dX0_quickNeeded_28 : decode cX0_quickNeeded 28 = .ok (.iload_n 1, 1) := by decide +kernel
theorem dX0_quickNeeded_29 : decode cX0_quickNeeded 29 = .ok (.iaload, 1) := by decide +kernel
theorem dX0_quickNeeded_30 : decode cX0_quickNeeded 30 = .ok (.imul, 1) := by decide +kernel
theorem dX0_quickNeeded_31 : decode cX0_quickNeeded 31 = .ok (.istore 5, 2) := by decide +kernel
theorem dX0_quickNeeded_33 : decode cX0_quickNeeded 33 = .ok (.iconst 0, 1) := by decide +kernel
theorem dX0_quickNeeded_34 : decode cX0_quickNeeded 34 = .ok (.istore 6, 2) := by decide +kernel
theorem dX0_quickNeeded_36 : decode cX0_quickNeeded 36 = .ok (.iload 6, 2) := by decide +kernel
theorem dX0_quickNeeded_38 : decode cX0_quickNeeded 38 = .ok (.iconst 3, 1) := by decide +kernel
theorem dX0_quickNeeded_39 : decode cX0_quickNeeded 39 = .ok (.if_icmp .ge 74, 3) := by decide +kernel
theorem dX0_quickNeeded_42 : decode cX0_quickNeeded 42 = .ok (.iconst 0, 1) := by decide +kernel
theorem dX0_quickNeeded_43 : decode cX0_quickNeeded 43 = .ok (.istore 7, 2) := by decide +kernel
theorem dX0_quickNeeded_45 : decode cX0_quickNeeded 45 = .ok (.iload 7, 2) := by decide +kernel
theorem dX0_quickNeeded_47 : decode cX0_quickNeeded 47 = .ok (.aload_n 0, 1) := by decide +kernel
theorem dX0_quickNeeded_48 : decode cX0_quickNeeded 48 = .ok (.getfield 39, 3) := by decide +kernel
theorem dX0_quickNeeded_51 : decode cX0_quickNeeded 51 = .ok (.iload 6, 2) := by decide +kernel
theorem dX0_quickNeeded_53 : decode cX0_quickNeeded 53 = .ok (.iaload, 1) := by decide +kernel
theorem dX0_quickNeeded_54 : decode cX0_quickNeeded 54 = .ok (.if_icmp .ge 53, 3) := by decide +kernel
theorem dX0_quickNeeded_57 : decode cX0_quickNeeded 57 = .ok (.iload 6, 2) := by decide +kernel
theorem dX0_quickNeeded_59 : decode cX0_quickNeeded 59 = .ok (.iconst 3, 1) := by decide +kernel
theorem dX0_quickNeeded_60 : decode cX0_quickNeeded 60 = .ok (.imul, 1) := by decide +kernel
theorem dX0_quickNeeded_61 : decode cX0_quickNeeded 61 = .ok (.aload_n 0, 1) := by decide +kernel
theorem dX0_quickNeeded_62 : decode cX0_quickNeeded 62 = .ok (.getfield 36, 3) := by decide +kernel
theorem dX0_quickNeeded_65 : decode cX0_quickNeeded 65 = .ok (.iload 6, 2) := by decide +kernel
theorem dX0_quickNeeded_67 : decode cX0_quickNeeded 67 = .ok (.iconst 3, 1) := by decide +kernel
theorem dX0_quickNeeded_68 : decode cX0_quickNeeded 68 = .ok (.imul, 1) := by decide +kernel
theorem dX0_quickNeeded_69 : decode cX0_quickNeeded 69 = .ok (.iload 7, 2) := by decide +kernel
theorem dX0_quickNeeded_71 : decode cX0_quickNeeded 71 = .ok (.iadd, 1) := by decide +kernel
theorem dX0_quickNeeded_72 : decode cX0_quickNeeded 72 = .ok (.iaload, 1) := by decide +kernel
theorem dX0_quickNeeded_73 : decode cX0_quickNeeded 73 = .ok (.iadd, 1) := by decide +kernel
theorem dX0_quickNeeded_74 : decode cX0_quickNeeded 74 = .ok (.istore 8, 2) := by decide +kernel
theorem dX0_quickNeeded_76 : decode cX0_quickNeeded 76 = .ok (.iload 5, 2) := by decide +kernel
theorem dX0_quickNeeded_78 : decode cX0_quickNeeded 78 = .ok (.aload_n 0, 1) := by decide +kernel
theorem dX0_quickNeeded_79 : decode cX0_quickNeeded 79 = .ok (.iload 8, 2) := by decide +kernel
theorem dX0_quickNeeded_81 : decode cX0_quickNeeded 81 = .ok (.iload_n 3, 1) := by decide +kernel
theorem dX0_quickNeeded_82 : decode cX0_quickNeeded 82 = .ok (.invokevirtual 105, 3) := by decide +kernel
theorem dX0_quickNeeded_85 : decode cX0_quickNeeded 85 = .ok (.aload_n 0, 1) := by decide +kernel
theorem dX0_quickNeeded_86 : decode cX0_quickNeeded 86 = .ok (.getfield 45, 3) := by decide +kernel
theorem dX0_quickNeeded_89 : decode cX0_quickNeeded 89 = .ok (.getfield 98, 3) := by decide +kernel
theorem dX0_quickNeeded_92 : decode cX0_quickNeeded 92 = .ok (.iconst 1, 1) := by decide +kernel
theorem dX0_quickNeeded_93 : decode cX0_quickNeeded 93 = .ok (.aaload, 1) := by decide +kernel
theorem dX0_quickNeeded_94 : decode cX0_quickNeeded 94 = .ok (.iload 8, 2) := by decide +kernel
theorem dX0_quickNeeded_96 : decode cX0_quickNeeded 96 = .ok (.iaload, 1) := by decide +kernel
theorem dX0_quickNeeded_97 : decode cX0_quickNeeded 97 = .ok (.imul, 1) := by decide +kernel
theorem dX0_quickNeeded_98 : decode cX0_quickNeeded 98 = .ok (.iadd, 1) := by decide +kernel
theorem dX0_quickNeeded_99 : decode cX0_quickNeeded 99 = .ok (.istore 5, 2) := by decide +kernel
theorem dX0_quickNeeded_101 : decode cX0_quickNeeded 101 = .ok (.iinc 7 1, 3) := by decide +kernel
theorem dX0_quickNeeded_104 : decode cX0_quickNeeded 104 = .ok (.goto (-59), 3) := by decide +kernel
theorem dX0_quickNeeded_107 : decode cX0_quickNeeded 107 = .ok (.iinc 6 1, 3) := by decide +kernel
theorem dX0_quickNeeded_110 : decode cX0_quickNeeded 110 = .ok (.goto (-74), 3) := by decide +kernel
theorem dX0_quickNeeded_113 : decode cX0_quickNeeded 113 = .ok (.iload 5, 2) := by decide +kernel
theorem dX0_quickNeeded_115 : decode cX0_quickNeeded 115 = .ok (.ireturn, 1) := by decide +kernel
theorem dX0_quickComes_0 : decode cX0_quickComes 0 = .ok (.aload_n 0, 1) := by decide +kernel
theorem dX0_quickComes_1 : decode cX0_quickComes 1 = .ok (.getfield 9, 3) := by decide +kernel
theorem dX0_quickComes_4 : decode cX0_quickComes 4 = .ok (.iload_n 1, 1) := by decide +kernel
theorem dX0_quickComes_5 : decode cX0_quickComes 5 = .ok (.iconst 3, 1) := by decide +kernel
theorem dX0_quickComes_6 : decode cX0_quickComes 6 = .ok (.idiv, 1) := by decide +kernel
theorem dX0_quickComes_7 : decode cX0_quickComes 7 = .ok (.iaload, 1) := by decide +kernel
theorem dX0_quickComes_8 : decode cX0_quickComes 8 = .ok (.istore_n 3, 1) := by decide +kernel
theorem dX0_quickComes_9 : decode cX0_quickComes 9 = .ok (.aload_n 0, 1) := by decide +kernel
theorem dX0_quickComes_10 : decode cX0_quickComes 10 = .ok (.getfield 15, 3) := by decide +kernel
theorem dX0_quickComes_13 : decode cX0_quickComes 13 = .ok (.iload_n 1, 1) := by decide +kernel
theorem dX0_quickComes_14 : decode cX0_quickComes 14 = .ok (.iaload, 1) := by decide +kernel
theorem dX0_quickComes_15 : decode cX0_quickComes 15 = .ok (.iload_n 2, 1) := by decide +kernel
theorem dX0_quickComes_16 : decode cX0_quickComes 16 = .ok (.iadd, 1) := by decide +kernel
theorem dX0_quickComes_17 : decode cX0_quickComes 17 = .ok (.iload_n 3, 1) := by decide +kernel
theorem dX0_quickComes_18 : decode cX0_quickComes 18 = .ok (.iadd, 1) := by decide +kernel
theorem dX0_quickComes_19 : decode cX0_quickComes 19 = .ok (.iconst 1, 1) := by decide +kernel
theorem dX0_quickComes_20 : decode cX0_quickComes 20 = .ok (.isub, 1) := by decide +kernel
theorem dX0_quickComes_21 : decode cX0_quickComes 21 = .ok (.iload_n 3, 1) := by decide +kernel
theorem dX0_quickComes_22 : decode cX0_quickComes 22 = .ok (.idiv, 1) := by decide +kernel
theorem dX0_quickComes_23 : decode cX0_quickComes 23 = .ok (.ireturn, 1) := by decide +kernel
theorem dX1_init_0 : decode cX1_init 0 = .ok (.aload_n 0, 1) := by decide +kernel
theorem dX1_init_1 : decode cX1_init 1 = .ok (.invokespecial 3, 3) := by decide +kernel
theorem dX1_init_4 : decode cX1_init 4 = .ok (.aload_n 0, 1) := by decide +kernel
theorem dX1_init_5 : decode cX1_init 5 = .ok (.iconst 2, 1) := by decide +kernel
theorem dX1_init_6 : decode cX1_init 6 = .ok (.newarray .int, 2) := by decide +kernel
theorem dX1_init_8 : decode cX1_init 8 = .ok (.putfield 9, 3) := by decide +kernel
theorem dX1_init_11 : decode cX1_init 11 = .ok (.aload_n 0, 1) := by decide +kernel
theorem dX1_init_12 : decode cX1_init 12 = .ok (.iconst 2, 1) := by decide +kernel
theorem dX1_init_13 : decode cX1_init 13 = .ok (.sipush 300, 3) := by decide +kernel
theorem dX1_init_16 : decode cX1_init 16 = .ok (.multianewarray 15 2, 4) := by decide +kernel
theorem dX1_init_20 : decode cX1_init 20 = .ok (.putfield 17, 3) := by decide +kernel
theorem dX1_init_23 : decode cX1_init 23 = .ok (.aload_n 0, 1) := by decide +kernel
theorem dX1_init_24 : decode cX1_init 24 = .ok (.bipush 9, 2) := by decide +kernel
theorem dX1_init_26 : decode cX1_init 26 = .ok (.newarray .int, 2) := by decide +kernel
theorem dX1_init_28 : decode cX1_init 28 = .ok (.putfield 20, 3) := by decide +kernel
theorem dX1_init_31 : decode cX1_init 31 = .ok (.aload_n 0, 1) := by decide +kernel
theorem dX1_init_32 : decode cX1_init 32 = .ok (.bipush 9, 2) := by decide +kernel
theorem dX1_init_34 : decode cX1_init 34 = .ok (.newarray .int, 2) := by decide +kernel
theorem dX1_init_36 : decode cX1_init 36 = .ok (.putfield 23, 3) := by decide +kernel
theorem dX1_init_39 : decode cX1_init 39 = .ok (.aload_n 0, 1) := by decide +kernel
theorem dX1_init_40 : decode cX1_init 40 = .ok (.bipush 9, 2) := by decide +kernel
theorem dX1_init_42 : decode cX1_init 42 = .ok (.newarray .int, 2) := by decide +kernel
theorem dX1_init_44 : decode cX1_init 44 = .ok (.putfield 26, 3) := by decide +kernel
theorem dX1_init_47 : decode cX1_init 47 = .ok (.aload_n 0, 1) := by decide +kernel
theorem dX1_init_48 : decode cX1_init 48 = .ok (.bipush 9, 2) := by decide +kernel
theorem dX1_init_50 : decode cX1_init 50 = .ok (.newarray .int, 2) := by decide +kernel
theorem dX1_init_52 : decode cX1_init 52 = .ok (.putfield 29, 3) := by decide +kernel
theorem dX1_init_55 : decode cX1_init 55 = .ok (.aload_n 0, 1) := by decide +kernel
theorem dX1_init_56 : decode cX1_init 56 = .ok (.bipush 9, 2) := by decide +kernel
theorem dX1_init_58 : decode cX1_init 58 = .ok (.bipush 60, 2) := by decide +kernel
theorem dX1_init_60 : decode cX1_init 60 = .ok (.multianewarray 15 2, 4) := by decide +kernel
theorem dX1_init_64 : decode cX1_init 64 = .ok (.putfield 32, 3) := by decide +kernel
theorem dX1_init_67 : decode cX1_init 67 = .ok (.aload_n 0, 1) := by decide +kernel
theorem dX1_init_68 : decode cX1_init 68 = .ok (.iconst 3, 1) := by decide +kernel
theorem dX1_init_69 : decode cX1_init 69 = .ok (.newarray .int, 2) := by decide +kernel
theorem dX1_init_71 : decode cX1_init 71 = .ok (.putfield 35, 3) := by decide +kernel
theorem dX1_init_74 : decode cX1_init 74 = .ok (.aload_n 0, 1) := by decide +kernel
theorem dX1_init_75 : decode cX1_init 75 = .ok (.invokevirtual 38, 3) := by decide +kernel
theorem dX1_init_78 : decode cX1_init 78 = .ok (.return_, 1) := by decide +kernel
theorem dX1_clear_0 : decode cX1_clear 0 = .ok (.aload_n 0, 1) := by decide +kernel
theorem dX1_clear_1 : decode cX1_clear 1 = .ok (.iconst 0, 1) := by decide +kernel
theorem dX1_clear_2 : decode cX1_clear 2 = .ok (.putfield 41, 3) := by decide +kernel
theorem dX1_clear_5 : decode cX1_clear 5 = .ok (.aload_n 0, 1) := by decide +kernel
theorem dX1_clear_6 : decode cX1_clear 6 = .ok (.iconst 0, 1) := by decide +kernel
theorem dX1_clear_7 : decode cX1_clear 7 = .ok (.putfield 45, 3) := by decide +kernel
theorem dX1_clear_10 : decode cX1_clear 10 = .ok (.aload_n 0, 1) := by decide +kernel
theorem dX1_clear_11 : decode cX1_clear 11 = .ok (.getfield 9, 3) := by decide +kernel
theorem dX1_clear_14 : decode cX1_clear 14 = .ok (.iconst 0, 1) := by decide +kernel
theorem dX1_clear_15 : decode cX1_clear 15 = .ok (.invokestatic 48, 3) := by decide +kernel
theorem dX1_clear_18 : decode cX1_clear 18 = .ok (.iconst 0, 1) := by decide +kernel
theorem dX1_clear_19 : decode cX1_clear 19 = .ok (.istore_n 1, 1) := by decide +kernel
theorem dX1_clear_20 : decode cX1_clear 20 = .ok (.iload_n 1, 1) := by decide +kernel
theorem dX1_clear_21 : decode cX1_clear 21 = .ok (.iconst 2, 1) := by decide +kernel
theorem dX1_clear_22 : decode cX1_clear 22 = .ok (.if_icmp .ge 19, 3) := by decide +kernel
theorem dX1_clear_25 : decode cX1_clear 25 = .ok (.aload_n 0, 1) := by decide +kernel
theorem dX1_clear_26 : decode cX1_clear 26 = .ok (.getfield 17, 3) := by decide +kernel
theorem dX1_clear_29 : decode cX1_clear 29 = .ok (.iload_n 1, 1) := by decide +kernel
theorem dX1_clear_30 : decode cX1_clear 30 = .ok (.aaload, 1) := by decide +kernel
theorem dX1_clear_31 : decode cX1_clear 31 = .ok (.iconst (-1), 1) := by decide +kernel
theorem dX1_clear_32 : decode cX1_clear 32 = .ok (.invokestatic 48, 3) := by decide +kernel
theorem dX1_clear_35 : decode cX1_clear 35 = .ok (.iinc 1 1, 3) := by decide +kernel
theorem dX1_clear_38 : decode cX1_clear 38 = .ok (.goto (-18), 3) := by decide +kernel
theorem dX1_clear_41 : decode cX1_clear 41 = .ok (.aload_n 0, 1) := by decide +kernel
theorem dX1_clear_42 : decode cX1_clear 42 = .ok (.getfield 20, 3) := by decide +kernel
theorem dX1_clear_45 : decode cX1_clear 45 = .ok (.iconst (-1), 1) := by decide +kernel
theorem dX1_clear_46 : decode cX1_clear 46 = .ok (.invokestatic 48, 3) := by decide +kernel
theorem dX1_clear_49 : decode cX1_clear 49 = .ok (.aload_n 0, 1) := by decide +kernel
theorem dX1_clear_50 : decode cX1_clear 50 = .ok (.getfield 23, 3) := by decide +kernel
theorem dX1_clear_53 : decode cX1_clear 53 = .ok (.iconst (-1), 1) := by decide +kernel
theorem dX1_clear_54 : decode cX1_clear 54 = .ok (.invokestatic 48, 3) := by decide +kernel
theorem dX1_clear_57 : decode cX1_clear 57 = .ok (.aload_n 0, 1) := by decide +kernel
theorem dX1_clear_58 : decode cX1_clear 58 = .ok (.getfield 26, 3) := by decide +kernel
theorem dX1_clear_61 : decode cX1_clear 61 = .ok (.iconst 0, 1) := by decide +kernel
theorem dX1_clear_62 : decode cX1_clear 62 = .ok (.invokestatic 48, 3) := by decide +kernel
theorem dX1_clear_65 : decode cX1_clear 65 = .ok (.aload_n 0, 1) := by decide +kernel
theorem dX1_clear_66 : decode cX1_clear 66 = .ok (.getfield 29, 3) := by decide +kernel
theorem dX1_clear_69 : decode cX1_clear 69 = .ok (.iconst 0, 1) := by decide +kernel
theorem dX1_clear_70 : decode cX1_clear 70 = .ok (.invokestatic 48, 3) := by decide +kernel
theorem dX1_clear_73 : decode cX1_clear 73 = .ok (.return_, 1) := by decide +kernel
theorem dX1_seenOf_0 : decode cX1_seenOf 0 = .ok (.iload_n 2, 1) := by decide +kernel
theorem dX1_seenOf_1 : decode cX1_seenOf 1 = .ok (.ifCond .ne 12, 3) := by decide +kernel
theorem dX1_seenOf_4 : decode cX1_seenOf 4 = .ok (.aload_n 0, 1) := by decide +kernel
theorem dX1_seenOf_5 : decode cX1_seenOf 5 = .ok (.getfield 20, 3) := by decide +kernel
theorem dX1_seenOf_8 : decode cX1_seenOf 8 = .ok (.iload_n 1, 1) := by decide +kernel
theorem dX1_seenOf_9 : decode cX1_seenOf 9 = .ok (.iaload, 1) := by decide +kernel
theorem dX1_seenOf_10 : decode cX1_seenOf 10 = .ok (.goto 23, 3) := by decide +kernel
theorem dX1_seenOf_13 : decode cX1_seenOf 13 = .ok (.iload_n 2, 1) := by decide +kernel
theorem dX1_seenOf_14 : decode cX1_seenOf 14 = .ok (.iconst 1, 1) := by decide +kernel
theorem dX1_seenOf_15 : decode cX1_seenOf 15 = .ok (.if_icmp .ne 12, 3) := by decide +kernel
theorem dX1_seenOf_18 : decode cX1_seenOf 18 = .ok (.aload_n 0, 1) := by decide +kernel
theorem dX1_seenOf_19 : decode cX1_seenOf 19 = .ok (.getfield 23, 3) := by decide +kernel
theorem dX1_seenOf_22 : decode cX1_seenOf 22 = .ok (.iload_n 1, 1) := by decide +kernel
theorem dX1_seenOf_23 : decode cX1_seenOf 23 = .ok (.iaload, 1) := by decide +kernel
theorem dX1_seenOf_24 : decode cX1_seenOf 24 = .ok (.goto 9, 3) := by decide +kernel
theorem dX1_seenOf_27 : decode cX1_seenOf 27 = .ok (.aload_n 0, 1) := by decide +kernel
theorem dX1_seenOf_28 : decode cX1_seenOf 28 = .ok (.getfield 26, 3) := by decide +kernel
theorem dX1_seenOf_31 : decode cX1_seenOf 31 = .ok (.iload_n 1, 1) := by decide +kernel
theorem dX1_seenOf_32 : decode cX1_seenOf 32 = .ok (.iaload, 1) := by decide +kernel
theorem dX1_seenOf_33 : decode cX1_seenOf 33 = .ok (.ireturn, 1) := by decide +kernel
theorem dX1_go_0 : decode cX1_go 0 = .ok (.aload_n 0, 1) := by decide +kernel
theorem dX1_go_1 : decode cX1_go 1 = .ok (.invokevirtual 38, 3) := by decide +kernel
theorem dX1_go_4 : decode cX1_go 4 = .ok (.aload_n 0, 1) := by decide +kernel
theorem dX1_go_5 : decode cX1_go 5 = .ok (.iload_n 2, 1) := by decide +kernel
theorem dX1_go_6 : decode cX1_go 6 = .ok (.putfield 41, 3) := by decide +kernel
theorem dX1_go_9 : decode cX1_go 9 = .ok (.iconst 0, 1) := by decide +kernel
theorem dX1_go_10 : decode cX1_go 10 = .ok (.istore_n 3, 1) := by decide +kernel
theorem dX1_go_11 : decode cX1_go 11 = .ok (.iload_n 3, 1) := by decide +kernel
theorem dX1_go_12 : decode cX1_go 12 = .ok (.iconst 3, 1) := by decide +kernel
theorem dX1_go_13 : decode cX1_go 13 = .ok (.if_icmp .ge 21, 3) := by decide +kernel
theorem dX1_go_16 : decode cX1_go 16 = .ok (.aload_n 0, 1) := by decide +kernel
theorem dX1_go_17 : decode cX1_go 17 = .ok (.getfield 35, 3) := by decide +kernel
theorem dX1_go_20 : decode cX1_go 20 = .ok (.iload_n 3, 1) := by decide +kernel
theorem dX1_go_21 : decode cX1_go 21 = .ok (.aload_n 1, 1) := by decide +kernel
theorem dX1_go_22 : decode cX1_go 22 = .ok (.iload_n 3, 1) := by decide +kernel
theorem dX1_go_23 : decode cX1_go 23 = .ok (.iconst 0, 1) := by decide +kernel
theorem dX1_go_24 : decode cX1_go 24 = .ok (.invokestatic 54, 3) := by decide +kernel
theorem dX1_go_27 : decode cX1_go 27 = .ok (.iastore, 1) := by decide +kernel
theorem dX1_go_28 : decode cX1_go 28 = .ok (.iinc 3 1, 3) := by decide +kernel
theorem dX1_go_31 : decode cX1_go 31 = .ok (.goto (-20), 3) := by decide +kernel
theorem dX1_go_34 : decode cX1_go 34 = .ok (.iconst 0, 1) := by decide +kernel
theorem dX1_go_35 : decode cX1_go 35 = .ok (.istore_n 3, 1) := by decide +kernel
theorem dX1_go_36 : decode cX1_go 36 = .ok (.iload_n 3, 1) := by decide +kernel
theorem dX1_go_37 : decode cX1_go 37 = .ok (.iload_n 2, 1) := by decide +kernel
theorem dX1_go_38 : decode cX1_go 38 = .ok (.if_icmp .ge 73, 3) := by decide +kernel
theorem dX1_go_41 : decode cX1_go 41 = .ok (.iconst 0, 1) := by decide +kernel
theorem dX1_go_42 : decode cX1_go 42 = .ok (.istore 4, 2) := by decide +kernel
theorem dX1_go_44 : decode cX1_go 44 = .ok (.iload 4, 2) := by decide +kernel
theorem dX1_go_46 : decode cX1_go 46 = .ok (.iconst 2, 1) := by decide +kernel
theorem dX1_go_47 : decode cX1_go 47 = .ok (.if_icmp .ge 58, 3) := by decide +kernel
theorem dX1_go_50 : decode cX1_go 50 = .ok (.aload_n 0, 1) := by decide +kernel
theorem dX1_go_51 : decode cX1_go 51 = .ok (.aload_n 1, 1) := by decide +kernel
theorem dX1_go_52 : decode cX1_go 52 = .ok (.iload 4, 2) := by decide +kernel
theorem dX1_go_54 : decode cX1_go 54 = .ok (.iload_n 3, 1) := by decide +kernel
theorem dX1_go_55 : decode cX1_go 55 = .ok (.invokevirtual 58, 3) := by decide +kernel
theorem dX1_go_58 : decode cX1_go 58 = .ok (.istore 5, 2) := by decide +kernel
theorem dX1_go_60 : decode cX1_go 60 = .ok (.aload_n 0, 1) := by decide +kernel
theorem dX1_go_61 : decode cX1_go 61 = .ok (.getfield 17, 3) := by decide +kernel
theorem dX1_go_64 : decode cX1_go 64 = .ok (.iload 4, 2) := by decide +kernel
theorem dX1_go_66 : decode cX1_go 66 = .ok (.aaload, 1) := by decide +kernel
theorem dX1_go_67 : decode cX1_go 67 = .ok (.iload_n 3, 1) := by decide +kernel
theorem dX1_go_68 : decode cX1_go 68 = .ok (.iload 5, 2) := by decide +kernel
theorem dX1_go_70 : decode cX1_go 70 = .ok (.iastore, 1) := by decide +kernel
theorem dX1_go_71 : decode cX1_go 71 = .ok (.iload 5, 2) := by decide +kernel
theorem dX1_go_73 : decode cX1_go 73 = .ok (.iconst (-1), 1) := by decide +kernel
theorem dX1_go_74 : decode cX1_go 74 = .ok (.if_icmp .ne 17, 3) := by decide +kernel
theorem dX1_go_77 : decode cX1_go 77 = .ok (.aload_n 0, 1) := by decide +kernel
theorem dX1_go_78 : decode cX1_go 78 = .ok (.getfield 9, 3) := by decide +kernel
theorem dX1_go_81 : decode cX1_go 81 = .ok (.iload 4, 2) := by decide +kernel
theorem dX1_go_83 : decode cX1_go 83 = .ok (.dup2, 1) := by decide +kernel
theorem dX1_go_84 : decode cX1_go 84 = .ok (.iaload, 1) := by decide +kernel
theorem dX1_go_85 : decode cX1_go 85 = .ok (.iconst 1, 1) := by decide +kernel
theorem dX1_go_86 : decode cX1_go 86 = .ok (.iadd, 1) := by decide +kernel
theorem dX1_go_87 : decode cX1_go 87 = .ok (.iastore, 1) := by decide +kernel
theorem dX1_go_88 : decode cX1_go 88 = .ok (.goto 11, 3) := by decide +kernel
theorem dX1_go_91 : decode cX1_go 91 = .ok (.aload_n 0, 1) := by decide +kernel
theorem dX1_go_92 : decode cX1_go 92 = .ok (.aload_n 1, 1) := by decide +kernel
theorem dX1_go_93 : decode cX1_go 93 = .ok (.iload 5, 2) := by decide +kernel
theorem dX1_go_95 : decode cX1_go 95 = .ok (.iload_n 3, 1) := by decide +kernel
theorem dX1_go_96 : decode cX1_go 96 = .ok (.invokevirtual 61, 3) := by decide +kernel
theorem dX1_go_99 : decode cX1_go 99 = .ok (.iinc 4 1, 3) := by decide +kernel
theorem dX1_go_102 : decode cX1_go 102 = .ok (.goto (-58), 3) := by decide +kernel
theorem dX1_go_105 : decode cX1_go 105 = .ok (.iinc 3 1, 3) := by decide +kernel
theorem dX1_go_108 : decode cX1_go 108 = .ok (.goto (-72), 3) := by decide +kernel
theorem dX1_go_111 : decode cX1_go 111 = .ok (.return_, 1) := by decide +kernel
theorem dX1_firstReady_0 : decode cX1_firstReady 0 = .ok (.iconst 1, 1) := by decide +kernel
theorem dX1_firstReady_1 : decode cX1_firstReady 1 = .ok (.aload_n 0, 1) := by decide +kernel
theorem dX1_firstReady_2 : decode cX1_firstReady 2 = .ok (.getfield 65, 3) := by decide +kernel
theorem dX1_firstReady_5 : decode cX1_firstReady 5 = .ok (.iconst 1, 1) := by decide +kernel
theorem dX1_firstReady_6 : decode cX1_firstReady 6 = .ok (.aaload, 1) := by decide +kernel
theorem dX1_firstReady_7 : decode cX1_firstReady 7 = .ok (.iload_n 1, 1) := by decide +kernel
theorem dX1_firstReady_8 : decode cX1_firstReady 8 = .ok (.iaload, 1) := by decide +kernel
theorem dX1_firstReady_9 : decode cX1_firstReady 9 = .ok (.iconst 1, 1) := by decide +kernel
theorem dX1_firstReady_10 : decode cX1_firstReady 10 = .ok (.iadd, 1) := by decide +kernel
theorem dX1_firstReady_11 : decode cX1_firstReady 11 = .ok (.invokestatic 70, 3) := by decide +kernel
theorem dX1_firstReady_14 : decode cX1_firstReady 14 = .ok (.istore_n 3, 1) := by decide +kernel
theorem dX1_firstReady_15 : decode cX1_firstReady 15 = .ok (.aload_n 0, 1) := by decide +kernel
theorem dX1_firstReady_16 : decode cX1_firstReady 16 = .ok (.iload_n 1, 1) := by decide +kernel
theorem dX1_firstReady_17 : decode cX1_firstReady 17 = .ok (.iload_n 2, 1) := by decide +kernel
theorem dX1_firstReady_18 : decode cX1_firstReady 18 = .ok (.invokestatic 76, 3) := by decide +kernel
theorem dX1_firstReady_21 : decode cX1_firstReady 21 = .ok (.aload_n 0, 1) := by decide +kernel
theorem dX1_firstReady_22 : decode cX1_firstReady 22 = .ok (.getfield 79, 3) := by decide +kernel
theorem dX1_firstReady_25 : decode cX1_firstReady 25 = .ok (.iconst 3, 1) := by decide +kernel
theorem dX1_firstReady_26 : decode cX1_firstReady 26 = .ok (.aaload, 1) := by decide +kernel
theorem dX1_firstReady_27 : decode cX1_firstReady 27 = .ok (.iload_n 1, 1) := by decide +kernel
theorem dX1_firstReady_28 : decode cX1_firstReady 28 = .ok (.iconst 3, 1) := by decide +kernel
theorem dX1_firstReady_29 : decode cX1_firstReady 29 = .ok (.imul, 1) := by decide +kernel
theorem dX1_firstReady_30 : decode cX1_firstReady 30 = .ok (.iaload, 1) := by decide +kernel
theorem dX1_firstReady_31 : decode cX1_firstReady 31 = .ok (.iadd, 1) := by decide +kernel
theorem dX1_firstReady_32 : decode cX1_firstReady 32 = .ok (.iload_n 2, 1) := by decide +kernel
theorem dX1_firstReady_33 : decode cX1_firstReady 33 = .ok (.aload_n 0, 1) := by decide +kernel
theorem dX1_firstReady_34 : decode cX1_firstReady 34 = .ok (.getfield 65, 3) := by decide +kernel
theorem dX1_firstReady_37 : decode cX1_firstReady 37 = .ok (.iconst 4, 1) := by decide +kernel
theorem dX1_firstReady_38 : decode cX1_firstReady 38 = .ok (.aaload, 1) := by decide +kernel
theorem dX1_firstReady_39 : decode cX1_firstReady 39 = .ok (.iload_n 1, 1) := by decide +kernel
theorem dX1_firstReady_40 : decode cX1_firstReady 40 = .ok (.iaload, 1) := by decide +kernel
theorem dX1_firstReady_41 : decode cX1_firstReady 41 = .ok (.imul, 1) := by decide +kernel
theorem dX1_firstReady_42 : decode cX1_firstReady 42 = .ok (.iload_n 3, 1) := by decide +kernel
theorem dX1_firstReady_43 : decode cX1_firstReady 43 = .ok (.irem, 1) := by decide +kernel
theorem dX1_firstReady_44 : decode cX1_firstReady 44 = .ok (.iadd, 1) := by decide +kernel
theorem dX1_firstReady_45 : decode cX1_firstReady 45 = .ok (.ireturn, 1) := by decide +kernel
theorem dX1_released_0 : decode cX1_released 0 = .ok (.aload_n 0, 1) := by decide +kernel
theorem dX1_released_1 : decode cX1_released 1 = .ok (.getfield 65, 3) := by decide +kernel
theorem dX1_released_4 : decode cX1_released 4 = .ok (.iconst 3, 1) := by decide +kernel
theorem dX1_released_5 : decode cX1_released 5 = .ok (.aaload, 1) := by decide +kernel
theorem dX1_released_6 : decode cX1_released 6 = .ok (.iload_n 1, 1) := by decide +kernel
theorem dX1_released_7 : decode cX1_released 7 = .ok (.iaload, 1) := by decide +kernel
theorem dX1_released_8 : decode cX1_released 8 = .ok (.iload_n 2, 1) := by decide +kernel
theorem dX1_released_9 : decode cX1_released 9 = .ok (.aload_n 0, 1) := by decide +kernel
theorem dX1_released_10 : decode cX1_released 10 = .ok (.getfield 65, 3) := by decide +kernel
theorem dX1_released_13 : decode cX1_released 13 = .ok (.iconst 0, 1) := by decide +kernel
theorem dX1_released_14 : decode cX1_released 14 = .ok (.aaload, 1) := by decide +kernel
theorem dX1_released_15 : decode cX1_released 15 = .ok (.iload_n 1, 1) := by decide +kernel
theorem dX1_released_16 : decode cX1_released 16 = .ok (.iaload, 1) := by decide +kernel
theorem dX1_released_17 : decode cX1_released 17 = .ok (.imul, 1) := by decide +kernel
end
section
theorem dX1_released_18 : decode cX1_released 18 = .ok (.iadd, 1) := by decide +kernel
theorem dX1_released_19 : decode cX1_released 19 = .ok (.ireturn, 1) := by decide +kernel
theorem dX1_mostUrgent_0 : decode cX1_mostUrgent 0 = .ok (.iconst (-1), 1) := by decide +kernel
theorem dX1_mostUrgent_1 : decode cX1_mostUrgent 1 = .ok (.istore 4, 2) := by decide +kernel
theorem dX1_mostUrgent_3 : decode cX1_mostUrgent 3 = .ok (.iconst 0, 1) := by decide +kernel
theorem dX1_mostUrgent_4 : decode cX1_mostUrgent 4 = .ok (.istore 5, 2) := by decide +kernel
theorem dX1_mostUrgent_6 : decode cX1_mostUrgent 6 = .ok (.iload 5, 2) := by decide +kernel
theorem dX1_mostUrgent_8 : decode cX1_mostUrgent 8 = .ok (.bipush 9, 2) := by decide +kernel
theorem dX1_mostUrgent_10 : decode cX1_mostUrgent 10 = .ok (.if_icmp .ge 73, 3) := by decide +kernel
theorem dX1_mostUrgent_13 : decode cX1_mostUrgent 13 = .ok (.aload_n 1, 1) := by decide +kernel
theorem dX1_mostUrgent_14 : decode cX1_mostUrgent 14 = .ok (.iload 5, 2) := by decide +kernel
theorem dX1_mostUrgent_16 : decode cX1_mostUrgent 16 = .ok (.invokevirtual 82, 3) := by decide +kernel
theorem dX1_mostUrgent_19 : decode cX1_mostUrgent 19 = .ok (.ifCond .eq 58, 3) := by decide +kernel
theorem dX1_mostUrgent_22 : decode cX1_mostUrgent 22 = .ok (.aload_n 1, 1) := by decide +kernel
theorem dX1_mostUrgent_23 : decode cX1_mostUrgent 23 = .ok (.getfield 79, 3) := by decide +kernel
theorem dX1_mostUrgent_26 : decode cX1_mostUrgent 26 = .ok (.iconst 0, 1) := by decide +kernel
theorem dX1_mostUrgent_27 : decode cX1_mostUrgent 27 = .ok (.aaload, 1) := by decide +kernel
theorem dX1_mostUrgent_28 : decode cX1_mostUrgent 28 = .ok (.iload 5, 2) := by decide +kernel
theorem dX1_mostUrgent_30 : decode cX1_mostUrgent 30 = .ok (.iaload, 1) := by decide +kernel
theorem dX1_mostUrgent_31 : decode cX1_mostUrgent 31 = .ok (.iload_n 2, 1) := by decide +kernel
theorem dX1_mostUrgent_32 : decode cX1_mostUrgent 32 = .ok (.if_icmp .ne 45, 3) := by decide +kernel
theorem dX1_mostUrgent_35 : decode cX1_mostUrgent 35 = .ok (.aload_n 0, 1) := by decide +kernel
theorem dX1_mostUrgent_36 : decode cX1_mostUrgent 36 = .ok (.aload_n 1, 1) := by decide +kernel
theorem dX1_mostUrgent_37 : decode cX1_mostUrgent 37 = .ok (.iload 5, 2) := by decide +kernel
theorem dX1_mostUrgent_39 : decode cX1_mostUrgent 39 = .ok (.iload_n 3, 1) := by decide +kernel
theorem dX1_mostUrgent_40 : decode cX1_mostUrgent 40 = .ok (.invokevirtual 86, 3) := by decide +kernel
theorem dX1_mostUrgent_43 : decode cX1_mostUrgent 43 = .ok (.ifCond .eq 34, 3) := by decide +kernel
theorem dX1_mostUrgent_46 : decode cX1_mostUrgent 46 = .ok (.iload 4, 2) := by decide +kernel
theorem dX1_mostUrgent_48 : decode cX1_mostUrgent 48 = .ok (.iconst (-1), 1) := by decide +kernel
theorem dX1_mostUrgent_49 : decode cX1_mostUrgent 49 = .ok (.if_icmp .eq 24, 3) := by decide +kernel
theorem dX1_mostUrgent_52 : decode cX1_mostUrgent 52 = .ok (.aload_n 1, 1) := by decide +kernel
theorem dX1_mostUrgent_53 : decode cX1_mostUrgent 53 = .ok (.getfield 79, 3) := by decide +kernel
theorem dX1_mostUrgent_56 : decode cX1_mostUrgent 56 = .ok (.iconst 2, 1) := by decide +kernel
theorem dX1_mostUrgent_57 : decode cX1_mostUrgent 57 = .ok (.aaload, 1) := by decide +kernel
theorem dX1_mostUrgent_58 : decode cX1_mostUrgent 58 = .ok (.iload 5, 2) := by decide +kernel
theorem dX1_mostUrgent_60 : decode cX1_mostUrgent 60 = .ok (.iaload, 1) := by decide +kernel
theorem dX1_mostUrgent_61 : decode cX1_mostUrgent 61 = .ok (.aload_n 1, 1) := by decide +kernel
theorem dX1_mostUrgent_62 : decode cX1_mostUrgent 62 = .ok (.getfield 79, 3) := by decide +kernel
theorem dX1_mostUrgent_65 : decode cX1_mostUrgent 65 = .ok (.iconst 2, 1) := by decide +kernel
theorem dX1_mostUrgent_66 : decode cX1_mostUrgent 66 = .ok (.aaload, 1) := by decide +kernel
theorem dX1_mostUrgent_67 : decode cX1_mostUrgent 67 = .ok (.iload 4, 2) := by decide +kernel
theorem dX1_mostUrgent_69 : decode cX1_mostUrgent 69 = .ok (.iaload, 1) := by decide +kernel
theorem dX1_mostUrgent_70 : decode cX1_mostUrgent 70 = .ok (.if_icmp .le 7, 3) := by decide +kernel
theorem dX1_mostUrgent_73 : decode cX1_mostUrgent 73 = .ok (.iload 5, 2) := by decide +kernel
theorem dX1_mostUrgent_75 : decode cX1_mostUrgent 75 = .ok (.istore 4, 2) := by decide +kernel
theorem dX1_mostUrgent_77 : decode cX1_mostUrgent 77 = .ok (.iinc 5 1, 3) := by decide +kernel
theorem dX1_mostUrgent_80 : decode cX1_mostUrgent 80 = .ok (.goto (-74), 3) := by decide +kernel
theorem dX1_mostUrgent_83 : decode cX1_mostUrgent 83 = .ok (.iload 4, 2) := by decide +kernel
theorem dX1_mostUrgent_85 : decode cX1_mostUrgent 85 = .ok (.ireturn, 1) := by decide +kernel
theorem dX1_isReady_0 : decode cX1_isReady 0 = .ok (.aload_n 0, 1) := by decide +kernel
theorem dX1_isReady_1 : decode cX1_isReady 1 = .ok (.getfield 26, 3) := by decide +kernel
theorem dX1_isReady_4 : decode cX1_isReady 4 = .ok (.iload_n 2, 1) := by decide +kernel
theorem dX1_isReady_5 : decode cX1_isReady 5 = .ok (.iaload, 1) := by decide +kernel
theorem dX1_isReady_6 : decode cX1_isReady 6 = .ok (.istore 4, 2) := by decide +kernel
theorem dX1_isReady_8 : decode cX1_isReady 8 = .ok (.iload 4, 2) := by decide +kernel
theorem dX1_isReady_10 : decode cX1_isReady 10 = .ok (.bipush 60, 2) := by decide +kernel
theorem dX1_isReady_12 : decode cX1_isReady 12 = .ok (.if_icmp .lt 5, 3) := by decide +kernel
theorem dX1_isReady_15 : decode cX1_isReady 15 = .ok (.iconst 0, 1) := by decide +kernel
theorem dX1_isReady_16 : decode cX1_isReady 16 = .ok (.ireturn, 1) := by decide +kernel
theorem dX1_isReady_17 : decode cX1_isReady 17 = .ok (.iload_n 2, 1) := by decide +kernel
theorem dX1_isReady_18 : decode cX1_isReady 18 = .ok (.iconst 3, 1) := by decide +kernel
theorem dX1_isReady_19 : decode cX1_isReady 19 = .ok (.irem, 1) := by decide +kernel
theorem dX1_isReady_20 : decode cX1_isReady 20 = .ok (.ifCond .ne 21, 3) := by decide +kernel
theorem dX1_isReady_23 : decode cX1_isReady 23 = .ok (.aload_n 0, 1) := by decide +kernel
theorem dX1_isReady_24 : decode cX1_isReady 24 = .ok (.getfield 35, 3) := by decide +kernel
theorem dX1_isReady_27 : decode cX1_isReady 27 = .ok (.iload_n 2, 1) := by decide +kernel
theorem dX1_isReady_28 : decode cX1_isReady 28 = .ok (.iconst 3, 1) := by decide +kernel
theorem dX1_isReady_29 : decode cX1_isReady 29 = .ok (.idiv, 1) := by decide +kernel
theorem dX1_isReady_30 : decode cX1_isReady 30 = .ok (.iaload, 1) := by decide +kernel
theorem dX1_isReady_31 : decode cX1_isReady 31 = .ok (.iload_n 3, 1) := by decide +kernel
theorem dX1_isReady_32 : decode cX1_isReady 32 = .ok (.if_icmp .gt 7, 3) := by decide +kernel
theorem dX1_isReady_35 : decode cX1_isReady 35 = .ok (.iconst 1, 1) := by decide +kernel
theorem dX1_isReady_36 : decode cX1_isReady 36 = .ok (.goto 4, 3) := by decide +kernel
theorem dX1_isReady_39 : decode cX1_isReady 39 = .ok (.iconst 0, 1) := by decide +kernel
theorem dX1_isReady_40 : decode cX1_isReady 40 = .ok (.ireturn, 1) := by decide +kernel
theorem dX1_isReady_41 : decode cX1_isReady 41 = .ok (.iload 4, 2) := by decide +kernel
theorem dX1_isReady_43 : decode cX1_isReady 43 = .ok (.aload_n 0, 1) := by decide +kernel
theorem dX1_isReady_44 : decode cX1_isReady 44 = .ok (.getfield 26, 3) := by decide +kernel
theorem dX1_isReady_47 : decode cX1_isReady 47 = .ok (.iload_n 2, 1) := by decide +kernel
theorem dX1_isReady_48 : decode cX1_isReady 48 = .ok (.iconst 1, 1) := by decide +kernel
theorem dX1_isReady_49 : decode cX1_isReady 49 = .ok (.isub, 1) := by decide +kernel
theorem dX1_isReady_50 : decode cX1_isReady 50 = .ok (.iaload, 1) := by decide +kernel
theorem dX1_isReady_51 : decode cX1_isReady 51 = .ok (.if_icmp .ge 31, 3) := by decide +kernel
theorem dX1_isReady_54 : decode cX1_isReady 54 = .ok (.aload_n 0, 1) := by decide +kernel
theorem dX1_isReady_55 : decode cX1_isReady 55 = .ok (.getfield 32, 3) := by decide +kernel
theorem dX1_isReady_58 : decode cX1_isReady 58 = .ok (.iload_n 2, 1) := by decide +kernel
theorem dX1_isReady_59 : decode cX1_isReady 59 = .ok (.iconst 1, 1) := by decide +kernel
theorem dX1_isReady_60 : decode cX1_isReady 60 = .ok (.isub, 1) := by decide +kernel
theorem dX1_isReady_61 : decode cX1_isReady 61 = .ok (.aaload, 1) := by decide +kernel
theorem dX1_isReady_62 : decode cX1_isReady 62 = .ok (.iload 4, 2) := by decide +kernel
theorem dX1_isReady_64 : decode cX1_isReady 64 = .ok (.iaload, 1) := by decide +kernel
theorem dX1_isReady_65 : decode cX1_isReady 65 = .ok (.aload_n 1, 1) := by decide +kernel
theorem dX1_isReady_66 : decode cX1_isReady 66 = .ok (.getfield 79, 3) := by decide +kernel
theorem dX1_isReady_69 : decode cX1_isReady 69 = .ok (.iconst 3, 1) := by decide +kernel
theorem dX1_isReady_70 : decode cX1_isReady 70 = .ok (.aaload, 1) := by decide +kernel
theorem dX1_isReady_71 : decode cX1_isReady 71 = .ok (.iload_n 2, 1) := by decide +kernel
theorem dX1_isReady_72 : decode cX1_isReady 72 = .ok (.iaload, 1) := by decide +kernel
theorem dX1_isReady_73 : decode cX1_isReady 73 = .ok (.iadd, 1) := by decide +kernel
theorem dX1_isReady_74 : decode cX1_isReady 74 = .ok (.iload_n 3, 1) := by decide +kernel
theorem dX1_isReady_75 : decode cX1_isReady 75 = .ok (.if_icmp .gt 7, 3) := by decide +kernel
theorem dX1_isReady_78 : decode cX1_isReady 78 = .ok (.iconst 1, 1) := by decide +kernel
theorem dX1_isReady_79 : decode cX1_isReady 79 = .ok (.goto 4, 3) := by decide +kernel
theorem dX1_isReady_82 : decode cX1_isReady 82 = .ok (.iconst 0, 1) := by decide +kernel
theorem dX1_isReady_83 : decode cX1_isReady 83 = .ok (.ireturn, 1) := by decide +kernel
theorem dX1_doTick_0 : decode cX1_doTick 0 = .ok (.aload_n 0, 1) := by decide +kernel
theorem dX1_doTick_1 : decode cX1_doTick 1 = .ok (.getfield 29, 3) := by decide +kernel
theorem dX1_doTick_4 : decode cX1_doTick 4 = .ok (.iload_n 2, 1) := by decide +kernel
theorem dX1_doTick_5 : decode cX1_doTick 5 = .ok (.dup2, 1) := by decide +kernel
theorem dX1_doTick_6 : decode cX1_doTick 6 = .ok (.iaload, 1) := by decide +kernel
theorem dX1_doTick_7 : decode cX1_doTick 7 = .ok (.iconst 1, 1) := by decide +kernel
theorem dX1_doTick_8 : decode cX1_doTick 8 = .ok (.iadd, 1) := by decide +kernel
theorem dX1_doTick_9 : decode cX1_doTick 9 = .ok (.iastore, 1) := by decide +kernel
theorem dX1_doTick_10 : decode cX1_doTick 10 = .ok (.aload_n 0, 1) := by decide +kernel
theorem dX1_doTick_11 : decode cX1_doTick 11 = .ok (.getfield 29, 3) := by decide +kernel
theorem dX1_doTick_14 : decode cX1_doTick 14 = .ok (.iload_n 2, 1) := by decide +kernel
theorem dX1_doTick_15 : decode cX1_doTick 15 = .ok (.iaload, 1) := by decide +kernel
theorem dX1_doTick_16 : decode cX1_doTick 16 = .ok (.aload_n 1, 1) := by decide +kernel
theorem dX1_doTick_17 : decode cX1_doTick 17 = .ok (.getfield 79, 3) := by decide +kernel
theorem dX1_doTick_20 : decode cX1_doTick 20 = .ok (.iconst 1, 1) := by decide +kernel
theorem dX1_doTick_21 : decode cX1_doTick 21 = .ok (.aaload, 1) := by decide +kernel
theorem dX1_doTick_22 : decode cX1_doTick 22 = .ok (.iload_n 2, 1) := by decide +kernel
theorem dX1_doTick_23 : decode cX1_doTick 23 = .ok (.iaload, 1) := by decide +kernel
theorem dX1_doTick_24 : decode cX1_doTick 24 = .ok (.if_icmp .ge 4, 3) := by decide +kernel
theorem dX1_doTick_27 : decode cX1_doTick 27 = .ok (.return_, 1) := by decide +kernel
theorem dX1_doTick_28 : decode cX1_doTick 28 = .ok (.iload_n 2, 1) := by decide +kernel
theorem dX1_doTick_29 : decode cX1_doTick 29 = .ok (.iconst 3, 1) := by decide +kernel
theorem dX1_doTick_30 : decode cX1_doTick 30 = .ok (.idiv, 1) := by decide +kernel
theorem dX1_doTick_31 : decode cX1_doTick 31 = .ok (.istore 4, 2) := by decide +kernel
theorem dX1_doTick_33 : decode cX1_doTick 33 = .ok (.aload_n 0, 1) := by decide +kernel
theorem dX1_doTick_34 : decode cX1_doTick 34 = .ok (.getfield 26, 3) := by decide +kernel
theorem dX1_doTick_37 : decode cX1_doTick 37 = .ok (.iload_n 2, 1) := by decide +kernel
theorem dX1_doTick_38 : decode cX1_doTick 38 = .ok (.iaload, 1) := by decide +kernel
theorem dX1_doTick_39 : decode cX1_doTick 39 = .ok (.istore 5, 2) := by decide +kernel
theorem dX1_doTick_41 : decode cX1_doTick 41 = .ok (.iload_n 3, 1) := by decide +kernel
theorem dX1_doTick_42 : decode cX1_doTick 42 = .ok (.iconst 1, 1) := by decide +kernel
theorem dX1_doTick_43 : decode cX1_doTick 43 = .ok (.iadd, 1) := by decide +kernel
theorem dX1_doTick_44 : decode cX1_doTick 44 = .ok (.aload_n 1, 1) := by decide +kernel
theorem dX1_doTick_45 : decode cX1_doTick 45 = .ok (.iload 4, 2) := by decide +kernel
theorem dX1_doTick_47 : decode cX1_doTick 47 = .ok (.iload 5, 2) := by decide +kernel
theorem dX1_doTick_49 : decode cX1_doTick 49 = .ok (.invokestatic 76, 3) := by decide +kernel
theorem dX1_doTick_52 : decode cX1_doTick 52 = .ok (.isub, 1) := by decide +kernel
theorem dX1_doTick_53 : decode cX1_doTick 53 = .ok (.istore 6, 2) := by decide +kernel
theorem dX1_doTick_55 : decode cX1_doTick 55 = .ok (.aload_n 0, 1) := by decide +kernel
theorem dX1_doTick_56 : decode cX1_doTick 56 = .ok (.getfield 32, 3) := by decide +kernel
theorem dX1_doTick_59 : decode cX1_doTick 59 = .ok (.iload_n 2, 1) := by decide +kernel
theorem dX1_doTick_60 : decode cX1_doTick 60 = .ok (.aaload, 1) := by decide +kernel
theorem dX1_doTick_61 : decode cX1_doTick 61 = .ok (.iload 5, 2) := by decide +kernel
theorem dX1_doTick_63 : decode cX1_doTick 63 = .ok (.iload_n 3, 1) := by decide +kernel
theorem dX1_doTick_64 : decode cX1_doTick 64 = .ok (.iconst 1, 1) := by decide +kernel
theorem dX1_doTick_65 : decode cX1_doTick 65 = .ok (.iadd, 1) := by decide +kernel
theorem dX1_doTick_66 : decode cX1_doTick 66 = .ok (.iastore, 1) := by decide +kernel
theorem dX1_doTick_67 : decode cX1_doTick 67 = .ok (.aload_n 0, 1) := by decide +kernel
theorem dX1_doTick_68 : decode cX1_doTick 68 = .ok (.getfield 29, 3) := by decide +kernel
theorem dX1_doTick_71 : decode cX1_doTick 71 = .ok (.iload_n 2, 1) := by decide +kernel
theorem dX1_doTick_72 : decode cX1_doTick 72 = .ok (.iconst 0, 1) := by decide +kernel
theorem dX1_doTick_73 : decode cX1_doTick 73 = .ok (.iastore, 1) := by decide +kernel
theorem dX1_doTick_74 : decode cX1_doTick 74 = .ok (.aload_n 0, 1) := by decide +kernel
theorem dX1_doTick_75 : decode cX1_doTick 75 = .ok (.getfield 26, 3) := by decide +kernel
theorem dX1_doTick_78 : decode cX1_doTick 78 = .ok (.iload_n 2, 1) := by decide +kernel
theorem dX1_doTick_79 : decode cX1_doTick 79 = .ok (.dup2, 1) := by decide +kernel
theorem dX1_doTick_80 : decode cX1_doTick 80 = .ok (.iaload, 1) := by decide +kernel
theorem dX1_doTick_81 : decode cX1_doTick 81 = .ok (.iconst 1, 1) := by decide +kernel
theorem dX1_doTick_82 : decode cX1_doTick 82 = .ok (.iadd, 1) := by decide +kernel
theorem dX1_doTick_83 : decode cX1_doTick 83 = .ok (.iastore, 1) := by decide +kernel
theorem dX1_doTick_84 : decode cX1_doTick 84 = .ok (.aload_n 0, 1) := by decide +kernel
theorem dX1_doTick_85 : decode cX1_doTick 85 = .ok (.dup, 1) := by decide +kernel
theorem dX1_doTick_86 : decode cX1_doTick 86 = .ok (.getfield 45, 3) := by decide +kernel
theorem dX1_doTick_89 : decode cX1_doTick 89 = .ok (.iconst 1, 1) := by decide +kernel
theorem dX1_doTick_90 : decode cX1_doTick 90 = .ok (.iadd, 1) := by decide +kernel
theorem dX1_doTick_91 : decode cX1_doTick 91 = .ok (.putfield 45, 3) := by decide +kernel
theorem dX1_doTick_94 : decode cX1_doTick 94 = .ok (.aload_n 0, 1) := by decide +kernel
theorem dX1_doTick_95 : decode cX1_doTick 95 = .ok (.getfield 20, 3) := by decide +kernel
theorem dX1_doTick_98 : decode cX1_doTick 98 = .ok (.iload_n 2, 1) := by decide +kernel
theorem dX1_doTick_99 : decode cX1_doTick 99 = .ok (.aload_n 0, 1) := by decide +kernel
theorem dX1_doTick_100 : decode cX1_doTick 100 = .ok (.getfield 20, 3) := by decide +kernel
theorem dX1_doTick_103 : decode cX1_doTick 103 = .ok (.iload_n 2, 1) := by decide +kernel
theorem dX1_doTick_104 : decode cX1_doTick 104 = .ok (.iaload, 1) := by decide +kernel
theorem dX1_doTick_105 : decode cX1_doTick 105 = .ok (.iload 6, 2) := by decide +kernel
theorem dX1_doTick_107 : decode cX1_doTick 107 = .ok (.invokestatic 70, 3) := by decide +kernel
theorem dX1_doTick_110 : decode cX1_doTick 110 = .ok (.iastore, 1) := by decide +kernel
theorem dX1_doTick_111 : decode cX1_doTick 111 = .ok (.aload_n 0, 1) := by decide +kernel
theorem dX1_doTick_112 : decode cX1_doTick 112 = .ok (.getfield 23, 3) := by decide +kernel
theorem dX1_doTick_115 : decode cX1_doTick 115 = .ok (.iload_n 2, 1) := by decide +kernel
theorem dX1_doTick_116 : decode cX1_doTick 116 = .ok (.aload_n 0, 1) := by decide +kernel
theorem dX1_doTick_117 : decode cX1_doTick 117 = .ok (.getfield 23, 3) := by decide +kernel
theorem dX1_doTick_120 : decode cX1_doTick 120 = .ok (.iload_n 2, 1) := by decide +kernel
theorem dX1_doTick_121 : decode cX1_doTick 121 = .ok (.iaload, 1) := by decide +kernel
theorem dX1_doTick_122 : decode cX1_doTick 122 = .ok (.iconst (-1), 1) := by decide +kernel
theorem dX1_doTick_123 : decode cX1_doTick 123 = .ok (.if_icmp .ne 8, 3) := by decide +kernel
theorem dX1_doTick_126 : decode cX1_doTick 126 = .ok (.iload 6, 2) := by decide +kernel
theorem dX1_doTick_128 : decode cX1_doTick 128 = .ok (.goto 14, 3) := by decide +kernel
theorem dX1_doTick_131 : decode cX1_doTick 131 = .ok (.aload_n 0, 1) := by decide +kernel
theorem dX1_doTick_132 : decode cX1_doTick 132 = .ok (.getfield 23, 3) := by decide +kernel
theorem dX1_doTick_135 : decode cX1_doTick 135 = .ok (.iload_n 2, 1) := by decide +kernel
theorem dX1_doTick_136 : decode cX1_doTick 136 = .ok (.iaload, 1) := by decide +kernel
theorem dX1_doTick_137 : decode cX1_doTick 137 = .ok (.iload 6, 2) := by decide +kernel
theorem dX1_doTick_139 : decode cX1_doTick 139 = .ok (.invokestatic 90, 3) := by decide +kernel
theorem dX1_doTick_142 : decode cX1_doTick 142 = .ok (.iastore, 1) := by decide +kernel
theorem dX1_doTick_143 : decode cX1_doTick 143 = .ok (.iload_n 2, 1) := by decide +kernel
theorem dX1_doTick_144 : decode cX1_doTick 144 = .ok (.iconst 3, 1) := by decide +kernel
theorem dX1_doTick_145 : decode cX1_doTick 145 = .ok (.irem, 1) := by decide +kernel
theorem dX1_doTick_146 : decode cX1_doTick 146 = .ok (.ifCond .ne 30, 3) := by decide +kernel
theorem dX1_doTick_149 : decode cX1_doTick 149 = .ok (.aload_n 0, 1) := by decide +kernel
theorem dX1_doTick_150 : decode cX1_doTick 150 = .ok (.getfield 35, 3) := by decide +kernel
theorem dX1_doTick_153 : decode cX1_doTick 153 = .ok (.iload 4, 2) := by decide +kernel
theorem dX1_doTick_155 : decode cX1_doTick 155 = .ok (.aload_n 0, 1) := by decide +kernel
theorem dX1_doTick_156 : decode cX1_doTick 156 = .ok (.getfield 35, 3) := by decide +kernel
theorem dX1_doTick_159 : decode cX1_doTick 159 = .ok (.iload 4, 2) := by decide +kernel
theorem dX1_doTick_161 : decode cX1_doTick 161 = .ok (.iaload, 1) := by decide +kernel
theorem dX1_doTick_162 : decode cX1_doTick 162 = .ok (.aload_n 1, 1) := by decide +kernel
theorem dX1_doTick_163 : decode cX1_doTick 163 = .ok (.iload 4, 2) := by decide +kernel
theorem dX1_doTick_165 : decode cX1_doTick 165 = .ok (.iload 5, 2) := by decide +kernel
theorem dX1_doTick_167 : decode cX1_doTick 167 = .ok (.iconst 1, 1) := by decide +kernel
theorem dX1_doTick_168 : decode cX1_doTick 168 = .ok (.iadd, 1) := by decide +kernel
theorem dX1_doTick_169 : decode cX1_doTick 169 = .ok (.invokestatic 54, 3) := by decide +kernel
theorem dX1_doTick_172 : decode cX1_doTick 172 = .ok (.invokestatic 70, 3) := by decide +kernel
theorem dX1_doTick_175 : decode cX1_doTick 175 = .ok (.iastore, 1) := by decide +kernel
theorem dX1_doTick_176 : decode cX1_doTick 176 = .ok (.return_, 1) := by decide +kernel
theorem dX2_init_0 : decode cX2_init 0 = .ok (.aload_n 0, 1) := by decide +kernel
theorem dX2_init_1 : decode cX2_init 1 = .ok (.invokespecial 3, 3) := by decide +kernel
theorem dX2_init_4 : decode cX2_init 4 = .ok (.aload_n 0, 1) := by decide +kernel
theorem dX2_init_5 : decode cX2_init 5 = .ok (.iconst 5, 1) := by decide +kernel
theorem dX2_init_6 : decode cX2_init 6 = .ok (.iconst 3, 1) := by decide +kernel
theorem dX2_init_7 : decode cX2_init 7 = .ok (.multianewarray 9 2, 4) := by decide +kernel
theorem dX2_init_11 : decode cX2_init 11 = .ok (.putfield 11, 3) := by decide +kernel
theorem dX2_init_14 : decode cX2_init 14 = .ok (.aload_n 0, 1) := by decide +kernel
theorem dX2_init_15 : decode cX2_init 15 = .ok (.iconst 4, 1) := by decide +kernel
theorem dX2_init_16 : decode cX2_init 16 = .ok (.bipush 9, 2) := by decide +kernel
theorem dX2_init_18 : decode cX2_init 18 = .ok (.multianewarray 9 2, 4) := by decide +kernel
theorem dX2_init_22 : decode cX2_init 22 = .ok (.putfield 16, 3) := by decide +kernel
theorem dX2_init_25 : decode cX2_init 25 = .ok (.aload_n 0, 1) := by decide +kernel
theorem dX2_init_26 : decode cX2_init 26 = .ok (.iconst 3, 1) := by decide +kernel
theorem dX2_init_27 : decode cX2_init 27 = .ok (.newarray .int, 2) := by decide +kernel
theorem dX2_init_29 : decode cX2_init 29 = .ok (.putfield 19, 3) := by decide +kernel
theorem dX2_init_32 : decode cX2_init 32 = .ok (.aload_n 0, 1) := by decide +kernel
theorem dX2_init_33 : decode cX2_init 33 = .ok (.getfield 11, 3) := by decide +kernel
theorem dX2_init_36 : decode cX2_init 36 = .ok (.iconst 0, 1) := by decide +kernel
theorem dX2_init_37 : decode cX2_init 37 = .ok (.aaload, 1) := by decide +kernel
theorem dX2_init_38 : decode cX2_init 38 = .ok (.bipush 20, 2) := by decide +kernel
theorem dX2_init_40 : decode cX2_init 40 = .ok (.invokestatic 23, 3) := by decide +kernel
theorem dX2_init_43 : decode cX2_init 43 = .ok (.return_, 1) := by decide +kernel
theorem dX2_append_0 : decode cX2_append 0 = .ok (.aload_n 0, 1) := by decide +kernel
theorem dX2_append_1 : decode cX2_append 1 = .ok (.getfield 19, 3) := by decide +kernel
theorem dX2_append_4 : decode cX2_append 4 = .ok (.iload_n 1, 1) := by decide +kernel
theorem dX2_append_5 : decode cX2_append 5 = .ok (.iaload, 1) := by decide +kernel
theorem dX2_append_6 : decode cX2_append 6 = .ok (.istore 6, 2) := by decide +kernel
theorem dX2_append_8 : decode cX2_append 8 = .ok (.iload_n 1, 1) := by decide +kernel
theorem dX2_append_9 : decode cX2_append 9 = .ok (.iconst 3, 1) := by decide +kernel
theorem dX2_append_10 : decode cX2_append 10 = .ok (.imul, 1) := by decide +kernel
theorem dX2_append_11 : decode cX2_append 11 = .ok (.iload 6, 2) := by decide +kernel
theorem dX2_append_13 : decode cX2_append 13 = .ok (.iadd, 1) := by decide +kernel
theorem dX2_append_14 : decode cX2_append 14 = .ok (.istore 7, 2) := by decide +kernel
theorem dX2_append_16 : decode cX2_append 16 = .ok (.aload_n 0, 1) := by decide +kernel
theorem dX2_append_17 : decode cX2_append 17 = .ok (.getfield 16, 3) := by decide +kernel
theorem dX2_append_20 : decode cX2_append 20 = .ok (.iconst 0, 1) := by decide +kernel
theorem dX2_append_21 : decode cX2_append 21 = .ok (.aaload, 1) := by decide +kernel
theorem dX2_append_22 : decode cX2_append 22 = .ok (.iload 7, 2) := by decide +kernel
theorem dX2_append_24 : decode cX2_append 24 = .ok (.iload_n 2, 1) := by decide +kernel
theorem dX2_append_25 : decode cX2_append 25 = .ok (.iastore, 1) := by decide +kernel
theorem dX2_append_26 : decode cX2_append 26 = .ok (.aload_n 0, 1) := by decide +kernel
theorem dX2_append_27 : decode cX2_append 27 = .ok (.getfield 16, 3) := by decide +kernel
theorem dX2_append_30 : decode cX2_append 30 = .ok (.iconst 1, 1) := by decide +kernel
theorem dX2_append_31 : decode cX2_append 31 = .ok (.aaload, 1) := by decide +kernel
theorem dX2_append_32 : decode cX2_append 32 = .ok (.iload 7, 2) := by decide +kernel
theorem dX2_append_34 : decode cX2_append 34 = .ok (.iload_n 3, 1) := by decide +kernel
theorem dX2_append_35 : decode cX2_append 35 = .ok (.iastore, 1) := by decide +kernel
theorem dX2_append_36 : decode cX2_append 36 = .ok (.aload_n 0, 1) := by decide +kernel
theorem dX2_append_37 : decode cX2_append 37 = .ok (.getfield 16, 3) := by decide +kernel
theorem dX2_append_40 : decode cX2_append 40 = .ok (.iconst 2, 1) := by decide +kernel
theorem dX2_append_41 : decode cX2_append 41 = .ok (.aaload, 1) := by decide +kernel
theorem dX2_append_42 : decode cX2_append 42 = .ok (.iload 7, 2) := by decide +kernel
theorem dX2_append_44 : decode cX2_append 44 = .ok (.iload 4, 2) := by decide +kernel
theorem dX2_append_46 : decode cX2_append 46 = .ok (.iastore, 1) := by decide +kernel
theorem dX2_append_47 : decode cX2_append 47 = .ok (.aload_n 0, 1) := by decide +kernel
theorem dX2_append_48 : decode cX2_append 48 = .ok (.getfield 16, 3) := by decide +kernel
theorem dX2_append_51 : decode cX2_append 51 = .ok (.iconst 3, 1) := by decide +kernel
theorem dX2_append_52 : decode cX2_append 52 = .ok (.aaload, 1) := by decide +kernel
theorem dX2_append_53 : decode cX2_append 53 = .ok (.iload 7, 2) := by decide +kernel
theorem dX2_append_55 : decode cX2_append 55 = .ok (.iload 5, 2) := by decide +kernel
theorem dX2_append_57 : decode cX2_append 57 = .ok (.iastore, 1) := by decide +kernel
theorem dX2_append_58 : decode cX2_append 58 = .ok (.aload_n 0, 1) := by decide +kernel
theorem dX2_append_59 : decode cX2_append 59 = .ok (.getfield 19, 3) := by decide +kernel
theorem dX2_append_62 : decode cX2_append 62 = .ok (.iload_n 1, 1) := by decide +kernel
theorem dX2_append_63 : decode cX2_append 63 = .ok (.iload 6, 2) := by decide +kernel
theorem dX2_append_65 : decode cX2_append 65 = .ok (.iconst 1, 1) := by decide +kernel
theorem dX2_append_66 : decode cX2_append 66 = .ok (.iadd, 1) := by decide +kernel
theorem dX2_append_67 : decode cX2_append 67 = .ok (.iastore, 1) := by decide +kernel
theorem dX2_append_68 : decode cX2_append 68 = .ok (.iload 6, 2) := by decide +kernel
theorem dX2_append_70 : decode cX2_append 70 = .ok (.ireturn, 1) := by decide +kernel
theorem dX2_numberOf_0 : decode cX2_numberOf 0 = .ok (.iload_n 1, 1) := by decide +kernel
theorem dX2_numberOf_1 : decode cX2_numberOf 1 = .ok (.invokestatic 29, 3) := by decide +kernel
theorem dX2_numberOf_4 : decode cX2_numberOf 4 = .ok (.ifCond .eq 20, 3) := by decide +kernel
theorem dX2_numberOf_7 : decode cX2_numberOf 7 = .ok (.iload_n 2, 1) := by decide +kernel
theorem dX2_numberOf_8 : decode cX2_numberOf 8 = .ok (.i2l, 1) := by decide +kernel
theorem dX2_numberOf_9 : decode cX2_numberOf 9 = .ok (.iconst 0, 1) := by decide +kernel
theorem dX2_numberOf_10 : decode cX2_numberOf 10 = .ok (.aload_n 0, 1) := by decide +kernel
theorem dX2_numberOf_11 : decode cX2_numberOf 11 = .ok (.getfield 19, 3) := by decide +kernel
theorem dX2_numberOf_14 : decode cX2_numberOf 14 = .ok (.iload_n 1, 1) := by decide +kernel
theorem dX2_numberOf_15 : decode cX2_numberOf 15 = .ok (.iaload, 1) := by decide +kernel
theorem dX2_numberOf_16 : decode cX2_numberOf 16 = .ok (.iconst 1, 1) := by decide +kernel
theorem dX2_numberOf_17 : decode cX2_numberOf 17 = .ok (.isub, 1) := by decide +kernel
theorem dX2_numberOf_18 : decode cX2_numberOf 18 = .ok (.invokestatic 33, 3) := by decide +kernel
theorem dX2_numberOf_21 : decode cX2_numberOf 21 = .ok (.ifCond .ne 5, 3) := by decide +kernel
theorem dX2_numberOf_24 : decode cX2_numberOf 24 = .ok (.iconst (-1), 1) := by decide +kernel
theorem dX2_numberOf_25 : decode cX2_numberOf 25 = .ok (.ireturn, 1) := by decide +kernel
theorem dX2_numberOf_26 : decode cX2_numberOf 26 = .ok (.iload_n 1, 1) := by decide +kernel
theorem dX2_numberOf_27 : decode cX2_numberOf 27 = .ok (.iconst 3, 1) := by decide +kernel
theorem dX2_numberOf_28 : decode cX2_numberOf 28 = .ok (.imul, 1) := by decide +kernel
theorem dX2_numberOf_29 : decode cX2_numberOf 29 = .ok (.iload_n 2, 1) := by decide +kernel
theorem dX2_numberOf_30 : decode cX2_numberOf 30 = .ok (.iadd, 1) := by decide +kernel
theorem dX2_numberOf_31 : decode cX2_numberOf 31 = .ok (.ireturn, 1) := by decide +kernel
theorem dX2_isStep_0 : decode cX2_isStep 0 = .ok (.iload_n 1, 1) := by decide +kernel
theorem dX2_isStep_1 : decode cX2_isStep 1 = .ok (.iconst 3, 1) := by decide +kernel
theorem dX2_isStep_2 : decode cX2_isStep 2 = .ok (.irem, 1) := by decide +kernel
theorem dX2_isStep_3 : decode cX2_isStep 3 = .ok (.aload_n 0, 1) := by decide +kernel
theorem dX2_isStep_4 : decode cX2_isStep 4 = .ok (.getfield 19, 3) := by decide +kernel
theorem dX2_isStep_7 : decode cX2_isStep 7 = .ok (.iload_n 1, 1) := by decide +kernel
theorem dX2_isStep_8 : decode cX2_isStep 8 = .ok (.iconst 3, 1) := by decide +kernel
theorem dX2_isStep_9 : decode cX2_isStep 9 = .ok (.idiv, 1) := by decide +kernel
theorem dX2_isStep_10 : decode cX2_isStep 10 = .ok (.iaload, 1) := by decide +kernel
theorem dX2_isStep_11 : decode cX2_isStep 11 = .ok (.if_icmp .ge 7, 3) := by decide +kernel
theorem dX2_isStep_14 : decode cX2_isStep 14 = .ok (.iconst 1, 1) := by decide +kernel
theorem dX2_isStep_15 : decode cX2_isStep 15 = .ok (.goto 4, 3) := by decide +kernel
theorem dX2_isStep_18 : decode cX2_isStep 18 = .ok (.iconst 0, 1) := by decide +kernel
theorem dX2_isStep_19 : decode cX2_isStep 19 = .ok (.ireturn, 1) := by decide +kernel
theorem dX2_lastOf_0 : decode cX2_lastOf 0 = .ok (.iload_n 1, 1) := by decide +kernel
theorem dX2_lastOf_1 : decode cX2_lastOf 1 = .ok (.iconst 3, 1) := by decide +kernel
theorem dX2_lastOf_2 : decode cX2_lastOf 2 = .ok (.imul, 1) := by decide +kernel
theorem dX2_lastOf_3 : decode cX2_lastOf 3 = .ok (.aload_n 0, 1) := by decide +kernel
theorem dX2_lastOf_4 : decode cX2_lastOf 4 = .ok (.getfield 19, 3) := by decide +kernel
theorem dX2_lastOf_7 : decode cX2_lastOf 7 = .ok (.iload_n 1, 1) := by decide +kernel
theorem dX2_lastOf_8 : decode cX2_lastOf 8 = .ok (.iaload, 1) := by decide +kernel
theorem dX2_lastOf_9 : decode cX2_lastOf 9 = .ok (.iadd, 1) := by decide +kernel
theorem dX2_lastOf_10 : decode cX2_lastOf 10 = .ok (.iconst 1, 1) := by decide +kernel
theorem dX2_lastOf_11 : decode cX2_lastOf 11 = .ok (.isub, 1) := by decide +kernel
theorem dX2_lastOf_12 : decode cX2_lastOf 12 = .ok (.ireturn, 1) := by decide +kernel
theorem dX2_stepsInAll_0 : decode cX2_stepsInAll 0 = .ok (.aload_n 0, 1) := by decide +kernel
theorem dX2_stepsInAll_1 : decode cX2_stepsInAll 1 = .ok (.getfield 19, 3) := by decide +kernel
theorem dX2_stepsInAll_4 : decode cX2_stepsInAll 4 = .ok (.iconst 0, 1) := by decide +kernel
theorem dX2_stepsInAll_5 : decode cX2_stepsInAll 5 = .ok (.iaload, 1) := by decide +kernel
theorem dX2_stepsInAll_6 : decode cX2_stepsInAll 6 = .ok (.aload_n 0, 1) := by decide +kernel
theorem dX2_stepsInAll_7 : decode cX2_stepsInAll 7 = .ok (.getfield 19, 3) := by decide +kernel
theorem dX2_stepsInAll_10 : decode cX2_stepsInAll 10 = .ok (.iconst 1, 1) := by decide +kernel
theorem dX2_stepsInAll_11 : decode cX2_stepsInAll 11 = .ok (.iaload, 1) := by decide +kernel
theorem dX2_stepsInAll_12 : decode cX2_stepsInAll 12 = .ok (.iadd, 1) := by decide +kernel
theorem dX2_stepsInAll_13 : decode cX2_stepsInAll 13 = .ok (.aload_n 0, 1) := by decide +kernel
theorem dX2_stepsInAll_14 : decode cX2_stepsInAll 14 = .ok (.getfield 19, 3) := by decide +kernel
theorem dX2_stepsInAll_17 : decode cX2_stepsInAll 17 = .ok (.iconst 2, 1) := by decide +kernel
theorem dX2_stepsInAll_18 : decode cX2_stepsInAll 18 = .ok (.iaload, 1) := by decide +kernel
theorem dX2_stepsInAll_19 : decode cX2_stepsInAll 19 = .ok (.iadd, 1) := by decide +kernel
theorem dX2_stepsInAll_20 : decode cX2_stepsInAll 20 = .ok (.ireturn, 1) := by decide +kernel
theorem dX2_periodOf_0 : decode cX2_periodOf 0 = .ok (.iconst 1, 1) := by decide +kernel
theorem dX2_periodOf_1 : decode cX2_periodOf 1 = .ok (.aload_n 0, 1) := by decide +kernel
theorem dX2_periodOf_2 : decode cX2_periodOf 2 = .ok (.getfield 11, 3) := by decide +kernel
theorem dX2_periodOf_5 : decode cX2_periodOf 5 = .ok (.iconst 0, 1) := by decide +kernel
theorem dX2_periodOf_6 : decode cX2_periodOf 6 = .ok (.aaload, 1) := by decide +kernel
theorem dX2_periodOf_7 : decode cX2_periodOf 7 = .ok (.iload_n 1, 1) := by decide +kernel
theorem dX2_periodOf_8 : decode cX2_periodOf 8 = .ok (.iaload, 1) := by decide +kernel
theorem dX2_periodOf_9 : decode cX2_periodOf 9 = .ok (.invokestatic 37, 3) := by decide +kernel
theorem dX2_periodOf_12 : decode cX2_periodOf 12 = .ok (.ireturn, 1) := by decide +kernel
theorem dX2_earliestOf_0 : decode cX2_earliestOf 0 = .ok (.aload_n 0, 1) := by decide +kernel
theorem dX2_earliestOf_1 : decode cX2_earliestOf 1 = .ok (.getfield 16, 3) := by decide +kernel
theorem dX2_earliestOf_4 : decode cX2_earliestOf 4 = .ok (.iconst 3, 1) := by decide +kernel
theorem dX2_earliestOf_5 : decode cX2_earliestOf 5 = .ok (.aaload, 1) := by decide +kernel
theorem dX2_earliestOf_6 : decode cX2_earliestOf 6 = .ok (.iload_n 1, 1) := by decide +kernel
theorem dX2_earliestOf_7 : decode cX2_earliestOf 7 = .ok (.iaload, 1) := by decide +kernel
theorem dX2_earliestOf_8 : decode cX2_earliestOf 8 = .ok (.istore_n 2, 1) := by decide +kernel
theorem dX2_earliestOf_9 : decode cX2_earliestOf 9 = .ok (.iload_n 1, 1) := by decide +kernel
theorem dX2_earliestOf_10 : decode cX2_earliestOf 10 = .ok (.iload_n 1, 1) := by decide +kernel
theorem dX2_earliestOf_11 : decode cX2_earliestOf 11 = .ok (.iconst 3, 1) := by decide +kernel
theorem dX2_earliestOf_12 : decode cX2_earliestOf 12 = .ok (.irem, 1) := by decide +kernel
theorem dX2_earliestOf_13 : decode cX2_earliestOf 13 = .ok (.isub, 1) := by decide +kernel
theorem dX2_earliestOf_14 : decode cX2_earliestOf 14 = .ok (.istore_n 3, 1) := by decide +kernel
theorem dX2_earliestOf_15 : decode cX2_earliestOf 15 = .ok (.iload_n 3, 1) := by decide +kernel
theorem dX2_earliestOf_16 : decode cX2_earliestOf 16 = .ok (.iload_n 1, 1) := by decide +kernel
theorem dX2_earliestOf_17 : decode cX2_earliestOf 17 = .ok (.if_icmp .ge 29, 3) := by decide +kernel
theorem dX2_earliestOf_20 : decode cX2_earliestOf 20 = .ok (.iload_n 2, 1) := by decide +kernel
theorem dX2_earliestOf_21 : decode cX2_earliestOf 21 = .ok (.aload_n 0, 1) := by decide +kernel
theorem dX2_earliestOf_22 : decode cX2_earliestOf 22 = .ok (.getfield 16, 3) := by decide +kernel
theorem dX2_earliestOf_25 : decode cX2_earliestOf 25 = .ok (.iconst 3, 1) := by decide +kernel
theorem dX2_earliestOf_26 : decode cX2_earliestOf 26 = .ok (.aaload, 1) := by decide +kernel
theorem dX2_earliestOf_27 : decode cX2_earliestOf 27 = .ok (.iload_n 3, 1) := by decide +kernel
theorem dX2_earliestOf_28 : decode cX2_earliestOf 28 = .ok (.iaload, 1) := by decide +kernel
theorem dX2_earliestOf_29 : decode cX2_earliestOf 29 = .ok (.aload_n 0, 1) := by decide +kernel
theorem dX2_earliestOf_30 : decode cX2_earliestOf 30 = .ok (.getfield 16, 3) := by decide +kernel
theorem dX2_earliestOf_33 : decode cX2_earliestOf 33 = .ok (.iconst 1, 1) := by decide +kernel
theorem dX2_earliestOf_34 : decode cX2_earliestOf 34 = .ok (.aaload, 1) := by decide +kernel
theorem dX2_earliestOf_35 : decode cX2_earliestOf 35 = .ok (.iload_n 3, 1) := by decide +kernel
theorem dX2_earliestOf_36 : decode cX2_earliestOf 36 = .ok (.iaload, 1) := by decide +kernel
theorem dX2_earliestOf_37 : decode cX2_earliestOf 37 = .ok (.iadd, 1) := by decide +kernel
theorem dX2_earliestOf_38 : decode cX2_earliestOf 38 = .ok (.iadd, 1) := by decide +kernel
theorem dX2_earliestOf_39 : decode cX2_earliestOf 39 = .ok (.istore_n 2, 1) := by decide +kernel
theorem dX2_earliestOf_40 : decode cX2_earliestOf 40 = .ok (.iinc 3 1, 3) := by decide +kernel
theorem dX2_earliestOf_43 : decode cX2_earliestOf 43 = .ok (.goto (-28), 3) := by decide +kernel
theorem dX2_earliestOf_46 : decode cX2_earliestOf 46 = .ok (.iload_n 2, 1) := by decide +kernel
theorem dX2_earliestOf_47 : decode cX2_earliestOf 47 = .ok (.ireturn, 1) := by decide +kernel
theorem dX2_isRival_0 : decode cX2_isRival 0 = .ok (.iload_n 2, 1) := by decide +kernel
theorem dX2_isRival_1 : decode cX2_isRival 1 = .ok (.iload_n 1, 1) := by decide +kernel
theorem dX2_isRival_2 : decode cX2_isRival 2 = .ok (.if_icmp .eq 53, 3) := by decide +kernel
theorem dX2_isRival_5 : decode cX2_isRival 5 = .ok (.aload_n 0, 1) := by decide +kernel
theorem dX2_isRival_6 : decode cX2_isRival 6 = .ok (.iload_n 2, 1) := by decide +kernel
theorem dX2_isRival_7 : decode cX2_isRival 7 = .ok (.invokevirtual 43, 3) := by decide +kernel
theorem dX2_isRival_10 : decode cX2_isRival 10 = .ok (.ifCond .eq 45, 3) := by decide +kernel
theorem dX2_isRival_13 : decode cX2_isRival 13 = .ok (.aload_n 0, 1) := by decide +kernel
theorem dX2_isRival_14 : decode cX2_isRival 14 = .ok (.getfield 16, 3) := by decide +kernel
theorem dX2_isRival_17 : decode cX2_isRival 17 = .ok (.iconst 0, 1) := by decide +kernel
theorem dX2_isRival_18 : decode cX2_isRival 18 = .ok (.aaload, 1) := by decide +kernel
theorem dX2_isRival_19 : decode cX2_isRival 19 = .ok (.iload_n 2, 1) := by decide +kernel
theorem dX2_isRival_20 : decode cX2_isRival 20 = .ok (.iaload, 1) := by decide +kernel
theorem dX2_isRival_21 : decode cX2_isRival 21 = .ok (.aload_n 0, 1) := by decide +kernel
theorem dX2_isRival_22 : decode cX2_isRival 22 = .ok (.getfield 16, 3) := by decide +kernel
theorem dX2_isRival_25 : decode cX2_isRival 25 = .ok (.iconst 0, 1) := by decide +kernel
theorem dX2_isRival_26 : decode cX2_isRival 26 = .ok (.aaload, 1) := by decide +kernel
theorem dX2_isRival_27 : decode cX2_isRival 27 = .ok (.iload_n 1, 1) := by decide +kernel
theorem dX2_isRival_28 : decode cX2_isRival 28 = .ok (.iaload, 1) := by decide +kernel
theorem dX2_isRival_29 : decode cX2_isRival 29 = .ok (.if_icmp .ne 26, 3) := by decide +kernel
theorem dX2_isRival_32 : decode cX2_isRival 32 = .ok (.aload_n 0, 1) := by decide +kernel
theorem dX2_isRival_33 : decode cX2_isRival 33 = .ok (.getfield 16, 3) := by decide +kernel
theorem dX2_isRival_36 : decode cX2_isRival 36 = .ok (.iconst 2, 1) := by decide +kernel
theorem dX2_isRival_37 : decode cX2_isRival 37 = .ok (.aaload, 1) := by decide +kernel
theorem dX2_isRival_38 : decode cX2_isRival 38 = .ok (.iload_n 2, 1) := by decide +kernel
theorem dX2_isRival_39 : decode cX2_isRival 39 = .ok (.iaload, 1) := by decide +kernel
theorem dX2_isRival_40 : decode cX2_isRival 40 = .ok (.aload_n 0, 1) := by decide +kernel
theorem dX2_isRival_41 : decode cX2_isRival 41 = .ok (.getfield 16, 3) := by decide +kernel
theorem dX2_isRival_44 : decode cX2_isRival 44 = .ok (.iconst 2, 1) := by decide +kernel
theorem dX2_isRival_45 : decode cX2_isRival 45 = .ok (.aaload, 1) := by decide +kernel
theorem dX2_isRival_46 : decode cX2_isRival 46 = .ok (.iload_n 1, 1) := by decide +kernel
theorem dX2_isRival_47 : decode cX2_isRival 47 = .ok (.iaload, 1) := by decide +kernel
theorem dX2_isRival_48 : decode cX2_isRival 48 = .ok (.if_icmp .lt 7, 3) := by decide +kernel
theorem dX2_isRival_51 : decode cX2_isRival 51 = .ok (.iconst 1, 1) := by decide +kernel
theorem dX2_isRival_52 : decode cX2_isRival 52 = .ok (.goto 4, 3) := by decide +kernel
theorem dX2_isRival_55 : decode cX2_isRival 55 = .ok (.iconst 0, 1) := by decide +kernel
theorem dX2_isRival_56 : decode cX2_isRival 56 = .ok (.ireturn, 1) := by decide +kernel
theorem dX2_rivalsOf_0 : decode cX2_rivalsOf 0 = .ok (.iconst 0, 1) := by decide +kernel
theorem dX2_rivalsOf_1 : decode cX2_rivalsOf 1 = .ok (.istore_n 2, 1) := by decide +kernel
theorem dX2_rivalsOf_2 : decode cX2_rivalsOf 2 = .ok (.iconst 0, 1) := by decide +kernel
theorem dX2_rivalsOf_3 : decode cX2_rivalsOf 3 = .ok (.istore_n 3, 1) := by decide +kernel
theorem dX2_rivalsOf_4 : decode cX2_rivalsOf 4 = .ok (.iload_n 3, 1) := by decide +kernel
theorem dX2_rivalsOf_5 : decode cX2_rivalsOf 5 = .ok (.bipush 9, 2) := by decide +kernel
theorem dX2_rivalsOf_7 : decode cX2_rivalsOf 7 = .ok (.if_icmp .ge 21, 3) := by decide +kernel
theorem dX2_rivalsOf_10 : decode cX2_rivalsOf 10 = .ok (.aload_n 0, 1) := by decide +kernel
theorem dX2_rivalsOf_11 : decode cX2_rivalsOf 11 = .ok (.iload_n 1, 1) := by decide +kernel
theorem dX2_rivalsOf_12 : decode cX2_rivalsOf 12 = .ok (.iload_n 3, 1) := by decide +kernel
theorem dX2_rivalsOf_13 : decode cX2_rivalsOf 13 = .ok (.invokevirtual 46, 3) := by decide +kernel
theorem dX2_rivalsOf_16 : decode cX2_rivalsOf 16 = .ok (.ifCond .eq 6, 3) := by decide +kernel
theorem dX2_rivalsOf_19 : decode cX2_rivalsOf 19 = .ok (.iinc 2 1, 3) := by decide +kernel
theorem dX2_rivalsOf_22 : decode cX2_rivalsOf 22 = .ok (.iinc 3 1, 3) := by decide +kernel
theorem dX2_rivalsOf_25 : decode cX2_rivalsOf 25 = .ok (.goto (-21), 3) := by decide +kernel
theorem dX2_rivalsOf_28 : decode cX2_rivalsOf 28 = .ok (.iload_n 2, 1) := by decide +kernel
theorem dX2_rivalsOf_29 : decode cX2_rivalsOf 29 = .ok (.ireturn, 1) := by decide +kernel
theorem dX2_loadBelow_0 : decode cX2_loadBelow 0 = .ok (.aload_n 0, 1) := by decide +kernel
theorem dX2_loadBelow_1 : decode cX2_loadBelow 1 = .ok (.iconst 0, 1) := by decide +kernel
theorem dX2_loadBelow_2 : decode cX2_loadBelow 2 = .ok (.invokevirtual 50, 3) := by decide +kernel
theorem dX2_loadBelow_5 : decode cX2_loadBelow 5 = .ok (.aload_n 0, 1) := by decide +kernel
theorem dX2_loadBelow_6 : decode cX2_loadBelow 6 = .ok (.iconst 1, 1) := by decide +kernel
theorem dX2_loadBelow_7 : decode cX2_loadBelow 7 = .ok (.invokevirtual 50, 3) := by decide +kernel
theorem dX2_loadBelow_10 : decode cX2_loadBelow 10 = .ok (.imul, 1) := by decide +kernel
theorem dX2_loadBelow_11 : decode cX2_loadBelow 11 = .ok (.aload_n 0, 1) := by decide +kernel
theorem dX2_loadBelow_12 : decode cX2_loadBelow 12 = .ok (.iconst 2, 1) := by decide +kernel
theorem dX2_loadBelow_13 : decode cX2_loadBelow 13 = .ok (.invokevirtual 50, 3) := by decide +kernel
theorem dX2_loadBelow_16 : decode cX2_loadBelow 16 = .ok (.imul, 1) := by decide +kernel
theorem dX2_loadBelow_17 : decode cX2_loadBelow 17 = .ok (.ireturn, 1) := by decide +kernel
theorem dX2_loadAbove_0 : decode cX2_loadAbove 0 = .ok (.aload_n 0, 1) := by decide +kernel
theorem dX2_loadAbove_1 : decode cX2_loadAbove 1 = .ok (.invokevirtual 54, 3) := by decide +kernel
theorem dX2_loadAbove_4 : decode cX2_loadAbove 4 = .ok (.istore_n 2, 1) := by decide +kernel
theorem dX2_loadAbove_5 : decode cX2_loadAbove 5 = .ok (.iconst 0, 1) := by decide +kernel
theorem dX2_loadAbove_6 : decode cX2_loadAbove 6 = .ok (.istore_n 3, 1) := by decide +kernel
theorem dX2_loadAbove_7 : decode cX2_loadAbove 7 = .ok (.iconst 0, 1) := by decide +kernel
theorem dX2_loadAbove_8 : decode cX2_loadAbove 8 = .ok (.istore 4, 2) := by decide +kernel
theorem dX2_loadAbove_10 : decode cX2_loadAbove 10 = .ok (.iload 4, 2) := by decide +kernel
theorem dX2_loadAbove_12 : decode cX2_loadAbove 12 = .ok (.bipush 9, 2) := by decide +kernel
theorem dX2_loadAbove_14 : decode cX2_loadAbove 14 = .ok (.if_icmp .ge 48, 3) := by decide +kernel
theorem dX2_loadAbove_17 : decode cX2_loadAbove 17 = .ok (.iload 4, 2) := by decide +kernel
theorem dX2_loadAbove_19 : decode cX2_loadAbove 19 = .ok (.iload_n 1, 1) := by decide +kernel
theorem dX2_loadAbove_20 : decode cX2_loadAbove 20 = .ok (.if_icmp .eq 13, 3) := by decide +kernel
theorem dX2_loadAbove_23 : decode cX2_loadAbove 23 = .ok (.aload_n 0, 1) := by decide +kernel
theorem dX2_loadAbove_24 : decode cX2_loadAbove 24 = .ok (.iload_n 1, 1) := by decide +kernel
theorem dX2_loadAbove_25 : decode cX2_loadAbove 25 = .ok (.iload 4, 2) := by decide +kernel
theorem dX2_loadAbove_27 : decode cX2_loadAbove 27 = .ok (.invokevirtual 46, 3) := by decide +kernel
theorem dX2_loadAbove_30 : decode cX2_loadAbove 30 = .ok (.ifCond .eq 26, 3) := by decide +kernel
theorem dX2_loadAbove_33 : decode cX2_loadAbove 33 = .ok (.iload_n 3, 1) := by decide +kernel
theorem dX2_loadAbove_34 : decode cX2_loadAbove 34 = .ok (.aload_n 0, 1) := by decide +kernel
theorem dX2_loadAbove_35 : decode cX2_loadAbove 35 = .ok (.getfield 16, 3) := by decide +kernel
theorem dX2_loadAbove_38 : decode cX2_loadAbove 38 = .ok (.iconst 1, 1) := by decide +kernel
theorem dX2_loadAbove_39 : decode cX2_loadAbove 39 = .ok (.aaload, 1) := by decide +kernel
theorem dX2_loadAbove_40 : decode cX2_loadAbove 40 = .ok (.iload 4, 2) := by decide +kernel
theorem dX2_loadAbove_42 : decode cX2_loadAbove 42 = .ok (.iaload, 1) := by decide +kernel
theorem dX2_loadAbove_43 : decode cX2_loadAbove 43 = .ok (.iload_n 2, 1) := by decide +kernel
theorem dX2_loadAbove_44 : decode cX2_loadAbove 44 = .ok (.aload_n 0, 1) := by decide +kernel
theorem dX2_loadAbove_45 : decode cX2_loadAbove 45 = .ok (.iload 4, 2) := by decide +kernel
theorem dX2_loadAbove_47 : decode cX2_loadAbove 47 = .ok (.iconst 3, 1) := by decide +kernel
theorem dX2_loadAbove_48 : decode cX2_loadAbove 48 = .ok (.idiv, 1) := by decide +kernel
theorem dX2_loadAbove_49 : decode cX2_loadAbove 49 = .ok (.invokevirtual 50, 3) := by decide +kernel
theorem dX2_loadAbove_52 : decode cX2_loadAbove 52 = .ok (.idiv, 1) := by decide +kernel
theorem dX2_loadAbove_53 : decode cX2_loadAbove 53 = .ok (.imul, 1) := by decide +kernel
theorem dX2_loadAbove_54 : decode cX2_loadAbove 54 = .ok (.iadd, 1) := by decide +kernel
theorem dX2_loadAbove_55 : decode cX2_loadAbove 55 = .ok (.istore_n 3, 1) := by decide +kernel
theorem dX2_loadAbove_56 : decode cX2_loadAbove 56 = .ok (.iinc 4 1, 3) := by decide +kernel
theorem dX2_loadAbove_59 : decode cX2_loadAbove 59 = .ok (.goto (-49), 3) := by decide +kernel
theorem dX2_loadAbove_62 : decode cX2_loadAbove 62 = .ok (.iload_n 3, 1) := by decide +kernel
theorem dX2_loadAbove_63 : decode cX2_loadAbove 63 = .ok (.ireturn, 1) := by decide +kernel
theorem dX2_isOverloaded_0 : decode cX2_isOverloaded 0 = .ok (.aload_n 0, 1) := by decide +kernel
theorem dX2_isOverloaded_1 : decode cX2_isOverloaded 1 = .ok (.iload_n 1, 1) := by decide +kernel
theorem dX2_isOverloaded_2 : decode cX2_isOverloaded 2 = .ok (.invokevirtual 58, 3) := by decide +kernel
theorem dX2_isOverloaded_5 : decode cX2_isOverloaded 5 = .ok (.aload_n 0, 1) := by decide +kernel
theorem dX2_isOverloaded_6 : decode cX2_isOverloaded 6 = .ok (.invokevirtual 54, 3) := by decide +kernel
theorem dX2_isOverloaded_9 : decode cX2_isOverloaded 9 = .ok (.if_icmp .le 7, 3) := by decide +kernel
theorem dX2_isOverloaded_12 : decode cX2_isOverloaded 12 = .ok (.iconst 1, 1) := by decide +kernel
theorem dX2_isOverloaded_13 : decode cX2_isOverloaded 13 = .ok (.goto 4, 3) := by decide +kernel
theorem dX2_isOverloaded_16 : decode cX2_isOverloaded 16 = .ok (.iconst 0, 1) := by decide +kernel
theorem dX2_isOverloaded_17 : decode cX2_isOverloaded 17 = .ok (.ireturn, 1) := by decide +kernel
theorem dX2_overloadedSteps_0 : decode cX2_overloadedSteps 0 = .ok (.iconst 0, 1) := by decide +kernel
theorem dX2_overloadedSteps_1 : decode cX2_overloadedSteps 1 = .ok (.istore_n 1, 1) := by decide +kernel
theorem dX2_overloadedSteps_2 : decode cX2_overloadedSteps 2 = .ok (.iconst 0, 1) := by decide +kernel
theorem dX2_overloadedSteps_3 : decode cX2_overloadedSteps 3 = .ok (.istore_n 2, 1) := by decide +kernel
theorem dX2_overloadedSteps_4 : decode cX2_overloadedSteps 4 = .ok (.iload_n 2, 1) := by decide +kernel
theorem dX2_overloadedSteps_5 : decode cX2_overloadedSteps 5 = .ok (.bipush 9, 2) := by decide +kernel
theorem dX2_overloadedSteps_7 : decode cX2_overloadedSteps 7 = .ok (.if_icmp .ge 28, 3) := by decide +kernel
theorem dX2_overloadedSteps_10 : decode cX2_overloadedSteps 10 = .ok (.aload_n 0, 1) := by decide +kernel
theorem dX2_overloadedSteps_11 : decode cX2_overloadedSteps 11 = .ok (.iload_n 2, 1) := by decide +kernel
theorem dX2_overloadedSteps_12 : decode cX2_overloadedSteps 12 = .ok (.invokevirtual 43, 3) := by decide +kernel
theorem dX2_overloadedSteps_15 : decode cX2_overloadedSteps 15 = .ok (.ifCond .eq 14, 3) := by decide +kernel
theorem dX2_overloadedSteps_18 : decode cX2_overloadedSteps 18 = .ok (.aload_n 0, 1) := by decide +kernel
theorem dX2_overloadedSteps_19 : decode cX2_overloadedSteps 19 = .ok (.iload_n 2, 1) := by decide +kernel
theorem dX2_overloadedSteps_20 : decode cX2_overloadedSteps 20 = .ok (.invokevirtual 61, 3) := by decide +kernel
theorem dX2_overloadedSteps_23 : decode cX2_overloadedSteps 23 = .ok (.ifCond .eq 6, 3) := by decide +kernel
theorem dX2_overloadedSteps_26 : decode cX2_overloadedSteps 26 = .ok (.iinc 1 1, 3) := by decide +kernel
theorem dX2_overloadedSteps_29 : decode cX2_overloadedSteps 29 = .ok (.iinc 2 1, 3) := by decide +kernel
theorem dX2_overloadedSteps_32 : decode cX2_overloadedSteps 32 = .ok (.goto (-28), 3) := by decide +kernel
theorem dX2_overloadedSteps_35 : decode cX2_overloadedSteps 35 = .ok (.iload_n 1, 1) := by decide +kernel
theorem dX2_overloadedSteps_36 : decode cX2_overloadedSteps 36 = .ok (.ireturn, 1) := by decide +kernel
theorem dX2_loadPart_0 : decode cX2_loadPart 0 = .ok (.aload_n 0, 1) := by decide +kernel
theorem dX2_loadPart_1 : decode cX2_loadPart 1 = .ok (.iload_n 1, 1) := by decide +kernel
theorem dX2_loadPart_2 : decode cX2_loadPart 2 = .ok (.invokevirtual 58, 3) := by decide +kernel
theorem dX2_loadPart_5 : decode cX2_loadPart 5 = .ok (.istore_n 3, 1) := by decide +kernel
theorem dX2_loadPart_6 : decode cX2_loadPart 6 = .ok (.aload_n 0, 1) := by decide +kernel
theorem dX2_loadPart_7 : decode cX2_loadPart 7 = .ok (.invokevirtual 54, 3) := by decide +kernel
theorem dX2_loadPart_10 : decode cX2_loadPart 10 = .ok (.istore 4, 2) := by decide +kernel
theorem dX2_loadPart_12 : decode cX2_loadPart 12 = .ok (.iload_n 3, 1) := by decide +kernel
theorem dX2_loadPart_13 : decode cX2_loadPart 13 = .ok (.iload 4, 2) := by decide +kernel
theorem dX2_loadPart_15 : decode cX2_loadPart 15 = .ok (.invokestatic 64, 3) := by decide +kernel
theorem dX2_loadPart_18 : decode cX2_loadPart 18 = .ok (.istore 5, 2) := by decide +kernel
theorem dX2_loadPart_20 : decode cX2_loadPart 20 = .ok (.iload_n 2, 1) := by decide +kernel
theorem dX2_loadPart_21 : decode cX2_loadPart 21 = .ok (.ifCond .ne 7, 3) := by decide +kernel
theorem dX2_loadPart_24 : decode cX2_loadPart 24 = .ok (.iload_n 3, 1) := by decide +kernel
theorem dX2_loadPart_25 : decode cX2_loadPart 25 = .ok (.goto 5, 3) := by decide +kernel
theorem dX2_loadPart_28 : decode cX2_loadPart 28 = .ok (.iload 4, 2) := by decide +kernel
theorem dX2_loadPart_30 : decode cX2_loadPart 30 = .ok (.iload 5, 2) := by decide +kernel
theorem dX2_loadPart_32 : decode cX2_loadPart 32 = .ok (.idiv, 1) := by decide +kernel
theorem dX2_loadPart_33 : decode cX2_loadPart 33 = .ok (.ireturn, 1) := by decide +kernel
theorem dX2_greatestDivisor_0 : decode cX2_greatestDivisor 0 = .ok (.iload_n 0, 1) := by decide +kernel
theorem dX2_greatestDivisor_1 : decode cX2_greatestDivisor 1 = .ok (.istore_n 2, 1) := by decide +kernel
theorem dX2_greatestDivisor_2 : decode cX2_greatestDivisor 2 = .ok (.iload_n 1, 1) := by decide +kernel
theorem dX2_greatestDivisor_3 : decode cX2_greatestDivisor 3 = .ok (.istore_n 3, 1) := by decide +kernel
theorem dX2_greatestDivisor_4 : decode cX2_greatestDivisor 4 = .ok (.iconst 0, 1) := by decide +kernel
theorem dX2_greatestDivisor_5 : decode cX2_greatestDivisor 5 = .ok (.istore 4, 2) := by decide +kernel
theorem dX2_greatestDivisor_7 : decode cX2_greatestDivisor 7 = .ok (.iload 4, 2) := by decide +kernel
theorem dX2_greatestDivisor_9 : decode cX2_greatestDivisor 9 = .ok (.bipush 64, 2) := by decide +kernel
theorem dX2_greatestDivisor_11 : decode cX2_greatestDivisor 11 = .ok (.if_icmp .ge 23, 3) := by decide +kernel
theorem dX2_greatestDivisor_14 : decode cX2_greatestDivisor 14 = .ok (.iload_n 3, 1) := by decide +kernel
theorem dX2_greatestDivisor_15 : decode cX2_greatestDivisor 15 = .ok (.ifCond .le 19, 3) := by decide +kernel
theorem dX2_greatestDivisor_18 : decode cX2_greatestDivisor 18 = .ok (.iload_n 2, 1) := by decide +kernel
theorem dX2_greatestDivisor_19 : decode cX2_greatestDivisor 19 = .ok (.iload_n 3, 1) := by decide +kernel
theorem dX2_greatestDivisor_20 : decode cX2_greatestDivisor 20 = .ok (.irem, 1) := by decide +kernel
theorem dX2_greatestDivisor_21 : decode cX2_greatestDivisor 21 = .ok (.istore 5, 2) := by decide +kernel
theorem dX2_greatestDivisor_23 : decode cX2_greatestDivisor 23 = .ok (.iload_n 3, 1) := by decide +kernel
theorem dX2_greatestDivisor_24 : decode cX2_greatestDivisor 24 = .ok (.istore_n 2, 1) := by decide +kernel
theorem dX2_greatestDivisor_25 : decode cX2_greatestDivisor 25 = .ok (.iload 5, 2) := by decide +kernel
theorem dX2_greatestDivisor_27 : decode cX2_greatestDivisor 27 = .ok (.istore_n 3, 1) := by decide +kernel
theorem dX2_greatestDivisor_28 : decode cX2_greatestDivisor 28 = .ok (.iinc 4 1, 3) := by decide +kernel
theorem dX2_greatestDivisor_31 : decode cX2_greatestDivisor 31 = .ok (.goto (-24), 3) := by decide +kernel
theorem dX2_greatestDivisor_34 : decode cX2_greatestDivisor 34 = .ok (.iconst 1, 1) := by decide +kernel
theorem dX2_greatestDivisor_35 : decode cX2_greatestDivisor 35 = .ok (.iload_n 2, 1) := by decide +kernel
theorem dX2_greatestDivisor_36 : decode cX2_greatestDivisor 36 = .ok (.invokestatic 37, 3) := by decide +kernel
theorem dX2_greatestDivisor_39 : decode cX2_greatestDivisor 39 = .ok (.ireturn, 1) := by decide +kernel
theorem dX2_dueBits_0 : decode cX2_dueBits 0 = .ok (.iconst 0, 1) := by decide +kernel
theorem dX2_dueBits_1 : decode cX2_dueBits 1 = .ok (.istore_n 1, 1) := by decide +kernel
theorem dX2_dueBits_2 : decode cX2_dueBits 2 = .ok (.iconst 0, 1) := by decide +kernel
theorem dX2_dueBits_3 : decode cX2_dueBits 3 = .ok (.istore_n 2, 1) := by decide +kernel
theorem dX2_dueBits_4 : decode cX2_dueBits 4 = .ok (.iload_n 2, 1) := by decide +kernel
theorem dX2_dueBits_5 : decode cX2_dueBits 5 = .ok (.iconst 3, 1) := by decide +kernel
theorem dX2_dueBits_6 : decode cX2_dueBits 6 = .ok (.if_icmp .ge 35, 3) := by decide +kernel
theorem dX2_dueBits_9 : decode cX2_dueBits 9 = .ok (.aload_n 0, 1) := by decide +kernel
theorem dX2_dueBits_10 : decode cX2_dueBits 10 = .ok (.getfield 19, 3) := by decide +kernel
theorem dX2_dueBits_13 : decode cX2_dueBits 13 = .ok (.iload_n 2, 1) := by decide +kernel
theorem dX2_dueBits_14 : decode cX2_dueBits 14 = .ok (.iaload, 1) := by decide +kernel
theorem dX2_dueBits_15 : decode cX2_dueBits 15 = .ok (.ifCond .le 20, 3) := by decide +kernel
theorem dX2_dueBits_18 : decode cX2_dueBits 18 = .ok (.aload_n 0, 1) := by decide +kernel
theorem dX2_dueBits_19 : decode cX2_dueBits 19 = .ok (.getfield 11, 3) := by decide +kernel
theorem dX2_dueBits_22 : decode cX2_dueBits 22 = .ok (.iconst 2, 1) := by decide +kernel
theorem dX2_dueBits_23 : decode cX2_dueBits 23 = .ok (.aaload, 1) := by decide +kernel
theorem dX2_dueBits_24 : decode cX2_dueBits 24 = .ok (.iload_n 2, 1) := by decide +kernel
theorem dX2_dueBits_25 : decode cX2_dueBits 25 = .ok (.iaload, 1) := by decide +kernel
theorem dX2_dueBits_26 : decode cX2_dueBits 26 = .ok (.ifCond .le 9, 3) := by decide +kernel
theorem dX2_dueBits_29 : decode cX2_dueBits 29 = .ok (.iload_n 1, 1) := by decide +kernel
theorem dX2_dueBits_30 : decode cX2_dueBits 30 = .ok (.iconst 1, 1) := by decide +kernel
theorem dX2_dueBits_31 : decode cX2_dueBits 31 = .ok (.iload_n 2, 1) := by decide +kernel
theorem dX2_dueBits_32 : decode cX2_dueBits 32 = .ok (.ishl, 1) := by decide +kernel
theorem dX2_dueBits_33 : decode cX2_dueBits 33 = .ok (.ior, 1) := by decide +kernel
theorem dX2_dueBits_34 : decode cX2_dueBits 34 = .ok (.istore_n 1, 1) := by decide +kernel
theorem dX2_dueBits_35 : decode cX2_dueBits 35 = .ok (.iinc 2 1, 3) := by decide +kernel
theorem dX2_dueBits_38 : decode cX2_dueBits 38 = .ok (.goto (-34), 3) := by decide +kernel
theorem dX2_dueBits_41 : decode cX2_dueBits 41 = .ok (.iload_n 1, 1) := by decide +kernel
theorem dX2_dueBits_42 : decode cX2_dueBits 42 = .ok (.ireturn, 1) := by decide +kernel
theorem dX3_init_0 : decode cX3_init 0 = .ok (.aload_n 0, 1) := by decide +kernel
theorem dX3_init_1 : decode cX3_init 1 = .ok (.invokespecial 3, 3) := by decide +kernel
theorem dX3_init_4 : decode cX3_init 4 = .ok (.aload_n 0, 1) := by decide +kernel
theorem dX3_init_5 : decode cX3_init 5 = .ok (.iconst 1, 1) := by decide +kernel
theorem dX3_init_6 : decode cX3_init 6 = .ok (.putfield 9, 3) := by decide +kernel
theorem dX3_init_9 : decode cX3_init 9 = .ok (.aload_n 0, 1) := by decide +kernel
theorem dX3_init_10 : decode cX3_init 10 = .ok (.bipush 60, 2) := by decide +kernel
theorem dX3_init_12 : decode cX3_init 12 = .ok (.newarray .long, 2) := by decide +kernel
theorem dX3_init_14 : decode cX3_init 14 = .ok (.putfield 15, 3) := by decide +kernel
theorem dX3_init_17 : decode cX3_init 17 = .ok (.return_, 1) := by decide +kernel
theorem dX3_begin_0 : decode cX3_begin 0 = .ok (.aload_n 0, 1) := by decide +kernel
theorem dX3_begin_1 : decode cX3_begin 1 = .ok (.iconst 0, 1) := by decide +kernel
theorem dX3_begin_2 : decode cX3_begin 2 = .ok (.putfield 9, 3) := by decide +kernel
theorem dX3_begin_5 : decode cX3_begin 5 = .ok (.aload_n 0, 1) := by decide +kernel
theorem dX3_begin_6 : decode cX3_begin 6 = .ok (.iload_n 1, 1) := by decide +kernel
theorem dX3_begin_7 : decode cX3_begin 7 = .ok (.putfield 19, 3) := by decide +kernel
theorem dX3_begin_10 : decode cX3_begin 10 = .ok (.aload_n 0, 1) := by decide +kernel
theorem dX3_begin_11 : decode cX3_begin 11 = .ok (.iload_n 2, 1) := by decide +kernel
theorem dX3_begin_12 : decode cX3_begin 12 = .ok (.putfield 23, 3) := by decide +kernel
theorem dX3_begin_15 : decode cX3_begin 15 = .ok (.aload_n 0, 1) := by decide +kernel
theorem dX3_begin_16 : decode cX3_begin 16 = .ok (.getfield 15, 3) := by decide +kernel
theorem dX3_begin_19 : decode cX3_begin 19 = .ok (.lconst 0, 1) := by decide +kernel
theorem dX3_begin_20 : decode cX3_begin 20 = .ok (.invokestatic 26, 3) := by decide +kernel
theorem dX3_begin_23 : decode cX3_begin 23 = .ok (.return_, 1) := by decide +kernel
theorem dX3_troubleAt_0 : decode cX3_troubleAt 0 = .ok (.aload_n 0, 1) := by decide +kernel
theorem dX3_troubleAt_1 : decode cX3_troubleAt 1 = .ok (.getfield 9, 3) := by decide +kernel
theorem dX3_troubleAt_4 : decode cX3_troubleAt 4 = .ok (.ifCond .eq 5, 3) := by decide +kernel
theorem dX3_troubleAt_7 : decode cX3_troubleAt 7 = .ok (.iconst 1, 1) := by decide +kernel
theorem dX3_troubleAt_8 : decode cX3_troubleAt 8 = .ok (.ireturn, 1) := by decide +kernel
theorem dX3_troubleAt_9 : decode cX3_troubleAt 9 = .ok (.aload_n 0, 1) := by decide +kernel
theorem dX3_troubleAt_10 : decode cX3_troubleAt 10 = .ok (.getfield 19, 3) := by decide +kernel
theorem dX3_troubleAt_13 : decode cX3_troubleAt 13 = .ok (.iload_n 1, 1) := by decide +kernel
theorem dX3_troubleAt_14 : decode cX3_troubleAt 14 = .ok (.if_icmp .eq 5, 3) := by decide +kernel
theorem dX3_troubleAt_17 : decode cX3_troubleAt 17 = .ok (.iconst 3, 1) := by decide +kernel
theorem dX3_troubleAt_18 : decode cX3_troubleAt 18 = .ok (.ireturn, 1) := by decide +kernel
theorem dX3_troubleAt_19 : decode cX3_troubleAt 19 = .ok (.iload_n 2, 1) := by decide +kernel
theorem dX3_troubleAt_20 : decode cX3_troubleAt 20 = .ok (.i2l, 1) := by decide +kernel
theorem dX3_troubleAt_21 : decode cX3_troubleAt 21 = .ok (.iconst 0, 1) := by decide +kernel
theorem dX3_troubleAt_22 : decode cX3_troubleAt 22 = .ok (.aload_n 0, 1) := by decide +kernel
theorem dX3_troubleAt_23 : decode cX3_troubleAt 23 = .ok (.getfield 23, 3) := by decide +kernel
theorem dX3_troubleAt_26 : decode cX3_troubleAt 26 = .ok (.iconst 1, 1) := by decide +kernel
theorem dX3_troubleAt_27 : decode cX3_troubleAt 27 = .ok (.isub, 1) := by decide +kernel
theorem dX3_troubleAt_28 : decode cX3_troubleAt 28 = .ok (.invokestatic 32, 3) := by decide +kernel
theorem dX3_troubleAt_31 : decode cX3_troubleAt 31 = .ok (.ifCond .eq 7, 3) := by decide +kernel
theorem dX3_troubleAt_34 : decode cX3_troubleAt 34 = .ok (.iconst 0, 1) := by decide +kernel
theorem dX3_troubleAt_35 : decode cX3_troubleAt 35 = .ok (.goto 4, 3) := by decide +kernel
theorem dX3_troubleAt_38 : decode cX3_troubleAt 38 = .ok (.iconst 2, 1) := by decide +kernel
theorem dX3_troubleAt_39 : decode cX3_troubleAt 39 = .ok (.ireturn, 1) := by decide +kernel
theorem dX3_hasRange_0 : decode cX3_hasRange 0 = .ok (.iload_n 1, 1) := by decide +kernel
theorem dX3_hasRange_1 : decode cX3_hasRange 1 = .ok (.ifCond .lt 29, 3) := by decide +kernel
theorem dX3_hasRange_4 : decode cX3_hasRange 4 = .ok (.iload_n 2, 1) := by decide +kernel
theorem dX3_hasRange_5 : decode cX3_hasRange 5 = .ok (.ifCond .lt 25, 3) := by decide +kernel
theorem dX3_hasRange_8 : decode cX3_hasRange 8 = .ok (.iload_n 1, 1) := by decide +kernel
theorem dX3_hasRange_9 : decode cX3_hasRange 9 = .ok (.aload_n 0, 1) := by decide +kernel
theorem dX3_hasRange_10 : decode cX3_hasRange 10 = .ok (.getfield 23, 3) := by decide +kernel
theorem dX3_hasRange_13 : decode cX3_hasRange 13 = .ok (.if_icmp .gt 17, 3) := by decide +kernel
theorem dX3_hasRange_16 : decode cX3_hasRange 16 = .ok (.iload_n 2, 1) := by decide +kernel
theorem dX3_hasRange_17 : decode cX3_hasRange 17 = .ok (.aload_n 0, 1) := by decide +kernel
theorem dX3_hasRange_18 : decode cX3_hasRange 18 = .ok (.getfield 23, 3) := by decide +kernel
theorem dX3_hasRange_21 : decode cX3_hasRange 21 = .ok (.iload_n 1, 1) := by decide +kernel
theorem dX3_hasRange_22 : decode cX3_hasRange 22 = .ok (.isub, 1) := by decide +kernel
theorem dX3_hasRange_23 : decode cX3_hasRange 23 = .ok (.if_icmp .gt 7, 3) := by decide +kernel
theorem dX3_hasRange_26 : decode cX3_hasRange 26 = .ok (.iconst 1, 1) := by decide +kernel
theorem dX3_hasRange_27 : decode cX3_hasRange 27 = .ok (.goto 4, 3) := by decide +kernel
theorem dX3_hasRange_30 : decode cX3_hasRange 30 = .ok (.iconst 0, 1) := by decide +kernel
theorem dX3_hasRange_31 : decode cX3_hasRange 31 = .ok (.ireturn, 1) := by decide +kernel
theorem dX3_put_0 : decode cX3_put 0 = .ok (.aload_n 0, 1) := by decide +kernel
theorem dX3_put_1 : decode cX3_put 1 = .ok (.getfield 15, 3) := by decide +kernel
theorem dX3_put_4 : decode cX3_put 4 = .ok (.iload_n 1, 1) := by decide +kernel
theorem dX3_put_5 : decode cX3_put 5 = .ok (.aload_n 0, 1) := by decide +kernel
theorem dX3_put_6 : decode cX3_put 6 = .ok (.getfield 19, 3) := by decide +kernel
theorem dX3_put_9 : decode cX3_put 9 = .ok (.ifCond .ne 10, 3) := by decide +kernel
theorem dX3_put_12 : decode cX3_put 12 = .ok (.lload_n 2, 1) := by decide +kernel
theorem dX3_put_13 : decode cX3_put 13 = .ok (.l2i, 1) := by decide +kernel
theorem dX3_put_14 : decode cX3_put 14 = .ok (.i2s, 1) := by decide +kernel
theorem dX3_put_15 : decode cX3_put 15 = .ok (.i2l, 1) := by decide +kernel
theorem dX3_put_16 : decode cX3_put 16 = .ok (.goto 4, 3) := by decide +kernel
theorem dX3_put_19 : decode cX3_put 19 = .ok (.lload_n 2, 1) := by decide +kernel
theorem dX3_put_20 : decode cX3_put 20 = .ok (.lastore, 1) := by decide +kernel
theorem dX3_put_21 : decode cX3_put 21 = .ok (.return_, 1) := by decide +kernel
theorem dX4_init_0 : decode cX4_init 0 = .ok (.aload_n 0, 1) := by decide +kernel
theorem dX4_init_1 : decode cX4_init 1 = .ok (.invokespecial 3, 3) := by decide +kernel
theorem dX4_init_4 : decode cX4_init 4 = .ok (.aload_n 0, 1) := by decide +kernel
theorem dX4_init_5 : decode cX4_init 5 = .ok (.new 9, 3) := by decide +kernel
theorem dX4_init_8 : decode cX4_init 8 = .ok (.dup, 1) := by decide +kernel
theorem dX4_init_9 : decode cX4_init 9 = .ok (.invokespecial 11, 3) := by decide +kernel
theorem dX4_init_12 : decode cX4_init 12 = .ok (.putfield 12, 3) := by decide +kernel
theorem dX4_init_15 : decode cX4_init 15 = .ok (.aload_n 0, 1) := by decide +kernel
theorem dX4_init_16 : decode cX4_init 16 = .ok (.new 16, 3) := by decide +kernel
theorem dX4_init_19 : decode cX4_init 19 = .ok (.dup, 1) := by decide +kernel
theorem dX4_init_20 : decode cX4_init 20 = .ok (.aload_n 0, 1) := by decide +kernel
theorem dX4_init_21 : decode cX4_init 21 = .ok (.getfield 12, 3) := by decide +kernel
theorem dX4_init_24 : decode cX4_init 24 = .ok (.invokespecial 18, 3) := by decide +kernel
theorem dX4_init_27 : decode cX4_init 27 = .ok (.putfield 21, 3) := by decide +kernel
theorem dX4_init_30 : decode cX4_init 30 = .ok (.aload_n 0, 1) := by decide +kernel
theorem dX4_init_31 : decode cX4_init 31 = .ok (.new 16, 3) := by decide +kernel
theorem dX4_init_34 : decode cX4_init 34 = .ok (.dup, 1) := by decide +kernel
theorem dX4_init_35 : decode cX4_init 35 = .ok (.aload_n 0, 1) := by decide +kernel
theorem dX4_init_36 : decode cX4_init 36 = .ok (.getfield 12, 3) := by decide +kernel
theorem dX4_init_39 : decode cX4_init 39 = .ok (.invokespecial 18, 3) := by decide +kernel
theorem dX4_init_42 : decode cX4_init 42 = .ok (.putfield 25, 3) := by decide +kernel
theorem dX4_init_45 : decode cX4_init 45 = .ok (.aload_n 0, 1) := by decide +kernel
theorem dX4_init_46 : decode cX4_init 46 = .ok (.new 28, 3) := by decide +kernel
theorem dX4_init_49 : decode cX4_init 49 = .ok (.dup, 1) := by decide +kernel
theorem dX4_init_50 : decode cX4_init 50 = .ok (.invokespecial 30, 3) := by decide +kernel
theorem dX4_init_53 : decode cX4_init 53 = .ok (.putfield 31, 3) := by decide +kernel
theorem dX4_init_56 : decode cX4_init 56 = .ok (.aload_n 0, 1) := by decide +kernel
theorem dX4_init_57 : decode cX4_init 57 = .ok (.iconst 4, 1) := by decide +kernel
theorem dX4_init_58 : decode cX4_init 58 = .ok (.anewarray 35, 3) := by decide +kernel
theorem dX4_init_61 : decode cX4_init 61 = .ok (.putfield 37, 3) := by decide +kernel
theorem dX4_init_64 : decode cX4_init 64 = .ok (.iconst 0, 1) := by decide +kernel
theorem dX4_init_65 : decode cX4_init 65 = .ok (.istore_n 1, 1) := by decide +kernel
theorem dX4_init_66 : decode cX4_init 66 = .ok (.iload_n 1, 1) := by decide +kernel
theorem dX4_init_67 : decode cX4_init 67 = .ok (.iconst 4, 1) := by decide +kernel
theorem dX4_init_68 : decode cX4_init 68 = .ok (.if_icmp .ge 22, 3) := by decide +kernel
theorem dX4_init_71 : decode cX4_init 71 = .ok (.aload_n 0, 1) := by decide +kernel
theorem dX4_init_72 : decode cX4_init 72 = .ok (.getfield 37, 3) := by decide +kernel
theorem dX4_init_75 : decode cX4_init 75 = .ok (.iload_n 1, 1) := by decide +kernel
theorem dX4_init_76 : decode cX4_init 76 = .ok (.new 35, 3) := by decide +kernel
theorem dX4_init_79 : decode cX4_init 79 = .ok (.dup, 1) := by decide +kernel
theorem dX4_init_80 : decode cX4_init 80 = .ok (.invokespecial 41, 3) := by decide +kernel
theorem dX4_init_83 : decode cX4_init 83 = .ok (.aastore, 1) := by decide +kernel
theorem dX4_init_84 : decode cX4_init 84 = .ok (.iinc 1 1, 3) := by decide +kernel
theorem dX4_init_87 : decode cX4_init 87 = .ok (.goto (-21), 3) := by decide +kernel
theorem dX4_init_90 : decode cX4_init 90 = .ok (.aload_n 0, 1) := by decide +kernel
theorem dX4_init_91 : decode cX4_init 91 = .ok (.iconst 0, 1) := by decide +kernel
theorem dX4_init_92 : decode cX4_init 92 = .ok (.putfield 42, 3) := by decide +kernel
theorem dX4_init_95 : decode cX4_init 95 = .ok (.return_, 1) := by decide +kernel
theorem dX4_chain_0 : decode cX4_chain 0 = .ok (.iload_n 1, 1) := by decide +kernel
theorem dX4_chain_1 : decode cX4_chain 1 = .ok (.invokestatic 46, 3) := by decide +kernel
theorem dX4_chain_4 : decode cX4_chain 4 = .ok (.ifCond .eq 31, 3) := by decide +kernel
theorem dX4_chain_7 : decode cX4_chain 7 = .ok (.iload_n 2, 1) := by decide +kernel
theorem dX4_chain_8 : decode cX4_chain 8 = .ok (.i2l, 1) := by decide +kernel
theorem dX4_chain_9 : decode cX4_chain 9 = .ok (.iconst 0, 1) := by decide +kernel
theorem dX4_chain_10 : decode cX4_chain 10 = .ok (.iconst 4, 1) := by decide +kernel
theorem dX4_chain_11 : decode cX4_chain 11 = .ok (.invokestatic 50, 3) := by decide +kernel
theorem dX4_chain_14 : decode cX4_chain 14 = .ok (.ifCond .eq 21, 3) := by decide +kernel
theorem dX4_chain_17 : decode cX4_chain 17 = .ok (.iload_n 3, 1) := by decide +kernel
theorem dX4_chain_18 : decode cX4_chain 18 = .ok (.i2l, 1) := by decide +kernel
theorem dX4_chain_19 : decode cX4_chain 19 = .ok (.getstatic 54, 3) := by decide +kernel
theorem dX4_chain_22 : decode cX4_chain 22 = .ok (.iload_n 2, 1) := by decide +kernel
theorem dX4_chain_23 : decode cX4_chain 23 = .ok (.iaload, 1) := by decide +kernel
theorem dX4_chain_24 : decode cX4_chain 24 = .ok (.getstatic 58, 3) := by decide +kernel
theorem dX4_chain_27 : decode cX4_chain 27 = .ok (.iload_n 2, 1) := by decide +kernel
theorem dX4_chain_28 : decode cX4_chain 28 = .ok (.iaload, 1) := by decide +kernel
theorem dX4_chain_29 : decode cX4_chain 29 = .ok (.invokestatic 50, 3) := by decide +kernel
theorem dX4_chain_32 : decode cX4_chain 32 = .ok (.ifCond .ne 6, 3) := by decide +kernel
theorem dX4_chain_35 : decode cX4_chain 35 = .ok (.bipush (-2), 2) := by decide +kernel
theorem dX4_chain_37 : decode cX4_chain 37 = .ok (.ireturn, 1) := by decide +kernel
theorem dX4_chain_38 : decode cX4_chain 38 = .ok (.aload_n 0, 1) := by decide +kernel
theorem dX4_chain_39 : decode cX4_chain 39 = .ok (.getfield 12, 3) := by decide +kernel
theorem dX4_chain_42 : decode cX4_chain 42 = .ok (.getfield 61, 3) := by decide +kernel
theorem dX4_chain_45 : decode cX4_chain 45 = .ok (.iload_n 2, 1) := by decide +kernel
theorem dX4_chain_46 : decode cX4_chain 46 = .ok (.aaload, 1) := by decide +kernel
theorem dX4_chain_47 : decode cX4_chain 47 = .ok (.iload_n 1, 1) := by decide +kernel
theorem dX4_chain_48 : decode cX4_chain 48 = .ok (.iaload, 1) := by decide +kernel
theorem dX4_chain_49 : decode cX4_chain 49 = .ok (.istore 4, 2) := by decide +kernel
theorem dX4_chain_51 : decode cX4_chain 51 = .ok (.aload_n 0, 1) := by decide +kernel
theorem dX4_chain_52 : decode cX4_chain 52 = .ok (.getfield 12, 3) := by decide +kernel
theorem dX4_chain_55 : decode cX4_chain 55 = .ok (.getfield 61, 3) := by decide +kernel
theorem dX4_chain_58 : decode cX4_chain 58 = .ok (.iload_n 2, 1) := by decide +kernel
theorem dX4_chain_59 : decode cX4_chain 59 = .ok (.aaload, 1) := by decide +kernel
theorem dX4_chain_60 : decode cX4_chain 60 = .ok (.iload_n 1, 1) := by decide +kernel
theorem dX4_chain_61 : decode cX4_chain 61 = .ok (.iload_n 3, 1) := by decide +kernel
theorem dX4_chain_62 : decode cX4_chain 62 = .ok (.iastore, 1) := by decide +kernel
theorem dX4_chain_63 : decode cX4_chain 63 = .ok (.aload_n 0, 1) := by decide +kernel
theorem dX4_chain_64 : decode cX4_chain 64 = .ok (.getfield 21, 3) := by decide +kernel
theorem dX4_chain_67 : decode cX4_chain 67 = .ok (.iconst 1, 1) := by decide +kernel
theorem dX4_chain_68 : decode cX4_chain 68 = .ok (.putfield 65, 3) := by decide +kernel
theorem dX4_chain_71 : decode cX4_chain 71 = .ok (.iload 4, 2) := by decide +kernel
theorem dX4_chain_73 : decode cX4_chain 73 = .ok (.ireturn, 1) := by decide +kernel
theorem dX4_step_0 : decode cX4_step 0 = .ok (.iload_n 1, 1) := by decide +kernel
theorem dX4_step_1 : decode cX4_step 1 = .ok (.invokestatic 46, 3) := by decide +kernel
theorem dX4_step_4 : decode cX4_step 4 = .ok (.ifCond .eq 41, 3) := by decide +kernel
theorem dX4_step_7 : decode cX4_step 7 = .ok (.iconst 0, 1) := by decide +kernel
theorem dX4_step_8 : decode cX4_step 8 = .ok (.iload_n 2, 1) := by decide +kernel
theorem dX4_step_9 : decode cX4_step 9 = .ok (.i2l, 1) := by decide +kernel
theorem dX4_step_10 : decode cX4_step 10 = .ok (.invokestatic 69, 3) := by decide +kernel
theorem dX4_step_13 : decode cX4_step 13 = .ok (.ifCond .eq 32, 3) := by decide +kernel
theorem dX4_step_16 : decode cX4_step 16 = .ok (.iconst 1, 1) := by decide +kernel
theorem dX4_step_17 : decode cX4_step 17 = .ok (.iload_n 3, 1) := by decide +kernel
theorem dX4_step_18 : decode cX4_step 18 = .ok (.i2l, 1) := by decide +kernel
theorem dX4_step_19 : decode cX4_step 19 = .ok (.invokestatic 69, 3) := by decide +kernel
theorem dX4_step_22 : decode cX4_step 22 = .ok (.ifCond .eq 23, 3) := by decide +kernel
theorem dX4_step_25 : decode cX4_step 25 = .ok (.iconst 2, 1) := by decide +kernel
theorem dX4_step_26 : decode cX4_step 26 = .ok (.iload 4, 2) := by decide +kernel
theorem dX4_step_28 : decode cX4_step 28 = .ok (.i2l, 1) := by decide +kernel
theorem dX4_step_29 : decode cX4_step 29 = .ok (.invokestatic 69, 3) := by decide +kernel
theorem dX4_step_32 : decode cX4_step 32 = .ok (.ifCond .eq 13, 3) := by decide +kernel
theorem dX4_step_35 : decode cX4_step 35 = .ok (.iconst 3, 1) := by decide +kernel
theorem dX4_step_36 : decode cX4_step 36 = .ok (.iload 5, 2) := by decide +kernel
theorem dX4_step_38 : decode cX4_step 38 = .ok (.i2l, 1) := by decide +kernel
theorem dX4_step_39 : decode cX4_step 39 = .ok (.invokestatic 69, 3) := by decide +kernel
theorem dX4_step_42 : decode cX4_step 42 = .ok (.ifCond .ne 6, 3) := by decide +kernel
theorem dX4_step_45 : decode cX4_step 45 = .ok (.bipush (-2), 2) := by decide +kernel
theorem dX4_step_47 : decode cX4_step 47 = .ok (.ireturn, 1) := by decide +kernel
theorem dX4_step_48 : decode cX4_step 48 = .ok (.aload_n 0, 1) := by decide +kernel
theorem dX4_step_49 : decode cX4_step 49 = .ok (.getfield 12, 3) := by decide +kernel
theorem dX4_step_52 : decode cX4_step 52 = .ok (.getfield 73, 3) := by decide +kernel
theorem dX4_step_55 : decode cX4_step 55 = .ok (.iload_n 1, 1) := by decide +kernel
theorem dX4_step_56 : decode cX4_step 56 = .ok (.iaload, 1) := by decide +kernel
theorem dX4_step_57 : decode cX4_step 57 = .ok (.iconst 3, 1) := by decide +kernel
theorem dX4_step_58 : decode cX4_step 58 = .ok (.if_icmp .lt 6, 3) := by decide +kernel
theorem dX4_step_61 : decode cX4_step 61 = .ok (.bipush (-4), 2) := by decide +kernel
theorem dX4_step_63 : decode cX4_step 63 = .ok (.ireturn, 1) := by decide +kernel
theorem dX4_step_64 : decode cX4_step 64 = .ok (.aload_n 0, 1) := by decide +kernel
theorem dX4_step_65 : decode cX4_step 65 = .ok (.getfield 21, 3) := by decide +kernel
theorem dX4_step_68 : decode cX4_step 68 = .ok (.iconst 1, 1) := by decide +kernel
theorem dX4_step_69 : decode cX4_step 69 = .ok (.putfield 65, 3) := by decide +kernel
theorem dX4_step_72 : decode cX4_step 72 = .ok (.aload_n 0, 1) := by decide +kernel
theorem dX4_step_73 : decode cX4_step 73 = .ok (.getfield 12, 3) := by decide +kernel
theorem dX4_step_76 : decode cX4_step 76 = .ok (.iload_n 1, 1) := by decide +kernel
theorem dX4_step_77 : decode cX4_step 77 = .ok (.iload_n 2, 1) := by decide +kernel
theorem dX4_step_78 : decode cX4_step 78 = .ok (.iload_n 3, 1) := by decide +kernel
theorem dX4_step_79 : decode cX4_step 79 = .ok (.iload 4, 2) := by decide +kernel
theorem dX4_step_81 : decode cX4_step 81 = .ok (.iload 5, 2) := by decide +kernel
theorem dX4_step_83 : decode cX4_step 83 = .ok (.invokevirtual 76, 3) := by decide +kernel
theorem dX4_step_86 : decode cX4_step 86 = .ok (.ireturn, 1) := by decide +kernel
theorem dX4_back_0 : decode cX4_back 0 = .ok (.iload_n 1, 1) := by decide +kernel
theorem dX4_back_1 : decode cX4_back 1 = .ok (.invokestatic 46, 3) := by decide +kernel
theorem dX4_back_4 : decode cX4_back 4 = .ok (.ifCond .ne 6, 3) := by decide +kernel
theorem dX4_back_7 : decode cX4_back 7 = .ok (.bipush (-2), 2) := by decide +kernel
theorem dX4_back_9 : decode cX4_back 9 = .ok (.ireturn, 1) := by decide +kernel
theorem dX4_back_10 : decode cX4_back 10 = .ok (.aload_n 0, 1) := by decide +kernel
theorem dX4_back_11 : decode cX4_back 11 = .ok (.getfield 12, 3) := by decide +kernel
theorem dX4_back_14 : decode cX4_back 14 = .ok (.getfield 73, 3) := by decide +kernel
theorem dX4_back_17 : decode cX4_back 17 = .ok (.iload_n 1, 1) := by decide +kernel
theorem dX4_back_18 : decode cX4_back 18 = .ok (.iaload, 1) := by decide +kernel
theorem dX4_back_19 : decode cX4_back 19 = .ok (.ifCond .ne 6, 3) := by decide +kernel
theorem dX4_back_22 : decode cX4_back 22 = .ok (.bipush (-3), 2) := by decide +kernel
theorem dX4_back_24 : decode cX4_back 24 = .ok (.ireturn, 1) := by decide +kernel
theorem dX4_back_25 : decode cX4_back 25 = .ok (.aload_n 0, 1) := by decide +kernel
theorem dX4_back_26 : decode cX4_back 26 = .ok (.getfield 12, 3) := by decide +kernel
theorem dX4_back_29 : decode cX4_back 29 = .ok (.getfield 73, 3) := by decide +kernel
theorem dX4_back_32 : decode cX4_back 32 = .ok (.iload_n 1, 1) := by decide +kernel
theorem dX4_back_33 : decode cX4_back 33 = .ok (.dup2, 1) := by decide +kernel
theorem dX4_back_34 : decode cX4_back 34 = .ok (.iaload, 1) := by decide +kernel
theorem dX4_back_35 : decode cX4_back 35 = .ok (.iconst 1, 1) := by decide +kernel
theorem dX4_back_36 : decode cX4_back 36 = .ok (.isub, 1) := by decide +kernel
theorem dX4_back_37 : decode cX4_back 37 = .ok (.iastore, 1) := by decide +kernel
theorem dX4_back_38 : decode cX4_back 38 = .ok (.aload_n 0, 1) := by decide +kernel
theorem dX4_back_39 : decode cX4_back 39 = .ok (.getfield 21, 3) := by decide +kernel
theorem dX4_back_42 : decode cX4_back 42 = .ok (.iconst 1, 1) := by decide +kernel
theorem dX4_back_43 : decode cX4_back 43 = .ok (.putfield 65, 3) := by decide +kernel
theorem dX4_back_46 : decode cX4_back 46 = .ok (.aload_n 0, 1) := by decide +kernel
theorem dX4_back_47 : decode cX4_back 47 = .ok (.getfield 12, 3) := by decide +kernel
theorem dX4_back_50 : decode cX4_back 50 = .ok (.getfield 73, 3) := by decide +kernel
theorem dX4_back_53 : decode cX4_back 53 = .ok (.iload_n 1, 1) := by decide +kernel
theorem dX4_back_54 : decode cX4_back 54 = .ok (.iaload, 1) := by decide +kernel
theorem dX4_back_55 : decode cX4_back 55 = .ok (.ireturn, 1) := by decide +kernel
theorem dX4_tune_0 : decode cX4_tune 0 = .ok (.aload_n 0, 1) := by decide +kernel
theorem dX4_tune_1 : decode cX4_tune 1 = .ok (.getfield 12, 3) := by decide +kernel
theorem dX4_tune_4 : decode cX4_tune 4 = .ok (.iload_n 1, 1) := by decide +kernel
theorem dX4_tune_5 : decode cX4_tune 5 = .ok (.iload_n 2, 1) := by decide +kernel
theorem dX4_tune_6 : decode cX4_tune 6 = .ok (.invokevirtual 80, 3) := by decide +kernel
theorem dX4_tune_9 : decode cX4_tune 9 = .ok (.istore 5, 2) := by decide +kernel
theorem dX4_tune_11 : decode cX4_tune 11 = .ok (.iload 5, 2) := by decide +kernel
theorem dX4_tune_13 : decode cX4_tune 13 = .ok (.iconst (-1), 1) := by decide +kernel
theorem dX4_tune_14 : decode cX4_tune 14 = .ok (.if_icmp .eq 23, 3) := by decide +kernel
theorem dX4_tune_17 : decode cX4_tune 17 = .ok (.iload_n 3, 1) := by decide +kernel
theorem dX4_tune_18 : decode cX4_tune 18 = .ok (.i2l, 1) := by decide +kernel
theorem dX4_tune_19 : decode cX4_tune 19 = .ok (.iconst 0, 1) := by decide +kernel
theorem dX4_tune_20 : decode cX4_tune 20 = .ok (.iconst 3, 1) := by decide +kernel
theorem dX4_tune_21 : decode cX4_tune 21 = .ok (.invokestatic 50, 3) := by decide +kernel
theorem dX4_tune_24 : decode cX4_tune 24 = .ok (.ifCond .eq 13, 3) := by decide +kernel
theorem dX4_tune_27 : decode cX4_tune 27 = .ok (.iload_n 3, 1) := by decide +kernel
theorem dX4_tune_28 : decode cX4_tune 28 = .ok (.iload 4, 2) := by decide +kernel
theorem dX4_tune_30 : decode cX4_tune 30 = .ok (.i2l, 1) := by decide +kernel
theorem dX4_tune_31 : decode cX4_tune 31 = .ok (.invokestatic 69, 3) := by decide +kernel
theorem dX4_tune_34 : decode cX4_tune 34 = .ok (.ifCond .ne 6, 3) := by decide +kernel
theorem dX4_tune_37 : decode cX4_tune 37 = .ok (.bipush (-2), 2) := by decide +kernel
theorem dX4_tune_39 : decode cX4_tune 39 = .ok (.ireturn, 1) := by decide +kernel
theorem dX4_tune_40 : decode cX4_tune 40 = .ok (.aload_n 0, 1) := by decide +kernel
theorem dX4_tune_41 : decode cX4_tune 41 = .ok (.getfield 12, 3) := by decide +kernel
theorem dX4_tune_44 : decode cX4_tune 44 = .ok (.getfield 84, 3) := by decide +kernel
theorem dX4_tune_47 : decode cX4_tune 47 = .ok (.iload_n 3, 1) := by decide +kernel
theorem dX4_tune_48 : decode cX4_tune 48 = .ok (.aaload, 1) := by decide +kernel
theorem dX4_tune_49 : decode cX4_tune 49 = .ok (.iload 5, 2) := by decide +kernel
theorem dX4_tune_51 : decode cX4_tune 51 = .ok (.iaload, 1) := by decide +kernel
theorem dX4_tune_52 : decode cX4_tune 52 = .ok (.istore 6, 2) := by decide +kernel
theorem dX4_tune_54 : decode cX4_tune 54 = .ok (.aload_n 0, 1) := by decide +kernel
theorem dX4_tune_55 : decode cX4_tune 55 = .ok (.getfield 12, 3) := by decide +kernel
theorem dX4_tune_58 : decode cX4_tune 58 = .ok (.getfield 84, 3) := by decide +kernel
theorem dX4_tune_61 : decode cX4_tune 61 = .ok (.iload_n 3, 1) := by decide +kernel
theorem dX4_tune_62 : decode cX4_tune 62 = .ok (.aaload, 1) := by decide +kernel
theorem dX4_tune_63 : decode cX4_tune 63 = .ok (.iload 5, 2) := by decide +kernel
theorem dX4_tune_65 : decode cX4_tune 65 = .ok (.iload 4, 2) := by decide +kernel
theorem dX4_tune_67 : decode cX4_tune 67 = .ok (.iastore, 1) := by decide +kernel
theorem dX4_tune_68 : decode cX4_tune 68 = .ok (.aload_n 0, 1) := by decide +kernel
theorem dX4_tune_69 : decode cX4_tune 69 = .ok (.getfield 21, 3) := by decide +kernel
theorem dX4_tune_72 : decode cX4_tune 72 = .ok (.iconst 1, 1) := by decide +kernel
theorem dX4_tune_73 : decode cX4_tune 73 = .ok (.putfield 65, 3) := by decide +kernel
theorem dX4_tune_76 : decode cX4_tune 76 = .ok (.iload 6, 2) := by decide +kernel
theorem dX4_tune_78 : decode cX4_tune 78 = .ok (.ireturn, 1) := by decide +kernel
theorem dX4_read_0 : decode cX4_read 0 = .ok (.iload_n 1, 1) := by decide +kernel
theorem dX4_read_1 : decode cX4_read 1 = .ok (.invokestatic 46, 3) := by decide +kernel
theorem dX4_read_4 : decode cX4_read 4 = .ok (.ifCond .eq 10, 3) := by decide +kernel
theorem dX4_read_7 : decode cX4_read 7 = .ok (.iload_n 2, 1) := by decide +kernel
theorem dX4_read_8 : decode cX4_read 8 = .ok (.invokestatic 87, 3) := by decide +kernel
theorem dX4_read_11 : decode cX4_read 11 = .ok (.ifCond .ne 6, 3) := by decide +kernel
theorem dX4_read_14 : decode cX4_read 14 = .ok (.bipush (-2), 2) := by decide +kernel
theorem dX4_read_16 : decode cX4_read 16 = .ok (.ireturn, 1) := by decide +kernel
theorem dX4_read_17 : decode cX4_read 17 = .ok (.aload_n 0, 1) := by decide +kernel
theorem dX4_read_18 : decode cX4_read 18 = .ok (.getfield 37, 3) := by decide +kernel
theorem dX4_read_21 : decode cX4_read 21 = .ok (.iload_n 2, 1) := by decide +kernel
theorem dX4_read_22 : decode cX4_read 22 = .ok (.aaload, 1) := by decide +kernel
theorem dX4_read_23 : decode cX4_read 23 = .ok (.astore_n 3, 1) := by decide +kernel
theorem dX4_read_24 : decode cX4_read 24 = .ok (.aload_n 3, 1) := by decide +kernel
theorem dX4_read_25 : decode cX4_read 25 = .ok (.getfield 90, 3) := by decide +kernel
theorem dX4_read_28 : decode cX4_read 28 = .ok (.ifCond .eq 9, 3) := by decide +kernel
theorem dX4_read_31 : decode cX4_read 31 = .ok (.aload_n 0, 1) := by decide +kernel
theorem dX4_read_32 : decode cX4_read 32 = .ok (.iconst 1, 1) := by decide +kernel
theorem dX4_read_33 : decode cX4_read 33 = .ok (.invokevirtual 93, 3) := by decide +kernel
theorem dX4_read_36 : decode cX4_read 36 = .ok (.ireturn, 1) := by decide +kernel
theorem dX4_read_37 : decode cX4_read 37 = .ok (.aload_n 3, 1) := by decide +kernel
theorem dX4_read_38 : decode cX4_read 38 = .ok (.getfield 97, 3) := by decide +kernel
theorem dX4_read_41 : decode cX4_read 41 = .ok (.iconst 4, 1) := by decide +kernel
theorem dX4_read_42 : decode cX4_read 42 = .ok (.idiv, 1) := by decide +kernel
theorem dX4_read_43 : decode cX4_read 43 = .ok (.istore 4, 2) := by decide +kernel
theorem dX4_read_45 : decode cX4_read 45 = .ok (.iconst 0, 1) := by decide +kernel
theorem dX4_read_46 : decode cX4_read 46 = .ok (.istore 5, 2) := by decide +kernel
theorem dX4_read_48 : decode cX4_read 48 = .ok (.iload 5, 2) := by decide +kernel
theorem dX4_read_50 : decode cX4_read 50 = .ok (.iload 4, 2) := by decide +kernel
theorem dX4_read_52 : decode cX4_read 52 = .ok (.if_icmp .ge 88, 3) := by decide +kernel
theorem dX4_read_55 : decode cX4_read 55 = .ok (.aload_n 0, 1) := by decide +kernel
theorem dX4_read_56 : decode cX4_read 56 = .ok (.getfield 12, 3) := by decide +kernel
theorem dX4_read_59 : decode cX4_read 59 = .ok (.getfield 73, 3) := by decide +kernel
theorem dX4_read_62 : decode cX4_read 62 = .ok (.iload_n 1, 1) := by decide +kernel
theorem dX4_read_63 : decode cX4_read 63 = .ok (.iaload, 1) := by decide +kernel
theorem dX4_read_64 : decode cX4_read 64 = .ok (.iconst 3, 1) := by decide +kernel
theorem dX4_read_65 : decode cX4_read 65 = .ok (.if_icmp .ge 75, 3) := by decide +kernel
theorem dX4_read_68 : decode cX4_read 68 = .ok (.aload_n 3, 1) := by decide +kernel
theorem dX4_read_69 : decode cX4_read 69 = .ok (.iload 5, 2) := by decide +kernel
theorem dX4_read_71 : decode cX4_read 71 = .ok (.iconst 4, 1) := by decide +kernel
theorem dX4_read_72 : decode cX4_read 72 = .ok (.imul, 1) := by decide +kernel
theorem dX4_read_73 : decode cX4_read 73 = .ok (.invokestatic 100, 3) := by decide +kernel
theorem dX4_read_76 : decode cX4_read 76 = .ok (.ifCond .eq 64, 3) := by decide +kernel
theorem dX4_read_79 : decode cX4_read 79 = .ok (.iload 5, 2) := by decide +kernel
theorem dX4_read_81 : decode cX4_read 81 = .ok (.iconst 4, 1) := by decide +kernel
theorem dX4_read_82 : decode cX4_read 82 = .ok (.imul, 1) := by decide +kernel
theorem dX4_read_83 : decode cX4_read 83 = .ok (.istore 6, 2) := by decide +kernel
theorem dX4_read_85 : decode cX4_read 85 = .ok (.aload_n 0, 1) := by decide +kernel
theorem dX4_read_86 : decode cX4_read 86 = .ok (.getfield 12, 3) := by decide +kernel
theorem dX4_read_89 : decode cX4_read 89 = .ok (.iload_n 1, 1) := by decide +kernel
theorem dX4_read_90 : decode cX4_read 90 = .ok (.aload_n 3, 1) := by decide +kernel
theorem dX4_read_91 : decode cX4_read 91 = .ok (.getfield 104, 3) := by decide +kernel
theorem dX4_read_94 : decode cX4_read 94 = .ok (.iload 6, 2) := by decide +kernel
theorem dX4_read_96 : decode cX4_read 96 = .ok (.iconst 0, 1) := by decide +kernel
theorem dX4_read_97 : decode cX4_read 97 = .ok (.iadd, 1) := by decide +kernel
theorem dX4_read_98 : decode cX4_read 98 = .ok (.laload, 1) := by decide +kernel
theorem dX4_read_99 : decode cX4_read 99 = .ok (.l2i, 1) := by decide +kernel
theorem dX4_read_100 : decode cX4_read 100 = .ok (.aload_n 3, 1) := by decide +kernel
theorem dX4_read_101 : decode cX4_read 101 = .ok (.getfield 104, 3) := by decide +kernel
theorem dX4_read_104 : decode cX4_read 104 = .ok (.iload 6, 2) := by decide +kernel
theorem dX4_read_106 : decode cX4_read 106 = .ok (.iconst 1, 1) := by decide +kernel
theorem dX4_read_107 : decode cX4_read 107 = .ok (.iadd, 1) := by decide +kernel
theorem dX4_read_108 : decode cX4_read 108 = .ok (.laload, 1) := by decide +kernel
theorem dX4_read_109 : decode cX4_read 109 = .ok (.l2i, 1) := by decide +kernel
theorem dX4_read_110 : decode cX4_read 110 = .ok (.aload_n 3, 1) := by decide +kernel
theorem dX4_read_111 : decode cX4_read 111 = .ok (.getfield 104, 3) := by decide +kernel
theorem dX4_read_114 : decode cX4_read 114 = .ok (.iload 6, 2) := by decide +kernel
theorem dX4_read_116 : decode cX4_read 116 = .ok (.iconst 2, 1) := by decide +kernel
theorem dX4_read_117 : decode cX4_read 117 = .ok (.iadd, 1) := by decide +kernel
theorem dX4_read_118 : decode cX4_read 118 = .ok (.laload, 1) := by decide +kernel
theorem dX4_read_119 : decode cX4_read 119 = .ok (.l2i, 1) := by decide +kernel
theorem dX4_read_120 : decode cX4_read 120 = .ok (.aload_n 3, 1) := by decide +kernel
theorem dX4_read_121 : decode cX4_read 121 = .ok (.getfield 104, 3) := by decide +kernel
theorem dX4_read_124 : decode cX4_read 124 = .ok (.iload 6, 2) := by decide +kernel
theorem dX4_read_126 : decode cX4_read 126 = .ok (.iconst 3, 1) := by decide +kernel
theorem dX4_read_127 : decode cX4_read 127 = .ok (.iadd, 1) := by decide +kernel
theorem dX4_read_128 : decode cX4_read 128 = .ok (.laload, 1) := by decide +kernel
theorem dX4_read_129 : decode cX4_read 129 = .ok (.l2i, 1) := by decide +kernel
theorem dX4_read_130 : decode cX4_read 130 = .ok (.invokevirtual 76, 3) := by decide +kernel
theorem dX4_read_133 : decode cX4_read 133 = .ok (.pop, 1) := by decide +kernel
theorem dX4_read_134 : decode cX4_read 134 = .ok (.iinc 5 1, 3) := by decide +kernel
theorem dX4_read_137 : decode cX4_read 137 = .ok (.goto (-89), 3) := by decide +kernel
theorem dX4_read_140 : decode cX4_read 140 = .ok (.iload 5, 2) := by decide +kernel
theorem dX4_read_142 : decode cX4_read 142 = .ok (.ifCond .le 11, 3) := by decide +kernel
theorem dX4_read_145 : decode cX4_read 145 = .ok (.aload_n 0, 1) := by decide +kernel
theorem dX4_read_146 : decode cX4_read 146 = .ok (.getfield 21, 3) := by decide +kernel
theorem dX4_read_149 : decode cX4_read 149 = .ok (.iconst 1, 1) := by decide +kernel
theorem dX4_read_150 : decode cX4_read 150 = .ok (.putfield 65, 3) := by decide +kernel
theorem dX4_read_153 : decode cX4_read 153 = .ok (.iload 5, 2) := by decide +kernel
theorem dX4_read_155 : decode cX4_read 155 = .ok (.ireturn, 1) := by decide +kernel
theorem dX4_has_0 : decode cX4_has 0 = .ok (.iload_n 1, 1) := by decide +kernel
theorem dX4_has_1 : decode cX4_has 1 = .ok (.invokestatic 46, 3) := by decide +kernel
theorem dX4_has_4 : decode cX4_has 4 = .ok (.ifCond .eq 13, 3) := by decide +kernel
theorem dX4_has_7 : decode cX4_has 7 = .ok (.iload_n 2, 1) := by decide +kernel
theorem dX4_has_8 : decode cX4_has 8 = .ok (.i2l, 1) := by decide +kernel
theorem dX4_has_9 : decode cX4_has 9 = .ok (.iconst 0, 1) := by decide +kernel
theorem dX4_has_10 : decode cX4_has 10 = .ok (.iconst 5, 1) := by decide +kernel
theorem dX4_has_11 : decode cX4_has 11 = .ok (.invokestatic 50, 3) := by decide +kernel
theorem dX4_has_14 : decode cX4_has 14 = .ok (.ifCond .ne 6, 3) := by decide +kernel
theorem dX4_has_17 : decode cX4_has 17 = .ok (.bipush (-2), 2) := by decide +kernel
theorem dX4_has_19 : decode cX4_has 19 = .ok (.ireturn, 1) := by decide +kernel
theorem dX4_has_20 : decode cX4_has 20 = .ok (.aload_n 0, 1) := by decide +kernel
theorem dX4_has_21 : decode cX4_has 21 = .ok (.iload_n 1, 1) := by decide +kernel
theorem dX4_has_22 : decode cX4_has 22 = .ok (.iload_n 2, 1) := by decide +kernel
theorem dX4_has_23 : decode cX4_has 23 = .ok (.invokevirtual 108, 3) := by decide +kernel
theorem dX4_has_26 : decode cX4_has 26 = .ok (.ireturn, 1) := by decide +kernel
theorem dX4_info_0 : decode cX4_info 0 = .ok (.aload_n 0, 1) := by decide +kernel
theorem dX4_info_1 : decode cX4_info 1 = .ok (.getfield 12, 3) := by decide +kernel
theorem dX4_info_4 : decode cX4_info 4 = .ok (.iload_n 1, 1) := by decide +kernel
theorem dX4_info_5 : decode cX4_info 5 = .ok (.iload_n 2, 1) := by decide +kernel
theorem dX4_info_6 : decode cX4_info 6 = .ok (.invokevirtual 80, 3) := by decide +kernel
theorem dX4_info_9 : decode cX4_info 9 = .ok (.istore 4, 2) := by decide +kernel
theorem dX4_info_11 : decode cX4_info 11 = .ok (.iload 4, 2) := by decide +kernel
theorem dX4_info_13 : decode cX4_info 13 = .ok (.iconst (-1), 1) := by decide +kernel
theorem dX4_info_14 : decode cX4_info 14 = .ok (.if_icmp .eq 14, 3) := by decide +kernel
theorem dX4_info_17 : decode cX4_info 17 = .ok (.iload_n 3, 1) := by decide +kernel
theorem dX4_info_18 : decode cX4_info 18 = .ok (.i2l, 1) := by decide +kernel
theorem dX4_info_19 : decode cX4_info 19 = .ok (.iconst 0, 1) := by decide +kernel
theorem dX4_info_20 : decode cX4_info 20 = .ok (.bipush 6, 2) := by decide +kernel
theorem dX4_info_22 : decode cX4_info 22 = .ok (.invokestatic 50, 3) := by decide +kernel
theorem dX4_info_25 : decode cX4_info 25 = .ok (.ifCond .ne 6, 3) := by decide +kernel
theorem dX4_info_28 : decode cX4_info 28 = .ok (.bipush (-2), 2) := by decide +kernel
theorem dX4_info_30 : decode cX4_info 30 = .ok (.ireturn, 1) := by decide +kernel
theorem dX4_info_31 : decode cX4_info 31 = .ok (.iload_n 3, 1) := by decide +kernel
theorem dX4_info_32 : decode cX4_info 32 = .ok (.iconst 5, 1) := by decide +kernel
theorem dX4_info_33 : decode cX4_info 33 = .ok (.if_icmp .ne 10, 3) := by decide +kernel
theorem dX4_info_36 : decode cX4_info 36 = .ok (.aload_n 0, 1) := by decide +kernel
theorem dX4_info_37 : decode cX4_info 37 = .ok (.getfield 21, 3) := by decide +kernel
theorem dX4_info_40 : decode cX4_info 40 = .ok (.invokevirtual 111, 3) := by decide +kernel
theorem dX4_info_43 : decode cX4_info 43 = .ok (.aload_n 0, 1) := by decide +kernel
theorem dX4_info_44 : decode cX4_info 44 = .ok (.iload 4, 2) := by decide +kernel
theorem dX4_info_46 : decode cX4_info 46 = .ok (.iload_n 3, 1) := by decide +kernel
theorem dX4_info_47 : decode cX4_info 47 = .ok (.invokevirtual 114, 3) := by decide +kernel
theorem dX4_info_50 : decode cX4_info 50 = .ok (.ireturn, 1) := by decide +kernel
theorem dX4_load_0 : decode cX4_load 0 = .ok (.aload_n 0, 1) := by decide +kernel
theorem dX4_load_1 : decode cX4_load 1 = .ok (.getfield 12, 3) := by decide +kernel
theorem dX4_load_4 : decode cX4_load 4 = .ok (.iload_n 1, 1) := by decide +kernel
theorem dX4_load_5 : decode cX4_load 5 = .ok (.iload_n 2, 1) := by decide +kernel
theorem dX4_load_6 : decode cX4_load 6 = .ok (.invokevirtual 80, 3) := by decide +kernel
theorem dX4_load_9 : decode cX4_load 9 = .ok (.istore 4, 2) := by decide +kernel
theorem dX4_load_11 : decode cX4_load 11 = .ok (.iload 4, 2) := by decide +kernel
theorem dX4_load_13 : decode cX4_load 13 = .ok (.iconst (-1), 1) := by decide +kernel
theorem dX4_load_14 : decode cX4_load 14 = .ok (.if_icmp .eq 13, 3) := by decide +kernel
theorem dX4_load_17 : decode cX4_load 17 = .ok (.iload_n 3, 1) := by decide +kernel
theorem dX4_load_18 : decode cX4_load 18 = .ok (.i2l, 1) := by decide +kernel
theorem dX4_load_19 : decode cX4_load 19 = .ok (.iconst 0, 1) := by decide +kernel
theorem dX4_load_20 : decode cX4_load 20 = .ok (.iconst 1, 1) := by decide +kernel
theorem dX4_load_21 : decode cX4_load 21 = .ok (.invokestatic 50, 3) := by decide +kernel
theorem dX4_load_24 : decode cX4_load 24 = .ok (.ifCond .ne 6, 3) := by decide +kernel
theorem dX4_load_27 : decode cX4_load 27 = .ok (.bipush (-2), 2) := by decide +kernel
theorem dX4_load_29 : decode cX4_load 29 = .ok (.ireturn, 1) := by decide +kernel
theorem dX4_load_30 : decode cX4_load 30 = .ok (.aload_n 0, 1) := by decide +kernel
theorem dX4_load_31 : decode cX4_load 31 = .ok (.getfield 12, 3) := by decide +kernel
theorem dX4_load_34 : decode cX4_load 34 = .ok (.iload 4, 2) := by decide +kernel
theorem dX4_load_36 : decode cX4_load 36 = .ok (.iload_n 3, 1) := by decide +kernel
theorem dX4_load_37 : decode cX4_load 37 = .ok (.invokevirtual 117, 3) := by decide +kernel
theorem dX4_load_40 : decode cX4_load 40 = .ok (.ireturn, 1) := by decide +kernel
theorem dX4_bound_0 : decode cX4_bound 0 = .ok (.aload_n 0, 1) := by decide +kernel
theorem dX4_bound_1 : decode cX4_bound 1 = .ok (.getfield 12, 3) := by decide +kernel
theorem dX4_bound_4 : decode cX4_bound 4 = .ok (.iload_n 1, 1) := by decide +kernel
theorem dX4_bound_5 : decode cX4_bound 5 = .ok (.iload_n 2, 1) := by decide +kernel
theorem dX4_bound_6 : decode cX4_bound 6 = .ok (.invokevirtual 80, 3) := by decide +kernel
theorem dX4_bound_9 : decode cX4_bound 9 = .ok (.istore_n 3, 1) := by decide +kernel
theorem dX4_bound_10 : decode cX4_bound 10 = .ok (.iload_n 3, 1) := by decide +kernel
theorem dX4_bound_11 : decode cX4_bound 11 = .ok (.iconst (-1), 1) := by decide +kernel
theorem dX4_bound_12 : decode cX4_bound 12 = .ok (.if_icmp .ne 6, 3) := by decide +kernel
theorem dX4_bound_15 : decode cX4_bound 15 = .ok (.bipush (-2), 2) := by decide +kernel
theorem dX4_bound_17 : decode cX4_bound 17 = .ok (.ireturn, 1) := by decide +kernel
theorem dX4_bound_18 : decode cX4_bound 18 = .ok (.aload_n 0, 1) := by decide +kernel
theorem dX4_bound_19 : decode cX4_bound 19 = .ok (.getfield 21, 3) := by decide +kernel
theorem dX4_bound_22 : decode cX4_bound 22 = .ok (.invokevirtual 111, 3) := by decide +kernel
theorem dX4_bound_25 : decode cX4_bound 25 = .ok (.aload_n 0, 1) := by decide +kernel
theorem dX4_bound_26 : decode cX4_bound 26 = .ok (.getfield 21, 3) := by decide +kernel
theorem dX4_bound_29 : decode cX4_bound 29 = .ok (.iload_n 3, 1) := by decide +kernel
theorem dX4_bound_30 : decode cX4_bound 30 = .ok (.invokevirtual 120, 3) := by decide +kernel
theorem dX4_bound_33 : decode cX4_bound 33 = .ok (.ireturn, 1) := by decide +kernel
theorem dX4_searched_0 : decode cX4_searched 0 = .ok (.aload_n 0, 1) := by decide +kernel
theorem dX4_searched_1 : decode cX4_searched 1 = .ok (.getfield 12, 3) := by decide +kernel
theorem dX4_searched_4 : decode cX4_searched 4 = .ok (.iload_n 1, 1) := by decide +kernel
theorem dX4_searched_5 : decode cX4_searched 5 = .ok (.iload_n 2, 1) := by decide +kernel
theorem dX4_searched_6 : decode cX4_searched 6 = .ok (.invokevirtual 80, 3) := by decide +kernel
theorem dX4_searched_9 : decode cX4_searched 9 = .ok (.istore_n 3, 1) := by decide +kernel
theorem dX4_searched_10 : decode cX4_searched 10 = .ok (.iload_n 3, 1) := by decide +kernel
theorem dX4_searched_11 : decode cX4_searched 11 = .ok (.iconst (-1), 1) := by decide +kernel
theorem dX4_searched_12 : decode cX4_searched 12 = .ok (.if_icmp .ne 6, 3) := by decide +kernel
theorem dX4_searched_15 : decode cX4_searched 15 = .ok (.bipush (-2), 2) := by decide +kernel
theorem dX4_searched_17 : decode cX4_searched 17 = .ok (.ireturn, 1) := by decide +kernel
theorem dX4_searched_18 : decode cX4_searched 18 = .ok (.aload_n 0, 1) := by decide +kernel
theorem dX4_searched_19 : decode cX4_searched 19 = .ok (.getfield 21, 3) := by decide +kernel
theorem dX4_searched_22 : decode cX4_searched 22 = .ok (.invokevirtual 111, 3) := by decide +kernel
theorem dX4_searched_25 : decode cX4_searched 25 = .ok (.aload_n 0, 1) := by decide +kernel
theorem dX4_searched_26 : decode cX4_searched 26 = .ok (.getfield 21, 3) := by decide +kernel
theorem dX4_searched_29 : decode cX4_searched 29 = .ok (.iload_n 3, 1) := by decide +kernel
theorem dX4_searched_30 : decode cX4_searched 30 = .ok (.invokevirtual 123, 3) := by decide +kernel
theorem dX4_searched_33 : decode cX4_searched 33 = .ok (.ireturn, 1) := by decide +kernel
theorem dX4_quick_0 : decode cX4_quick 0 = .ok (.aload_n 0, 1) := by decide +kernel
theorem dX4_quick_1 : decode cX4_quick 1 = .ok (.getfield 12, 3) := by decide +kernel
theorem dX4_quick_4 : decode cX4_quick 4 = .ok (.iload_n 1, 1) := by decide +kernel
theorem dX4_quick_5 : decode cX4_quick 5 = .ok (.iload_n 2, 1) := by decide +kernel
theorem dX4_quick_6 : decode cX4_quick 6 = .ok (.invokevirtual 80, 3) := by decide +kernel
theorem dX4_quick_9 : decode cX4_quick 9 = .ok (.istore_n 3, 1) := by decide +kernel
theorem dX4_quick_10 : decode cX4_quick 10 = .ok (.iload_n 3, 1) := by decide +kernel
theorem dX4_quick_11 : decode cX4_quick 11 = .ok (.iconst (-1), 1) := by decide +kernel
theorem dX4_quick_12 : decode cX4_quick 12 = .ok (.if_icmp .ne 6, 3) := by decide +kernel
theorem dX4_quick_15 : decode cX4_quick 15 = .ok (.bipush (-2), 2) := by decide +kernel
theorem dX4_quick_17 : decode cX4_quick 17 = .ok (.ireturn, 1) := by decide +kernel
theorem dX4_quick_18 : decode cX4_quick 18 = .ok (.aload_n 0, 1) := by decide +kernel
theorem dX4_quick_19 : decode cX4_quick 19 = .ok (.getfield 21, 3) := by decide +kernel
theorem dX4_quick_22 : decode cX4_quick 22 = .ok (.invokevirtual 111, 3) := by decide +kernel
theorem dX4_quick_25 : decode cX4_quick 25 = .ok (.aload_n 0, 1) := by decide +kernel
theorem dX4_quick_26 : decode cX4_quick 26 = .ok (.getfield 21, 3) := by decide +kernel
theorem dX4_quick_29 : decode cX4_quick 29 = .ok (.iload_n 3, 1) := by decide +kernel
theorem dX4_quick_30 : decode cX4_quick 30 = .ok (.invokevirtual 126, 3) := by decide +kernel
theorem dX4_quick_33 : decode cX4_quick 33 = .ok (.ireturn, 1) := by decide +kernel
theorem dX4_rounds_0 : decode cX4_rounds 0 = .ok (.aload_n 0, 1) := by decide +kernel
theorem dX4_rounds_1 : decode cX4_rounds 1 = .ok (.getfield 21, 3) := by decide +kernel
theorem dX4_rounds_4 : decode cX4_rounds 4 = .ok (.invokevirtual 111, 3) := by decide +kernel
theorem dX4_rounds_7 : decode cX4_rounds 7 = .ok (.aload_n 0, 1) := by decide +kernel
theorem dX4_rounds_8 : decode cX4_rounds 8 = .ok (.getfield 21, 3) := by decide +kernel
theorem dX4_rounds_11 : decode cX4_rounds 11 = .ok (.getfield 129, 3) := by decide +kernel
theorem dX4_rounds_14 : decode cX4_rounds 14 = .ok (.ireturn, 1) := by decide +kernel
theorem dX4_worst_0 : decode cX4_worst 0 = .ok (.aload_n 0, 1) := by decide +kernel
theorem dX4_worst_1 : decode cX4_worst 1 = .ok (.getfield 12, 3) := by decide +kernel
theorem dX4_worst_4 : decode cX4_worst 4 = .ok (.iload_n 1, 1) := by decide +kernel
theorem dX4_worst_5 : decode cX4_worst 5 = .ok (.iload_n 2, 1) := by decide +kernel
theorem dX4_worst_6 : decode cX4_worst 6 = .ok (.invokevirtual 80, 3) := by decide +kernel
theorem dX4_worst_9 : decode cX4_worst 9 = .ok (.istore 4, 2) := by decide +kernel
theorem dX4_worst_11 : decode cX4_worst 11 = .ok (.iload 4, 2) := by decide +kernel
theorem dX4_worst_13 : decode cX4_worst 13 = .ok (.iconst (-1), 1) := by decide +kernel
theorem dX4_worst_14 : decode cX4_worst 14 = .ok (.if_icmp .eq 13, 3) := by decide +kernel
theorem dX4_worst_17 : decode cX4_worst 17 = .ok (.iload_n 3, 1) := by decide +kernel
theorem dX4_worst_18 : decode cX4_worst 18 = .ok (.i2l, 1) := by decide +kernel
theorem dX4_worst_19 : decode cX4_worst 19 = .ok (.iconst 0, 1) := by decide +kernel
theorem dX4_worst_20 : decode cX4_worst 20 = .ok (.iconst 2, 1) := by decide +kernel
theorem dX4_worst_21 : decode cX4_worst 21 = .ok (.invokestatic 50, 3) := by decide +kernel
theorem dX4_worst_24 : decode cX4_worst 24 = .ok (.ifCond .ne 6, 3) := by decide +kernel
theorem dX4_worst_27 : decode cX4_worst 27 = .ok (.bipush (-2), 2) := by decide +kernel
theorem dX4_worst_29 : decode cX4_worst 29 = .ok (.ireturn, 1) := by decide +kernel
theorem dX4_worst_30 : decode cX4_worst 30 = .ok (.aload_n 0, 1) := by decide +kernel
theorem dX4_worst_31 : decode cX4_worst 31 = .ok (.getfield 21, 3) := by decide +kernel
theorem dX4_worst_34 : decode cX4_worst 34 = .ok (.invokevirtual 111, 3) := by decide +kernel
theorem dX4_worst_37 : decode cX4_worst 37 = .ok (.aload_n 0, 1) := by decide +kernel
theorem dX4_worst_38 : decode cX4_worst 38 = .ok (.getfield 21, 3) := by decide +kernel
theorem dX4_worst_41 : decode cX4_worst 41 = .ok (.iload 4, 2) := by decide +kernel
theorem dX4_worst_43 : decode cX4_worst 43 = .ok (.iload_n 3, 1) := by decide +kernel
theorem dX4_worst_44 : decode cX4_worst 44 = .ok (.invokevirtual 132, 3) := by decide +kernel
theorem dX4_worst_47 : decode cX4_worst 47 = .ok (.ireturn, 1) := by decide +kernel
theorem dX4_meets_0 : decode cX4_meets 0 = .ok (.aload_n 0, 1) := by decide +kernel
theorem dX4_meets_1 : decode cX4_meets 1 = .ok (.getfield 21, 3) := by decide +kernel
theorem dX4_meets_4 : decode cX4_meets 4 = .ok (.invokevirtual 111, 3) := by decide +kernel
theorem dX4_meets_7 : decode cX4_meets 7 = .ok (.aload_n 0, 1) := by decide +kernel
theorem dX4_meets_8 : decode cX4_meets 8 = .ok (.getfield 21, 3) := by decide +kernel
theorem dX4_meets_11 : decode cX4_meets 11 = .ok (.invokevirtual 135, 3) := by decide +kernel
theorem dX4_meets_14 : decode cX4_meets 14 = .ok (.ireturn, 1) := by decide +kernel
theorem dX4_margin_0 : decode cX4_margin 0 = .ok (.aload_n 0, 1) := by decide +kernel
theorem dX4_margin_1 : decode cX4_margin 1 = .ok (.getfield 12, 3) := by decide +kernel
theorem dX4_margin_4 : decode cX4_margin 4 = .ok (.iload_n 1, 1) := by decide +kernel
theorem dX4_margin_5 : decode cX4_margin 5 = .ok (.iload_n 2, 1) := by decide +kernel
theorem dX4_margin_6 : decode cX4_margin 6 = .ok (.invokevirtual 80, 3) := by decide +kernel
theorem dX4_margin_9 : decode cX4_margin 9 = .ok (.istore_n 3, 1) := by decide +kernel
theorem dX4_margin_10 : decode cX4_margin 10 = .ok (.iload_n 3, 1) := by decide +kernel
theorem dX4_margin_11 : decode cX4_margin 11 = .ok (.iconst (-1), 1) := by decide +kernel
theorem dX4_margin_12 : decode cX4_margin 12 = .ok (.if_icmp .ne 6, 3) := by decide +kernel
theorem dX4_margin_15 : decode cX4_margin 15 = .ok (.bipush (-2), 2) := by decide +kernel
theorem dX4_margin_17 : decode cX4_margin 17 = .ok (.ireturn, 1) := by decide +kernel
theorem dX4_margin_18 : decode cX4_margin 18 = .ok (.aload_n 0, 1) := by decide +kernel
theorem dX4_margin_19 : decode cX4_margin 19 = .ok (.getfield 12, 3) := by decide +kernel
theorem dX4_margin_22 : decode cX4_margin 22 = .ok (.getfield 84, 3) := by decide +kernel
theorem dX4_margin_25 : decode cX4_margin 25 = .ok (.iconst 1, 1) := by decide +kernel
theorem dX4_margin_26 : decode cX4_margin 26 = .ok (.aaload, 1) := by decide +kernel
theorem dX4_margin_27 : decode cX4_margin 27 = .ok (.iload_n 3, 1) := by decide +kernel
theorem dX4_margin_28 : decode cX4_margin 28 = .ok (.iaload, 1) := by decide +kernel
theorem dX4_margin_29 : decode cX4_margin 29 = .ok (.istore 4, 2) := by decide +kernel
theorem dX4_margin_31 : decode cX4_margin 31 = .ok (.aload_n 0, 1) := by decide +kernel
theorem dX4_margin_32 : decode cX4_margin 32 = .ok (.getfield 12, 3) := by decide +kernel
theorem dX4_margin_35 : decode cX4_margin 35 = .ok (.invokevirtual 139, 3) := by decide +kernel
theorem dX4_margin_38 : decode cX4_margin 38 = .ok (.istore 5, 2) := by decide +kernel
theorem dX4_margin_40 : decode cX4_margin 40 = .ok (.iconst (-1), 1) := by decide +kernel
theorem dX4_margin_41 : decode cX4_margin 41 = .ok (.istore 6, 2) := by decide +kernel
theorem dX4_margin_43 : decode cX4_margin 43 = .ok (.bipush 8, 2) := by decide +kernel
theorem dX4_margin_45 : decode cX4_margin 45 = .ok (.istore 7, 2) := by decide +kernel
theorem dX4_margin_47 : decode cX4_margin 47 = .ok (.iload 7, 2) := by decide +kernel
theorem dX4_margin_49 : decode cX4_margin 49 = .ok (.ifCond .lt 62, 3) := by decide +kernel
theorem dX4_margin_52 : decode cX4_margin 52 = .ok (.iload 6, 2) := by decide +kernel
theorem dX4_margin_54 : decode cX4_margin 54 = .ok (.iconst (-1), 1) := by decide +kernel
theorem dX4_margin_55 : decode cX4_margin 55 = .ok (.if_icmp .ne 56, 3) := by decide +kernel
theorem dX4_margin_58 : decode cX4_margin 58 = .ok (.aload_n 0, 1) := by decide +kernel
theorem dX4_margin_59 : decode cX4_margin 59 = .ok (.getfield 12, 3) := by decide +kernel
theorem dX4_margin_62 : decode cX4_margin 62 = .ok (.getfield 84, 3) := by decide +kernel
theorem dX4_margin_65 : decode cX4_margin 65 = .ok (.iconst 1, 1) := by decide +kernel
theorem dX4_margin_66 : decode cX4_margin 66 = .ok (.aaload, 1) := by decide +kernel
theorem dX4_margin_67 : decode cX4_margin 67 = .ok (.iload_n 3, 1) := by decide +kernel
theorem dX4_margin_68 : decode cX4_margin 68 = .ok (.iload 4, 2) := by decide +kernel
theorem dX4_margin_70 : decode cX4_margin 70 = .ok (.iload 7, 2) := by decide +kernel
theorem dX4_margin_72 : decode cX4_margin 72 = .ok (.iadd, 1) := by decide +kernel
theorem dX4_margin_73 : decode cX4_margin 73 = .ok (.iastore, 1) := by decide +kernel
theorem dX4_margin_74 : decode cX4_margin 74 = .ok (.aload_n 0, 1) := by decide +kernel
theorem dX4_margin_75 : decode cX4_margin 75 = .ok (.getfield 25, 3) := by decide +kernel
theorem dX4_margin_78 : decode cX4_margin 78 = .ok (.iconst 1, 1) := by decide +kernel
theorem dX4_margin_79 : decode cX4_margin 79 = .ok (.putfield 65, 3) := by decide +kernel
theorem dX4_margin_82 : decode cX4_margin 82 = .ok (.aload_n 0, 1) := by decide +kernel
theorem dX4_margin_83 : decode cX4_margin 83 = .ok (.getfield 25, 3) := by decide +kernel
theorem dX4_margin_86 : decode cX4_margin 86 = .ok (.invokevirtual 111, 3) := by decide +kernel
theorem dX4_margin_89 : decode cX4_margin 89 = .ok (.aload_n 0, 1) := by decide +kernel
theorem dX4_margin_90 : decode cX4_margin 90 = .ok (.getfield 25, 3) := by decide +kernel
theorem dX4_margin_93 : decode cX4_margin 93 = .ok (.invokevirtual 135, 3) := by decide +kernel
theorem dX4_margin_96 : decode cX4_margin 96 = .ok (.iload 5, 2) := by decide +kernel
theorem dX4_margin_98 : decode cX4_margin 98 = .ok (.if_icmp .ne 7, 3) := by decide +kernel
theorem dX4_margin_101 : decode cX4_margin 101 = .ok (.iload 7, 2) := by decide +kernel
theorem dX4_margin_103 : decode cX4_margin 103 = .ok (.istore 6, 2) := by decide +kernel
theorem dX4_margin_105 : decode cX4_margin 105 = .ok (.iinc 7 (-1), 3) := by decide +kernel
theorem dX4_margin_108 : decode cX4_margin 108 = .ok (.goto (-61), 3) := by decide +kernel
theorem dX4_margin_111 : decode cX4_margin 111 = .ok (.aload_n 0, 1) := by decide +kernel
theorem dX4_margin_112 : decode cX4_margin 112 = .ok (.getfield 12, 3) := by decide +kernel
theorem dX4_margin_115 : decode cX4_margin 115 = .ok (.getfield 84, 3) := by decide +kernel
theorem dX4_margin_118 : decode cX4_margin 118 = .ok (.iconst 1, 1) := by decide +kernel
theorem dX4_margin_119 : decode cX4_margin 119 = .ok (.aaload, 1) := by decide +kernel
theorem dX4_margin_120 : decode cX4_margin 120 = .ok (.iload_n 3, 1) := by decide +kernel
theorem dX4_margin_121 : decode cX4_margin 121 = .ok (.iload 4, 2) := by decide +kernel
theorem dX4_margin_123 : decode cX4_margin 123 = .ok (.iastore, 1) := by decide +kernel
theorem dX4_margin_124 : decode cX4_margin 124 = .ok (.iload 6, 2) := by decide +kernel
theorem dX4_margin_126 : decode cX4_margin 126 = .ok (.ireturn, 1) := by decide +kernel
theorem dX4_better_0 : decode cX4_better 0 = .ok (.aload_n 0, 1) := by decide +kernel
theorem dX4_better_1 : decode cX4_better 1 = .ok (.getfield 12, 3) := by decide +kernel
theorem dX4_better_4 : decode cX4_better 4 = .ok (.iload_n 1, 1) := by decide +kernel
theorem dX4_better_5 : decode cX4_better 5 = .ok (.iload_n 2, 1) := by decide +kernel
theorem dX4_better_6 : decode cX4_better 6 = .ok (.invokevirtual 80, 3) := by decide +kernel
theorem dX4_better_9 : decode cX4_better 9 = .ok (.istore 4, 2) := by decide +kernel
theorem dX4_better_11 : decode cX4_better 11 = .ok (.iload 4, 2) := by decide +kernel
theorem dX4_better_13 : decode cX4_better 13 = .ok (.iconst (-1), 1) := by decide +kernel
theorem dX4_better_14 : decode cX4_better 14 = .ok (.if_icmp .eq 13, 3) := by decide +kernel
theorem dX4_better_17 : decode cX4_better 17 = .ok (.iload_n 3, 1) := by decide +kernel
theorem dX4_better_18 : decode cX4_better 18 = .ok (.i2l, 1) := by decide +kernel
theorem dX4_better_19 : decode cX4_better 19 = .ok (.iconst 0, 1) := by decide +kernel
theorem dX4_better_20 : decode cX4_better 20 = .ok (.iconst 1, 1) := by decide +kernel
theorem dX4_better_21 : decode cX4_better 21 = .ok (.invokestatic 50, 3) := by decide +kernel
theorem dX4_better_24 : decode cX4_better 24 = .ok (.ifCond .ne 6, 3) := by decide +kernel
theorem dX4_better_27 : decode cX4_better 27 = .ok (.bipush (-2), 2) := by decide +kernel
theorem dX4_better_29 : decode cX4_better 29 = .ok (.ireturn, 1) := by decide +kernel
theorem dX4_better_30 : decode cX4_better 30 = .ok (.aload_n 0, 1) := by decide +kernel
theorem dX4_better_31 : decode cX4_better 31 = .ok (.getfield 12, 3) := by decide +kernel
theorem dX4_better_34 : decode cX4_better 34 = .ok (.iload_n 1, 1) := by decide +kernel
theorem dX4_better_35 : decode cX4_better 35 = .ok (.invokevirtual 142, 3) := by decide +kernel
theorem dX4_better_38 : decode cX4_better 38 = .ok (.istore 5, 2) := by decide +kernel
theorem dX4_better_40 : decode cX4_better 40 = .ok (.aload_n 0, 1) := by decide +kernel
theorem dX4_better_41 : decode cX4_better 41 = .ok (.getfield 12, 3) := by decide +kernel
theorem dX4_better_44 : decode cX4_better 44 = .ok (.getfield 84, 3) := by decide +kernel
theorem dX4_better_47 : decode cX4_better 47 = .ok (.iconst 2, 1) := by decide +kernel
theorem dX4_better_48 : decode cX4_better 48 = .ok (.aaload, 1) := by decide +kernel
theorem dX4_better_49 : decode cX4_better 49 = .ok (.iload 4, 2) := by decide +kernel
theorem dX4_better_51 : decode cX4_better 51 = .ok (.iaload, 1) := by decide +kernel
theorem dX4_better_52 : decode cX4_better 52 = .ok (.istore 6, 2) := by decide +kernel
theorem dX4_better_54 : decode cX4_better 54 = .ok (.iconst (-1), 1) := by decide +kernel
theorem dX4_better_55 : decode cX4_better 55 = .ok (.istore 7, 2) := by decide +kernel
theorem dX4_better_57 : decode cX4_better 57 = .ok (.iconst (-1), 1) := by decide +kernel
theorem dX4_better_58 : decode cX4_better 58 = .ok (.istore 8, 2) := by decide +kernel
theorem dX4_better_60 : decode cX4_better 60 = .ok (.iconst 0, 1) := by decide +kernel
theorem dX4_better_61 : decode cX4_better 61 = .ok (.istore 9, 2) := by decide +kernel
theorem dX4_better_63 : decode cX4_better 63 = .ok (.iload 9, 2) := by decide +kernel
theorem dX4_better_65 : decode cX4_better 65 = .ok (.bipush 9, 2) := by decide +kernel
theorem dX4_better_67 : decode cX4_better 67 = .ok (.if_icmp .gt 76, 3) := by decide +kernel
theorem dX4_better_70 : decode cX4_better 70 = .ok (.aload_n 0, 1) := by decide +kernel
theorem dX4_better_71 : decode cX4_better 71 = .ok (.getfield 12, 3) := by decide +kernel
theorem dX4_better_74 : decode cX4_better 74 = .ok (.getfield 84, 3) := by decide +kernel
theorem dX4_better_77 : decode cX4_better 77 = .ok (.iconst 2, 1) := by decide +kernel
theorem dX4_better_78 : decode cX4_better 78 = .ok (.aaload, 1) := by decide +kernel
theorem dX4_better_79 : decode cX4_better 79 = .ok (.iload 4, 2) := by decide +kernel
theorem dX4_better_81 : decode cX4_better 81 = .ok (.iload 9, 2) := by decide +kernel
theorem dX4_better_83 : decode cX4_better 83 = .ok (.iastore, 1) := by decide +kernel
theorem dX4_better_84 : decode cX4_better 84 = .ok (.aload_n 0, 1) := by decide +kernel
theorem dX4_better_85 : decode cX4_better 85 = .ok (.getfield 25, 3) := by decide +kernel
theorem dX4_better_88 : decode cX4_better 88 = .ok (.iconst 1, 1) := by decide +kernel
theorem dX4_better_89 : decode cX4_better 89 = .ok (.putfield 65, 3) := by decide +kernel
theorem dX4_better_92 : decode cX4_better 92 = .ok (.aload_n 0, 1) := by decide +kernel
theorem dX4_better_93 : decode cX4_better 93 = .ok (.getfield 25, 3) := by decide +kernel
theorem dX4_better_96 : decode cX4_better 96 = .ok (.invokevirtual 111, 3) := by decide +kernel
theorem dX4_better_99 : decode cX4_better 99 = .ok (.aload_n 0, 1) := by decide +kernel
theorem dX4_better_100 : decode cX4_better 100 = .ok (.getfield 25, 3) := by decide +kernel
theorem dX4_better_103 : decode cX4_better 103 = .ok (.iload 5, 2) := by decide +kernel
theorem dX4_better_105 : decode cX4_better 105 = .ok (.invokevirtual 120, 3) := by decide +kernel
theorem dX4_better_108 : decode cX4_better 108 = .ok (.istore 10, 2) := by decide +kernel
theorem dX4_better_110 : decode cX4_better 110 = .ok (.iload 10, 2) := by decide +kernel
theorem dX4_better_112 : decode cX4_better 112 = .ok (.iconst (-1), 1) := by decide +kernel
theorem dX4_better_113 : decode cX4_better 113 = .ok (.if_icmp .eq 24, 3) := by decide +kernel
theorem dX4_better_116 : decode cX4_better 116 = .ok (.iload 8, 2) := by decide +kernel
theorem dX4_better_118 : decode cX4_better 118 = .ok (.iconst (-1), 1) := by decide +kernel
theorem dX4_better_119 : decode cX4_better 119 = .ok (.if_icmp .eq 10, 3) := by decide +kernel
theorem dX4_better_122 : decode cX4_better 122 = .ok (.iload 10, 2) := by decide +kernel
theorem dX4_better_124 : decode cX4_better 124 = .ok (.iload 8, 2) := by decide +kernel
theorem dX4_better_126 : decode cX4_better 126 = .ok (.if_icmp .ge 11, 3) := by decide +kernel
theorem dX4_better_129 : decode cX4_better 129 = .ok (.iload 9, 2) := by decide +kernel
theorem dX4_better_131 : decode cX4_better 131 = .ok (.istore 7, 2) := by decide +kernel
theorem dX4_better_133 : decode cX4_better 133 = .ok (.iload 10, 2) := by decide +kernel
theorem dX4_better_135 : decode cX4_better 135 = .ok (.istore 8, 2) := by decide +kernel
theorem dX4_better_137 : decode cX4_better 137 = .ok (.iinc 9 1, 3) := by decide +kernel
theorem dX4_better_140 : decode cX4_better 140 = .ok (.goto (-77), 3) := by decide +kernel
theorem dX4_better_143 : decode cX4_better 143 = .ok (.aload_n 0, 1) := by decide +kernel
theorem dX4_better_144 : decode cX4_better 144 = .ok (.getfield 12, 3) := by decide +kernel
theorem dX4_better_147 : decode cX4_better 147 = .ok (.getfield 84, 3) := by decide +kernel
theorem dX4_better_150 : decode cX4_better 150 = .ok (.iconst 2, 1) := by decide +kernel
theorem dX4_better_151 : decode cX4_better 151 = .ok (.aaload, 1) := by decide +kernel
theorem dX4_better_152 : decode cX4_better 152 = .ok (.iload 4, 2) := by decide +kernel
end
section
theorem dX4_better_154 : decode cX4_better 154 = .ok (.iload 6, 2) := by decide +kernel
theorem dX4_better_156 : decode cX4_better 156 = .ok (.iastore, 1) := by decide +kernel
theorem dX4_better_157 : decode cX4_better 157 = .ok (.iload_n 3, 1) := by decide +kernel
theorem dX4_better_158 : decode cX4_better 158 = .ok (.ifCond .ne 8, 3) := by decide +kernel
theorem dX4_better_161 : decode cX4_better 161 = .ok (.iload 7, 2) := by decide +kernel
theorem dX4_better_163 : decode cX4_better 163 = .ok (.goto 5, 3) := by decide +kernel
theorem dX4_better_166 : decode cX4_better 166 = .ok (.iload 8, 2) := by decide +kernel
theorem dX4_better_168 : decode cX4_better 168 = .ok (.ireturn, 1) := by decide +kernel
theorem dX4_run_0 : decode cX4_run 0 = .ok (.iload_n 1, 1) := by decide +kernel
theorem dX4_run_1 : decode cX4_run 1 = .ok (.i2l, 1) := by decide +kernel
theorem dX4_run_2 : decode cX4_run 2 = .ok (.iconst 1, 1) := by decide +kernel
theorem dX4_run_3 : decode cX4_run 3 = .ok (.sipush 300, 3) := by decide +kernel
theorem dX4_run_6 : decode cX4_run 6 = .ok (.invokestatic 50, 3) := by decide +kernel
theorem dX4_run_9 : decode cX4_run 9 = .ok (.ifCond .ne 6, 3) := by decide +kernel
theorem dX4_run_12 : decode cX4_run 12 = .ok (.bipush (-2), 2) := by decide +kernel
theorem dX4_run_14 : decode cX4_run 14 = .ok (.ireturn, 1) := by decide +kernel
theorem dX4_run_15 : decode cX4_run 15 = .ok (.aload_n 0, 1) := by decide +kernel
theorem dX4_run_16 : decode cX4_run 16 = .ok (.getfield 31, 3) := by decide +kernel
theorem dX4_run_19 : decode cX4_run 19 = .ok (.aload_n 0, 1) := by decide +kernel
theorem dX4_run_20 : decode cX4_run 20 = .ok (.getfield 12, 3) := by decide +kernel
theorem dX4_run_23 : decode cX4_run 23 = .ok (.iload_n 1, 1) := by decide +kernel
theorem dX4_run_24 : decode cX4_run 24 = .ok (.invokevirtual 145, 3) := by decide +kernel
theorem dX4_run_27 : decode cX4_run 27 = .ok (.aload_n 0, 1) := by decide +kernel
theorem dX4_run_28 : decode cX4_run 28 = .ok (.getfield 31, 3) := by decide +kernel
theorem dX4_run_31 : decode cX4_run 31 = .ok (.getfield 149, 3) := by decide +kernel
theorem dX4_run_34 : decode cX4_run 34 = .ok (.ireturn, 1) := by decide +kernel
theorem dX4_seen_0 : decode cX4_seen 0 = .ok (.aload_n 0, 1) := by decide +kernel
theorem dX4_seen_1 : decode cX4_seen 1 = .ok (.getfield 12, 3) := by decide +kernel
theorem dX4_seen_4 : decode cX4_seen 4 = .ok (.iload_n 1, 1) := by decide +kernel
theorem dX4_seen_5 : decode cX4_seen 5 = .ok (.iload_n 2, 1) := by decide +kernel
theorem dX4_seen_6 : decode cX4_seen 6 = .ok (.invokevirtual 80, 3) := by decide +kernel
theorem dX4_seen_9 : decode cX4_seen 9 = .ok (.istore 4, 2) := by decide +kernel
theorem dX4_seen_11 : decode cX4_seen 11 = .ok (.iload 4, 2) := by decide +kernel
theorem dX4_seen_13 : decode cX4_seen 13 = .ok (.iconst (-1), 1) := by decide +kernel
theorem dX4_seen_14 : decode cX4_seen 14 = .ok (.if_icmp .eq 13, 3) := by decide +kernel
theorem dX4_seen_17 : decode cX4_seen 17 = .ok (.iload_n 3, 1) := by decide +kernel
theorem dX4_seen_18 : decode cX4_seen 18 = .ok (.i2l, 1) := by decide +kernel
theorem dX4_seen_19 : decode cX4_seen 19 = .ok (.iconst 0, 1) := by decide +kernel
theorem dX4_seen_20 : decode cX4_seen 20 = .ok (.iconst 2, 1) := by decide +kernel
theorem dX4_seen_21 : decode cX4_seen 21 = .ok (.invokestatic 50, 3) := by decide +kernel
theorem dX4_seen_24 : decode cX4_seen 24 = .ok (.ifCond .ne 6, 3) := by decide +kernel
theorem dX4_seen_27 : decode cX4_seen 27 = .ok (.bipush (-2), 2) := by decide +kernel
theorem dX4_seen_29 : decode cX4_seen 29 = .ok (.ireturn, 1) := by decide +kernel
theorem dX4_seen_30 : decode cX4_seen 30 = .ok (.aload_n 0, 1) := by decide +kernel
theorem dX4_seen_31 : decode cX4_seen 31 = .ok (.getfield 31, 3) := by decide +kernel
theorem dX4_seen_34 : decode cX4_seen 34 = .ok (.iload 4, 2) := by decide +kernel
theorem dX4_seen_36 : decode cX4_seen 36 = .ok (.iload_n 3, 1) := by decide +kernel
theorem dX4_seen_37 : decode cX4_seen 37 = .ok (.invokevirtual 152, 3) := by decide +kernel
theorem dX4_seen_40 : decode cX4_seen 40 = .ok (.ireturn, 1) := by decide +kernel
theorem dX4_tick_0 : decode cX4_tick 0 = .ok (.iload_n 1, 1) := by decide +kernel
theorem dX4_tick_1 : decode cX4_tick 1 = .ok (.i2l, 1) := by decide +kernel
theorem dX4_tick_2 : decode cX4_tick 2 = .ok (.iconst 0, 1) := by decide +kernel
theorem dX4_tick_3 : decode cX4_tick 3 = .ok (.iconst 1, 1) := by decide +kernel
theorem dX4_tick_4 : decode cX4_tick 4 = .ok (.invokestatic 50, 3) := by decide +kernel
theorem dX4_tick_7 : decode cX4_tick 7 = .ok (.ifCond .eq 15, 3) := by decide +kernel
theorem dX4_tick_10 : decode cX4_tick 10 = .ok (.iload_n 2, 1) := by decide +kernel
theorem dX4_tick_11 : decode cX4_tick 11 = .ok (.i2l, 1) := by decide +kernel
theorem dX4_tick_12 : decode cX4_tick 12 = .ok (.iconst 0, 1) := by decide +kernel
theorem dX4_tick_13 : decode cX4_tick 13 = .ok (.sipush 299, 3) := by decide +kernel
theorem dX4_tick_16 : decode cX4_tick 16 = .ok (.invokestatic 50, 3) := by decide +kernel
theorem dX4_tick_19 : decode cX4_tick 19 = .ok (.ifCond .ne 6, 3) := by decide +kernel
theorem dX4_tick_22 : decode cX4_tick 22 = .ok (.bipush (-2), 2) := by decide +kernel
theorem dX4_tick_24 : decode cX4_tick 24 = .ok (.ireturn, 1) := by decide +kernel
theorem dX4_tick_25 : decode cX4_tick 25 = .ok (.aload_n 0, 1) := by decide +kernel
theorem dX4_tick_26 : decode cX4_tick 26 = .ok (.getfield 31, 3) := by decide +kernel
theorem dX4_tick_29 : decode cX4_tick 29 = .ok (.getfield 155, 3) := by decide +kernel
theorem dX4_tick_32 : decode cX4_tick 32 = .ok (.iload_n 1, 1) := by decide +kernel
theorem dX4_tick_33 : decode cX4_tick 33 = .ok (.aaload, 1) := by decide +kernel
theorem dX4_tick_34 : decode cX4_tick 34 = .ok (.iload_n 2, 1) := by decide +kernel
theorem dX4_tick_35 : decode cX4_tick 35 = .ok (.iaload, 1) := by decide +kernel
theorem dX4_tick_36 : decode cX4_tick 36 = .ok (.ireturn, 1) := by decide +kernel
theorem dX4_sheet_0 : decode cX4_sheet 0 = .ok (.iload_n 1, 1) := by decide +kernel
theorem dX4_sheet_1 : decode cX4_sheet 1 = .ok (.invokestatic 87, 3) := by decide +kernel
theorem dX4_sheet_4 : decode cX4_sheet 4 = .ok (.ifCond .eq 16, 3) := by decide +kernel
theorem dX4_sheet_7 : decode cX4_sheet 7 = .ok (.iload_n 2, 1) := by decide +kernel
theorem dX4_sheet_8 : decode cX4_sheet 8 = .ok (.invokestatic 158, 3) := by decide +kernel
theorem dX4_sheet_11 : decode cX4_sheet 11 = .ok (.ifCond .eq 9, 3) := by decide +kernel
theorem dX4_sheet_14 : decode cX4_sheet 14 = .ok (.iload_n 3, 1) := by decide +kernel
theorem dX4_sheet_15 : decode cX4_sheet 15 = .ok (.bipush 60, 2) := by decide +kernel
theorem dX4_sheet_17 : decode cX4_sheet 17 = .ok (.if_icmp .le 6, 3) := by decide +kernel
theorem dX4_sheet_20 : decode cX4_sheet 20 = .ok (.bipush (-2), 2) := by decide +kernel
theorem dX4_sheet_22 : decode cX4_sheet 22 = .ok (.ireturn, 1) := by decide +kernel
theorem dX4_sheet_23 : decode cX4_sheet 23 = .ok (.iload_n 3, 1) := by decide +kernel
theorem dX4_sheet_24 : decode cX4_sheet 24 = .ok (.ifCond .ge 9, 3) := by decide +kernel
theorem dX4_sheet_27 : decode cX4_sheet 27 = .ok (.aload_n 0, 1) := by decide +kernel
theorem dX4_sheet_28 : decode cX4_sheet 28 = .ok (.iconst 5, 1) := by decide +kernel
theorem dX4_sheet_29 : decode cX4_sheet 29 = .ok (.invokevirtual 93, 3) := by decide +kernel
theorem dX4_sheet_32 : decode cX4_sheet 32 = .ok (.ireturn, 1) := by decide +kernel
theorem dX4_sheet_33 : decode cX4_sheet 33 = .ok (.aload_n 0, 1) := by decide +kernel
theorem dX4_sheet_34 : decode cX4_sheet 34 = .ok (.getfield 37, 3) := by decide +kernel
theorem dX4_sheet_37 : decode cX4_sheet 37 = .ok (.iload_n 1, 1) := by decide +kernel
theorem dX4_sheet_38 : decode cX4_sheet 38 = .ok (.aaload, 1) := by decide +kernel
theorem dX4_sheet_39 : decode cX4_sheet 39 = .ok (.iload_n 2, 1) := by decide +kernel
theorem dX4_sheet_40 : decode cX4_sheet 40 = .ok (.iload_n 3, 1) := by decide +kernel
theorem dX4_sheet_41 : decode cX4_sheet 41 = .ok (.invokevirtual 161, 3) := by decide +kernel
theorem dX4_sheet_44 : decode cX4_sheet 44 = .ok (.iload_n 3, 1) := by decide +kernel
theorem dX4_sheet_45 : decode cX4_sheet 45 = .ok (.ireturn, 1) := by decide +kernel
theorem dX4_lose_0 : decode cX4_lose 0 = .ok (.iload_n 1, 1) := by decide +kernel
theorem dX4_lose_1 : decode cX4_lose 1 = .ok (.invokestatic 87, 3) := by decide +kernel
theorem dX4_lose_4 : decode cX4_lose 4 = .ok (.ifCond .ne 6, 3) := by decide +kernel
theorem dX4_lose_7 : decode cX4_lose 7 = .ok (.bipush (-2), 2) := by decide +kernel
theorem dX4_lose_9 : decode cX4_lose 9 = .ok (.ireturn, 1) := by decide +kernel
theorem dX4_lose_10 : decode cX4_lose 10 = .ok (.aload_n 0, 1) := by decide +kernel
theorem dX4_lose_11 : decode cX4_lose 11 = .ok (.getfield 37, 3) := by decide +kernel
theorem dX4_lose_14 : decode cX4_lose 14 = .ok (.iload_n 1, 1) := by decide +kernel
theorem dX4_lose_15 : decode cX4_lose 15 = .ok (.aaload, 1) := by decide +kernel
theorem dX4_lose_16 : decode cX4_lose 16 = .ok (.getfield 90, 3) := by decide +kernel
theorem dX4_lose_19 : decode cX4_lose 19 = .ok (.ifCond .eq 9, 3) := by decide +kernel
theorem dX4_lose_22 : decode cX4_lose 22 = .ok (.aload_n 0, 1) := by decide +kernel
theorem dX4_lose_23 : decode cX4_lose 23 = .ok (.iconst 1, 1) := by decide +kernel
theorem dX4_lose_24 : decode cX4_lose 24 = .ok (.invokevirtual 93, 3) := by decide +kernel
theorem dX4_lose_27 : decode cX4_lose 27 = .ok (.ireturn, 1) := by decide +kernel
theorem dX4_lose_28 : decode cX4_lose 28 = .ok (.aload_n 0, 1) := by decide +kernel
theorem dX4_lose_29 : decode cX4_lose 29 = .ok (.getfield 37, 3) := by decide +kernel
theorem dX4_lose_32 : decode cX4_lose 32 = .ok (.iload_n 1, 1) := by decide +kernel
theorem dX4_lose_33 : decode cX4_lose 33 = .ok (.aaload, 1) := by decide +kernel
theorem dX4_lose_34 : decode cX4_lose 34 = .ok (.iconst 1, 1) := by decide +kernel
theorem dX4_lose_35 : decode cX4_lose 35 = .ok (.putfield 90, 3) := by decide +kernel
theorem dX4_lose_38 : decode cX4_lose 38 = .ok (.aload_n 0, 1) := by decide +kernel
theorem dX4_lose_39 : decode cX4_lose 39 = .ok (.getfield 37, 3) := by decide +kernel
theorem dX4_lose_42 : decode cX4_lose 42 = .ok (.iload_n 1, 1) := by decide +kernel
theorem dX4_lose_43 : decode cX4_lose 43 = .ok (.aaload, 1) := by decide +kernel
theorem dX4_lose_44 : decode cX4_lose 44 = .ok (.getfield 97, 3) := by decide +kernel
theorem dX4_lose_47 : decode cX4_lose 47 = .ok (.ireturn, 1) := by decide +kernel
theorem dX4_lay_0 : decode cX4_lay 0 = .ok (.iload_n 1, 1) := by decide +kernel
theorem dX4_lay_1 : decode cX4_lay 1 = .ok (.invokestatic 87, 3) := by decide +kernel
theorem dX4_lay_4 : decode cX4_lay 4 = .ok (.ifCond .eq 10, 3) := by decide +kernel
theorem dX4_lay_7 : decode cX4_lay 7 = .ok (.iload_n 2, 1) := by decide +kernel
theorem dX4_lay_8 : decode cX4_lay 8 = .ok (.invokestatic 158, 3) := by decide +kernel
theorem dX4_lay_11 : decode cX4_lay 11 = .ok (.ifCond .ne 6, 3) := by decide +kernel
theorem dX4_lay_14 : decode cX4_lay 14 = .ok (.bipush (-2), 2) := by decide +kernel
theorem dX4_lay_16 : decode cX4_lay 16 = .ok (.ireturn, 1) := by decide +kernel
theorem dX4_lay_17 : decode cX4_lay 17 = .ok (.aload_n 0, 1) := by decide +kernel
theorem dX4_lay_18 : decode cX4_lay 18 = .ok (.getfield 37, 3) := by decide +kernel
theorem dX4_lay_21 : decode cX4_lay 21 = .ok (.iload_n 1, 1) := by decide +kernel
theorem dX4_lay_22 : decode cX4_lay 22 = .ok (.aaload, 1) := by decide +kernel
theorem dX4_lay_23 : decode cX4_lay 23 = .ok (.iload_n 2, 1) := by decide +kernel
theorem dX4_lay_24 : decode cX4_lay 24 = .ok (.iload_n 3, 1) := by decide +kernel
theorem dX4_lay_25 : decode cX4_lay 25 = .ok (.invokevirtual 165, 3) := by decide +kernel
theorem dX4_lay_28 : decode cX4_lay 28 = .ok (.istore 5, 2) := by decide +kernel
theorem dX4_lay_30 : decode cX4_lay 30 = .ok (.iload 5, 2) := by decide +kernel
theorem dX4_lay_32 : decode cX4_lay 32 = .ok (.ifCond .eq 10, 3) := by decide +kernel
theorem dX4_lay_35 : decode cX4_lay 35 = .ok (.aload_n 0, 1) := by decide +kernel
theorem dX4_lay_36 : decode cX4_lay 36 = .ok (.iload 5, 2) := by decide +kernel
theorem dX4_lay_38 : decode cX4_lay 38 = .ok (.invokevirtual 93, 3) := by decide +kernel
theorem dX4_lay_41 : decode cX4_lay 41 = .ok (.ireturn, 1) := by decide +kernel
theorem dX4_lay_42 : decode cX4_lay 42 = .ok (.aload_n 0, 1) := by decide +kernel
theorem dX4_lay_43 : decode cX4_lay 43 = .ok (.getfield 37, 3) := by decide +kernel
theorem dX4_lay_46 : decode cX4_lay 46 = .ok (.iload_n 1, 1) := by decide +kernel
theorem dX4_lay_47 : decode cX4_lay 47 = .ok (.aaload, 1) := by decide +kernel
theorem dX4_lay_48 : decode cX4_lay 48 = .ok (.iload_n 3, 1) := by decide +kernel
theorem dX4_lay_49 : decode cX4_lay 49 = .ok (.iload_n 2, 1) := by decide +kernel
theorem dX4_lay_50 : decode cX4_lay 50 = .ok (.iconst 2, 1) := by decide +kernel
theorem dX4_lay_51 : decode cX4_lay 51 = .ok (.if_icmp .ne 13, 3) := by decide +kernel
theorem dX4_lay_54 : decode cX4_lay 54 = .ok (.iload 4, 2) := by decide +kernel
theorem dX4_lay_56 : decode cX4_lay 56 = .ok (.i2l, 1) := by decide +kernel
theorem dX4_lay_57 : decode cX4_lay 57 = .ok (.ldc2_w 168, 3) := by decide +kernel
theorem dX4_lay_60 : decode cX4_lay 60 = .ok (.lmul, 1) := by decide +kernel
theorem dX4_lay_61 : decode cX4_lay 61 = .ok (.goto 6, 3) := by decide +kernel
theorem dX4_lay_64 : decode cX4_lay 64 = .ok (.iload 4, 2) := by decide +kernel
theorem dX4_lay_66 : decode cX4_lay 66 = .ok (.i2l, 1) := by decide +kernel
theorem dX4_lay_67 : decode cX4_lay 67 = .ok (.invokevirtual 170, 3) := by decide +kernel
theorem dX4_lay_70 : decode cX4_lay 70 = .ok (.iconst 1, 1) := by decide +kernel
theorem dX4_lay_71 : decode cX4_lay 71 = .ok (.ireturn, 1) := by decide +kernel
theorem dX4_get_0 : decode cX4_get 0 = .ok (.iload_n 1, 1) := by decide +kernel
theorem dX4_get_1 : decode cX4_get 1 = .ok (.invokestatic 87, 3) := by decide +kernel
theorem dX4_get_4 : decode cX4_get 4 = .ok (.ifCond .eq 10, 3) := by decide +kernel
theorem dX4_get_7 : decode cX4_get 7 = .ok (.iload_n 2, 1) := by decide +kernel
theorem dX4_get_8 : decode cX4_get 8 = .ok (.invokestatic 158, 3) := by decide +kernel
theorem dX4_get_11 : decode cX4_get 11 = .ok (.ifCond .ne 7, 3) := by decide +kernel
theorem dX4_get_14 : decode cX4_get 14 = .ok (.ldc2_w 174, 3) := by decide +kernel
theorem dX4_get_17 : decode cX4_get 17 = .ok (.lreturn, 1) := by decide +kernel
theorem dX4_get_18 : decode cX4_get 18 = .ok (.aload_n 0, 1) := by decide +kernel
theorem dX4_get_19 : decode cX4_get 19 = .ok (.getfield 37, 3) := by decide +kernel
theorem dX4_get_22 : decode cX4_get 22 = .ok (.iload_n 1, 1) := by decide +kernel
theorem dX4_get_23 : decode cX4_get 23 = .ok (.aaload, 1) := by decide +kernel
theorem dX4_get_24 : decode cX4_get 24 = .ok (.iload_n 2, 1) := by decide +kernel
theorem dX4_get_25 : decode cX4_get 25 = .ok (.iload_n 3, 1) := by decide +kernel
theorem dX4_get_26 : decode cX4_get 26 = .ok (.invokevirtual 165, 3) := by decide +kernel
theorem dX4_get_29 : decode cX4_get 29 = .ok (.istore 4, 2) := by decide +kernel
theorem dX4_get_31 : decode cX4_get 31 = .ok (.iload 4, 2) := by decide +kernel
theorem dX4_get_33 : decode cX4_get 33 = .ok (.ifCond .eq 15, 3) := by decide +kernel
theorem dX4_get_36 : decode cX4_get 36 = .ok (.ldc2_w 176, 3) := by decide +kernel
theorem dX4_get_39 : decode cX4_get 39 = .ok (.aload_n 0, 1) := by decide +kernel
theorem dX4_get_40 : decode cX4_get 40 = .ok (.iload 4, 2) := by decide +kernel
theorem dX4_get_42 : decode cX4_get 42 = .ok (.invokevirtual 93, 3) := by decide +kernel
theorem dX4_get_45 : decode cX4_get 45 = .ok (.i2l, 1) := by decide +kernel
theorem dX4_get_46 : decode cX4_get 46 = .ok (.lsub, 1) := by decide +kernel
theorem dX4_get_47 : decode cX4_get 47 = .ok (.lreturn, 1) := by decide +kernel
theorem dX4_get_48 : decode cX4_get 48 = .ok (.aload_n 0, 1) := by decide +kernel
theorem dX4_get_49 : decode cX4_get 49 = .ok (.getfield 37, 3) := by decide +kernel
theorem dX4_get_52 : decode cX4_get 52 = .ok (.iload_n 1, 1) := by decide +kernel
theorem dX4_get_53 : decode cX4_get 53 = .ok (.aaload, 1) := by decide +kernel
theorem dX4_get_54 : decode cX4_get 54 = .ok (.getfield 104, 3) := by decide +kernel
theorem dX4_get_57 : decode cX4_get 57 = .ok (.iload_n 3, 1) := by decide +kernel
theorem dX4_get_58 : decode cX4_get 58 = .ok (.laload, 1) := by decide +kernel
theorem dX4_get_59 : decode cX4_get 59 = .ok (.lreturn, 1) := by decide +kernel
theorem dX4_copy_0 : decode cX4_copy 0 = .ok (.iload_n 1, 1) := by decide +kernel
theorem dX4_copy_1 : decode cX4_copy 1 = .ok (.invokestatic 87, 3) := by decide +kernel
theorem dX4_copy_4 : decode cX4_copy 4 = .ok (.ifCond .eq 10, 3) := by decide +kernel
theorem dX4_copy_7 : decode cX4_copy 7 = .ok (.iload_n 3, 1) := by decide +kernel
theorem dX4_copy_8 : decode cX4_copy 8 = .ok (.invokestatic 87, 3) := by decide +kernel
theorem dX4_copy_11 : decode cX4_copy 11 = .ok (.ifCond .ne 6, 3) := by decide +kernel
theorem dX4_copy_14 : decode cX4_copy 14 = .ok (.bipush (-2), 2) := by decide +kernel
theorem dX4_copy_16 : decode cX4_copy 16 = .ok (.ireturn, 1) := by decide +kernel
theorem dX4_copy_17 : decode cX4_copy 17 = .ok (.aload_n 0, 1) := by decide +kernel
theorem dX4_copy_18 : decode cX4_copy 18 = .ok (.getfield 37, 3) := by decide +kernel
theorem dX4_copy_21 : decode cX4_copy 21 = .ok (.iload_n 1, 1) := by decide +kernel
theorem dX4_copy_22 : decode cX4_copy 22 = .ok (.aaload, 1) := by decide +kernel
theorem dX4_copy_23 : decode cX4_copy 23 = .ok (.astore 6, 2) := by decide +kernel
theorem dX4_copy_25 : decode cX4_copy 25 = .ok (.aload_n 0, 1) := by decide +kernel
theorem dX4_copy_26 : decode cX4_copy 26 = .ok (.getfield 37, 3) := by decide +kernel
theorem dX4_copy_29 : decode cX4_copy 29 = .ok (.iload_n 3, 1) := by decide +kernel
theorem dX4_copy_30 : decode cX4_copy 30 = .ok (.aaload, 1) := by decide +kernel
theorem dX4_copy_31 : decode cX4_copy 31 = .ok (.astore 7, 2) := by decide +kernel
theorem dX4_copy_33 : decode cX4_copy 33 = .ok (.aload 6, 2) := by decide +kernel
theorem dX4_copy_35 : decode cX4_copy 35 = .ok (.getfield 90, 3) := by decide +kernel
theorem dX4_copy_38 : decode cX4_copy 38 = .ok (.ifCond .ne 11, 3) := by decide +kernel
theorem dX4_copy_41 : decode cX4_copy 41 = .ok (.aload 7, 2) := by decide +kernel
theorem dX4_copy_43 : decode cX4_copy 43 = .ok (.getfield 90, 3) := by decide +kernel
theorem dX4_copy_46 : decode cX4_copy 46 = .ok (.ifCond .eq 9, 3) := by decide +kernel
theorem dX4_copy_49 : decode cX4_copy 49 = .ok (.aload_n 0, 1) := by decide +kernel
theorem dX4_copy_50 : decode cX4_copy 50 = .ok (.iconst 1, 1) := by decide +kernel
theorem dX4_copy_51 : decode cX4_copy 51 = .ok (.invokevirtual 93, 3) := by decide +kernel
theorem dX4_copy_54 : decode cX4_copy 54 = .ok (.ireturn, 1) := by decide +kernel
theorem dX4_copy_55 : decode cX4_copy 55 = .ok (.aload 6, 2) := by decide +kernel
theorem dX4_copy_57 : decode cX4_copy 57 = .ok (.getfield 178, 3) := by decide +kernel
theorem dX4_copy_60 : decode cX4_copy 60 = .ok (.aload 7, 2) := by decide +kernel
theorem dX4_copy_62 : decode cX4_copy 62 = .ok (.getfield 178, 3) := by decide +kernel
theorem dX4_copy_65 : decode cX4_copy 65 = .ok (.if_icmp .eq 9, 3) := by decide +kernel
theorem dX4_copy_68 : decode cX4_copy 68 = .ok (.aload_n 0, 1) := by decide +kernel
theorem dX4_copy_69 : decode cX4_copy 69 = .ok (.iconst 4, 1) := by decide +kernel
theorem dX4_copy_70 : decode cX4_copy 70 = .ok (.invokevirtual 93, 3) := by decide +kernel
theorem dX4_copy_73 : decode cX4_copy 73 = .ok (.ireturn, 1) := by decide +kernel
theorem dX4_copy_74 : decode cX4_copy 74 = .ok (.aload 6, 2) := by decide +kernel
theorem dX4_copy_76 : decode cX4_copy 76 = .ok (.iload_n 2, 1) := by decide +kernel
theorem dX4_copy_77 : decode cX4_copy 77 = .ok (.iload 5, 2) := by decide +kernel
theorem dX4_copy_79 : decode cX4_copy 79 = .ok (.invokevirtual 181, 3) := by decide +kernel
theorem dX4_copy_82 : decode cX4_copy 82 = .ok (.ifCond .eq 15, 3) := by decide +kernel
theorem dX4_copy_85 : decode cX4_copy 85 = .ok (.aload 7, 2) := by decide +kernel
theorem dX4_copy_87 : decode cX4_copy 87 = .ok (.iload 4, 2) := by decide +kernel
theorem dX4_copy_89 : decode cX4_copy 89 = .ok (.iload 5, 2) := by decide +kernel
theorem dX4_copy_91 : decode cX4_copy 91 = .ok (.invokevirtual 181, 3) := by decide +kernel
theorem dX4_copy_94 : decode cX4_copy 94 = .ok (.ifCond .ne 9, 3) := by decide +kernel
theorem dX4_copy_97 : decode cX4_copy 97 = .ok (.aload_n 0, 1) := by decide +kernel
theorem dX4_copy_98 : decode cX4_copy 98 = .ok (.iconst 2, 1) := by decide +kernel
theorem dX4_copy_99 : decode cX4_copy 99 = .ok (.invokevirtual 93, 3) := by decide +kernel
theorem dX4_copy_102 : decode cX4_copy 102 = .ok (.ireturn, 1) := by decide +kernel
theorem dX4_copy_103 : decode cX4_copy 103 = .ok (.aload 6, 2) := by decide +kernel
theorem dX4_copy_105 : decode cX4_copy 105 = .ok (.getfield 104, 3) := by decide +kernel
theorem dX4_copy_108 : decode cX4_copy 108 = .ok (.iload_n 2, 1) := by decide +kernel
theorem dX4_copy_109 : decode cX4_copy 109 = .ok (.aload 7, 2) := by decide +kernel
theorem dX4_copy_111 : decode cX4_copy 111 = .ok (.getfield 104, 3) := by decide +kernel
theorem dX4_copy_114 : decode cX4_copy 114 = .ok (.iload 4, 2) := by decide +kernel
theorem dX4_copy_116 : decode cX4_copy 116 = .ok (.iload 5, 2) := by decide +kernel
theorem dX4_copy_118 : decode cX4_copy 118 = .ok (.invokestatic 185, 3) := by decide +kernel
theorem dX4_copy_121 : decode cX4_copy 121 = .ok (.iconst 1, 1) := by decide +kernel
theorem dX4_copy_122 : decode cX4_copy 122 = .ok (.ireturn, 1) := by decide +kernel
theorem dX4_write_0 : decode cX4_write 0 = .ok (.iload_n 1, 1) := by decide +kernel
theorem dX4_write_1 : decode cX4_write 1 = .ok (.invokestatic 87, 3) := by decide +kernel
theorem dX4_write_4 : decode cX4_write 4 = .ok (.ifCond .ne 6, 3) := by decide +kernel
theorem dX4_write_7 : decode cX4_write 7 = .ok (.bipush (-2), 2) := by decide +kernel
theorem dX4_write_9 : decode cX4_write 9 = .ok (.ireturn, 1) := by decide +kernel
theorem dX4_write_10 : decode cX4_write 10 = .ok (.aload_n 0, 1) := by decide +kernel
theorem dX4_write_11 : decode cX4_write 11 = .ok (.getfield 37, 3) := by decide +kernel
theorem dX4_write_14 : decode cX4_write 14 = .ok (.iload_n 1, 1) := by decide +kernel
theorem dX4_write_15 : decode cX4_write 15 = .ok (.aaload, 1) := by decide +kernel
theorem dX4_write_16 : decode cX4_write 16 = .ok (.astore_n 2, 1) := by decide +kernel
theorem dX4_write_17 : decode cX4_write 17 = .ok (.aload_n 2, 1) := by decide +kernel
theorem dX4_write_18 : decode cX4_write 18 = .ok (.getfield 90, 3) := by decide +kernel
theorem dX4_write_21 : decode cX4_write 21 = .ok (.ifCond .eq 9, 3) := by decide +kernel
theorem dX4_write_24 : decode cX4_write 24 = .ok (.aload_n 0, 1) := by decide +kernel
theorem dX4_write_25 : decode cX4_write 25 = .ok (.iconst 1, 1) := by decide +kernel
theorem dX4_write_26 : decode cX4_write 26 = .ok (.invokevirtual 93, 3) := by decide +kernel
theorem dX4_write_29 : decode cX4_write 29 = .ok (.ireturn, 1) := by decide +kernel
theorem dX4_write_30 : decode cX4_write 30 = .ok (.aload_n 0, 1) := by decide +kernel
theorem dX4_write_31 : decode cX4_write 31 = .ok (.getfield 21, 3) := by decide +kernel
theorem dX4_write_34 : decode cX4_write 34 = .ok (.invokevirtual 111, 3) := by decide +kernel
theorem dX4_write_37 : decode cX4_write 37 = .ok (.iconst 0, 1) := by decide +kernel
theorem dX4_write_38 : decode cX4_write 38 = .ok (.istore_n 3, 1) := by decide +kernel
theorem dX4_write_39 : decode cX4_write 39 = .ok (.iconst 0, 1) := by decide +kernel
theorem dX4_write_40 : decode cX4_write 40 = .ok (.istore 4, 2) := by decide +kernel
theorem dX4_write_42 : decode cX4_write 42 = .ok (.iload 4, 2) := by decide +kernel
theorem dX4_write_44 : decode cX4_write 44 = .ok (.bipush 9, 2) := by decide +kernel
theorem dX4_write_46 : decode cX4_write 46 = .ok (.if_icmp .ge 47, 3) := by decide +kernel
theorem dX4_write_49 : decode cX4_write 49 = .ok (.iload_n 3, 1) := by decide +kernel
theorem dX4_write_50 : decode cX4_write 50 = .ok (.aload_n 2, 1) := by decide +kernel
theorem dX4_write_51 : decode cX4_write 51 = .ok (.getfield 97, 3) := by decide +kernel
theorem dX4_write_54 : decode cX4_write 54 = .ok (.if_icmp .ge 39, 3) := by decide +kernel
theorem dX4_write_57 : decode cX4_write 57 = .ok (.aload_n 0, 1) := by decide +kernel
theorem dX4_write_58 : decode cX4_write 58 = .ok (.getfield 12, 3) := by decide +kernel
theorem dX4_write_61 : decode cX4_write 61 = .ok (.iload 4, 2) := by decide +kernel
theorem dX4_write_63 : decode cX4_write 63 = .ok (.invokevirtual 191, 3) := by decide +kernel
theorem dX4_write_66 : decode cX4_write 66 = .ok (.ifCond .eq 21, 3) := by decide +kernel
theorem dX4_write_69 : decode cX4_write 69 = .ok (.aload_n 2, 1) := by decide +kernel
theorem dX4_write_70 : decode cX4_write 70 = .ok (.iload_n 3, 1) := by decide +kernel
theorem dX4_write_71 : decode cX4_write 71 = .ok (.aload_n 0, 1) := by decide +kernel
theorem dX4_write_72 : decode cX4_write 72 = .ok (.getfield 21, 3) := by decide +kernel
theorem dX4_write_75 : decode cX4_write 75 = .ok (.iload 4, 2) := by decide +kernel
theorem dX4_write_77 : decode cX4_write 77 = .ok (.invokevirtual 120, 3) := by decide +kernel
theorem dX4_write_80 : decode cX4_write 80 = .ok (.i2l, 1) := by decide +kernel
theorem dX4_write_81 : decode cX4_write 81 = .ok (.invokevirtual 170, 3) := by decide +kernel
theorem dX4_write_84 : decode cX4_write 84 = .ok (.iinc 3 1, 3) := by decide +kernel
theorem dX4_write_87 : decode cX4_write 87 = .ok (.iinc 4 1, 3) := by decide +kernel
theorem dX4_write_90 : decode cX4_write 90 = .ok (.goto (-48), 3) := by decide +kernel
theorem dX4_write_93 : decode cX4_write 93 = .ok (.iload_n 3, 1) := by decide +kernel
theorem dX4_write_94 : decode cX4_write 94 = .ok (.ireturn, 1) := by decide +kernel
theorem dX4_count_0 : decode cX4_count 0 = .ok (.iload_n 1, 1) := by decide +kernel
theorem dX4_count_1 : decode cX4_count 1 = .ok (.i2l, 1) := by decide +kernel
theorem dX4_count_2 : decode cX4_count 2 = .ok (.iconst 0, 1) := by decide +kernel
theorem dX4_count_3 : decode cX4_count 3 = .ok (.bipush 8, 2) := by decide +kernel
theorem dX4_count_5 : decode cX4_count 5 = .ok (.invokestatic 50, 3) := by decide +kernel
theorem dX4_count_8 : decode cX4_count 8 = .ok (.ifCond .ne 6, 3) := by decide +kernel
theorem dX4_count_11 : decode cX4_count 11 = .ok (.bipush (-2), 2) := by decide +kernel
theorem dX4_count_13 : decode cX4_count 13 = .ok (.ireturn, 1) := by decide +kernel
theorem dX4_count_14 : decode cX4_count 14 = .ok (.iload_n 1, 1) := by decide +kernel
theorem dX4_count_15 : decode cX4_count 15 = .ok (.iconst 1, 1) := by decide +kernel
theorem dX4_count_16 : decode cX4_count 16 = .ok (.if_icmp .eq 8, 3) := by decide +kernel
theorem dX4_count_19 : decode cX4_count 19 = .ok (.iload_n 1, 1) := by decide +kernel
theorem dX4_count_20 : decode cX4_count 20 = .ok (.iconst 2, 1) := by decide +kernel
theorem dX4_count_21 : decode cX4_count 21 = .ok (.if_icmp .ne 10, 3) := by decide +kernel
theorem dX4_count_24 : decode cX4_count 24 = .ok (.aload_n 0, 1) := by decide +kernel
theorem dX4_count_25 : decode cX4_count 25 = .ok (.getfield 21, 3) := by decide +kernel
theorem dX4_count_28 : decode cX4_count 28 = .ok (.invokevirtual 111, 3) := by decide +kernel
theorem dX4_count_31 : decode cX4_count 31 = .ok (.aload_n 0, 1) := by decide +kernel
theorem dX4_count_32 : decode cX4_count 32 = .ok (.iload_n 1, 1) := by decide +kernel
theorem dX4_count_33 : decode cX4_count 33 = .ok (.invokevirtual 194, 3) := by decide +kernel
theorem dX4_count_36 : decode cX4_count 36 = .ok (.ireturn, 1) := by decide +kernel
theorem dX4_digest_0 : decode cX4_digest 0 = .ok (.aload_n 0, 1) := by decide +kernel
theorem dX4_digest_1 : decode cX4_digest 1 = .ok (.getfield 21, 3) := by decide +kernel
theorem dX4_digest_4 : decode cX4_digest 4 = .ok (.invokevirtual 111, 3) := by decide +kernel
theorem dX4_digest_7 : decode cX4_digest 7 = .ok (.ldc2_w 197, 3) := by decide +kernel
theorem dX4_digest_10 : decode cX4_digest 10 = .ok (.lstore_n 1, 1) := by decide +kernel
theorem dX4_digest_11 : decode cX4_digest 11 = .ok (.iconst 0, 1) := by decide +kernel
theorem dX4_digest_12 : decode cX4_digest 12 = .ok (.istore_n 3, 1) := by decide +kernel
theorem dX4_digest_13 : decode cX4_digest 13 = .ok (.iload_n 3, 1) := by decide +kernel
theorem dX4_digest_14 : decode cX4_digest 14 = .ok (.bipush 7, 2) := by decide +kernel
theorem dX4_digest_16 : decode cX4_digest 16 = .ok (.if_icmp .gt 22, 3) := by decide +kernel
theorem dX4_digest_19 : decode cX4_digest 19 = .ok (.ldc2_w 199, 3) := by decide +kernel
theorem dX4_digest_22 : decode cX4_digest 22 = .ok (.lload_n 1, 1) := by decide +kernel
theorem dX4_digest_23 : decode cX4_digest 23 = .ok (.lmul, 1) := by decide +kernel
theorem dX4_digest_24 : decode cX4_digest 24 = .ok (.aload_n 0, 1) := by decide +kernel
theorem dX4_digest_25 : decode cX4_digest 25 = .ok (.iload_n 3, 1) := by decide +kernel
theorem dX4_digest_26 : decode cX4_digest 26 = .ok (.invokevirtual 194, 3) := by decide +kernel
theorem dX4_digest_29 : decode cX4_digest 29 = .ok (.i2l, 1) := by decide +kernel
theorem dX4_digest_30 : decode cX4_digest 30 = .ok (.ladd, 1) := by decide +kernel
theorem dX4_digest_31 : decode cX4_digest 31 = .ok (.lstore_n 1, 1) := by decide +kernel
theorem dX4_digest_32 : decode cX4_digest 32 = .ok (.iinc 3 1, 3) := by decide +kernel
theorem dX4_digest_35 : decode cX4_digest 35 = .ok (.goto (-22), 3) := by decide +kernel
theorem dX4_digest_38 : decode cX4_digest 38 = .ok (.ldc2_w 199, 3) := by decide +kernel
theorem dX4_digest_41 : decode cX4_digest 41 = .ok (.lload_n 1, 1) := by decide +kernel
theorem dX4_digest_42 : decode cX4_digest 42 = .ok (.lmul, 1) := by decide +kernel
theorem dX4_digest_43 : decode cX4_digest 43 = .ok (.aload_n 0, 1) := by decide +kernel
theorem dX4_digest_44 : decode cX4_digest 44 = .ok (.getfield 21, 3) := by decide +kernel
theorem dX4_digest_47 : decode cX4_digest 47 = .ok (.getfield 129, 3) := by decide +kernel
theorem dX4_digest_50 : decode cX4_digest 50 = .ok (.i2l, 1) := by decide +kernel
theorem dX4_digest_51 : decode cX4_digest 51 = .ok (.ladd, 1) := by decide +kernel
theorem dX4_digest_52 : decode cX4_digest 52 = .ok (.lstore_n 1, 1) := by decide +kernel
theorem dX4_digest_53 : decode cX4_digest 53 = .ok (.ldc2_w 199, 3) := by decide +kernel
theorem dX4_digest_56 : decode cX4_digest 56 = .ok (.lload_n 1, 1) := by decide +kernel
theorem dX4_digest_57 : decode cX4_digest 57 = .ok (.lmul, 1) := by decide +kernel
theorem dX4_digest_58 : decode cX4_digest 58 = .ok (.aload_n 0, 1) := by decide +kernel
theorem dX4_digest_59 : decode cX4_digest 59 = .ok (.getfield 21, 3) := by decide +kernel
theorem dX4_digest_62 : decode cX4_digest 62 = .ok (.invokevirtual 135, 3) := by decide +kernel
theorem dX4_digest_65 : decode cX4_digest 65 = .ok (.i2l, 1) := by decide +kernel
theorem dX4_digest_66 : decode cX4_digest 66 = .ok (.ladd, 1) := by decide +kernel
theorem dX4_digest_67 : decode cX4_digest 67 = .ok (.lstore_n 1, 1) := by decide +kernel
theorem dX4_digest_68 : decode cX4_digest 68 = .ok (.iconst 0, 1) := by decide +kernel
theorem dX4_digest_69 : decode cX4_digest 69 = .ok (.istore_n 3, 1) := by decide +kernel
theorem dX4_digest_70 : decode cX4_digest 70 = .ok (.iload_n 3, 1) := by decide +kernel
theorem dX4_digest_71 : decode cX4_digest 71 = .ok (.iconst 3, 1) := by decide +kernel
theorem dX4_digest_72 : decode cX4_digest 72 = .ok (.if_icmp .ge 39, 3) := by decide +kernel
theorem dX4_digest_75 : decode cX4_digest 75 = .ok (.iconst 0, 1) := by decide +kernel
theorem dX4_digest_76 : decode cX4_digest 76 = .ok (.istore 4, 2) := by decide +kernel
theorem dX4_digest_78 : decode cX4_digest 78 = .ok (.iload 4, 2) := by decide +kernel
theorem dX4_digest_80 : decode cX4_digest 80 = .ok (.iconst 5, 1) := by decide +kernel
theorem dX4_digest_81 : decode cX4_digest 81 = .ok (.if_icmp .gt 24, 3) := by decide +kernel
theorem dX4_digest_84 : decode cX4_digest 84 = .ok (.ldc2_w 199, 3) := by decide +kernel
theorem dX4_digest_87 : decode cX4_digest 87 = .ok (.lload_n 1, 1) := by decide +kernel
theorem dX4_digest_88 : decode cX4_digest 88 = .ok (.lmul, 1) := by decide +kernel
theorem dX4_digest_89 : decode cX4_digest 89 = .ok (.aload_n 0, 1) := by decide +kernel
theorem dX4_digest_90 : decode cX4_digest 90 = .ok (.iload_n 3, 1) := by decide +kernel
theorem dX4_digest_91 : decode cX4_digest 91 = .ok (.iload 4, 2) := by decide +kernel
theorem dX4_digest_93 : decode cX4_digest 93 = .ok (.invokevirtual 108, 3) := by decide +kernel
theorem dX4_digest_96 : decode cX4_digest 96 = .ok (.i2l, 1) := by decide +kernel
theorem dX4_digest_97 : decode cX4_digest 97 = .ok (.ladd, 1) := by decide +kernel
theorem dX4_digest_98 : decode cX4_digest 98 = .ok (.lstore_n 1, 1) := by decide +kernel
theorem dX4_digest_99 : decode cX4_digest 99 = .ok (.iinc 4 1, 3) := by decide +kernel
theorem dX4_digest_102 : decode cX4_digest 102 = .ok (.goto (-24), 3) := by decide +kernel
theorem dX4_digest_105 : decode cX4_digest 105 = .ok (.iinc 3 1, 3) := by decide +kernel
theorem dX4_digest_108 : decode cX4_digest 108 = .ok (.goto (-38), 3) := by decide +kernel
theorem dX4_digest_111 : decode cX4_digest 111 = .ok (.iconst 0, 1) := by decide +kernel
theorem dX4_digest_112 : decode cX4_digest 112 = .ok (.istore_n 3, 1) := by decide +kernel
theorem dX4_digest_113 : decode cX4_digest 113 = .ok (.iload_n 3, 1) := by decide +kernel
theorem dX4_digest_114 : decode cX4_digest 114 = .ok (.bipush 9, 2) := by decide +kernel
theorem dX4_digest_116 : decode cX4_digest 116 = .ok (.if_icmp .ge 27, 3) := by decide +kernel
theorem dX4_digest_119 : decode cX4_digest 119 = .ok (.aload_n 0, 1) := by decide +kernel
theorem dX4_digest_120 : decode cX4_digest 120 = .ok (.getfield 12, 3) := by decide +kernel
theorem dX4_digest_123 : decode cX4_digest 123 = .ok (.iload_n 3, 1) := by decide +kernel
theorem dX4_digest_124 : decode cX4_digest 124 = .ok (.invokevirtual 191, 3) := by decide +kernel
theorem dX4_digest_127 : decode cX4_digest 127 = .ok (.ifCond .eq 10, 3) := by decide +kernel
theorem dX4_digest_130 : decode cX4_digest 130 = .ok (.aload_n 0, 1) := by decide +kernel
theorem dX4_digest_131 : decode cX4_digest 131 = .ok (.lload_n 1, 1) := by decide +kernel
theorem dX4_digest_132 : decode cX4_digest 132 = .ok (.iload_n 3, 1) := by decide +kernel
theorem dX4_digest_133 : decode cX4_digest 133 = .ok (.invokevirtual 201, 3) := by decide +kernel
theorem dX4_digest_136 : decode cX4_digest 136 = .ok (.lstore_n 1, 1) := by decide +kernel
theorem dX4_digest_137 : decode cX4_digest 137 = .ok (.iinc 3 1, 3) := by decide +kernel
theorem dX4_digest_140 : decode cX4_digest 140 = .ok (.goto (-27), 3) := by decide +kernel
theorem dX4_digest_143 : decode cX4_digest 143 = .ok (.iconst 0, 1) := by decide +kernel
theorem dX4_digest_144 : decode cX4_digest 144 = .ok (.istore_n 3, 1) := by decide +kernel
theorem dX4_digest_145 : decode cX4_digest 145 = .ok (.iload_n 3, 1) := by decide +kernel
theorem dX4_digest_146 : decode cX4_digest 146 = .ok (.bipush 60, 2) := by decide +kernel
theorem dX4_digest_148 : decode cX4_digest 148 = .ok (.if_icmp .ge 47, 3) := by decide +kernel
theorem dX4_digest_151 : decode cX4_digest 151 = .ok (.ldc2_w 199, 3) := by decide +kernel
theorem dX4_digest_154 : decode cX4_digest 154 = .ok (.lload_n 1, 1) := by decide +kernel
theorem dX4_digest_155 : decode cX4_digest 155 = .ok (.lmul, 1) := by decide +kernel
theorem dX4_digest_156 : decode cX4_digest 156 = .ok (.aload_n 0, 1) := by decide +kernel
theorem dX4_digest_157 : decode cX4_digest 157 = .ok (.getfield 31, 3) := by decide +kernel
theorem dX4_digest_160 : decode cX4_digest 160 = .ok (.getfield 155, 3) := by decide +kernel
theorem dX4_digest_163 : decode cX4_digest 163 = .ok (.iconst 0, 1) := by decide +kernel
theorem dX4_digest_164 : decode cX4_digest 164 = .ok (.aaload, 1) := by decide +kernel
theorem dX4_digest_165 : decode cX4_digest 165 = .ok (.iload_n 3, 1) := by decide +kernel
theorem dX4_digest_166 : decode cX4_digest 166 = .ok (.iaload, 1) := by decide +kernel
theorem dX4_digest_167 : decode cX4_digest 167 = .ok (.i2l, 1) := by decide +kernel
theorem dX4_digest_168 : decode cX4_digest 168 = .ok (.ladd, 1) := by decide +kernel
theorem dX4_digest_169 : decode cX4_digest 169 = .ok (.lstore_n 1, 1) := by decide +kernel
theorem dX4_digest_170 : decode cX4_digest 170 = .ok (.ldc2_w 199, 3) := by decide +kernel
theorem dX4_digest_173 : decode cX4_digest 173 = .ok (.lload_n 1, 1) := by decide +kernel
theorem dX4_digest_174 : decode cX4_digest 174 = .ok (.lmul, 1) := by decide +kernel
theorem dX4_digest_175 : decode cX4_digest 175 = .ok (.aload_n 0, 1) := by decide +kernel
theorem dX4_digest_176 : decode cX4_digest 176 = .ok (.getfield 31, 3) := by decide +kernel
theorem dX4_digest_179 : decode cX4_digest 179 = .ok (.getfield 155, 3) := by decide +kernel
theorem dX4_digest_182 : decode cX4_digest 182 = .ok (.iconst 1, 1) := by decide +kernel
theorem dX4_digest_183 : decode cX4_digest 183 = .ok (.aaload, 1) := by decide +kernel
theorem dX4_digest_184 : decode cX4_digest 184 = .ok (.iload_n 3, 1) := by decide +kernel
theorem dX4_digest_185 : decode cX4_digest 185 = .ok (.iaload, 1) := by decide +kernel
theorem dX4_digest_186 : decode cX4_digest 186 = .ok (.i2l, 1) := by decide +kernel
theorem dX4_digest_187 : decode cX4_digest 187 = .ok (.ladd, 1) := by decide +kernel
theorem dX4_digest_188 : decode cX4_digest 188 = .ok (.lstore_n 1, 1) := by decide +kernel
theorem dX4_digest_189 : decode cX4_digest 189 = .ok (.iinc 3 1, 3) := by decide +kernel
theorem dX4_digest_192 : decode cX4_digest 192 = .ok (.goto (-47), 3) := by decide +kernel
theorem dX4_digest_195 : decode cX4_digest 195 = .ok (.lload_n 1, 1) := by decide +kernel
theorem dX4_digest_196 : decode cX4_digest 196 = .ok (.lreturn, 1) := by decide +kernel
theorem dX4_within_0 : decode cX4_within 0 = .ok (.lload_n 0, 1) := by decide +kernel
theorem dX4_within_1 : decode cX4_within 1 = .ok (.iload_n 2, 1) := by decide +kernel
theorem dX4_within_2 : decode cX4_within 2 = .ok (.i2l, 1) := by decide +kernel
theorem dX4_within_3 : decode cX4_within 3 = .ok (.lcmp, 1) := by decide +kernel
theorem dX4_within_4 : decode cX4_within 4 = .ok (.ifCond .lt 14, 3) := by decide +kernel
theorem dX4_within_7 : decode cX4_within 7 = .ok (.lload_n 0, 1) := by decide +kernel
theorem dX4_within_8 : decode cX4_within 8 = .ok (.iload_n 3, 1) := by decide +kernel
theorem dX4_within_9 : decode cX4_within 9 = .ok (.i2l, 1) := by decide +kernel
theorem dX4_within_10 : decode cX4_within 10 = .ok (.lcmp, 1) := by decide +kernel
theorem dX4_within_11 : decode cX4_within 11 = .ok (.ifCond .gt 7, 3) := by decide +kernel
theorem dX4_within_14 : decode cX4_within 14 = .ok (.iconst 1, 1) := by decide +kernel
theorem dX4_within_15 : decode cX4_within 15 = .ok (.goto 4, 3) := by decide +kernel
theorem dX4_within_18 : decode cX4_within 18 = .ok (.iconst 0, 1) := by decide +kernel
theorem dX4_within_19 : decode cX4_within 19 = .ok (.ireturn, 1) := by decide +kernel
theorem dX4_isChain_0 : decode cX4_isChain 0 = .ok (.iload_n 0, 1) := by decide +kernel
theorem dX4_isChain_1 : decode cX4_isChain 1 = .ok (.i2l, 1) := by decide +kernel
theorem dX4_isChain_2 : decode cX4_isChain 2 = .ok (.iconst 0, 1) := by decide +kernel
theorem dX4_isChain_3 : decode cX4_isChain 3 = .ok (.iconst 2, 1) := by decide +kernel
theorem dX4_isChain_4 : decode cX4_isChain 4 = .ok (.invokestatic 50, 3) := by decide +kernel
theorem dX4_isChain_7 : decode cX4_isChain 7 = .ok (.ireturn, 1) := by decide +kernel
theorem dX4_isSheet_0 : decode cX4_isSheet 0 = .ok (.iload_n 0, 1) := by decide +kernel
theorem dX4_isSheet_1 : decode cX4_isSheet 1 = .ok (.i2l, 1) := by decide +kernel
theorem dX4_isSheet_2 : decode cX4_isSheet 2 = .ok (.iconst 0, 1) := by decide +kernel
theorem dX4_isSheet_3 : decode cX4_isSheet 3 = .ok (.iconst 3, 1) := by decide +kernel
theorem dX4_isSheet_4 : decode cX4_isSheet 4 = .ok (.invokestatic 50, 3) := by decide +kernel
theorem dX4_isSheet_7 : decode cX4_isSheet 7 = .ok (.ireturn, 1) := by decide +kernel
theorem dX4_isForm_0 : decode cX4_isForm 0 = .ok (.iload_n 0, 1) := by decide +kernel
theorem dX4_isForm_1 : decode cX4_isForm 1 = .ok (.i2l, 1) := by decide +kernel
theorem dX4_isForm_2 : decode cX4_isForm 2 = .ok (.iconst 0, 1) := by decide +kernel
theorem dX4_isForm_3 : decode cX4_isForm 3 = .ok (.iconst 2, 1) := by decide +kernel
theorem dX4_isForm_4 : decode cX4_isForm 4 = .ok (.invokestatic 50, 3) := by decide +kernel
theorem dX4_isForm_7 : decode cX4_isForm 7 = .ok (.ireturn, 1) := by decide +kernel
theorem dX4_isMark_0 : decode cX4_isMark 0 = .ok (.lload_n 1, 1) := by decide +kernel
theorem dX4_isMark_1 : decode cX4_isMark 1 = .ok (.getstatic 205, 3) := by decide +kernel
theorem dX4_isMark_4 : decode cX4_isMark 4 = .ok (.iload_n 0, 1) := by decide +kernel
theorem dX4_isMark_5 : decode cX4_isMark 5 = .ok (.iaload, 1) := by decide +kernel
theorem dX4_isMark_6 : decode cX4_isMark 6 = .ok (.getstatic 208, 3) := by decide +kernel
theorem dX4_isMark_9 : decode cX4_isMark 9 = .ok (.iload_n 0, 1) := by decide +kernel
theorem dX4_isMark_10 : decode cX4_isMark 10 = .ok (.iaload, 1) := by decide +kernel
theorem dX4_isMark_11 : decode cX4_isMark 11 = .ok (.invokestatic 50, 3) := by decide +kernel
theorem dX4_isMark_14 : decode cX4_isMark 14 = .ok (.ireturn, 1) := by decide +kernel
theorem dX4_holdsStep_0 : decode cX4_holdsStep 0 = .ok (.iconst 0, 1) := by decide +kernel
theorem dX4_holdsStep_1 : decode cX4_holdsStep 1 = .ok (.istore_n 2, 1) := by decide +kernel
theorem dX4_holdsStep_2 : decode cX4_holdsStep 2 = .ok (.iload_n 2, 1) := by decide +kernel
theorem dX4_holdsStep_3 : decode cX4_holdsStep 3 = .ok (.iconst 4, 1) := by decide +kernel
theorem dX4_holdsStep_4 : decode cX4_holdsStep 4 = .ok (.if_icmp .ge 26, 3) := by decide +kernel
theorem dX4_holdsStep_7 : decode cX4_holdsStep 7 = .ok (.iload_n 2, 1) := by decide +kernel
theorem dX4_holdsStep_8 : decode cX4_holdsStep 8 = .ok (.aload_n 0, 1) := by decide +kernel
theorem dX4_holdsStep_9 : decode cX4_holdsStep 9 = .ok (.getfield 104, 3) := by decide +kernel
theorem dX4_holdsStep_12 : decode cX4_holdsStep 12 = .ok (.iload_n 1, 1) := by decide +kernel
theorem dX4_holdsStep_13 : decode cX4_holdsStep 13 = .ok (.iload_n 2, 1) := by decide +kernel
theorem dX4_holdsStep_14 : decode cX4_holdsStep 14 = .ok (.iadd, 1) := by decide +kernel
theorem dX4_holdsStep_15 : decode cX4_holdsStep 15 = .ok (.laload, 1) := by decide +kernel
theorem dX4_holdsStep_16 : decode cX4_holdsStep 16 = .ok (.invokestatic 69, 3) := by decide +kernel
theorem dX4_holdsStep_19 : decode cX4_holdsStep 19 = .ok (.ifCond .ne 5, 3) := by decide +kernel
theorem dX4_holdsStep_22 : decode cX4_holdsStep 22 = .ok (.iconst 0, 1) := by decide +kernel
theorem dX4_holdsStep_23 : decode cX4_holdsStep 23 = .ok (.ireturn, 1) := by decide +kernel
theorem dX4_holdsStep_24 : decode cX4_holdsStep 24 = .ok (.iinc 2 1, 3) := by decide +kernel
theorem dX4_holdsStep_27 : decode cX4_holdsStep 27 = .ok (.goto (-25), 3) := by decide +kernel
theorem dX4_holdsStep_30 : decode cX4_holdsStep 30 = .ok (.iconst 1, 1) := by decide +kernel
theorem dX4_holdsStep_31 : decode cX4_holdsStep 31 = .ok (.ireturn, 1) := by decide +kernel
theorem dX4_found_0 : decode cX4_found 0 = .ok (.aload_n 0, 1) := by decide +kernel
theorem dX4_found_1 : decode cX4_found 1 = .ok (.iload_n 1, 1) := by decide +kernel
theorem dX4_found_2 : decode cX4_found 2 = .ok (.putfield 42, 3) := by decide +kernel
theorem dX4_found_5 : decode cX4_found 5 = .ok (.bipush (-10), 2) := by decide +kernel
theorem dX4_found_7 : decode cX4_found 7 = .ok (.iload_n 1, 1) := by decide +kernel
theorem dX4_found_8 : decode cX4_found 8 = .ok (.isub, 1) := by decide +kernel
theorem dX4_found_9 : decode cX4_found 9 = .ok (.ireturn, 1) := by decide +kernel
theorem dX4_traitOf_0 : decode cX4_traitOf 0 = .ok (.iload_n 2, 1) := by decide +kernel
theorem dX4_traitOf_1 : decode cX4_traitOf 1 = .ok (.iconst 5, 1) := by decide +kernel
theorem dX4_traitOf_2 : decode cX4_traitOf 2 = .ok (.if_icmp .ne 15, 3) := by decide +kernel
theorem dX4_traitOf_5 : decode cX4_traitOf 5 = .ok (.aload_n 0, 1) := by decide +kernel
theorem dX4_traitOf_6 : decode cX4_traitOf 6 = .ok (.getfield 12, 3) := by decide +kernel
theorem dX4_traitOf_9 : decode cX4_traitOf 9 = .ok (.getfield 73, 3) := by decide +kernel
theorem dX4_traitOf_12 : decode cX4_traitOf 12 = .ok (.iload_n 1, 1) := by decide +kernel
theorem dX4_traitOf_13 : decode cX4_traitOf 13 = .ok (.iaload, 1) := by decide +kernel
theorem dX4_traitOf_14 : decode cX4_traitOf 14 = .ok (.goto 14, 3) := by decide +kernel
theorem dX4_traitOf_17 : decode cX4_traitOf 17 = .ok (.aload_n 0, 1) := by decide +kernel
theorem dX4_traitOf_18 : decode cX4_traitOf 18 = .ok (.getfield 12, 3) := by decide +kernel
theorem dX4_traitOf_21 : decode cX4_traitOf 21 = .ok (.getfield 61, 3) := by decide +kernel
theorem dX4_traitOf_24 : decode cX4_traitOf 24 = .ok (.iload_n 2, 1) := by decide +kernel
theorem dX4_traitOf_25 : decode cX4_traitOf 25 = .ok (.aaload, 1) := by decide +kernel
theorem dX4_traitOf_26 : decode cX4_traitOf 26 = .ok (.iload_n 1, 1) := by decide +kernel
theorem dX4_traitOf_27 : decode cX4_traitOf 27 = .ok (.iaload, 1) := by decide +kernel
theorem dX4_traitOf_28 : decode cX4_traitOf 28 = .ok (.ireturn, 1) := by decide +kernel
theorem dX4_infoOf_0 : decode cX4_infoOf 0 = .ok (.iload_n 2, 1) := by decide +kernel
theorem dX4_infoOf_1 : decode cX4_infoOf 1 = .ok (.tableswitch 54 4 6 #[27, 36, 45], 27) := by decide +kernel
theorem dX4_infoOf_28 : decode cX4_infoOf 28 = .ok (.aload_n 0, 1) := by decide +kernel
theorem dX4_infoOf_29 : decode cX4_infoOf 29 = .ok (.getfield 12, 3) := by decide +kernel
theorem dX4_infoOf_32 : decode cX4_infoOf 32 = .ok (.iload_n 1, 1) := by decide +kernel
theorem dX4_infoOf_33 : decode cX4_infoOf 33 = .ok (.invokevirtual 211, 3) := by decide +kernel
theorem dX4_infoOf_36 : decode cX4_infoOf 36 = .ok (.ireturn, 1) := by decide +kernel
theorem dX4_infoOf_37 : decode cX4_infoOf 37 = .ok (.aload_n 0, 1) := by decide +kernel
theorem dX4_infoOf_38 : decode cX4_infoOf 38 = .ok (.getfield 21, 3) := by decide +kernel
theorem dX4_infoOf_41 : decode cX4_infoOf 41 = .ok (.iload_n 1, 1) := by decide +kernel
theorem dX4_infoOf_42 : decode cX4_infoOf 42 = .ok (.invokevirtual 214, 3) := by decide +kernel
theorem dX4_infoOf_45 : decode cX4_infoOf 45 = .ok (.ireturn, 1) := by decide +kernel
theorem dX4_infoOf_46 : decode cX4_infoOf 46 = .ok (.aload_n 0, 1) := by decide +kernel
theorem dX4_infoOf_47 : decode cX4_infoOf 47 = .ok (.getfield 12, 3) := by decide +kernel
theorem dX4_infoOf_50 : decode cX4_infoOf 50 = .ok (.iload_n 1, 1) := by decide +kernel
theorem dX4_infoOf_51 : decode cX4_infoOf 51 = .ok (.invokevirtual 217, 3) := by decide +kernel
theorem dX4_infoOf_54 : decode cX4_infoOf 54 = .ok (.ireturn, 1) := by decide +kernel
theorem dX4_infoOf_55 : decode cX4_infoOf 55 = .ok (.aload_n 0, 1) := by decide +kernel
theorem dX4_infoOf_56 : decode cX4_infoOf 56 = .ok (.getfield 12, 3) := by decide +kernel
theorem dX4_infoOf_59 : decode cX4_infoOf 59 = .ok (.getfield 84, 3) := by decide +kernel
theorem dX4_infoOf_62 : decode cX4_infoOf 62 = .ok (.iload_n 2, 1) := by decide +kernel
theorem dX4_infoOf_63 : decode cX4_infoOf 63 = .ok (.aaload, 1) := by decide +kernel
theorem dX4_infoOf_64 : decode cX4_infoOf 64 = .ok (.iload_n 1, 1) := by decide +kernel
theorem dX4_infoOf_65 : decode cX4_infoOf 65 = .ok (.iaload, 1) := by decide +kernel
theorem dX4_infoOf_66 : decode cX4_infoOf 66 = .ok (.ireturn, 1) := by decide +kernel
theorem dX4_countOf_0 : decode cX4_countOf 0 = .ok (.iload_n 1, 1) := by decide +kernel
theorem dX4_countOf_1 : decode cX4_countOf 1 = .ok (.tableswitch 127 0 7 #[47, 55, 72, 83, 91, 101, 111, 119], 47) := by decide +kernel
theorem dX4_countOf_48 : decode cX4_countOf 48 = .ok (.aload_n 0, 1) := by decide +kernel
theorem dX4_countOf_49 : decode cX4_countOf 49 = .ok (.getfield 12, 3) := by decide +kernel
theorem dX4_countOf_52 : decode cX4_countOf 52 = .ok (.invokevirtual 220, 3) := by decide +kernel
theorem dX4_countOf_55 : decode cX4_countOf 55 = .ok (.ireturn, 1) := by decide +kernel
theorem dX4_countOf_56 : decode cX4_countOf 56 = .ok (.aload_n 0, 1) := by decide +kernel
theorem dX4_countOf_57 : decode cX4_countOf 57 = .ok (.getfield 21, 3) := by decide +kernel
theorem dX4_countOf_60 : decode cX4_countOf 60 = .ok (.getfield 129, 3) := by decide +kernel
theorem dX4_countOf_63 : decode cX4_countOf 63 = .ok (.iconst (-1), 1) := by decide +kernel
theorem dX4_countOf_64 : decode cX4_countOf 64 = .ok (.if_icmp .ne 7, 3) := by decide +kernel
theorem dX4_countOf_67 : decode cX4_countOf 67 = .ok (.iconst 0, 1) := by decide +kernel
theorem dX4_countOf_68 : decode cX4_countOf 68 = .ok (.goto 4, 3) := by decide +kernel
theorem dX4_countOf_71 : decode cX4_countOf 71 = .ok (.iconst 1, 1) := by decide +kernel
theorem dX4_countOf_72 : decode cX4_countOf 72 = .ok (.ireturn, 1) := by decide +kernel
theorem dX4_countOf_73 : decode cX4_countOf 73 = .ok (.aload_n 0, 1) := by decide +kernel
theorem dX4_countOf_74 : decode cX4_countOf 74 = .ok (.getfield 21, 3) := by decide +kernel
theorem dX4_countOf_77 : decode cX4_countOf 77 = .ok (.invokevirtual 135, 3) := by decide +kernel
theorem dX4_countOf_80 : decode cX4_countOf 80 = .ok (.invokestatic 223, 3) := by decide +kernel
theorem dX4_countOf_83 : decode cX4_countOf 83 = .ok (.ireturn, 1) := by decide +kernel
theorem dX4_countOf_84 : decode cX4_countOf 84 = .ok (.aload_n 0, 1) := by decide +kernel
theorem dX4_countOf_85 : decode cX4_countOf 85 = .ok (.getfield 31, 3) := by decide +kernel
theorem dX4_countOf_88 : decode cX4_countOf 88 = .ok (.getfield 149, 3) := by decide +kernel
theorem dX4_countOf_91 : decode cX4_countOf 91 = .ok (.ireturn, 1) := by decide +kernel
theorem dX4_countOf_92 : decode cX4_countOf 92 = .ok (.aload_n 0, 1) := by decide +kernel
theorem dX4_countOf_93 : decode cX4_countOf 93 = .ok (.getfield 31, 3) := by decide +kernel
theorem dX4_countOf_96 : decode cX4_countOf 96 = .ok (.getfield 228, 3) := by decide +kernel
theorem dX4_countOf_99 : decode cX4_countOf 99 = .ok (.iconst 0, 1) := by decide +kernel
theorem dX4_countOf_100 : decode cX4_countOf 100 = .ok (.iaload, 1) := by decide +kernel
theorem dX4_countOf_101 : decode cX4_countOf 101 = .ok (.ireturn, 1) := by decide +kernel
theorem dX4_countOf_102 : decode cX4_countOf 102 = .ok (.aload_n 0, 1) := by decide +kernel
theorem dX4_countOf_103 : decode cX4_countOf 103 = .ok (.getfield 31, 3) := by decide +kernel
theorem dX4_countOf_106 : decode cX4_countOf 106 = .ok (.getfield 228, 3) := by decide +kernel
theorem dX4_countOf_109 : decode cX4_countOf 109 = .ok (.iconst 1, 1) := by decide +kernel
theorem dX4_countOf_110 : decode cX4_countOf 110 = .ok (.iaload, 1) := by decide +kernel
theorem dX4_countOf_111 : decode cX4_countOf 111 = .ok (.ireturn, 1) := by decide +kernel
theorem dX4_countOf_112 : decode cX4_countOf 112 = .ok (.aload_n 0, 1) := by decide +kernel
theorem dX4_countOf_113 : decode cX4_countOf 113 = .ok (.getfield 31, 3) := by decide +kernel
theorem dX4_countOf_116 : decode cX4_countOf 116 = .ok (.getfield 231, 3) := by decide +kernel
theorem dX4_countOf_119 : decode cX4_countOf 119 = .ok (.ireturn, 1) := by decide +kernel
theorem dX4_countOf_120 : decode cX4_countOf 120 = .ok (.aload_n 0, 1) := by decide +kernel
theorem dX4_countOf_121 : decode cX4_countOf 121 = .ok (.getfield 12, 3) := by decide +kernel
theorem dX4_countOf_124 : decode cX4_countOf 124 = .ok (.invokevirtual 234, 3) := by decide +kernel
theorem dX4_countOf_127 : decode cX4_countOf 127 = .ok (.ireturn, 1) := by decide +kernel
theorem dX4_countOf_128 : decode cX4_countOf 128 = .ok (.aload_n 0, 1) := by decide +kernel
theorem dX4_countOf_129 : decode cX4_countOf 129 = .ok (.getfield 42, 3) := by decide +kernel
theorem dX4_countOf_132 : decode cX4_countOf 132 = .ok (.ireturn, 1) := by decide +kernel
theorem dX4_withStep_0 : decode cX4_withStep 0 = .ok (.lload_n 1, 1) := by decide +kernel
theorem dX4_withStep_1 : decode cX4_withStep 1 = .ok (.lstore 4, 2) := by decide +kernel
theorem dX4_withStep_3 : decode cX4_withStep 3 = .ok (.iconst 0, 1) := by decide +kernel
theorem dX4_withStep_4 : decode cX4_withStep 4 = .ok (.istore 6, 2) := by decide +kernel
theorem dX4_withStep_6 : decode cX4_withStep 6 = .ok (.iload 6, 2) := by decide +kernel
theorem dX4_withStep_8 : decode cX4_withStep 8 = .ok (.bipush 6, 2) := by decide +kernel
theorem dX4_withStep_10 : decode cX4_withStep 10 = .ok (.if_icmp .gt 26, 3) := by decide +kernel
theorem dX4_withStep_13 : decode cX4_withStep 13 = .ok (.ldc2_w 199, 3) := by decide +kernel
theorem dX4_withStep_16 : decode cX4_withStep 16 = .ok (.lload 4, 2) := by decide +kernel
theorem dX4_withStep_18 : decode cX4_withStep 18 = .ok (.lmul, 1) := by decide +kernel
theorem dX4_withStep_19 : decode cX4_withStep 19 = .ok (.aload_n 0, 1) := by decide +kernel
theorem dX4_withStep_20 : decode cX4_withStep 20 = .ok (.iload_n 3, 1) := by decide +kernel
theorem dX4_withStep_21 : decode cX4_withStep 21 = .ok (.iload 6, 2) := by decide +kernel
theorem dX4_withStep_23 : decode cX4_withStep 23 = .ok (.invokevirtual 114, 3) := by decide +kernel
theorem dX4_withStep_26 : decode cX4_withStep 26 = .ok (.i2l, 1) := by decide +kernel
theorem dX4_withStep_27 : decode cX4_withStep 27 = .ok (.ladd, 1) := by decide +kernel
theorem dX4_withStep_28 : decode cX4_withStep 28 = .ok (.lstore 4, 2) := by decide +kernel
theorem dX4_withStep_30 : decode cX4_withStep 30 = .ok (.iinc 6 1, 3) := by decide +kernel
theorem dX4_withStep_33 : decode cX4_withStep 33 = .ok (.goto (-27), 3) := by decide +kernel
theorem dX4_withStep_36 : decode cX4_withStep 36 = .ok (.ldc2_w 199, 3) := by decide +kernel
theorem dX4_withStep_39 : decode cX4_withStep 39 = .ok (.lload 4, 2) := by decide +kernel
theorem dX4_withStep_41 : decode cX4_withStep 41 = .ok (.lmul, 1) := by decide +kernel
theorem dX4_withStep_42 : decode cX4_withStep 42 = .ok (.aload_n 0, 1) := by decide +kernel
theorem dX4_withStep_43 : decode cX4_withStep 43 = .ok (.getfield 12, 3) := by decide +kernel
theorem dX4_withStep_46 : decode cX4_withStep 46 = .ok (.iload_n 3, 1) := by decide +kernel
theorem dX4_withStep_47 : decode cX4_withStep 47 = .ok (.iconst 0, 1) := by decide +kernel
theorem dX4_withStep_48 : decode cX4_withStep 48 = .ok (.invokevirtual 117, 3) := by decide +kernel
theorem dX4_withStep_51 : decode cX4_withStep 51 = .ok (.i2l, 1) := by decide +kernel
theorem dX4_withStep_52 : decode cX4_withStep 52 = .ok (.ladd, 1) := by decide +kernel
theorem dX4_withStep_53 : decode cX4_withStep 53 = .ok (.lstore 4, 2) := by decide +kernel
theorem dX4_withStep_55 : decode cX4_withStep 55 = .ok (.ldc2_w 199, 3) := by decide +kernel
theorem dX4_withStep_58 : decode cX4_withStep 58 = .ok (.lload 4, 2) := by decide +kernel
theorem dX4_withStep_60 : decode cX4_withStep 60 = .ok (.lmul, 1) := by decide +kernel
theorem dX4_withStep_61 : decode cX4_withStep 61 = .ok (.aload_n 0, 1) := by decide +kernel
theorem dX4_withStep_62 : decode cX4_withStep 62 = .ok (.getfield 12, 3) := by decide +kernel
theorem dX4_withStep_65 : decode cX4_withStep 65 = .ok (.iload_n 3, 1) := by decide +kernel
theorem dX4_withStep_66 : decode cX4_withStep 66 = .ok (.iconst 1, 1) := by decide +kernel
theorem dX4_withStep_67 : decode cX4_withStep 67 = .ok (.invokevirtual 117, 3) := by decide +kernel
theorem dX4_withStep_70 : decode cX4_withStep 70 = .ok (.i2l, 1) := by decide +kernel
theorem dX4_withStep_71 : decode cX4_withStep 71 = .ok (.ladd, 1) := by decide +kernel
theorem dX4_withStep_72 : decode cX4_withStep 72 = .ok (.lstore 4, 2) := by decide +kernel
theorem dX4_withStep_74 : decode cX4_withStep 74 = .ok (.ldc2_w 199, 3) := by decide +kernel
theorem dX4_withStep_77 : decode cX4_withStep 77 = .ok (.lload 4, 2) := by decide +kernel
theorem dX4_withStep_79 : decode cX4_withStep 79 = .ok (.lmul, 1) := by decide +kernel
theorem dX4_withStep_80 : decode cX4_withStep 80 = .ok (.aload_n 0, 1) := by decide +kernel
theorem dX4_withStep_81 : decode cX4_withStep 81 = .ok (.getfield 21, 3) := by decide +kernel
theorem dX4_withStep_84 : decode cX4_withStep 84 = .ok (.iload_n 3, 1) := by decide +kernel
theorem dX4_withStep_85 : decode cX4_withStep 85 = .ok (.invokevirtual 120, 3) := by decide +kernel
theorem dX4_withStep_88 : decode cX4_withStep 88 = .ok (.i2l, 1) := by decide +kernel
theorem dX4_withStep_89 : decode cX4_withStep 89 = .ok (.ladd, 1) := by decide +kernel
theorem dX4_withStep_90 : decode cX4_withStep 90 = .ok (.lstore 4, 2) := by decide +kernel
theorem dX4_withStep_92 : decode cX4_withStep 92 = .ok (.ldc2_w 199, 3) := by decide +kernel
theorem dX4_withStep_95 : decode cX4_withStep 95 = .ok (.lload 4, 2) := by decide +kernel
theorem dX4_withStep_97 : decode cX4_withStep 97 = .ok (.lmul, 1) := by decide +kernel
theorem dX4_withStep_98 : decode cX4_withStep 98 = .ok (.aload_n 0, 1) := by decide +kernel
theorem dX4_withStep_99 : decode cX4_withStep 99 = .ok (.getfield 21, 3) := by decide +kernel
theorem dX4_withStep_102 : decode cX4_withStep 102 = .ok (.iload_n 3, 1) := by decide +kernel
theorem dX4_withStep_103 : decode cX4_withStep 103 = .ok (.invokevirtual 123, 3) := by decide +kernel
theorem dX4_withStep_106 : decode cX4_withStep 106 = .ok (.i2l, 1) := by decide +kernel
theorem dX4_withStep_107 : decode cX4_withStep 107 = .ok (.ladd, 1) := by decide +kernel
theorem dX4_withStep_108 : decode cX4_withStep 108 = .ok (.lstore 4, 2) := by decide +kernel
theorem dX4_withStep_110 : decode cX4_withStep 110 = .ok (.ldc2_w 199, 3) := by decide +kernel
theorem dX4_withStep_113 : decode cX4_withStep 113 = .ok (.lload 4, 2) := by decide +kernel
theorem dX4_withStep_115 : decode cX4_withStep 115 = .ok (.lmul, 1) := by decide +kernel
theorem dX4_withStep_116 : decode cX4_withStep 116 = .ok (.aload_n 0, 1) := by decide +kernel
theorem dX4_withStep_117 : decode cX4_withStep 117 = .ok (.getfield 21, 3) := by decide +kernel
theorem dX4_withStep_120 : decode cX4_withStep 120 = .ok (.iload_n 3, 1) := by decide +kernel
theorem dX4_withStep_121 : decode cX4_withStep 121 = .ok (.invokevirtual 126, 3) := by decide +kernel
theorem dX4_withStep_124 : decode cX4_withStep 124 = .ok (.i2l, 1) := by decide +kernel
theorem dX4_withStep_125 : decode cX4_withStep 125 = .ok (.ladd, 1) := by decide +kernel
theorem dX4_withStep_126 : decode cX4_withStep 126 = .ok (.lstore 4, 2) := by decide +kernel
theorem dX4_withStep_128 : decode cX4_withStep 128 = .ok (.iconst 0, 1) := by decide +kernel
theorem dX4_withStep_129 : decode cX4_withStep 129 = .ok (.istore 6, 2) := by decide +kernel
theorem dX4_withStep_131 : decode cX4_withStep 131 = .ok (.iload 6, 2) := by decide +kernel
theorem dX4_withStep_133 : decode cX4_withStep 133 = .ok (.iconst 2, 1) := by decide +kernel
theorem dX4_withStep_134 : decode cX4_withStep 134 = .ok (.if_icmp .gt 29, 3) := by decide +kernel
theorem dX4_withStep_137 : decode cX4_withStep 137 = .ok (.ldc2_w 199, 3) := by decide +kernel
theorem dX4_withStep_140 : decode cX4_withStep 140 = .ok (.lload 4, 2) := by decide +kernel
theorem dX4_withStep_142 : decode cX4_withStep 142 = .ok (.lmul, 1) := by decide +kernel
theorem dX4_withStep_143 : decode cX4_withStep 143 = .ok (.aload_n 0, 1) := by decide +kernel
theorem dX4_withStep_144 : decode cX4_withStep 144 = .ok (.getfield 21, 3) := by decide +kernel
theorem dX4_withStep_147 : decode cX4_withStep 147 = .ok (.iload_n 3, 1) := by decide +kernel
theorem dX4_withStep_148 : decode cX4_withStep 148 = .ok (.iload 6, 2) := by decide +kernel
theorem dX4_withStep_150 : decode cX4_withStep 150 = .ok (.invokevirtual 132, 3) := by decide +kernel
theorem dX4_withStep_153 : decode cX4_withStep 153 = .ok (.i2l, 1) := by decide +kernel
theorem dX4_withStep_154 : decode cX4_withStep 154 = .ok (.ladd, 1) := by decide +kernel
theorem dX4_withStep_155 : decode cX4_withStep 155 = .ok (.lstore 4, 2) := by decide +kernel
theorem dX4_withStep_157 : decode cX4_withStep 157 = .ok (.iinc 6 1, 3) := by decide +kernel
theorem dX4_withStep_160 : decode cX4_withStep 160 = .ok (.goto (-29), 3) := by decide +kernel
theorem dX4_withStep_163 : decode cX4_withStep 163 = .ok (.iconst 0, 1) := by decide +kernel
theorem dX4_withStep_164 : decode cX4_withStep 164 = .ok (.istore 6, 2) := by decide +kernel
theorem dX4_withStep_166 : decode cX4_withStep 166 = .ok (.iload 6, 2) := by decide +kernel
theorem dX4_withStep_168 : decode cX4_withStep 168 = .ok (.iconst 2, 1) := by decide +kernel
theorem dX4_withStep_169 : decode cX4_withStep 169 = .ok (.if_icmp .gt 29, 3) := by decide +kernel
theorem dX4_withStep_172 : decode cX4_withStep 172 = .ok (.ldc2_w 199, 3) := by decide +kernel
theorem dX4_withStep_175 : decode cX4_withStep 175 = .ok (.lload 4, 2) := by decide +kernel
theorem dX4_withStep_177 : decode cX4_withStep 177 = .ok (.lmul, 1) := by decide +kernel
theorem dX4_withStep_178 : decode cX4_withStep 178 = .ok (.aload_n 0, 1) := by decide +kernel
theorem dX4_withStep_179 : decode cX4_withStep 179 = .ok (.getfield 31, 3) := by decide +kernel
theorem dX4_withStep_182 : decode cX4_withStep 182 = .ok (.iload_n 3, 1) := by decide +kernel
theorem dX4_withStep_183 : decode cX4_withStep 183 = .ok (.iload 6, 2) := by decide +kernel
theorem dX4_withStep_185 : decode cX4_withStep 185 = .ok (.invokevirtual 152, 3) := by decide +kernel
theorem dX4_withStep_188 : decode cX4_withStep 188 = .ok (.i2l, 1) := by decide +kernel
theorem dX4_withStep_189 : decode cX4_withStep 189 = .ok (.ladd, 1) := by decide +kernel
theorem dX4_withStep_190 : decode cX4_withStep 190 = .ok (.lstore 4, 2) := by decide +kernel
theorem dX4_withStep_192 : decode cX4_withStep 192 = .ok (.iinc 6 1, 3) := by decide +kernel
theorem dX4_withStep_195 : decode cX4_withStep 195 = .ok (.goto (-29), 3) := by decide +kernel
theorem dX4_withStep_198 : decode cX4_withStep 198 = .ok (.lload 4, 2) := by decide +kernel
theorem dX4_withStep_200 : decode cX4_withStep 200 = .ok (.lreturn, 1) := by decide +kernel
theorem dX5_init_0 : decode cX5_init 0 = .ok (.aload_n 0, 1) := by decide +kernel
theorem dX5_init_1 : decode cX5_init 1 = .ok (.invokespecial 1, 3) := by decide +kernel
theorem dX5_init_4 : decode cX5_init 4 = .ok (.aload_n 0, 1) := by decide +kernel
theorem dX5_init_5 : decode cX5_init 5 = .ok (.iconst 4, 1) := by decide +kernel
theorem dX5_init_6 : decode cX5_init 6 = .ok (.newarray .int, 2) := by decide +kernel
theorem dX5_init_8 : decode cX5_init 8 = .ok (.putfield 7, 3) := by decide +kernel
theorem dX5_init_11 : decode cX5_init 11 = .ok (.aload_n 0, 1) := by decide +kernel
theorem dX5_init_12 : decode cX5_init 12 = .ok (.iconst 4, 1) := by decide +kernel
theorem dX5_init_13 : decode cX5_init 13 = .ok (.newarray .int, 2) := by decide +kernel
theorem dX5_init_15 : decode cX5_init 15 = .ok (.putfield 13, 3) := by decide +kernel
theorem dX5_init_18 : decode cX5_init 18 = .ok (.aload_n 0, 1) := by decide +kernel
theorem dX5_init_19 : decode cX5_init 19 = .ok (.sipush 240, 3) := by decide +kernel
theorem dX5_init_22 : decode cX5_init 22 = .ok (.newarray .long, 2) := by decide +kernel
theorem dX5_init_24 : decode cX5_init 24 = .ok (.putfield 16, 3) := by decide +kernel
theorem dX5_init_27 : decode cX5_init 27 = .ok (.aload_n 0, 1) := by decide +kernel
theorem dX5_init_28 : decode cX5_init 28 = .ok (.bipush 60, 2) := by decide +kernel
theorem dX5_init_30 : decode cX5_init 30 = .ok (.newarray .long, 2) := by decide +kernel
theorem dX5_init_32 : decode cX5_init 32 = .ok (.putfield 20, 3) := by decide +kernel
theorem dX5_init_35 : decode cX5_init 35 = .ok (.aload_n 0, 1) := by decide +kernel
theorem dX5_init_36 : decode cX5_init 36 = .ok (.iconst 3, 1) := by decide +kernel
theorem dX5_init_37 : decode cX5_init 37 = .ok (.newarray .int, 2) := by decide +kernel
theorem dX5_init_39 : decode cX5_init 39 = .ok (.putfield 23, 3) := by decide +kernel
theorem dX5_init_42 : decode cX5_init 42 = .ok (.aload_n 0, 1) := by decide +kernel
theorem dX5_init_43 : decode cX5_init 43 = .ok (.iconst 3, 1) := by decide +kernel
theorem dX5_init_44 : decode cX5_init 44 = .ok (.newarray .int, 2) := by decide +kernel
theorem dX5_init_46 : decode cX5_init 46 = .ok (.putfield 26, 3) := by decide +kernel
theorem dX5_init_49 : decode cX5_init 49 = .ok (.aload_n 0, 1) := by decide +kernel
theorem dX5_init_50 : decode cX5_init 50 = .ok (.iconst 3, 1) := by decide +kernel
theorem dX5_init_51 : decode cX5_init 51 = .ok (.newarray .int, 2) := by decide +kernel
theorem dX5_init_53 : decode cX5_init 53 = .ok (.putfield 29, 3) := by decide +kernel
theorem dX5_init_56 : decode cX5_init 56 = .ok (.aload_n 0, 1) := by decide +kernel
theorem dX5_init_57 : decode cX5_init 57 = .ok (.iconst 3, 1) := by decide +kernel
theorem dX5_init_58 : decode cX5_init 58 = .ok (.newarray .int, 2) := by decide +kernel
theorem dX5_init_60 : decode cX5_init 60 = .ok (.putfield 32, 3) := by decide +kernel
theorem dX5_init_63 : decode cX5_init 63 = .ok (.aload_n 0, 1) := by decide +kernel
theorem dX5_init_64 : decode cX5_init 64 = .ok (.iconst 3, 1) := by decide +kernel
theorem dX5_init_65 : decode cX5_init 65 = .ok (.newarray .int, 2) := by decide +kernel
theorem dX5_init_67 : decode cX5_init 67 = .ok (.putfield 35, 3) := by decide +kernel
theorem dX5_init_70 : decode cX5_init 70 = .ok (.aload_n 0, 1) := by decide +kernel
theorem dX5_init_71 : decode cX5_init 71 = .ok (.iconst 3, 1) := by decide +kernel
theorem dX5_init_72 : decode cX5_init 72 = .ok (.newarray .int, 2) := by decide +kernel
theorem dX5_init_74 : decode cX5_init 74 = .ok (.putfield 38, 3) := by decide +kernel
theorem dX5_init_77 : decode cX5_init 77 = .ok (.aload_n 0, 1) := by decide +kernel
theorem dX5_init_78 : decode cX5_init 78 = .ok (.bipush 9, 2) := by decide +kernel
theorem dX5_init_80 : decode cX5_init 80 = .ok (.newarray .int, 2) := by decide +kernel
theorem dX5_init_82 : decode cX5_init 82 = .ok (.putfield 41, 3) := by decide +kernel
theorem dX5_init_85 : decode cX5_init 85 = .ok (.aload_n 0, 1) := by decide +kernel
theorem dX5_init_86 : decode cX5_init 86 = .ok (.bipush 9, 2) := by decide +kernel
theorem dX5_init_88 : decode cX5_init 88 = .ok (.newarray .int, 2) := by decide +kernel
theorem dX5_init_90 : decode cX5_init 90 = .ok (.putfield 44, 3) := by decide +kernel
theorem dX5_init_93 : decode cX5_init 93 = .ok (.aload_n 0, 1) := by decide +kernel
theorem dX5_init_94 : decode cX5_init 94 = .ok (.bipush 9, 2) := by decide +kernel
theorem dX5_init_96 : decode cX5_init 96 = .ok (.newarray .int, 2) := by decide +kernel
theorem dX5_init_98 : decode cX5_init 98 = .ok (.putfield 47, 3) := by decide +kernel
theorem dX5_init_101 : decode cX5_init 101 = .ok (.aload_n 0, 1) := by decide +kernel
theorem dX5_init_102 : decode cX5_init 102 = .ok (.bipush 9, 2) := by decide +kernel
theorem dX5_init_104 : decode cX5_init 104 = .ok (.newarray .int, 2) := by decide +kernel
theorem dX5_init_106 : decode cX5_init 106 = .ok (.putfield 50, 3) := by decide +kernel
theorem dX5_init_109 : decode cX5_init 109 = .ok (.aload_n 0, 1) := by decide +kernel
theorem dX5_init_110 : decode cX5_init 110 = .ok (.bipush 9, 2) := by decide +kernel
theorem dX5_init_112 : decode cX5_init 112 = .ok (.newarray .int, 2) := by decide +kernel
theorem dX5_init_114 : decode cX5_init 114 = .ok (.putfield 53, 3) := by decide +kernel
theorem dX5_init_117 : decode cX5_init 117 = .ok (.aload_n 0, 1) := by decide +kernel
theorem dX5_init_118 : decode cX5_init 118 = .ok (.iconst 3, 1) := by decide +kernel
theorem dX5_init_119 : decode cX5_init 119 = .ok (.newarray .int, 2) := by decide +kernel
theorem dX5_init_121 : decode cX5_init 121 = .ok (.putfield 56, 3) := by decide +kernel
theorem dX5_init_124 : decode cX5_init 124 = .ok (.aload_n 0, 1) := by decide +kernel
theorem dX5_init_125 : decode cX5_init 125 = .ok (.bipush 9, 2) := by decide +kernel
theorem dX5_init_127 : decode cX5_init 127 = .ok (.newarray .int, 2) := by decide +kernel
theorem dX5_init_129 : decode cX5_init 129 = .ok (.putfield 59, 3) := by decide +kernel
theorem dX5_init_132 : decode cX5_init 132 = .ok (.aload_n 0, 1) := by decide +kernel
theorem dX5_init_133 : decode cX5_init 133 = .ok (.bipush 9, 2) := by decide +kernel
theorem dX5_init_135 : decode cX5_init 135 = .ok (.newarray .int, 2) := by decide +kernel
theorem dX5_init_137 : decode cX5_init 137 = .ok (.putfield 62, 3) := by decide +kernel
theorem dX5_init_140 : decode cX5_init 140 = .ok (.aload_n 0, 1) := by decide +kernel
theorem dX5_init_141 : decode cX5_init 141 = .ok (.bipush 9, 2) := by decide +kernel
theorem dX5_init_143 : decode cX5_init 143 = .ok (.newarray .int, 2) := by decide +kernel
theorem dX5_init_145 : decode cX5_init 145 = .ok (.putfield 65, 3) := by decide +kernel
theorem dX5_init_148 : decode cX5_init 148 = .ok (.aload_n 0, 1) := by decide +kernel
theorem dX5_init_149 : decode cX5_init 149 = .ok (.bipush 9, 2) := by decide +kernel
theorem dX5_init_151 : decode cX5_init 151 = .ok (.newarray .int, 2) := by decide +kernel
theorem dX5_init_153 : decode cX5_init 153 = .ok (.putfield 68, 3) := by decide +kernel
theorem dX5_init_156 : decode cX5_init 156 = .ok (.aload_n 0, 1) := by decide +kernel
theorem dX5_init_157 : decode cX5_init 157 = .ok (.sipush 576, 3) := by decide +kernel
theorem dX5_init_160 : decode cX5_init 160 = .ok (.newarray .int, 2) := by decide +kernel
theorem dX5_init_162 : decode cX5_init 162 = .ok (.putfield 71, 3) := by decide +kernel
theorem dX5_init_165 : decode cX5_init 165 = .ok (.aload_n 0, 1) := by decide +kernel
theorem dX5_init_166 : decode cX5_init 166 = .ok (.sipush 576, 3) := by decide +kernel
theorem dX5_init_169 : decode cX5_init 169 = .ok (.newarray .int, 2) := by decide +kernel
theorem dX5_init_171 : decode cX5_init 171 = .ok (.putfield 74, 3) := by decide +kernel
theorem dX5_init_174 : decode cX5_init 174 = .ok (.aload_n 0, 1) := by decide +kernel
theorem dX5_init_175 : decode cX5_init 175 = .ok (.bipush 9, 2) := by decide +kernel
theorem dX5_init_177 : decode cX5_init 177 = .ok (.newarray .int, 2) := by decide +kernel
theorem dX5_init_179 : decode cX5_init 179 = .ok (.putfield 77, 3) := by decide +kernel
theorem dX5_init_182 : decode cX5_init 182 = .ok (.aload_n 0, 1) := by decide +kernel
theorem dX5_init_183 : decode cX5_init 183 = .ok (.bipush 9, 2) := by decide +kernel
theorem dX5_init_185 : decode cX5_init 185 = .ok (.newarray .int, 2) := by decide +kernel
theorem dX5_init_187 : decode cX5_init 187 = .ok (.putfield 80, 3) := by decide +kernel
theorem dX5_init_190 : decode cX5_init 190 = .ok (.aload_n 0, 1) := by decide +kernel
theorem dX5_init_191 : decode cX5_init 191 = .ok (.bipush 9, 2) := by decide +kernel
theorem dX5_init_193 : decode cX5_init 193 = .ok (.newarray .int, 2) := by decide +kernel
theorem dX5_init_195 : decode cX5_init 195 = .ok (.putfield 83, 3) := by decide +kernel
theorem dX5_init_198 : decode cX5_init 198 = .ok (.aload_n 0, 1) := by decide +kernel
theorem dX5_init_199 : decode cX5_init 199 = .ok (.sipush 600, 3) := by decide +kernel
theorem dX5_init_202 : decode cX5_init 202 = .ok (.newarray .int, 2) := by decide +kernel
theorem dX5_init_204 : decode cX5_init 204 = .ok (.putfield 86, 3) := by decide +kernel
theorem dX5_init_207 : decode cX5_init 207 = .ok (.iconst 0, 1) := by decide +kernel
theorem dX5_init_208 : decode cX5_init 208 = .ok (.istore_n 1, 1) := by decide +kernel
theorem dX5_init_209 : decode cX5_init 209 = .ok (.iload_n 1, 1) := by decide +kernel
theorem dX5_init_210 : decode cX5_init 210 = .ok (.iconst 4, 1) := by decide +kernel
theorem dX5_init_211 : decode cX5_init 211 = .ok (.if_icmp .ge 16, 3) := by decide +kernel
theorem dX5_init_214 : decode cX5_init 214 = .ok (.aload_n 0, 1) := by decide +kernel
theorem dX5_init_215 : decode cX5_init 215 = .ok (.getfield 7, 3) := by decide +kernel
theorem dX5_init_218 : decode cX5_init 218 = .ok (.iload_n 1, 1) := by decide +kernel
theorem dX5_init_219 : decode cX5_init 219 = .ok (.iconst (-1), 1) := by decide +kernel
theorem dX5_init_220 : decode cX5_init 220 = .ok (.iastore, 1) := by decide +kernel
theorem dX5_init_221 : decode cX5_init 221 = .ok (.iinc 1 1, 3) := by decide +kernel
theorem dX5_init_224 : decode cX5_init 224 = .ok (.goto (-15), 3) := by decide +kernel
theorem dX5_init_227 : decode cX5_init 227 = .ok (.iconst 0, 1) := by decide +kernel
theorem dX5_init_228 : decode cX5_init 228 = .ok (.istore_n 1, 1) := by decide +kernel
theorem dX5_init_229 : decode cX5_init 229 = .ok (.iload_n 1, 1) := by decide +kernel
theorem dX5_init_230 : decode cX5_init 230 = .ok (.iconst 3, 1) := by decide +kernel
theorem dX5_init_231 : decode cX5_init 231 = .ok (.if_icmp .ge 17, 3) := by decide +kernel
theorem dX5_init_234 : decode cX5_init 234 = .ok (.aload_n 0, 1) := by decide +kernel
theorem dX5_init_235 : decode cX5_init 235 = .ok (.getfield 23, 3) := by decide +kernel
theorem dX5_init_238 : decode cX5_init 238 = .ok (.iload_n 1, 1) := by decide +kernel
theorem dX5_init_239 : decode cX5_init 239 = .ok (.bipush 20, 2) := by decide +kernel
theorem dX5_init_241 : decode cX5_init 241 = .ok (.iastore, 1) := by decide +kernel
theorem dX5_init_242 : decode cX5_init 242 = .ok (.iinc 1 1, 3) := by decide +kernel
theorem dX5_init_245 : decode cX5_init 245 = .ok (.goto (-16), 3) := by decide +kernel
theorem dX5_init_248 : decode cX5_init 248 = .ok (.iconst 0, 1) := by decide +kernel
theorem dX5_init_249 : decode cX5_init 249 = .ok (.istore_n 1, 1) := by decide +kernel
theorem dX5_init_250 : decode cX5_init 250 = .ok (.iload_n 1, 1) := by decide +kernel
theorem dX5_init_251 : decode cX5_init 251 = .ok (.bipush 9, 2) := by decide +kernel
theorem dX5_init_253 : decode cX5_init 253 = .ok (.if_icmp .ge 23, 3) := by decide +kernel
theorem dX5_init_256 : decode cX5_init 256 = .ok (.aload_n 0, 1) := by decide +kernel
theorem dX5_init_257 : decode cX5_init 257 = .ok (.getfield 77, 3) := by decide +kernel
theorem dX5_init_260 : decode cX5_init 260 = .ok (.iload_n 1, 1) := by decide +kernel
theorem dX5_init_261 : decode cX5_init 261 = .ok (.iconst (-1), 1) := by decide +kernel
theorem dX5_init_262 : decode cX5_init 262 = .ok (.iastore, 1) := by decide +kernel
theorem dX5_init_263 : decode cX5_init 263 = .ok (.aload_n 0, 1) := by decide +kernel
theorem dX5_init_264 : decode cX5_init 264 = .ok (.getfield 80, 3) := by decide +kernel
theorem dX5_init_267 : decode cX5_init 267 = .ok (.iload_n 1, 1) := by decide +kernel
theorem dX5_init_268 : decode cX5_init 268 = .ok (.iconst (-1), 1) := by decide +kernel
theorem dX5_init_269 : decode cX5_init 269 = .ok (.iastore, 1) := by decide +kernel
theorem dX5_init_270 : decode cX5_init 270 = .ok (.iinc 1 1, 3) := by decide +kernel
theorem dX5_init_273 : decode cX5_init 273 = .ok (.goto (-23), 3) := by decide +kernel
theorem dX5_init_276 : decode cX5_init 276 = .ok (.return_, 1) := by decide +kernel
theorem dX5_in_0 : decode cX5_in 0 = .ok (.lload_n 0, 1) := by decide +kernel
theorem dX5_in_1 : decode cX5_in 1 = .ok (.lload_n 2, 1) := by decide +kernel
theorem dX5_in_2 : decode cX5_in 2 = .ok (.lcmp, 1) := by decide +kernel
theorem dX5_in_3 : decode cX5_in 3 = .ok (.ifCond .lt 14, 3) := by decide +kernel
theorem dX5_in_6 : decode cX5_in 6 = .ok (.lload_n 0, 1) := by decide +kernel
theorem dX5_in_7 : decode cX5_in 7 = .ok (.lload 4, 2) := by decide +kernel
theorem dX5_in_9 : decode cX5_in 9 = .ok (.lcmp, 1) := by decide +kernel
theorem dX5_in_10 : decode cX5_in 10 = .ok (.ifCond .gt 7, 3) := by decide +kernel
theorem dX5_in_13 : decode cX5_in 13 = .ok (.iconst 1, 1) := by decide +kernel
theorem dX5_in_14 : decode cX5_in 14 = .ok (.goto 4, 3) := by decide +kernel
theorem dX5_in_17 : decode cX5_in 17 = .ok (.iconst 0, 1) := by decide +kernel
theorem dX5_in_18 : decode cX5_in 18 = .ok (.ireturn, 1) := by decide +kernel
theorem dX5_isTwo_0 : decode cX5_isTwo 0 = .ok (.iload_n 0, 1) := by decide +kernel
theorem dX5_isTwo_1 : decode cX5_isTwo 1 = .ok (.i2l, 1) := by decide +kernel
theorem dX5_isTwo_2 : decode cX5_isTwo 2 = .ok (.lconst 0, 1) := by decide +kernel
theorem dX5_isTwo_3 : decode cX5_isTwo 3 = .ok (.lconst 1, 1) := by decide +kernel
theorem dX5_isTwo_4 : decode cX5_isTwo 4 = .ok (.invokestatic 89, 3) := by decide +kernel
theorem dX5_isTwo_7 : decode cX5_isTwo 7 = .ok (.ireturn, 1) := by decide +kernel
theorem dX5_no_0 : decode cX5_no 0 = .ok (.ldc2_w 93, 3) := by decide +kernel
theorem dX5_no_3 : decode cX5_no 3 = .ok (.iload_n 0, 1) := by decide +kernel
theorem dX5_no_4 : decode cX5_no 4 = .ok (.i2l, 1) := by decide +kernel
theorem dX5_no_5 : decode cX5_no 5 = .ok (.lsub, 1) := by decide +kernel
theorem dX5_no_6 : decode cX5_no 6 = .ok (.lreturn, 1) := by decide +kernel
theorem dX5_lesser_0 : decode cX5_lesser 0 = .ok (.iload_n 0, 1) := by decide +kernel
theorem dX5_lesser_1 : decode cX5_lesser 1 = .ok (.iload_n 1, 1) := by decide +kernel
theorem dX5_lesser_2 : decode cX5_lesser 2 = .ok (.if_icmp .ge 7, 3) := by decide +kernel
theorem dX5_lesser_5 : decode cX5_lesser 5 = .ok (.iload_n 0, 1) := by decide +kernel
theorem dX5_lesser_6 : decode cX5_lesser 6 = .ok (.goto 4, 3) := by decide +kernel
theorem dX5_lesser_9 : decode cX5_lesser 9 = .ok (.iload_n 1, 1) := by decide +kernel
theorem dX5_lesser_10 : decode cX5_lesser 10 = .ok (.ireturn, 1) := by decide +kernel
theorem dX5_greater_0 : decode cX5_greater 0 = .ok (.iload_n 0, 1) := by decide +kernel
theorem dX5_greater_1 : decode cX5_greater 1 = .ok (.iload_n 1, 1) := by decide +kernel
theorem dX5_greater_2 : decode cX5_greater 2 = .ok (.if_icmp .le 7, 3) := by decide +kernel
theorem dX5_greater_5 : decode cX5_greater 5 = .ok (.iload_n 0, 1) := by decide +kernel
theorem dX5_greater_6 : decode cX5_greater 6 = .ok (.goto 4, 3) := by decide +kernel
theorem dX5_greater_9 : decode cX5_greater 9 = .ok (.iload_n 1, 1) := by decide +kernel
theorem dX5_greater_10 : decode cX5_greater 10 = .ok (.ireturn, 1) := by decide +kernel
theorem dX5_finds_0 : decode cX5_finds 0 = .ok (.aload_n 0, 1) := by decide +kernel
theorem dX5_finds_1 : decode cX5_finds 1 = .ok (.iload_n 1, 1) := by decide +kernel
theorem dX5_finds_2 : decode cX5_finds 2 = .ok (.putfield 95, 3) := by decide +kernel
theorem dX5_finds_5 : decode cX5_finds 5 = .ok (.bipush (-10), 2) := by decide +kernel
theorem dX5_finds_7 : decode cX5_finds 7 = .ok (.iload_n 1, 1) := by decide +kernel
theorem dX5_finds_8 : decode cX5_finds 8 = .ok (.isub, 1) := by decide +kernel
theorem dX5_finds_9 : decode cX5_finds 9 = .ok (.ireturn, 1) := by decide +kernel
theorem dX5_isSheet_0 : decode cX5_isSheet 0 = .ok (.iload_n 0, 1) := by decide +kernel
theorem dX5_isSheet_1 : decode cX5_isSheet 1 = .ok (.i2l, 1) := by decide +kernel
theorem dX5_isSheet_2 : decode cX5_isSheet 2 = .ok (.lconst 0, 1) := by decide +kernel
theorem dX5_isSheet_3 : decode cX5_isSheet 3 = .ok (.ldc2_w 99, 3) := by decide +kernel
theorem dX5_isSheet_6 : decode cX5_isSheet 6 = .ok (.invokestatic 89, 3) := by decide +kernel
theorem dX5_isSheet_9 : decode cX5_isSheet 9 = .ok (.ireturn, 1) := by decide +kernel
theorem dX5_sheet_0 : decode cX5_sheet 0 = .ok (.iload_n 1, 1) := by decide +kernel
theorem dX5_sheet_1 : decode cX5_sheet 1 = .ok (.invokestatic 101, 3) := by decide +kernel
theorem dX5_sheet_4 : decode cX5_sheet 4 = .ok (.ifCond .eq 21, 3) := by decide +kernel
theorem dX5_sheet_7 : decode cX5_sheet 7 = .ok (.iload_n 2, 1) := by decide +kernel
theorem dX5_sheet_8 : decode cX5_sheet 8 = .ok (.i2l, 1) := by decide +kernel
theorem dX5_sheet_9 : decode cX5_sheet 9 = .ok (.lconst 0, 1) := by decide +kernel
theorem dX5_sheet_10 : decode cX5_sheet 10 = .ok (.ldc2_w 105, 3) := by decide +kernel
theorem dX5_sheet_13 : decode cX5_sheet 13 = .ok (.invokestatic 89, 3) := by decide +kernel
theorem dX5_sheet_16 : decode cX5_sheet 16 = .ok (.ifCond .eq 9, 3) := by decide +kernel
theorem dX5_sheet_19 : decode cX5_sheet 19 = .ok (.iload_n 3, 1) := by decide +kernel
theorem dX5_sheet_20 : decode cX5_sheet 20 = .ok (.bipush 60, 2) := by decide +kernel
theorem dX5_sheet_22 : decode cX5_sheet 22 = .ok (.if_icmp .le 6, 3) := by decide +kernel
theorem dX5_sheet_25 : decode cX5_sheet 25 = .ok (.bipush (-2), 2) := by decide +kernel
theorem dX5_sheet_27 : decode cX5_sheet 27 = .ok (.ireturn, 1) := by decide +kernel
theorem dX5_sheet_28 : decode cX5_sheet 28 = .ok (.iload_n 3, 1) := by decide +kernel
theorem dX5_sheet_29 : decode cX5_sheet 29 = .ok (.ifCond .ge 9, 3) := by decide +kernel
theorem dX5_sheet_32 : decode cX5_sheet 32 = .ok (.aload_n 0, 1) := by decide +kernel
theorem dX5_sheet_33 : decode cX5_sheet 33 = .ok (.iconst 5, 1) := by decide +kernel
theorem dX5_sheet_34 : decode cX5_sheet 34 = .ok (.invokevirtual 107, 3) := by decide +kernel
theorem dX5_sheet_37 : decode cX5_sheet 37 = .ok (.ireturn, 1) := by decide +kernel
theorem dX5_sheet_38 : decode cX5_sheet 38 = .ok (.aload_n 0, 1) := by decide +kernel
theorem dX5_sheet_39 : decode cX5_sheet 39 = .ok (.getfield 7, 3) := by decide +kernel
theorem dX5_sheet_42 : decode cX5_sheet 42 = .ok (.iload_n 1, 1) := by decide +kernel
theorem dX5_sheet_43 : decode cX5_sheet 43 = .ok (.iload_n 2, 1) := by decide +kernel
theorem dX5_sheet_44 : decode cX5_sheet 44 = .ok (.iastore, 1) := by decide +kernel
theorem dX5_sheet_45 : decode cX5_sheet 45 = .ok (.aload_n 0, 1) := by decide +kernel
theorem dX5_sheet_46 : decode cX5_sheet 46 = .ok (.getfield 13, 3) := by decide +kernel
theorem dX5_sheet_49 : decode cX5_sheet 49 = .ok (.iload_n 1, 1) := by decide +kernel
theorem dX5_sheet_50 : decode cX5_sheet 50 = .ok (.iload_n 3, 1) := by decide +kernel
theorem dX5_sheet_51 : decode cX5_sheet 51 = .ok (.iastore, 1) := by decide +kernel
theorem dX5_sheet_52 : decode cX5_sheet 52 = .ok (.iconst 0, 1) := by decide +kernel
theorem dX5_sheet_53 : decode cX5_sheet 53 = .ok (.istore 4, 2) := by decide +kernel
theorem dX5_sheet_55 : decode cX5_sheet 55 = .ok (.iload 4, 2) := by decide +kernel
theorem dX5_sheet_57 : decode cX5_sheet 57 = .ok (.iload_n 3, 1) := by decide +kernel
theorem dX5_sheet_58 : decode cX5_sheet 58 = .ok (.if_icmp .ge 22, 3) := by decide +kernel
theorem dX5_sheet_61 : decode cX5_sheet 61 = .ok (.aload_n 0, 1) := by decide +kernel
theorem dX5_sheet_62 : decode cX5_sheet 62 = .ok (.getfield 16, 3) := by decide +kernel
theorem dX5_sheet_65 : decode cX5_sheet 65 = .ok (.bipush 60, 2) := by decide +kernel
theorem dX5_sheet_67 : decode cX5_sheet 67 = .ok (.iload_n 1, 1) := by decide +kernel
theorem dX5_sheet_68 : decode cX5_sheet 68 = .ok (.imul, 1) := by decide +kernel
theorem dX5_sheet_69 : decode cX5_sheet 69 = .ok (.iload 4, 2) := by decide +kernel
theorem dX5_sheet_71 : decode cX5_sheet 71 = .ok (.iadd, 1) := by decide +kernel
theorem dX5_sheet_72 : decode cX5_sheet 72 = .ok (.lconst 0, 1) := by decide +kernel
theorem dX5_sheet_73 : decode cX5_sheet 73 = .ok (.lastore, 1) := by decide +kernel
theorem dX5_sheet_74 : decode cX5_sheet 74 = .ok (.iinc 4 1, 3) := by decide +kernel
theorem dX5_sheet_77 : decode cX5_sheet 77 = .ok (.goto (-22), 3) := by decide +kernel
theorem dX5_sheet_80 : decode cX5_sheet 80 = .ok (.iload_n 3, 1) := by decide +kernel
theorem dX5_sheet_81 : decode cX5_sheet 81 = .ok (.ireturn, 1) := by decide +kernel
theorem dX5_lose_0 : decode cX5_lose 0 = .ok (.iload_n 1, 1) := by decide +kernel
theorem dX5_lose_1 : decode cX5_lose 1 = .ok (.invokestatic 101, 3) := by decide +kernel
theorem dX5_lose_4 : decode cX5_lose 4 = .ok (.ifCond .ne 6, 3) := by decide +kernel
theorem dX5_lose_7 : decode cX5_lose 7 = .ok (.bipush (-2), 2) := by decide +kernel
theorem dX5_lose_9 : decode cX5_lose 9 = .ok (.ireturn, 1) := by decide +kernel
theorem dX5_lose_10 : decode cX5_lose 10 = .ok (.aload_n 0, 1) := by decide +kernel
theorem dX5_lose_11 : decode cX5_lose 11 = .ok (.getfield 7, 3) := by decide +kernel
theorem dX5_lose_14 : decode cX5_lose 14 = .ok (.iload_n 1, 1) := by decide +kernel
theorem dX5_lose_15 : decode cX5_lose 15 = .ok (.iaload, 1) := by decide +kernel
theorem dX5_lose_16 : decode cX5_lose 16 = .ok (.ifCond .ge 9, 3) := by decide +kernel
theorem dX5_lose_19 : decode cX5_lose 19 = .ok (.aload_n 0, 1) := by decide +kernel
theorem dX5_lose_20 : decode cX5_lose 20 = .ok (.iconst 1, 1) := by decide +kernel
theorem dX5_lose_21 : decode cX5_lose 21 = .ok (.invokevirtual 107, 3) := by decide +kernel
theorem dX5_lose_24 : decode cX5_lose 24 = .ok (.ireturn, 1) := by decide +kernel
theorem dX5_lose_25 : decode cX5_lose 25 = .ok (.aload_n 0, 1) := by decide +kernel
theorem dX5_lose_26 : decode cX5_lose 26 = .ok (.getfield 7, 3) := by decide +kernel
theorem dX5_lose_29 : decode cX5_lose 29 = .ok (.iload_n 1, 1) := by decide +kernel
theorem dX5_lose_30 : decode cX5_lose 30 = .ok (.iconst (-1), 1) := by decide +kernel
theorem dX5_lose_31 : decode cX5_lose 31 = .ok (.iastore, 1) := by decide +kernel
theorem dX5_lose_32 : decode cX5_lose 32 = .ok (.aload_n 0, 1) := by decide +kernel
theorem dX5_lose_33 : decode cX5_lose 33 = .ok (.getfield 13, 3) := by decide +kernel
theorem dX5_lose_36 : decode cX5_lose 36 = .ok (.iload_n 1, 1) := by decide +kernel
theorem dX5_lose_37 : decode cX5_lose 37 = .ok (.iaload, 1) := by decide +kernel
theorem dX5_lose_38 : decode cX5_lose 38 = .ok (.ireturn, 1) := by decide +kernel
theorem dX5_lacks_0 : decode cX5_lacks 0 = .ok (.aload_n 0, 1) := by decide +kernel
theorem dX5_lacks_1 : decode cX5_lacks 1 = .ok (.getfield 7, 3) := by decide +kernel
theorem dX5_lacks_4 : decode cX5_lacks 4 = .ok (.iload_n 1, 1) := by decide +kernel
theorem dX5_lacks_5 : decode cX5_lacks 5 = .ok (.iaload, 1) := by decide +kernel
theorem dX5_lacks_6 : decode cX5_lacks 6 = .ok (.ifCond .ge 9, 3) := by decide +kernel
theorem dX5_lacks_9 : decode cX5_lacks 9 = .ok (.aload_n 0, 1) := by decide +kernel
theorem dX5_lacks_10 : decode cX5_lacks 10 = .ok (.iconst 1, 1) := by decide +kernel
theorem dX5_lacks_11 : decode cX5_lacks 11 = .ok (.invokevirtual 107, 3) := by decide +kernel
theorem dX5_lacks_14 : decode cX5_lacks 14 = .ok (.ireturn, 1) := by decide +kernel
theorem dX5_lacks_15 : decode cX5_lacks 15 = .ok (.aload_n 0, 1) := by decide +kernel
theorem dX5_lacks_16 : decode cX5_lacks 16 = .ok (.getfield 7, 3) := by decide +kernel
theorem dX5_lacks_19 : decode cX5_lacks 19 = .ok (.iload_n 1, 1) := by decide +kernel
theorem dX5_lacks_20 : decode cX5_lacks 20 = .ok (.iaload, 1) := by decide +kernel
theorem dX5_lacks_21 : decode cX5_lacks 21 = .ok (.iload_n 2, 1) := by decide +kernel
theorem dX5_lacks_22 : decode cX5_lacks 22 = .ok (.if_icmp .eq 9, 3) := by decide +kernel
theorem dX5_lacks_25 : decode cX5_lacks 25 = .ok (.aload_n 0, 1) := by decide +kernel
theorem dX5_lacks_26 : decode cX5_lacks 26 = .ok (.iconst 3, 1) := by decide +kernel
theorem dX5_lacks_27 : decode cX5_lacks 27 = .ok (.invokevirtual 107, 3) := by decide +kernel
theorem dX5_lacks_30 : decode cX5_lacks 30 = .ok (.ireturn, 1) := by decide +kernel
theorem dX5_lacks_31 : decode cX5_lacks 31 = .ok (.iload_n 3, 1) := by decide +kernel
theorem dX5_lacks_32 : decode cX5_lacks 32 = .ok (.i2l, 1) := by decide +kernel
theorem dX5_lacks_33 : decode cX5_lacks 33 = .ok (.lconst 0, 1) := by decide +kernel
theorem dX5_lacks_34 : decode cX5_lacks 34 = .ok (.aload_n 0, 1) := by decide +kernel
theorem dX5_lacks_35 : decode cX5_lacks 35 = .ok (.getfield 13, 3) := by decide +kernel
theorem dX5_lacks_38 : decode cX5_lacks 38 = .ok (.iload_n 1, 1) := by decide +kernel
theorem dX5_lacks_39 : decode cX5_lacks 39 = .ok (.iaload, 1) := by decide +kernel
theorem dX5_lacks_40 : decode cX5_lacks 40 = .ok (.iconst 1, 1) := by decide +kernel
theorem dX5_lacks_41 : decode cX5_lacks 41 = .ok (.isub, 1) := by decide +kernel
theorem dX5_lacks_42 : decode cX5_lacks 42 = .ok (.i2l, 1) := by decide +kernel
theorem dX5_lacks_43 : decode cX5_lacks 43 = .ok (.invokestatic 89, 3) := by decide +kernel
theorem dX5_lacks_46 : decode cX5_lacks 46 = .ok (.ifCond .eq 7, 3) := by decide +kernel
theorem dX5_lacks_49 : decode cX5_lacks 49 = .ok (.iconst 0, 1) := by decide +kernel
theorem dX5_lacks_50 : decode cX5_lacks 50 = .ok (.goto 8, 3) := by decide +kernel
theorem dX5_lacks_53 : decode cX5_lacks 53 = .ok (.aload_n 0, 1) := by decide +kernel
theorem dX5_lacks_54 : decode cX5_lacks 54 = .ok (.iconst 2, 1) := by decide +kernel
theorem dX5_lacks_55 : decode cX5_lacks 55 = .ok (.invokevirtual 107, 3) := by decide +kernel
theorem dX5_lacks_58 : decode cX5_lacks 58 = .ok (.ireturn, 1) := by decide +kernel
theorem dX5_lay_0 : decode cX5_lay 0 = .ok (.iload_n 1, 1) := by decide +kernel
theorem dX5_lay_1 : decode cX5_lay 1 = .ok (.invokestatic 101, 3) := by decide +kernel
theorem dX5_lay_4 : decode cX5_lay 4 = .ok (.ifCond .eq 15, 3) := by decide +kernel
theorem dX5_lay_7 : decode cX5_lay 7 = .ok (.iload_n 2, 1) := by decide +kernel
theorem dX5_lay_8 : decode cX5_lay 8 = .ok (.i2l, 1) := by decide +kernel
theorem dX5_lay_9 : decode cX5_lay 9 = .ok (.lconst 0, 1) := by decide +kernel
theorem dX5_lay_10 : decode cX5_lay 10 = .ok (.ldc2_w 105, 3) := by decide +kernel
theorem dX5_lay_13 : decode cX5_lay 13 = .ok (.invokestatic 89, 3) := by decide +kernel
theorem dX5_lay_16 : decode cX5_lay 16 = .ok (.ifCond .ne 6, 3) := by decide +kernel
theorem dX5_lay_19 : decode cX5_lay 19 = .ok (.bipush (-2), 2) := by decide +kernel
theorem dX5_lay_21 : decode cX5_lay 21 = .ok (.ireturn, 1) := by decide +kernel
theorem dX5_lay_22 : decode cX5_lay 22 = .ok (.aload_n 0, 1) := by decide +kernel
theorem dX5_lay_23 : decode cX5_lay 23 = .ok (.iload_n 1, 1) := by decide +kernel
theorem dX5_lay_24 : decode cX5_lay 24 = .ok (.iload_n 2, 1) := by decide +kernel
theorem dX5_lay_25 : decode cX5_lay 25 = .ok (.iload_n 3, 1) := by decide +kernel
theorem dX5_lay_26 : decode cX5_lay 26 = .ok (.invokevirtual 111, 3) := by decide +kernel
theorem dX5_lay_29 : decode cX5_lay 29 = .ok (.istore 5, 2) := by decide +kernel
theorem dX5_lay_31 : decode cX5_lay 31 = .ok (.iload 5, 2) := by decide +kernel
theorem dX5_lay_33 : decode cX5_lay 33 = .ok (.ifCond .eq 6, 3) := by decide +kernel
theorem dX5_lay_36 : decode cX5_lay 36 = .ok (.iload 5, 2) := by decide +kernel
theorem dX5_lay_38 : decode cX5_lay 38 = .ok (.ireturn, 1) := by decide +kernel
theorem dX5_lay_39 : decode cX5_lay 39 = .ok (.aload_n 0, 1) := by decide +kernel
theorem dX5_lay_40 : decode cX5_lay 40 = .ok (.getfield 16, 3) := by decide +kernel
theorem dX5_lay_43 : decode cX5_lay 43 = .ok (.bipush 60, 2) := by decide +kernel
theorem dX5_lay_45 : decode cX5_lay 45 = .ok (.iload_n 1, 1) := by decide +kernel
theorem dX5_lay_46 : decode cX5_lay 46 = .ok (.imul, 1) := by decide +kernel
theorem dX5_lay_47 : decode cX5_lay 47 = .ok (.iload_n 3, 1) := by decide +kernel
theorem dX5_lay_48 : decode cX5_lay 48 = .ok (.iadd, 1) := by decide +kernel
theorem dX5_lay_49 : decode cX5_lay 49 = .ok (.iload_n 2, 1) := by decide +kernel
theorem dX5_lay_50 : decode cX5_lay 50 = .ok (.ifCond .ne 10, 3) := by decide +kernel
theorem dX5_lay_53 : decode cX5_lay 53 = .ok (.iload 4, 2) := by decide +kernel
theorem dX5_lay_55 : decode cX5_lay 55 = .ok (.i2s, 1) := by decide +kernel
theorem dX5_lay_56 : decode cX5_lay 56 = .ok (.i2l, 1) := by decide +kernel
theorem dX5_lay_57 : decode cX5_lay 57 = .ok (.goto 21, 3) := by decide +kernel
theorem dX5_lay_60 : decode cX5_lay 60 = .ok (.iload_n 2, 1) := by decide +kernel
theorem dX5_lay_61 : decode cX5_lay 61 = .ok (.iconst 1, 1) := by decide +kernel
theorem dX5_lay_62 : decode cX5_lay 62 = .ok (.if_icmp .ne 9, 3) := by decide +kernel
theorem dX5_lay_65 : decode cX5_lay 65 = .ok (.iload 4, 2) := by decide +kernel
theorem dX5_lay_67 : decode cX5_lay 67 = .ok (.i2l, 1) := by decide +kernel
theorem dX5_lay_68 : decode cX5_lay 68 = .ok (.goto 10, 3) := by decide +kernel
theorem dX5_lay_71 : decode cX5_lay 71 = .ok (.ldc2_w 115, 3) := by decide +kernel
theorem dX5_lay_74 : decode cX5_lay 74 = .ok (.iload 4, 2) := by decide +kernel
theorem dX5_lay_76 : decode cX5_lay 76 = .ok (.i2l, 1) := by decide +kernel
theorem dX5_lay_77 : decode cX5_lay 77 = .ok (.lmul, 1) := by decide +kernel
theorem dX5_lay_78 : decode cX5_lay 78 = .ok (.lastore, 1) := by decide +kernel
theorem dX5_lay_79 : decode cX5_lay 79 = .ok (.iconst 1, 1) := by decide +kernel
theorem dX5_lay_80 : decode cX5_lay 80 = .ok (.ireturn, 1) := by decide +kernel
theorem dX5_get_0 : decode cX5_get 0 = .ok (.iload_n 1, 1) := by decide +kernel
theorem dX5_get_1 : decode cX5_get 1 = .ok (.invokestatic 101, 3) := by decide +kernel
theorem dX5_get_4 : decode cX5_get 4 = .ok (.ifCond .eq 15, 3) := by decide +kernel
theorem dX5_get_7 : decode cX5_get 7 = .ok (.iload_n 2, 1) := by decide +kernel
theorem dX5_get_8 : decode cX5_get 8 = .ok (.i2l, 1) := by decide +kernel
theorem dX5_get_9 : decode cX5_get 9 = .ok (.lconst 0, 1) := by decide +kernel
theorem dX5_get_10 : decode cX5_get 10 = .ok (.ldc2_w 105, 3) := by decide +kernel
theorem dX5_get_13 : decode cX5_get 13 = .ok (.invokestatic 89, 3) := by decide +kernel
theorem dX5_get_16 : decode cX5_get 16 = .ok (.ifCond .ne 9, 3) := by decide +kernel
theorem dX5_get_19 : decode cX5_get 19 = .ok (.bipush (-2), 2) := by decide +kernel
theorem dX5_get_21 : decode cX5_get 21 = .ok (.invokestatic 117, 3) := by decide +kernel
theorem dX5_get_24 : decode cX5_get 24 = .ok (.lreturn, 1) := by decide +kernel
theorem dX5_get_25 : decode cX5_get 25 = .ok (.aload_n 0, 1) := by decide +kernel
theorem dX5_get_26 : decode cX5_get 26 = .ok (.iload_n 1, 1) := by decide +kernel
theorem dX5_get_27 : decode cX5_get 27 = .ok (.iload_n 2, 1) := by decide +kernel
theorem dX5_get_28 : decode cX5_get 28 = .ok (.iload_n 3, 1) := by decide +kernel
theorem dX5_get_29 : decode cX5_get 29 = .ok (.invokevirtual 111, 3) := by decide +kernel
theorem dX5_get_32 : decode cX5_get 32 = .ok (.istore 4, 2) := by decide +kernel
theorem dX5_get_34 : decode cX5_get 34 = .ok (.iload 4, 2) := by decide +kernel
theorem dX5_get_36 : decode cX5_get 36 = .ok (.ifCond .eq 11, 3) := by decide +kernel
theorem dX5_get_39 : decode cX5_get 39 = .ok (.iload 4, 2) := by decide +kernel
theorem dX5_get_41 : decode cX5_get 41 = .ok (.invokestatic 117, 3) := by decide +kernel
theorem dX5_get_44 : decode cX5_get 44 = .ok (.goto 14, 3) := by decide +kernel
theorem dX5_get_47 : decode cX5_get 47 = .ok (.aload_n 0, 1) := by decide +kernel
theorem dX5_get_48 : decode cX5_get 48 = .ok (.getfield 16, 3) := by decide +kernel
theorem dX5_get_51 : decode cX5_get 51 = .ok (.bipush 60, 2) := by decide +kernel
theorem dX5_get_53 : decode cX5_get 53 = .ok (.iload_n 1, 1) := by decide +kernel
theorem dX5_get_54 : decode cX5_get 54 = .ok (.imul, 1) := by decide +kernel
theorem dX5_get_55 : decode cX5_get 55 = .ok (.iload_n 3, 1) := by decide +kernel
theorem dX5_get_56 : decode cX5_get 56 = .ok (.iadd, 1) := by decide +kernel
theorem dX5_get_57 : decode cX5_get 57 = .ok (.laload, 1) := by decide +kernel
theorem dX5_get_58 : decode cX5_get 58 = .ok (.lreturn, 1) := by decide +kernel
theorem dX5_copy_0 : decode cX5_copy 0 = .ok (.iload_n 1, 1) := by decide +kernel
theorem dX5_copy_1 : decode cX5_copy 1 = .ok (.invokestatic 101, 3) := by decide +kernel
theorem dX5_copy_4 : decode cX5_copy 4 = .ok (.ifCond .eq 10, 3) := by decide +kernel
theorem dX5_copy_7 : decode cX5_copy 7 = .ok (.iload_n 3, 1) := by decide +kernel
theorem dX5_copy_8 : decode cX5_copy 8 = .ok (.invokestatic 101, 3) := by decide +kernel
theorem dX5_copy_11 : decode cX5_copy 11 = .ok (.ifCond .ne 6, 3) := by decide +kernel
theorem dX5_copy_14 : decode cX5_copy 14 = .ok (.bipush (-2), 2) := by decide +kernel
theorem dX5_copy_16 : decode cX5_copy 16 = .ok (.ireturn, 1) := by decide +kernel
theorem dX5_copy_17 : decode cX5_copy 17 = .ok (.aload_n 0, 1) := by decide +kernel
theorem dX5_copy_18 : decode cX5_copy 18 = .ok (.getfield 7, 3) := by decide +kernel
theorem dX5_copy_21 : decode cX5_copy 21 = .ok (.iload_n 1, 1) := by decide +kernel
theorem dX5_copy_22 : decode cX5_copy 22 = .ok (.iaload, 1) := by decide +kernel
theorem dX5_copy_23 : decode cX5_copy 23 = .ok (.ifCond .lt 12, 3) := by decide +kernel
theorem dX5_copy_26 : decode cX5_copy 26 = .ok (.aload_n 0, 1) := by decide +kernel
theorem dX5_copy_27 : decode cX5_copy 27 = .ok (.getfield 7, 3) := by decide +kernel
theorem dX5_copy_30 : decode cX5_copy 30 = .ok (.iload_n 3, 1) := by decide +kernel
theorem dX5_copy_31 : decode cX5_copy 31 = .ok (.iaload, 1) := by decide +kernel
theorem dX5_copy_32 : decode cX5_copy 32 = .ok (.ifCond .ge 9, 3) := by decide +kernel
theorem dX5_copy_35 : decode cX5_copy 35 = .ok (.aload_n 0, 1) := by decide +kernel
theorem dX5_copy_36 : decode cX5_copy 36 = .ok (.iconst 1, 1) := by decide +kernel
theorem dX5_copy_37 : decode cX5_copy 37 = .ok (.invokevirtual 107, 3) := by decide +kernel
theorem dX5_copy_40 : decode cX5_copy 40 = .ok (.ireturn, 1) := by decide +kernel
theorem dX5_copy_41 : decode cX5_copy 41 = .ok (.aload_n 0, 1) := by decide +kernel
theorem dX5_copy_42 : decode cX5_copy 42 = .ok (.getfield 7, 3) := by decide +kernel
theorem dX5_copy_45 : decode cX5_copy 45 = .ok (.iload_n 1, 1) := by decide +kernel
theorem dX5_copy_46 : decode cX5_copy 46 = .ok (.iaload, 1) := by decide +kernel
theorem dX5_copy_47 : decode cX5_copy 47 = .ok (.aload_n 0, 1) := by decide +kernel
theorem dX5_copy_48 : decode cX5_copy 48 = .ok (.getfield 7, 3) := by decide +kernel
theorem dX5_copy_51 : decode cX5_copy 51 = .ok (.iload_n 3, 1) := by decide +kernel
theorem dX5_copy_52 : decode cX5_copy 52 = .ok (.iaload, 1) := by decide +kernel
theorem dX5_copy_53 : decode cX5_copy 53 = .ok (.if_icmp .eq 9, 3) := by decide +kernel
theorem dX5_copy_56 : decode cX5_copy 56 = .ok (.aload_n 0, 1) := by decide +kernel
theorem dX5_copy_57 : decode cX5_copy 57 = .ok (.iconst 4, 1) := by decide +kernel
theorem dX5_copy_58 : decode cX5_copy 58 = .ok (.invokevirtual 107, 3) := by decide +kernel
theorem dX5_copy_61 : decode cX5_copy 61 = .ok (.ireturn, 1) := by decide +kernel
theorem dX5_copy_62 : decode cX5_copy 62 = .ok (.iload_n 2, 1) := by decide +kernel
theorem dX5_copy_63 : decode cX5_copy 63 = .ok (.ifCond .lt 48, 3) := by decide +kernel
theorem dX5_copy_66 : decode cX5_copy 66 = .ok (.iload 4, 2) := by decide +kernel
theorem dX5_copy_68 : decode cX5_copy 68 = .ok (.ifCond .lt 43, 3) := by decide +kernel
theorem dX5_copy_71 : decode cX5_copy 71 = .ok (.iload 5, 2) := by decide +kernel
theorem dX5_copy_73 : decode cX5_copy 73 = .ok (.ifCond .lt 38, 3) := by decide +kernel
theorem dX5_copy_76 : decode cX5_copy 76 = .ok (.iload_n 2, 1) := by decide +kernel
theorem dX5_copy_77 : decode cX5_copy 77 = .ok (.i2l, 1) := by decide +kernel
theorem dX5_copy_78 : decode cX5_copy 78 = .ok (.iload 5, 2) := by decide +kernel
theorem dX5_copy_80 : decode cX5_copy 80 = .ok (.i2l, 1) := by decide +kernel
theorem dX5_copy_81 : decode cX5_copy 81 = .ok (.ladd, 1) := by decide +kernel
theorem dX5_copy_82 : decode cX5_copy 82 = .ok (.aload_n 0, 1) := by decide +kernel
theorem dX5_copy_83 : decode cX5_copy 83 = .ok (.getfield 13, 3) := by decide +kernel
theorem dX5_copy_86 : decode cX5_copy 86 = .ok (.iload_n 1, 1) := by decide +kernel
theorem dX5_copy_87 : decode cX5_copy 87 = .ok (.iaload, 1) := by decide +kernel
theorem dX5_copy_88 : decode cX5_copy 88 = .ok (.i2l, 1) := by decide +kernel
theorem dX5_copy_89 : decode cX5_copy 89 = .ok (.lcmp, 1) := by decide +kernel
theorem dX5_copy_90 : decode cX5_copy 90 = .ok (.ifCond .gt 21, 3) := by decide +kernel
theorem dX5_copy_93 : decode cX5_copy 93 = .ok (.iload 4, 2) := by decide +kernel
theorem dX5_copy_95 : decode cX5_copy 95 = .ok (.i2l, 1) := by decide +kernel
theorem dX5_copy_96 : decode cX5_copy 96 = .ok (.iload 5, 2) := by decide +kernel
theorem dX5_copy_98 : decode cX5_copy 98 = .ok (.i2l, 1) := by decide +kernel
theorem dX5_copy_99 : decode cX5_copy 99 = .ok (.ladd, 1) := by decide +kernel
theorem dX5_copy_100 : decode cX5_copy 100 = .ok (.aload_n 0, 1) := by decide +kernel
theorem dX5_copy_101 : decode cX5_copy 101 = .ok (.getfield 13, 3) := by decide +kernel
theorem dX5_copy_104 : decode cX5_copy 104 = .ok (.iload_n 3, 1) := by decide +kernel
theorem dX5_copy_105 : decode cX5_copy 105 = .ok (.iaload, 1) := by decide +kernel
theorem dX5_copy_106 : decode cX5_copy 106 = .ok (.i2l, 1) := by decide +kernel
theorem dX5_copy_107 : decode cX5_copy 107 = .ok (.lcmp, 1) := by decide +kernel
theorem dX5_copy_108 : decode cX5_copy 108 = .ok (.ifCond .le 9, 3) := by decide +kernel
theorem dX5_copy_111 : decode cX5_copy 111 = .ok (.aload_n 0, 1) := by decide +kernel
theorem dX5_copy_112 : decode cX5_copy 112 = .ok (.iconst 2, 1) := by decide +kernel
theorem dX5_copy_113 : decode cX5_copy 113 = .ok (.invokevirtual 107, 3) := by decide +kernel
theorem dX5_copy_116 : decode cX5_copy 116 = .ok (.ireturn, 1) := by decide +kernel
theorem dX5_copy_117 : decode cX5_copy 117 = .ok (.iconst 0, 1) := by decide +kernel
theorem dX5_copy_118 : decode cX5_copy 118 = .ok (.istore 6, 2) := by decide +kernel
theorem dX5_copy_120 : decode cX5_copy 120 = .ok (.iload 6, 2) := by decide +kernel
theorem dX5_copy_122 : decode cX5_copy 122 = .ok (.iload 5, 2) := by decide +kernel
theorem dX5_copy_124 : decode cX5_copy 124 = .ok (.if_icmp .ge 30, 3) := by decide +kernel
theorem dX5_copy_127 : decode cX5_copy 127 = .ok (.aload_n 0, 1) := by decide +kernel
theorem dX5_copy_128 : decode cX5_copy 128 = .ok (.getfield 20, 3) := by decide +kernel
theorem dX5_copy_131 : decode cX5_copy 131 = .ok (.iload 6, 2) := by decide +kernel
theorem dX5_copy_133 : decode cX5_copy 133 = .ok (.aload_n 0, 1) := by decide +kernel
theorem dX5_copy_134 : decode cX5_copy 134 = .ok (.getfield 16, 3) := by decide +kernel
theorem dX5_copy_137 : decode cX5_copy 137 = .ok (.bipush 60, 2) := by decide +kernel
theorem dX5_copy_139 : decode cX5_copy 139 = .ok (.iload_n 1, 1) := by decide +kernel
theorem dX5_copy_140 : decode cX5_copy 140 = .ok (.imul, 1) := by decide +kernel
theorem dX5_copy_141 : decode cX5_copy 141 = .ok (.iload_n 2, 1) := by decide +kernel
theorem dX5_copy_142 : decode cX5_copy 142 = .ok (.iadd, 1) := by decide +kernel
theorem dX5_copy_143 : decode cX5_copy 143 = .ok (.iload 6, 2) := by decide +kernel
theorem dX5_copy_145 : decode cX5_copy 145 = .ok (.iadd, 1) := by decide +kernel
theorem dX5_copy_146 : decode cX5_copy 146 = .ok (.laload, 1) := by decide +kernel
theorem dX5_copy_147 : decode cX5_copy 147 = .ok (.lastore, 1) := by decide +kernel
theorem dX5_copy_148 : decode cX5_copy 148 = .ok (.iinc 6 1, 3) := by decide +kernel
theorem dX5_copy_151 : decode cX5_copy 151 = .ok (.goto (-31), 3) := by decide +kernel
theorem dX5_copy_154 : decode cX5_copy 154 = .ok (.iconst 0, 1) := by decide +kernel
theorem dX5_copy_155 : decode cX5_copy 155 = .ok (.istore 6, 2) := by decide +kernel
theorem dX5_copy_157 : decode cX5_copy 157 = .ok (.iload 6, 2) := by decide +kernel
theorem dX5_copy_159 : decode cX5_copy 159 = .ok (.iload 5, 2) := by decide +kernel
theorem dX5_copy_161 : decode cX5_copy 161 = .ok (.if_icmp .ge 31, 3) := by decide +kernel
theorem dX5_copy_164 : decode cX5_copy 164 = .ok (.aload_n 0, 1) := by decide +kernel
theorem dX5_copy_165 : decode cX5_copy 165 = .ok (.getfield 16, 3) := by decide +kernel
theorem dX5_copy_168 : decode cX5_copy 168 = .ok (.bipush 60, 2) := by decide +kernel
theorem dX5_copy_170 : decode cX5_copy 170 = .ok (.iload_n 3, 1) := by decide +kernel
theorem dX5_copy_171 : decode cX5_copy 171 = .ok (.imul, 1) := by decide +kernel
theorem dX5_copy_172 : decode cX5_copy 172 = .ok (.iload 4, 2) := by decide +kernel
theorem dX5_copy_174 : decode cX5_copy 174 = .ok (.iadd, 1) := by decide +kernel
theorem dX5_copy_175 : decode cX5_copy 175 = .ok (.iload 6, 2) := by decide +kernel
theorem dX5_copy_177 : decode cX5_copy 177 = .ok (.iadd, 1) := by decide +kernel
theorem dX5_copy_178 : decode cX5_copy 178 = .ok (.aload_n 0, 1) := by decide +kernel
theorem dX5_copy_179 : decode cX5_copy 179 = .ok (.getfield 20, 3) := by decide +kernel
theorem dX5_copy_182 : decode cX5_copy 182 = .ok (.iload 6, 2) := by decide +kernel
theorem dX5_copy_184 : decode cX5_copy 184 = .ok (.laload, 1) := by decide +kernel
theorem dX5_copy_185 : decode cX5_copy 185 = .ok (.lastore, 1) := by decide +kernel
theorem dX5_copy_186 : decode cX5_copy 186 = .ok (.iinc 6 1, 3) := by decide +kernel
theorem dX5_copy_189 : decode cX5_copy 189 = .ok (.goto (-32), 3) := by decide +kernel
theorem dX5_copy_192 : decode cX5_copy 192 = .ok (.iconst 1, 1) := by decide +kernel
theorem dX5_copy_193 : decode cX5_copy 193 = .ok (.ireturn, 1) := by decide +kernel
theorem dX5_isChain_0 : decode cX5_isChain 0 = .ok (.iload_n 0, 1) := by decide +kernel
theorem dX5_isChain_1 : decode cX5_isChain 1 = .ok (.i2l, 1) := by decide +kernel
theorem dX5_isChain_2 : decode cX5_isChain 2 = .ok (.lconst 0, 1) := by decide +kernel
theorem dX5_isChain_3 : decode cX5_isChain 3 = .ok (.ldc2_w 105, 3) := by decide +kernel
theorem dX5_isChain_6 : decode cX5_isChain 6 = .ok (.invokestatic 89, 3) := by decide +kernel
theorem dX5_isChain_9 : decode cX5_isChain 9 = .ok (.ireturn, 1) := by decide +kernel
theorem dX5_isStep_0 : decode cX5_isStep 0 = .ok (.iload_n 1, 1) := by decide +kernel
theorem dX5_isStep_1 : decode cX5_isStep 1 = .ok (.invokestatic 121, 3) := by decide +kernel
theorem dX5_isStep_4 : decode cX5_isStep 4 = .ok (.ifCond .eq 25, 3) := by decide +kernel
theorem dX5_isStep_7 : decode cX5_isStep 7 = .ok (.iload_n 2, 1) := by decide +kernel
theorem dX5_isStep_8 : decode cX5_isStep 8 = .ok (.i2l, 1) := by decide +kernel
theorem dX5_isStep_9 : decode cX5_isStep 9 = .ok (.lconst 0, 1) := by decide +kernel
theorem dX5_isStep_10 : decode cX5_isStep 10 = .ok (.aload_n 0, 1) := by decide +kernel
theorem dX5_isStep_11 : decode cX5_isStep 11 = .ok (.getfield 38, 3) := by decide +kernel
theorem dX5_isStep_14 : decode cX5_isStep 14 = .ok (.iload_n 1, 1) := by decide +kernel
theorem dX5_isStep_15 : decode cX5_isStep 15 = .ok (.iaload, 1) := by decide +kernel
theorem dX5_isStep_16 : decode cX5_isStep 16 = .ok (.iconst 1, 1) := by decide +kernel
theorem dX5_isStep_17 : decode cX5_isStep 17 = .ok (.isub, 1) := by decide +kernel
theorem dX5_isStep_18 : decode cX5_isStep 18 = .ok (.i2l, 1) := by decide +kernel
theorem dX5_isStep_19 : decode cX5_isStep 19 = .ok (.invokestatic 89, 3) := by decide +kernel
theorem dX5_isStep_22 : decode cX5_isStep 22 = .ok (.ifCond .eq 7, 3) := by decide +kernel
theorem dX5_isStep_25 : decode cX5_isStep 25 = .ok (.iconst 1, 1) := by decide +kernel
theorem dX5_isStep_26 : decode cX5_isStep 26 = .ok (.goto 4, 3) := by decide +kernel
theorem dX5_isStep_29 : decode cX5_isStep 29 = .ok (.iconst 0, 1) := by decide +kernel
theorem dX5_isStep_30 : decode cX5_isStep 30 = .ok (.ireturn, 1) := by decide +kernel
theorem dX5_isThere_0 : decode cX5_isThere 0 = .ok (.iload_n 1, 1) := by decide +kernel
theorem dX5_isThere_1 : decode cX5_isThere 1 = .ok (.iconst 3, 1) := by decide +kernel
theorem dX5_isThere_2 : decode cX5_isThere 2 = .ok (.irem, 1) := by decide +kernel
theorem dX5_isThere_3 : decode cX5_isThere 3 = .ok (.aload_n 0, 1) := by decide +kernel
theorem dX5_isThere_4 : decode cX5_isThere 4 = .ok (.getfield 38, 3) := by decide +kernel
theorem dX5_isThere_7 : decode cX5_isThere 7 = .ok (.iload_n 1, 1) := by decide +kernel
theorem dX5_isThere_8 : decode cX5_isThere 8 = .ok (.iconst 3, 1) := by decide +kernel
theorem dX5_isThere_9 : decode cX5_isThere 9 = .ok (.idiv, 1) := by decide +kernel
theorem dX5_isThere_10 : decode cX5_isThere 10 = .ok (.iaload, 1) := by decide +kernel
theorem dX5_isThere_11 : decode cX5_isThere 11 = .ok (.if_icmp .ge 7, 3) := by decide +kernel
theorem dX5_isThere_14 : decode cX5_isThere 14 = .ok (.iconst 1, 1) := by decide +kernel
theorem dX5_isThere_15 : decode cX5_isThere 15 = .ok (.goto 4, 3) := by decide +kernel
theorem dX5_isThere_18 : decode cX5_isThere 18 = .ok (.iconst 0, 1) := by decide +kernel
theorem dX5_isThere_19 : decode cX5_isThere 19 = .ok (.ireturn, 1) := by decide +kernel
theorem dX5_hasBy_0 : decode cX5_hasBy 0 = .ok (.iload_n 2, 1) := by decide +kernel
theorem dX5_hasBy_1 : decode cX5_hasBy 1 = .ok (.tableswitch 70 0 4 #[35, 42, 49, 56, 63], 35) := by decide +kernel
theorem dX5_hasBy_36 : decode cX5_hasBy 36 = .ok (.aload_n 0, 1) := by decide +kernel
theorem dX5_hasBy_37 : decode cX5_hasBy 37 = .ok (.getfield 23, 3) := by decide +kernel
theorem dX5_hasBy_40 : decode cX5_hasBy 40 = .ok (.iload_n 1, 1) := by decide +kernel
theorem dX5_hasBy_41 : decode cX5_hasBy 41 = .ok (.iaload, 1) := by decide +kernel
theorem dX5_hasBy_42 : decode cX5_hasBy 42 = .ok (.ireturn, 1) := by decide +kernel
theorem dX5_hasBy_43 : decode cX5_hasBy 43 = .ok (.aload_n 0, 1) := by decide +kernel
theorem dX5_hasBy_44 : decode cX5_hasBy 44 = .ok (.getfield 26, 3) := by decide +kernel
theorem dX5_hasBy_47 : decode cX5_hasBy 47 = .ok (.iload_n 1, 1) := by decide +kernel
theorem dX5_hasBy_48 : decode cX5_hasBy 48 = .ok (.iaload, 1) := by decide +kernel
theorem dX5_hasBy_49 : decode cX5_hasBy 49 = .ok (.ireturn, 1) := by decide +kernel
theorem dX5_hasBy_50 : decode cX5_hasBy 50 = .ok (.aload_n 0, 1) := by decide +kernel
theorem dX5_hasBy_51 : decode cX5_hasBy 51 = .ok (.getfield 29, 3) := by decide +kernel
theorem dX5_hasBy_54 : decode cX5_hasBy 54 = .ok (.iload_n 1, 1) := by decide +kernel
theorem dX5_hasBy_55 : decode cX5_hasBy 55 = .ok (.iaload, 1) := by decide +kernel
theorem dX5_hasBy_56 : decode cX5_hasBy 56 = .ok (.ireturn, 1) := by decide +kernel
theorem dX5_hasBy_57 : decode cX5_hasBy 57 = .ok (.aload_n 0, 1) := by decide +kernel
theorem dX5_hasBy_58 : decode cX5_hasBy 58 = .ok (.getfield 32, 3) := by decide +kernel
theorem dX5_hasBy_61 : decode cX5_hasBy 61 = .ok (.iload_n 1, 1) := by decide +kernel
theorem dX5_hasBy_62 : decode cX5_hasBy 62 = .ok (.iaload, 1) := by decide +kernel
theorem dX5_hasBy_63 : decode cX5_hasBy 63 = .ok (.ireturn, 1) := by decide +kernel
theorem dX5_hasBy_64 : decode cX5_hasBy 64 = .ok (.aload_n 0, 1) := by decide +kernel
theorem dX5_hasBy_65 : decode cX5_hasBy 65 = .ok (.getfield 35, 3) := by decide +kernel
theorem dX5_hasBy_68 : decode cX5_hasBy 68 = .ok (.iload_n 1, 1) := by decide +kernel
theorem dX5_hasBy_69 : decode cX5_hasBy 69 = .ok (.iaload, 1) := by decide +kernel
theorem dX5_hasBy_70 : decode cX5_hasBy 70 = .ok (.ireturn, 1) := by decide +kernel
theorem dX5_hasBy_71 : decode cX5_hasBy 71 = .ok (.aload_n 0, 1) := by decide +kernel
theorem dX5_hasBy_72 : decode cX5_hasBy 72 = .ok (.getfield 38, 3) := by decide +kernel
theorem dX5_hasBy_75 : decode cX5_hasBy 75 = .ok (.iload_n 1, 1) := by decide +kernel
theorem dX5_hasBy_76 : decode cX5_hasBy 76 = .ok (.iaload, 1) := by decide +kernel
theorem dX5_hasBy_77 : decode cX5_hasBy 77 = .ok (.ireturn, 1) := by decide +kernel
theorem dX5_mayChain_0 : decode cX5_mayChain 0 = .ok (.iload_n 0, 1) := by decide +kernel
theorem dX5_mayChain_1 : decode cX5_mayChain 1 = .ok (.tableswitch 87 0 4 #[35, 47, 57, 67, 77], 35) := by decide +kernel
theorem dX5_mayChain_36 : decode cX5_mayChain 36 = .ok (.iload_n 1, 1) := by decide +kernel
theorem dX5_mayChain_37 : decode cX5_mayChain 37 = .ok (.i2l, 1) := by decide +kernel
theorem dX5_mayChain_38 : decode cX5_mayChain 38 = .ok (.ldc2_w 124, 3) := by decide +kernel
theorem dX5_mayChain_41 : decode cX5_mayChain 41 = .ok (.ldc2_w 126, 3) := by decide +kernel
theorem dX5_mayChain_44 : decode cX5_mayChain 44 = .ok (.invokestatic 89, 3) := by decide +kernel
theorem dX5_mayChain_47 : decode cX5_mayChain 47 = .ok (.ireturn, 1) := by decide +kernel
theorem dX5_mayChain_48 : decode cX5_mayChain 48 = .ok (.iload_n 1, 1) := by decide +kernel
theorem dX5_mayChain_49 : decode cX5_mayChain 49 = .ok (.i2l, 1) := by decide +kernel
theorem dX5_mayChain_50 : decode cX5_mayChain 50 = .ok (.lconst 0, 1) := by decide +kernel
theorem dX5_mayChain_51 : decode cX5_mayChain 51 = .ok (.ldc2_w 128, 3) := by decide +kernel
theorem dX5_mayChain_54 : decode cX5_mayChain 54 = .ok (.invokestatic 89, 3) := by decide +kernel
theorem dX5_mayChain_57 : decode cX5_mayChain 57 = .ok (.ireturn, 1) := by decide +kernel
theorem dX5_mayChain_58 : decode cX5_mayChain 58 = .ok (.iload_n 1, 1) := by decide +kernel
theorem dX5_mayChain_59 : decode cX5_mayChain 59 = .ok (.i2l, 1) := by decide +kernel
theorem dX5_mayChain_60 : decode cX5_mayChain 60 = .ok (.lconst 0, 1) := by decide +kernel
theorem dX5_mayChain_61 : decode cX5_mayChain 61 = .ok (.ldc2_w 130, 3) := by decide +kernel
theorem dX5_mayChain_64 : decode cX5_mayChain 64 = .ok (.invokestatic 89, 3) := by decide +kernel
theorem dX5_mayChain_67 : decode cX5_mayChain 67 = .ok (.ireturn, 1) := by decide +kernel
theorem dX5_mayChain_68 : decode cX5_mayChain 68 = .ok (.iload_n 1, 1) := by decide +kernel
end
section
theorem dX5_mayChain_69 : decode cX5_mayChain 69 = .ok (.i2l, 1) := by decide +kernel
theorem dX5_mayChain_70 : decode cX5_mayChain 70 = .ok (.lconst 0, 1) := by decide +kernel
theorem dX5_mayChain_71 : decode cX5_mayChain 71 = .ok (.ldc2_w 132, 3) := by decide +kernel
theorem dX5_mayChain_74 : decode cX5_mayChain 74 = .ok (.invokestatic 89, 3) := by decide +kernel
theorem dX5_mayChain_77 : decode cX5_mayChain 77 = .ok (.ireturn, 1) := by decide +kernel
theorem dX5_mayChain_78 : decode cX5_mayChain 78 = .ok (.iload_n 1, 1) := by decide +kernel
theorem dX5_mayChain_79 : decode cX5_mayChain 79 = .ok (.i2l, 1) := by decide +kernel
theorem dX5_mayChain_80 : decode cX5_mayChain 80 = .ok (.lconst 0, 1) := by decide +kernel
theorem dX5_mayChain_81 : decode cX5_mayChain 81 = .ok (.ldc2_w 134, 3) := by decide +kernel
theorem dX5_mayChain_84 : decode cX5_mayChain 84 = .ok (.invokestatic 89, 3) := by decide +kernel
theorem dX5_mayChain_87 : decode cX5_mayChain 87 = .ok (.ireturn, 1) := by decide +kernel
theorem dX5_mayChain_88 : decode cX5_mayChain 88 = .ok (.iconst 0, 1) := by decide +kernel
theorem dX5_mayChain_89 : decode cX5_mayChain 89 = .ok (.ireturn, 1) := by decide +kernel
theorem dX5_chain_0 : decode cX5_chain 0 = .ok (.iload_n 1, 1) := by decide +kernel
theorem dX5_chain_1 : decode cX5_chain 1 = .ok (.invokestatic 121, 3) := by decide +kernel
theorem dX5_chain_4 : decode cX5_chain 4 = .ok (.ifCond .eq 11, 3) := by decide +kernel
theorem dX5_chain_7 : decode cX5_chain 7 = .ok (.iload_n 2, 1) := by decide +kernel
theorem dX5_chain_8 : decode cX5_chain 8 = .ok (.iload_n 3, 1) := by decide +kernel
theorem dX5_chain_9 : decode cX5_chain 9 = .ok (.invokestatic 136, 3) := by decide +kernel
theorem dX5_chain_12 : decode cX5_chain 12 = .ok (.ifCond .ne 6, 3) := by decide +kernel
theorem dX5_chain_15 : decode cX5_chain 15 = .ok (.bipush (-2), 2) := by decide +kernel
theorem dX5_chain_17 : decode cX5_chain 17 = .ok (.ireturn, 1) := by decide +kernel
theorem dX5_chain_18 : decode cX5_chain 18 = .ok (.aload_n 0, 1) := by decide +kernel
theorem dX5_chain_19 : decode cX5_chain 19 = .ok (.iload_n 1, 1) := by decide +kernel
theorem dX5_chain_20 : decode cX5_chain 20 = .ok (.iload_n 2, 1) := by decide +kernel
theorem dX5_chain_21 : decode cX5_chain 21 = .ok (.invokevirtual 140, 3) := by decide +kernel
theorem dX5_chain_24 : decode cX5_chain 24 = .ok (.istore 4, 2) := by decide +kernel
theorem dX5_chain_26 : decode cX5_chain 26 = .ok (.iload_n 2, 1) := by decide +kernel
theorem dX5_chain_27 : decode cX5_chain 27 = .ok (.tableswitch 69 0 3 #[29, 39, 49, 59], 29) := by decide +kernel
theorem dX5_chain_56 : decode cX5_chain 56 = .ok (.aload_n 0, 1) := by decide +kernel
theorem dX5_chain_57 : decode cX5_chain 57 = .ok (.getfield 23, 3) := by decide +kernel
theorem dX5_chain_60 : decode cX5_chain 60 = .ok (.iload_n 1, 1) := by decide +kernel
theorem dX5_chain_61 : decode cX5_chain 61 = .ok (.iload_n 3, 1) := by decide +kernel
theorem dX5_chain_62 : decode cX5_chain 62 = .ok (.iastore, 1) := by decide +kernel
theorem dX5_chain_63 : decode cX5_chain 63 = .ok (.goto 40, 3) := by decide +kernel
theorem dX5_chain_66 : decode cX5_chain 66 = .ok (.aload_n 0, 1) := by decide +kernel
theorem dX5_chain_67 : decode cX5_chain 67 = .ok (.getfield 26, 3) := by decide +kernel
theorem dX5_chain_70 : decode cX5_chain 70 = .ok (.iload_n 1, 1) := by decide +kernel
theorem dX5_chain_71 : decode cX5_chain 71 = .ok (.iload_n 3, 1) := by decide +kernel
theorem dX5_chain_72 : decode cX5_chain 72 = .ok (.iastore, 1) := by decide +kernel
theorem dX5_chain_73 : decode cX5_chain 73 = .ok (.goto 30, 3) := by decide +kernel
theorem dX5_chain_76 : decode cX5_chain 76 = .ok (.aload_n 0, 1) := by decide +kernel
theorem dX5_chain_77 : decode cX5_chain 77 = .ok (.getfield 29, 3) := by decide +kernel
theorem dX5_chain_80 : decode cX5_chain 80 = .ok (.iload_n 1, 1) := by decide +kernel
theorem dX5_chain_81 : decode cX5_chain 81 = .ok (.iload_n 3, 1) := by decide +kernel
theorem dX5_chain_82 : decode cX5_chain 82 = .ok (.iastore, 1) := by decide +kernel
theorem dX5_chain_83 : decode cX5_chain 83 = .ok (.goto 20, 3) := by decide +kernel
theorem dX5_chain_86 : decode cX5_chain 86 = .ok (.aload_n 0, 1) := by decide +kernel
theorem dX5_chain_87 : decode cX5_chain 87 = .ok (.getfield 32, 3) := by decide +kernel
theorem dX5_chain_90 : decode cX5_chain 90 = .ok (.iload_n 1, 1) := by decide +kernel
theorem dX5_chain_91 : decode cX5_chain 91 = .ok (.iload_n 3, 1) := by decide +kernel
theorem dX5_chain_92 : decode cX5_chain 92 = .ok (.iastore, 1) := by decide +kernel
theorem dX5_chain_93 : decode cX5_chain 93 = .ok (.goto 10, 3) := by decide +kernel
theorem dX5_chain_96 : decode cX5_chain 96 = .ok (.aload_n 0, 1) := by decide +kernel
theorem dX5_chain_97 : decode cX5_chain 97 = .ok (.getfield 35, 3) := by decide +kernel
theorem dX5_chain_100 : decode cX5_chain 100 = .ok (.iload_n 1, 1) := by decide +kernel
theorem dX5_chain_101 : decode cX5_chain 101 = .ok (.iload_n 3, 1) := by decide +kernel
theorem dX5_chain_102 : decode cX5_chain 102 = .ok (.iastore, 1) := by decide +kernel
theorem dX5_chain_103 : decode cX5_chain 103 = .ok (.iload 4, 2) := by decide +kernel
theorem dX5_chain_105 : decode cX5_chain 105 = .ok (.ireturn, 1) := by decide +kernel
theorem dX5_mayStep_0 : decode cX5_mayStep 0 = .ok (.iload_n 0, 1) := by decide +kernel
theorem dX5_mayStep_1 : decode cX5_mayStep 1 = .ok (.tableswitch 65 0 3 #[31, 38, 47, 56], 31) := by decide +kernel
theorem dX5_mayStep_32 : decode cX5_mayStep 32 = .ok (.lload_n 1, 1) := by decide +kernel
theorem dX5_mayStep_33 : decode cX5_mayStep 33 = .ok (.lconst 0, 1) := by decide +kernel
theorem dX5_mayStep_34 : decode cX5_mayStep 34 = .ok (.lconst 1, 1) := by decide +kernel
theorem dX5_mayStep_35 : decode cX5_mayStep 35 = .ok (.invokestatic 89, 3) := by decide +kernel
theorem dX5_mayStep_38 : decode cX5_mayStep 38 = .ok (.ireturn, 1) := by decide +kernel
theorem dX5_mayStep_39 : decode cX5_mayStep 39 = .ok (.lload_n 1, 1) := by decide +kernel
theorem dX5_mayStep_40 : decode cX5_mayStep 40 = .ok (.lconst 1, 1) := by decide +kernel
theorem dX5_mayStep_41 : decode cX5_mayStep 41 = .ok (.ldc2_w 144, 3) := by decide +kernel
theorem dX5_mayStep_44 : decode cX5_mayStep 44 = .ok (.invokestatic 89, 3) := by decide +kernel
theorem dX5_mayStep_47 : decode cX5_mayStep 47 = .ok (.ireturn, 1) := by decide +kernel
theorem dX5_mayStep_48 : decode cX5_mayStep 48 = .ok (.lload_n 1, 1) := by decide +kernel
theorem dX5_mayStep_49 : decode cX5_mayStep 49 = .ok (.lconst 0, 1) := by decide +kernel
theorem dX5_mayStep_50 : decode cX5_mayStep 50 = .ok (.ldc2_w 134, 3) := by decide +kernel
theorem dX5_mayStep_53 : decode cX5_mayStep 53 = .ok (.invokestatic 89, 3) := by decide +kernel
theorem dX5_mayStep_56 : decode cX5_mayStep 56 = .ok (.ireturn, 1) := by decide +kernel
theorem dX5_mayStep_57 : decode cX5_mayStep 57 = .ok (.lload_n 1, 1) := by decide +kernel
theorem dX5_mayStep_58 : decode cX5_mayStep 58 = .ok (.lconst 0, 1) := by decide +kernel
theorem dX5_mayStep_59 : decode cX5_mayStep 59 = .ok (.ldc2_w 144, 3) := by decide +kernel
theorem dX5_mayStep_62 : decode cX5_mayStep 62 = .ok (.invokestatic 89, 3) := by decide +kernel
theorem dX5_mayStep_65 : decode cX5_mayStep 65 = .ok (.ireturn, 1) := by decide +kernel
theorem dX5_mayStep_66 : decode cX5_mayStep 66 = .ok (.iconst 0, 1) := by decide +kernel
theorem dX5_mayStep_67 : decode cX5_mayStep 67 = .ok (.ireturn, 1) := by decide +kernel
theorem dX5_tells_0 : decode cX5_tells 0 = .ok (.iload_n 2, 1) := by decide +kernel
theorem dX5_tells_1 : decode cX5_tells 1 = .ok (.tableswitch 57 0 2 #[27, 37, 47], 27) := by decide +kernel
theorem dX5_tells_28 : decode cX5_tells 28 = .ok (.aload_n 0, 1) := by decide +kernel
theorem dX5_tells_29 : decode cX5_tells 29 = .ok (.getfield 41, 3) := by decide +kernel
theorem dX5_tells_32 : decode cX5_tells 32 = .ok (.iload_n 1, 1) := by decide +kernel
theorem dX5_tells_33 : decode cX5_tells 33 = .ok (.iload_n 3, 1) := by decide +kernel
theorem dX5_tells_34 : decode cX5_tells 34 = .ok (.iastore, 1) := by decide +kernel
theorem dX5_tells_35 : decode cX5_tells 35 = .ok (.goto 30, 3) := by decide +kernel
theorem dX5_tells_38 : decode cX5_tells 38 = .ok (.aload_n 0, 1) := by decide +kernel
theorem dX5_tells_39 : decode cX5_tells 39 = .ok (.getfield 44, 3) := by decide +kernel
theorem dX5_tells_42 : decode cX5_tells 42 = .ok (.iload_n 1, 1) := by decide +kernel
theorem dX5_tells_43 : decode cX5_tells 43 = .ok (.iload_n 3, 1) := by decide +kernel
theorem dX5_tells_44 : decode cX5_tells 44 = .ok (.iastore, 1) := by decide +kernel
theorem dX5_tells_45 : decode cX5_tells 45 = .ok (.goto 20, 3) := by decide +kernel
theorem dX5_tells_48 : decode cX5_tells 48 = .ok (.aload_n 0, 1) := by decide +kernel
theorem dX5_tells_49 : decode cX5_tells 49 = .ok (.getfield 47, 3) := by decide +kernel
theorem dX5_tells_52 : decode cX5_tells 52 = .ok (.iload_n 1, 1) := by decide +kernel
theorem dX5_tells_53 : decode cX5_tells 53 = .ok (.iload_n 3, 1) := by decide +kernel
theorem dX5_tells_54 : decode cX5_tells 54 = .ok (.iastore, 1) := by decide +kernel
theorem dX5_tells_55 : decode cX5_tells 55 = .ok (.goto 10, 3) := by decide +kernel
theorem dX5_tells_58 : decode cX5_tells 58 = .ok (.aload_n 0, 1) := by decide +kernel
theorem dX5_tells_59 : decode cX5_tells 59 = .ok (.getfield 50, 3) := by decide +kernel
theorem dX5_tells_62 : decode cX5_tells 62 = .ok (.iload_n 1, 1) := by decide +kernel
theorem dX5_tells_63 : decode cX5_tells 63 = .ok (.iload_n 3, 1) := by decide +kernel
theorem dX5_tells_64 : decode cX5_tells 64 = .ok (.iastore, 1) := by decide +kernel
theorem dX5_tells_65 : decode cX5_tells 65 = .ok (.return_, 1) := by decide +kernel
theorem dX5_step_0 : decode cX5_step 0 = .ok (.iload_n 1, 1) := by decide +kernel
theorem dX5_step_1 : decode cX5_step 1 = .ok (.invokestatic 121, 3) := by decide +kernel
theorem dX5_step_4 : decode cX5_step 4 = .ok (.ifCond .eq 41, 3) := by decide +kernel
theorem dX5_step_7 : decode cX5_step 7 = .ok (.iconst 0, 1) := by decide +kernel
theorem dX5_step_8 : decode cX5_step 8 = .ok (.iload_n 2, 1) := by decide +kernel
theorem dX5_step_9 : decode cX5_step 9 = .ok (.i2l, 1) := by decide +kernel
theorem dX5_step_10 : decode cX5_step 10 = .ok (.invokestatic 146, 3) := by decide +kernel
theorem dX5_step_13 : decode cX5_step 13 = .ok (.ifCond .eq 32, 3) := by decide +kernel
theorem dX5_step_16 : decode cX5_step 16 = .ok (.iconst 1, 1) := by decide +kernel
theorem dX5_step_17 : decode cX5_step 17 = .ok (.iload_n 3, 1) := by decide +kernel
theorem dX5_step_18 : decode cX5_step 18 = .ok (.i2l, 1) := by decide +kernel
theorem dX5_step_19 : decode cX5_step 19 = .ok (.invokestatic 146, 3) := by decide +kernel
theorem dX5_step_22 : decode cX5_step 22 = .ok (.ifCond .eq 23, 3) := by decide +kernel
theorem dX5_step_25 : decode cX5_step 25 = .ok (.iconst 2, 1) := by decide +kernel
theorem dX5_step_26 : decode cX5_step 26 = .ok (.iload 4, 2) := by decide +kernel
theorem dX5_step_28 : decode cX5_step 28 = .ok (.i2l, 1) := by decide +kernel
theorem dX5_step_29 : decode cX5_step 29 = .ok (.invokestatic 146, 3) := by decide +kernel
theorem dX5_step_32 : decode cX5_step 32 = .ok (.ifCond .eq 13, 3) := by decide +kernel
theorem dX5_step_35 : decode cX5_step 35 = .ok (.iconst 3, 1) := by decide +kernel
theorem dX5_step_36 : decode cX5_step 36 = .ok (.iload 5, 2) := by decide +kernel
theorem dX5_step_38 : decode cX5_step 38 = .ok (.i2l, 1) := by decide +kernel
theorem dX5_step_39 : decode cX5_step 39 = .ok (.invokestatic 146, 3) := by decide +kernel
theorem dX5_step_42 : decode cX5_step 42 = .ok (.ifCond .ne 6, 3) := by decide +kernel
theorem dX5_step_45 : decode cX5_step 45 = .ok (.bipush (-2), 2) := by decide +kernel
theorem dX5_step_47 : decode cX5_step 47 = .ok (.ireturn, 1) := by decide +kernel
theorem dX5_step_48 : decode cX5_step 48 = .ok (.aload_n 0, 1) := by decide +kernel
theorem dX5_step_49 : decode cX5_step 49 = .ok (.getfield 38, 3) := by decide +kernel
theorem dX5_step_52 : decode cX5_step 52 = .ok (.iload_n 1, 1) := by decide +kernel
theorem dX5_step_53 : decode cX5_step 53 = .ok (.iaload, 1) := by decide +kernel
theorem dX5_step_54 : decode cX5_step 54 = .ok (.iconst 3, 1) := by decide +kernel
theorem dX5_step_55 : decode cX5_step 55 = .ok (.if_icmp .ne 6, 3) := by decide +kernel
theorem dX5_step_58 : decode cX5_step 58 = .ok (.bipush (-4), 2) := by decide +kernel
theorem dX5_step_60 : decode cX5_step 60 = .ok (.ireturn, 1) := by decide +kernel
theorem dX5_step_61 : decode cX5_step 61 = .ok (.iconst 3, 1) := by decide +kernel
theorem dX5_step_62 : decode cX5_step 62 = .ok (.iload_n 1, 1) := by decide +kernel
theorem dX5_step_63 : decode cX5_step 63 = .ok (.imul, 1) := by decide +kernel
theorem dX5_step_64 : decode cX5_step 64 = .ok (.aload_n 0, 1) := by decide +kernel
theorem dX5_step_65 : decode cX5_step 65 = .ok (.getfield 38, 3) := by decide +kernel
theorem dX5_step_68 : decode cX5_step 68 = .ok (.iload_n 1, 1) := by decide +kernel
theorem dX5_step_69 : decode cX5_step 69 = .ok (.iaload, 1) := by decide +kernel
theorem dX5_step_70 : decode cX5_step 70 = .ok (.iadd, 1) := by decide +kernel
theorem dX5_step_71 : decode cX5_step 71 = .ok (.istore 6, 2) := by decide +kernel
theorem dX5_step_73 : decode cX5_step 73 = .ok (.aload_n 0, 1) := by decide +kernel
theorem dX5_step_74 : decode cX5_step 74 = .ok (.iload 6, 2) := by decide +kernel
theorem dX5_step_76 : decode cX5_step 76 = .ok (.iconst 0, 1) := by decide +kernel
theorem dX5_step_77 : decode cX5_step 77 = .ok (.iload_n 2, 1) := by decide +kernel
theorem dX5_step_78 : decode cX5_step 78 = .ok (.invokevirtual 150, 3) := by decide +kernel
theorem dX5_step_81 : decode cX5_step 81 = .ok (.aload_n 0, 1) := by decide +kernel
theorem dX5_step_82 : decode cX5_step 82 = .ok (.iload 6, 2) := by decide +kernel
theorem dX5_step_84 : decode cX5_step 84 = .ok (.iconst 1, 1) := by decide +kernel
theorem dX5_step_85 : decode cX5_step 85 = .ok (.iload_n 3, 1) := by decide +kernel
theorem dX5_step_86 : decode cX5_step 86 = .ok (.invokevirtual 150, 3) := by decide +kernel
theorem dX5_step_89 : decode cX5_step 89 = .ok (.aload_n 0, 1) := by decide +kernel
theorem dX5_step_90 : decode cX5_step 90 = .ok (.iload 6, 2) := by decide +kernel
theorem dX5_step_92 : decode cX5_step 92 = .ok (.iconst 2, 1) := by decide +kernel
theorem dX5_step_93 : decode cX5_step 93 = .ok (.iload 4, 2) := by decide +kernel
theorem dX5_step_95 : decode cX5_step 95 = .ok (.invokevirtual 150, 3) := by decide +kernel
theorem dX5_step_98 : decode cX5_step 98 = .ok (.aload_n 0, 1) := by decide +kernel
theorem dX5_step_99 : decode cX5_step 99 = .ok (.iload 6, 2) := by decide +kernel
theorem dX5_step_101 : decode cX5_step 101 = .ok (.iconst 3, 1) := by decide +kernel
theorem dX5_step_102 : decode cX5_step 102 = .ok (.iload 5, 2) := by decide +kernel
theorem dX5_step_104 : decode cX5_step 104 = .ok (.invokevirtual 150, 3) := by decide +kernel
theorem dX5_step_107 : decode cX5_step 107 = .ok (.aload_n 0, 1) := by decide +kernel
theorem dX5_step_108 : decode cX5_step 108 = .ok (.getfield 38, 3) := by decide +kernel
theorem dX5_step_111 : decode cX5_step 111 = .ok (.iload_n 1, 1) := by decide +kernel
theorem dX5_step_112 : decode cX5_step 112 = .ok (.dup2, 1) := by decide +kernel
theorem dX5_step_113 : decode cX5_step 113 = .ok (.iaload, 1) := by decide +kernel
theorem dX5_step_114 : decode cX5_step 114 = .ok (.iconst 1, 1) := by decide +kernel
theorem dX5_step_115 : decode cX5_step 115 = .ok (.iadd, 1) := by decide +kernel
theorem dX5_step_116 : decode cX5_step 116 = .ok (.iastore, 1) := by decide +kernel
theorem dX5_step_117 : decode cX5_step 117 = .ok (.aload_n 0, 1) := by decide +kernel
theorem dX5_step_118 : decode cX5_step 118 = .ok (.getfield 38, 3) := by decide +kernel
theorem dX5_step_121 : decode cX5_step 121 = .ok (.iload_n 1, 1) := by decide +kernel
theorem dX5_step_122 : decode cX5_step 122 = .ok (.iaload, 1) := by decide +kernel
theorem dX5_step_123 : decode cX5_step 123 = .ok (.iconst 1, 1) := by decide +kernel
theorem dX5_step_124 : decode cX5_step 124 = .ok (.isub, 1) := by decide +kernel
theorem dX5_step_125 : decode cX5_step 125 = .ok (.ireturn, 1) := by decide +kernel
theorem dX5_back_0 : decode cX5_back 0 = .ok (.iload_n 1, 1) := by decide +kernel
theorem dX5_back_1 : decode cX5_back 1 = .ok (.invokestatic 121, 3) := by decide +kernel
theorem dX5_back_4 : decode cX5_back 4 = .ok (.ifCond .ne 6, 3) := by decide +kernel
theorem dX5_back_7 : decode cX5_back 7 = .ok (.bipush (-2), 2) := by decide +kernel
theorem dX5_back_9 : decode cX5_back 9 = .ok (.ireturn, 1) := by decide +kernel
theorem dX5_back_10 : decode cX5_back 10 = .ok (.aload_n 0, 1) := by decide +kernel
theorem dX5_back_11 : decode cX5_back 11 = .ok (.getfield 38, 3) := by decide +kernel
theorem dX5_back_14 : decode cX5_back 14 = .ok (.iload_n 1, 1) := by decide +kernel
theorem dX5_back_15 : decode cX5_back 15 = .ok (.iaload, 1) := by decide +kernel
theorem dX5_back_16 : decode cX5_back 16 = .ok (.ifCond .ne 6, 3) := by decide +kernel
theorem dX5_back_19 : decode cX5_back 19 = .ok (.bipush (-3), 2) := by decide +kernel
theorem dX5_back_21 : decode cX5_back 21 = .ok (.ireturn, 1) := by decide +kernel
theorem dX5_back_22 : decode cX5_back 22 = .ok (.aload_n 0, 1) := by decide +kernel
theorem dX5_back_23 : decode cX5_back 23 = .ok (.getfield 38, 3) := by decide +kernel
theorem dX5_back_26 : decode cX5_back 26 = .ok (.iload_n 1, 1) := by decide +kernel
theorem dX5_back_27 : decode cX5_back 27 = .ok (.dup2, 1) := by decide +kernel
theorem dX5_back_28 : decode cX5_back 28 = .ok (.iaload, 1) := by decide +kernel
theorem dX5_back_29 : decode cX5_back 29 = .ok (.iconst 1, 1) := by decide +kernel
theorem dX5_back_30 : decode cX5_back 30 = .ok (.isub, 1) := by decide +kernel
theorem dX5_back_31 : decode cX5_back 31 = .ok (.iastore, 1) := by decide +kernel
theorem dX5_back_32 : decode cX5_back 32 = .ok (.aload_n 0, 1) := by decide +kernel
theorem dX5_back_33 : decode cX5_back 33 = .ok (.getfield 38, 3) := by decide +kernel
theorem dX5_back_36 : decode cX5_back 36 = .ok (.iload_n 1, 1) := by decide +kernel
theorem dX5_back_37 : decode cX5_back 37 = .ok (.iaload, 1) := by decide +kernel
theorem dX5_back_38 : decode cX5_back 38 = .ok (.ireturn, 1) := by decide +kernel
theorem dX5_toldBy_0 : decode cX5_toldBy 0 = .ok (.iload_n 2, 1) := by decide +kernel
theorem dX5_toldBy_1 : decode cX5_toldBy 1 = .ok (.ifCond .ne 12, 3) := by decide +kernel
theorem dX5_toldBy_4 : decode cX5_toldBy 4 = .ok (.aload_n 0, 1) := by decide +kernel
theorem dX5_toldBy_5 : decode cX5_toldBy 5 = .ok (.getfield 41, 3) := by decide +kernel
theorem dX5_toldBy_8 : decode cX5_toldBy 8 = .ok (.iload_n 1, 1) := by decide +kernel
theorem dX5_toldBy_9 : decode cX5_toldBy 9 = .ok (.iaload, 1) := by decide +kernel
theorem dX5_toldBy_10 : decode cX5_toldBy 10 = .ok (.goto 37, 3) := by decide +kernel
theorem dX5_toldBy_13 : decode cX5_toldBy 13 = .ok (.iload_n 2, 1) := by decide +kernel
theorem dX5_toldBy_14 : decode cX5_toldBy 14 = .ok (.iconst 1, 1) := by decide +kernel
theorem dX5_toldBy_15 : decode cX5_toldBy 15 = .ok (.if_icmp .ne 12, 3) := by decide +kernel
theorem dX5_toldBy_18 : decode cX5_toldBy 18 = .ok (.aload_n 0, 1) := by decide +kernel
theorem dX5_toldBy_19 : decode cX5_toldBy 19 = .ok (.getfield 44, 3) := by decide +kernel
theorem dX5_toldBy_22 : decode cX5_toldBy 22 = .ok (.iload_n 1, 1) := by decide +kernel
theorem dX5_toldBy_23 : decode cX5_toldBy 23 = .ok (.iaload, 1) := by decide +kernel
theorem dX5_toldBy_24 : decode cX5_toldBy 24 = .ok (.goto 23, 3) := by decide +kernel
theorem dX5_toldBy_27 : decode cX5_toldBy 27 = .ok (.iload_n 2, 1) := by decide +kernel
theorem dX5_toldBy_28 : decode cX5_toldBy 28 = .ok (.iconst 2, 1) := by decide +kernel
theorem dX5_toldBy_29 : decode cX5_toldBy 29 = .ok (.if_icmp .ne 12, 3) := by decide +kernel
theorem dX5_toldBy_32 : decode cX5_toldBy 32 = .ok (.aload_n 0, 1) := by decide +kernel
theorem dX5_toldBy_33 : decode cX5_toldBy 33 = .ok (.getfield 47, 3) := by decide +kernel
theorem dX5_toldBy_36 : decode cX5_toldBy 36 = .ok (.iload_n 1, 1) := by decide +kernel
theorem dX5_toldBy_37 : decode cX5_toldBy 37 = .ok (.iaload, 1) := by decide +kernel
theorem dX5_toldBy_38 : decode cX5_toldBy 38 = .ok (.goto 9, 3) := by decide +kernel
theorem dX5_toldBy_41 : decode cX5_toldBy 41 = .ok (.aload_n 0, 1) := by decide +kernel
theorem dX5_toldBy_42 : decode cX5_toldBy 42 = .ok (.getfield 50, 3) := by decide +kernel
theorem dX5_toldBy_45 : decode cX5_toldBy 45 = .ok (.iload_n 1, 1) := by decide +kernel
theorem dX5_toldBy_46 : decode cX5_toldBy 46 = .ok (.iaload, 1) := by decide +kernel
theorem dX5_toldBy_47 : decode cX5_toldBy 47 = .ok (.ireturn, 1) := by decide +kernel
theorem dX5_tune_0 : decode cX5_tune 0 = .ok (.aload_n 0, 1) := by decide +kernel
theorem dX5_tune_1 : decode cX5_tune 1 = .ok (.iload_n 1, 1) := by decide +kernel
theorem dX5_tune_2 : decode cX5_tune 2 = .ok (.iload_n 2, 1) := by decide +kernel
theorem dX5_tune_3 : decode cX5_tune 3 = .ok (.invokevirtual 154, 3) := by decide +kernel
theorem dX5_tune_6 : decode cX5_tune 6 = .ok (.ifCond .eq 13, 3) := by decide +kernel
theorem dX5_tune_9 : decode cX5_tune 9 = .ok (.iload_n 3, 1) := by decide +kernel
theorem dX5_tune_10 : decode cX5_tune 10 = .ok (.iload 4, 2) := by decide +kernel
theorem dX5_tune_12 : decode cX5_tune 12 = .ok (.i2l, 1) := by decide +kernel
theorem dX5_tune_13 : decode cX5_tune 13 = .ok (.invokestatic 146, 3) := by decide +kernel
theorem dX5_tune_16 : decode cX5_tune 16 = .ok (.ifCond .ne 6, 3) := by decide +kernel
theorem dX5_tune_19 : decode cX5_tune 19 = .ok (.bipush (-2), 2) := by decide +kernel
theorem dX5_tune_21 : decode cX5_tune 21 = .ok (.ireturn, 1) := by decide +kernel
theorem dX5_tune_22 : decode cX5_tune 22 = .ok (.aload_n 0, 1) := by decide +kernel
theorem dX5_tune_23 : decode cX5_tune 23 = .ok (.iconst 3, 1) := by decide +kernel
theorem dX5_tune_24 : decode cX5_tune 24 = .ok (.iload_n 1, 1) := by decide +kernel
theorem dX5_tune_25 : decode cX5_tune 25 = .ok (.imul, 1) := by decide +kernel
theorem dX5_tune_26 : decode cX5_tune 26 = .ok (.iload_n 2, 1) := by decide +kernel
theorem dX5_tune_27 : decode cX5_tune 27 = .ok (.iadd, 1) := by decide +kernel
theorem dX5_tune_28 : decode cX5_tune 28 = .ok (.iload_n 3, 1) := by decide +kernel
theorem dX5_tune_29 : decode cX5_tune 29 = .ok (.invokevirtual 157, 3) := by decide +kernel
theorem dX5_tune_32 : decode cX5_tune 32 = .ok (.istore 5, 2) := by decide +kernel
theorem dX5_tune_34 : decode cX5_tune 34 = .ok (.aload_n 0, 1) := by decide +kernel
theorem dX5_tune_35 : decode cX5_tune 35 = .ok (.iconst 3, 1) := by decide +kernel
theorem dX5_tune_36 : decode cX5_tune 36 = .ok (.iload_n 1, 1) := by decide +kernel
theorem dX5_tune_37 : decode cX5_tune 37 = .ok (.imul, 1) := by decide +kernel
theorem dX5_tune_38 : decode cX5_tune 38 = .ok (.iload_n 2, 1) := by decide +kernel
theorem dX5_tune_39 : decode cX5_tune 39 = .ok (.iadd, 1) := by decide +kernel
theorem dX5_tune_40 : decode cX5_tune 40 = .ok (.iload_n 3, 1) := by decide +kernel
theorem dX5_tune_41 : decode cX5_tune 41 = .ok (.iload 4, 2) := by decide +kernel
theorem dX5_tune_43 : decode cX5_tune 43 = .ok (.invokevirtual 150, 3) := by decide +kernel
theorem dX5_tune_46 : decode cX5_tune 46 = .ok (.iload 5, 2) := by decide +kernel
theorem dX5_tune_48 : decode cX5_tune 48 = .ok (.ireturn, 1) := by decide +kernel
theorem dX5_read_0 : decode cX5_read 0 = .ok (.iload_n 1, 1) := by decide +kernel
theorem dX5_read_1 : decode cX5_read 1 = .ok (.invokestatic 121, 3) := by decide +kernel
theorem dX5_read_4 : decode cX5_read 4 = .ok (.ifCond .eq 10, 3) := by decide +kernel
theorem dX5_read_7 : decode cX5_read 7 = .ok (.iload_n 2, 1) := by decide +kernel
theorem dX5_read_8 : decode cX5_read 8 = .ok (.invokestatic 101, 3) := by decide +kernel
theorem dX5_read_11 : decode cX5_read 11 = .ok (.ifCond .ne 6, 3) := by decide +kernel
theorem dX5_read_14 : decode cX5_read 14 = .ok (.bipush (-2), 2) := by decide +kernel
theorem dX5_read_16 : decode cX5_read 16 = .ok (.ireturn, 1) := by decide +kernel
theorem dX5_read_17 : decode cX5_read 17 = .ok (.aload_n 0, 1) := by decide +kernel
theorem dX5_read_18 : decode cX5_read 18 = .ok (.getfield 7, 3) := by decide +kernel
theorem dX5_read_21 : decode cX5_read 21 = .ok (.iload_n 2, 1) := by decide +kernel
theorem dX5_read_22 : decode cX5_read 22 = .ok (.iaload, 1) := by decide +kernel
theorem dX5_read_23 : decode cX5_read 23 = .ok (.ifCond .ge 9, 3) := by decide +kernel
theorem dX5_read_26 : decode cX5_read 26 = .ok (.aload_n 0, 1) := by decide +kernel
theorem dX5_read_27 : decode cX5_read 27 = .ok (.iconst 1, 1) := by decide +kernel
theorem dX5_read_28 : decode cX5_read 28 = .ok (.invokevirtual 107, 3) := by decide +kernel
theorem dX5_read_31 : decode cX5_read 31 = .ok (.ireturn, 1) := by decide +kernel
theorem dX5_read_32 : decode cX5_read 32 = .ok (.iconst 0, 1) := by decide +kernel
theorem dX5_read_33 : decode cX5_read 33 = .ok (.istore_n 3, 1) := by decide +kernel
theorem dX5_read_34 : decode cX5_read 34 = .ok (.iconst 1, 1) := by decide +kernel
theorem dX5_read_35 : decode cX5_read 35 = .ok (.istore 4, 2) := by decide +kernel
theorem dX5_read_37 : decode cX5_read 37 = .ok (.iconst 0, 1) := by decide +kernel
theorem dX5_read_38 : decode cX5_read 38 = .ok (.istore 5, 2) := by decide +kernel
theorem dX5_read_40 : decode cX5_read 40 = .ok (.iconst 4, 1) := by decide +kernel
theorem dX5_read_41 : decode cX5_read 41 = .ok (.iload 5, 2) := by decide +kernel
theorem dX5_read_43 : decode cX5_read 43 = .ok (.imul, 1) := by decide +kernel
theorem dX5_read_44 : decode cX5_read 44 = .ok (.iconst 3, 1) := by decide +kernel
theorem dX5_read_45 : decode cX5_read 45 = .ok (.iadd, 1) := by decide +kernel
theorem dX5_read_46 : decode cX5_read 46 = .ok (.aload_n 0, 1) := by decide +kernel
theorem dX5_read_47 : decode cX5_read 47 = .ok (.getfield 13, 3) := by decide +kernel
theorem dX5_read_50 : decode cX5_read 50 = .ok (.iload_n 2, 1) := by decide +kernel
theorem dX5_read_51 : decode cX5_read 51 = .ok (.iaload, 1) := by decide +kernel
theorem dX5_read_52 : decode cX5_read 52 = .ok (.if_icmp .ge 150, 3) := by decide +kernel
theorem dX5_read_55 : decode cX5_read 55 = .ok (.iload 4, 2) := by decide +kernel
theorem dX5_read_57 : decode cX5_read 57 = .ok (.ifCond .eq 145, 3) := by decide +kernel
theorem dX5_read_60 : decode cX5_read 60 = .ok (.aload_n 0, 1) := by decide +kernel
theorem dX5_read_61 : decode cX5_read 61 = .ok (.getfield 38, 3) := by decide +kernel
theorem dX5_read_64 : decode cX5_read 64 = .ok (.iload_n 1, 1) := by decide +kernel
theorem dX5_read_65 : decode cX5_read 65 = .ok (.iaload, 1) := by decide +kernel
theorem dX5_read_66 : decode cX5_read 66 = .ok (.iconst 3, 1) := by decide +kernel
theorem dX5_read_67 : decode cX5_read 67 = .ok (.if_icmp .ge 7, 3) := by decide +kernel
theorem dX5_read_70 : decode cX5_read 70 = .ok (.iconst 1, 1) := by decide +kernel
theorem dX5_read_71 : decode cX5_read 71 = .ok (.goto 4, 3) := by decide +kernel
theorem dX5_read_74 : decode cX5_read 74 = .ok (.iconst 0, 1) := by decide +kernel
theorem dX5_read_75 : decode cX5_read 75 = .ok (.istore 4, 2) := by decide +kernel
theorem dX5_read_77 : decode cX5_read 77 = .ok (.iconst 0, 1) := by decide +kernel
theorem dX5_read_78 : decode cX5_read 78 = .ok (.istore 6, 2) := by decide +kernel
theorem dX5_read_80 : decode cX5_read 80 = .ok (.iload 6, 2) := by decide +kernel
theorem dX5_read_82 : decode cX5_read 82 = .ok (.iconst 4, 1) := by decide +kernel
theorem dX5_read_83 : decode cX5_read 83 = .ok (.if_icmp .ge 46, 3) := by decide +kernel
theorem dX5_read_86 : decode cX5_read 86 = .ok (.iload 4, 2) := by decide +kernel
theorem dX5_read_88 : decode cX5_read 88 = .ok (.ifCond .eq 32, 3) := by decide +kernel
theorem dX5_read_91 : decode cX5_read 91 = .ok (.iload 6, 2) := by decide +kernel
theorem dX5_read_93 : decode cX5_read 93 = .ok (.aload_n 0, 1) := by decide +kernel
theorem dX5_read_94 : decode cX5_read 94 = .ok (.getfield 16, 3) := by decide +kernel
theorem dX5_read_97 : decode cX5_read 97 = .ok (.bipush 60, 2) := by decide +kernel
theorem dX5_read_99 : decode cX5_read 99 = .ok (.iload_n 2, 1) := by decide +kernel
theorem dX5_read_100 : decode cX5_read 100 = .ok (.imul, 1) := by decide +kernel
theorem dX5_read_101 : decode cX5_read 101 = .ok (.iconst 4, 1) := by decide +kernel
theorem dX5_read_102 : decode cX5_read 102 = .ok (.iload 5, 2) := by decide +kernel
theorem dX5_read_104 : decode cX5_read 104 = .ok (.imul, 1) := by decide +kernel
theorem dX5_read_105 : decode cX5_read 105 = .ok (.iadd, 1) := by decide +kernel
theorem dX5_read_106 : decode cX5_read 106 = .ok (.iload 6, 2) := by decide +kernel
theorem dX5_read_108 : decode cX5_read 108 = .ok (.iadd, 1) := by decide +kernel
theorem dX5_read_109 : decode cX5_read 109 = .ok (.laload, 1) := by decide +kernel
theorem dX5_read_110 : decode cX5_read 110 = .ok (.invokestatic 146, 3) := by decide +kernel
theorem dX5_read_113 : decode cX5_read 113 = .ok (.ifCond .eq 7, 3) := by decide +kernel
theorem dX5_read_116 : decode cX5_read 116 = .ok (.iconst 1, 1) := by decide +kernel
theorem dX5_read_117 : decode cX5_read 117 = .ok (.goto 4, 3) := by decide +kernel
theorem dX5_read_120 : decode cX5_read 120 = .ok (.iconst 0, 1) := by decide +kernel
theorem dX5_read_121 : decode cX5_read 121 = .ok (.istore 4, 2) := by decide +kernel
theorem dX5_read_123 : decode cX5_read 123 = .ok (.iinc 6 1, 3) := by decide +kernel
theorem dX5_read_126 : decode cX5_read 126 = .ok (.goto (-46), 3) := by decide +kernel
theorem dX5_read_129 : decode cX5_read 129 = .ok (.iload 4, 2) := by decide +kernel
theorem dX5_read_131 : decode cX5_read 131 = .ok (.ifCond .eq 65, 3) := by decide +kernel
theorem dX5_read_134 : decode cX5_read 134 = .ok (.iconst 0, 1) := by decide +kernel
theorem dX5_read_135 : decode cX5_read 135 = .ok (.istore 6, 2) := by decide +kernel
theorem dX5_read_137 : decode cX5_read 137 = .ok (.iload 6, 2) := by decide +kernel
theorem dX5_read_139 : decode cX5_read 139 = .ok (.iconst 4, 1) := by decide +kernel
theorem dX5_read_140 : decode cX5_read 140 = .ok (.if_icmp .ge 43, 3) := by decide +kernel
theorem dX5_read_143 : decode cX5_read 143 = .ok (.aload_n 0, 1) := by decide +kernel
theorem dX5_read_144 : decode cX5_read 144 = .ok (.iconst 3, 1) := by decide +kernel
theorem dX5_read_145 : decode cX5_read 145 = .ok (.iload_n 1, 1) := by decide +kernel
theorem dX5_read_146 : decode cX5_read 146 = .ok (.imul, 1) := by decide +kernel
theorem dX5_read_147 : decode cX5_read 147 = .ok (.aload_n 0, 1) := by decide +kernel
theorem dX5_read_148 : decode cX5_read 148 = .ok (.getfield 38, 3) := by decide +kernel
theorem dX5_read_151 : decode cX5_read 151 = .ok (.iload_n 1, 1) := by decide +kernel
theorem dX5_read_152 : decode cX5_read 152 = .ok (.iaload, 1) := by decide +kernel
theorem dX5_read_153 : decode cX5_read 153 = .ok (.iadd, 1) := by decide +kernel
theorem dX5_read_154 : decode cX5_read 154 = .ok (.iload 6, 2) := by decide +kernel
theorem dX5_read_156 : decode cX5_read 156 = .ok (.aload_n 0, 1) := by decide +kernel
theorem dX5_read_157 : decode cX5_read 157 = .ok (.getfield 16, 3) := by decide +kernel
theorem dX5_read_160 : decode cX5_read 160 = .ok (.bipush 60, 2) := by decide +kernel
theorem dX5_read_162 : decode cX5_read 162 = .ok (.iload_n 2, 1) := by decide +kernel
theorem dX5_read_163 : decode cX5_read 163 = .ok (.imul, 1) := by decide +kernel
theorem dX5_read_164 : decode cX5_read 164 = .ok (.iconst 4, 1) := by decide +kernel
theorem dX5_read_165 : decode cX5_read 165 = .ok (.iload 5, 2) := by decide +kernel
theorem dX5_read_167 : decode cX5_read 167 = .ok (.imul, 1) := by decide +kernel
theorem dX5_read_168 : decode cX5_read 168 = .ok (.iadd, 1) := by decide +kernel
theorem dX5_read_169 : decode cX5_read 169 = .ok (.iload 6, 2) := by decide +kernel
theorem dX5_read_171 : decode cX5_read 171 = .ok (.iadd, 1) := by decide +kernel
theorem dX5_read_172 : decode cX5_read 172 = .ok (.laload, 1) := by decide +kernel
theorem dX5_read_173 : decode cX5_read 173 = .ok (.l2i, 1) := by decide +kernel
theorem dX5_read_174 : decode cX5_read 174 = .ok (.invokevirtual 150, 3) := by decide +kernel
theorem dX5_read_177 : decode cX5_read 177 = .ok (.iinc 6 1, 3) := by decide +kernel
theorem dX5_read_180 : decode cX5_read 180 = .ok (.goto (-43), 3) := by decide +kernel
theorem dX5_read_183 : decode cX5_read 183 = .ok (.aload_n 0, 1) := by decide +kernel
theorem dX5_read_184 : decode cX5_read 184 = .ok (.getfield 38, 3) := by decide +kernel
theorem dX5_read_187 : decode cX5_read 187 = .ok (.iload_n 1, 1) := by decide +kernel
theorem dX5_read_188 : decode cX5_read 188 = .ok (.dup2, 1) := by decide +kernel
theorem dX5_read_189 : decode cX5_read 189 = .ok (.iaload, 1) := by decide +kernel
theorem dX5_read_190 : decode cX5_read 190 = .ok (.iconst 1, 1) := by decide +kernel
theorem dX5_read_191 : decode cX5_read 191 = .ok (.iadd, 1) := by decide +kernel
theorem dX5_read_192 : decode cX5_read 192 = .ok (.iastore, 1) := by decide +kernel
theorem dX5_read_193 : decode cX5_read 193 = .ok (.iinc 3 1, 3) := by decide +kernel
theorem dX5_read_196 : decode cX5_read 196 = .ok (.iinc 5 1, 3) := by decide +kernel
theorem dX5_read_199 : decode cX5_read 199 = .ok (.goto (-159), 3) := by decide +kernel
theorem dX5_read_202 : decode cX5_read 202 = .ok (.iload_n 3, 1) := by decide +kernel
theorem dX5_read_203 : decode cX5_read 203 = .ok (.ireturn, 1) := by decide +kernel
theorem dX5_has_0 : decode cX5_has 0 = .ok (.iload_n 1, 1) := by decide +kernel
theorem dX5_has_1 : decode cX5_has 1 = .ok (.invokestatic 121, 3) := by decide +kernel
theorem dX5_has_4 : decode cX5_has 4 = .ok (.ifCond .eq 24, 3) := by decide +kernel
theorem dX5_has_7 : decode cX5_has 7 = .ok (.iload_n 2, 1) := by decide +kernel
theorem dX5_has_8 : decode cX5_has 8 = .ok (.i2l, 1) := by decide +kernel
theorem dX5_has_9 : decode cX5_has 9 = .ok (.lconst 0, 1) := by decide +kernel
theorem dX5_has_10 : decode cX5_has 10 = .ok (.ldc2_w 124, 3) := by decide +kernel
theorem dX5_has_13 : decode cX5_has 13 = .ok (.invokestatic 89, 3) := by decide +kernel
theorem dX5_has_16 : decode cX5_has 16 = .ok (.ifCond .eq 12, 3) := by decide +kernel
theorem dX5_has_19 : decode cX5_has 19 = .ok (.aload_n 0, 1) := by decide +kernel
theorem dX5_has_20 : decode cX5_has 20 = .ok (.iload_n 1, 1) := by decide +kernel
theorem dX5_has_21 : decode cX5_has 21 = .ok (.iload_n 2, 1) := by decide +kernel
theorem dX5_has_22 : decode cX5_has 22 = .ok (.invokevirtual 140, 3) := by decide +kernel
theorem dX5_has_25 : decode cX5_has 25 = .ok (.goto 5, 3) := by decide +kernel
theorem dX5_has_28 : decode cX5_has 28 = .ok (.bipush (-2), 2) := by decide +kernel
theorem dX5_has_30 : decode cX5_has 30 = .ok (.ireturn, 1) := by decide +kernel
theorem dX5_earliest_0 : decode cX5_earliest 0 = .ok (.iconst 0, 1) := by decide +kernel
theorem dX5_earliest_1 : decode cX5_earliest 1 = .ok (.istore_n 2, 1) := by decide +kernel
theorem dX5_earliest_2 : decode cX5_earliest 2 = .ok (.iload_n 1, 1) := by decide +kernel
theorem dX5_earliest_3 : decode cX5_earliest 3 = .ok (.iconst 3, 1) := by decide +kernel
theorem dX5_earliest_4 : decode cX5_earliest 4 = .ok (.idiv, 1) := by decide +kernel
theorem dX5_earliest_5 : decode cX5_earliest 5 = .ok (.iconst 3, 1) := by decide +kernel
theorem dX5_earliest_6 : decode cX5_earliest 6 = .ok (.imul, 1) := by decide +kernel
theorem dX5_earliest_7 : decode cX5_earliest 7 = .ok (.istore_n 3, 1) := by decide +kernel
theorem dX5_earliest_8 : decode cX5_earliest 8 = .ok (.iload_n 3, 1) := by decide +kernel
theorem dX5_earliest_9 : decode cX5_earliest 9 = .ok (.iload_n 1, 1) := by decide +kernel
theorem dX5_earliest_10 : decode cX5_earliest 10 = .ok (.if_icmp .gt 34, 3) := by decide +kernel
theorem dX5_earliest_13 : decode cX5_earliest 13 = .ok (.iload_n 2, 1) := by decide +kernel
theorem dX5_earliest_14 : decode cX5_earliest 14 = .ok (.aload_n 0, 1) := by decide +kernel
theorem dX5_earliest_15 : decode cX5_earliest 15 = .ok (.getfield 50, 3) := by decide +kernel
theorem dX5_earliest_18 : decode cX5_earliest 18 = .ok (.iload_n 3, 1) := by decide +kernel
theorem dX5_earliest_19 : decode cX5_earliest 19 = .ok (.iaload, 1) := by decide +kernel
theorem dX5_earliest_20 : decode cX5_earliest 20 = .ok (.iload_n 3, 1) := by decide +kernel
theorem dX5_earliest_21 : decode cX5_earliest 21 = .ok (.iload_n 1, 1) := by decide +kernel
theorem dX5_earliest_22 : decode cX5_earliest 22 = .ok (.if_icmp .ge 12, 3) := by decide +kernel
theorem dX5_earliest_25 : decode cX5_earliest 25 = .ok (.aload_n 0, 1) := by decide +kernel
theorem dX5_earliest_26 : decode cX5_earliest 26 = .ok (.getfield 44, 3) := by decide +kernel
theorem dX5_earliest_29 : decode cX5_earliest 29 = .ok (.iload_n 3, 1) := by decide +kernel
theorem dX5_earliest_30 : decode cX5_earliest 30 = .ok (.iaload, 1) := by decide +kernel
theorem dX5_earliest_31 : decode cX5_earliest 31 = .ok (.goto 4, 3) := by decide +kernel
theorem dX5_earliest_34 : decode cX5_earliest 34 = .ok (.iconst 0, 1) := by decide +kernel
theorem dX5_earliest_35 : decode cX5_earliest 35 = .ok (.iadd, 1) := by decide +kernel
theorem dX5_earliest_36 : decode cX5_earliest 36 = .ok (.iadd, 1) := by decide +kernel
theorem dX5_earliest_37 : decode cX5_earliest 37 = .ok (.istore_n 2, 1) := by decide +kernel
theorem dX5_earliest_38 : decode cX5_earliest 38 = .ok (.iinc 3 1, 3) := by decide +kernel
theorem dX5_earliest_41 : decode cX5_earliest 41 = .ok (.goto (-33), 3) := by decide +kernel
theorem dX5_earliest_44 : decode cX5_earliest 44 = .ok (.iload_n 2, 1) := by decide +kernel
theorem dX5_earliest_45 : decode cX5_earliest 45 = .ok (.ireturn, 1) := by decide +kernel
theorem dX5_isRival_0 : decode cX5_isRival 0 = .ok (.aload_n 0, 1) := by decide +kernel
theorem dX5_isRival_1 : decode cX5_isRival 1 = .ok (.iload_n 2, 1) := by decide +kernel
theorem dX5_isRival_2 : decode cX5_isRival 2 = .ok (.invokevirtual 160, 3) := by decide +kernel
theorem dX5_isRival_5 : decode cX5_isRival 5 = .ok (.ifCond .eq 42, 3) := by decide +kernel
theorem dX5_isRival_8 : decode cX5_isRival 8 = .ok (.iload_n 2, 1) := by decide +kernel
theorem dX5_isRival_9 : decode cX5_isRival 9 = .ok (.iload_n 1, 1) := by decide +kernel
theorem dX5_isRival_10 : decode cX5_isRival 10 = .ok (.if_icmp .eq 37, 3) := by decide +kernel
theorem dX5_isRival_13 : decode cX5_isRival 13 = .ok (.aload_n 0, 1) := by decide +kernel
theorem dX5_isRival_14 : decode cX5_isRival 14 = .ok (.getfield 41, 3) := by decide +kernel
theorem dX5_isRival_17 : decode cX5_isRival 17 = .ok (.iload_n 2, 1) := by decide +kernel
theorem dX5_isRival_18 : decode cX5_isRival 18 = .ok (.iaload, 1) := by decide +kernel
theorem dX5_isRival_19 : decode cX5_isRival 19 = .ok (.aload_n 0, 1) := by decide +kernel
theorem dX5_isRival_20 : decode cX5_isRival 20 = .ok (.getfield 41, 3) := by decide +kernel
theorem dX5_isRival_23 : decode cX5_isRival 23 = .ok (.iload_n 1, 1) := by decide +kernel
theorem dX5_isRival_24 : decode cX5_isRival 24 = .ok (.iaload, 1) := by decide +kernel
theorem dX5_isRival_25 : decode cX5_isRival 25 = .ok (.if_icmp .ne 22, 3) := by decide +kernel
theorem dX5_isRival_28 : decode cX5_isRival 28 = .ok (.aload_n 0, 1) := by decide +kernel
theorem dX5_isRival_29 : decode cX5_isRival 29 = .ok (.getfield 47, 3) := by decide +kernel
theorem dX5_isRival_32 : decode cX5_isRival 32 = .ok (.iload_n 2, 1) := by decide +kernel
theorem dX5_isRival_33 : decode cX5_isRival 33 = .ok (.iaload, 1) := by decide +kernel
theorem dX5_isRival_34 : decode cX5_isRival 34 = .ok (.aload_n 0, 1) := by decide +kernel
theorem dX5_isRival_35 : decode cX5_isRival 35 = .ok (.getfield 47, 3) := by decide +kernel
theorem dX5_isRival_38 : decode cX5_isRival 38 = .ok (.iload_n 1, 1) := by decide +kernel
theorem dX5_isRival_39 : decode cX5_isRival 39 = .ok (.iaload, 1) := by decide +kernel
theorem dX5_isRival_40 : decode cX5_isRival 40 = .ok (.if_icmp .lt 7, 3) := by decide +kernel
theorem dX5_isRival_43 : decode cX5_isRival 43 = .ok (.iconst 1, 1) := by decide +kernel
theorem dX5_isRival_44 : decode cX5_isRival 44 = .ok (.goto 4, 3) := by decide +kernel
theorem dX5_isRival_47 : decode cX5_isRival 47 = .ok (.iconst 0, 1) := by decide +kernel
theorem dX5_isRival_48 : decode cX5_isRival 48 = .ok (.ireturn, 1) := by decide +kernel
theorem dX5_rivals_0 : decode cX5_rivals 0 = .ok (.iconst 0, 1) := by decide +kernel
theorem dX5_rivals_1 : decode cX5_rivals 1 = .ok (.istore_n 2, 1) := by decide +kernel
theorem dX5_rivals_2 : decode cX5_rivals 2 = .ok (.iconst 0, 1) := by decide +kernel
theorem dX5_rivals_3 : decode cX5_rivals 3 = .ok (.istore_n 3, 1) := by decide +kernel
theorem dX5_rivals_4 : decode cX5_rivals 4 = .ok (.iload_n 3, 1) := by decide +kernel
theorem dX5_rivals_5 : decode cX5_rivals 5 = .ok (.bipush 9, 2) := by decide +kernel
theorem dX5_rivals_7 : decode cX5_rivals 7 = .ok (.if_icmp .ge 26, 3) := by decide +kernel
theorem dX5_rivals_10 : decode cX5_rivals 10 = .ok (.iload_n 2, 1) := by decide +kernel
theorem dX5_rivals_11 : decode cX5_rivals 11 = .ok (.aload_n 0, 1) := by decide +kernel
theorem dX5_rivals_12 : decode cX5_rivals 12 = .ok (.iload_n 1, 1) := by decide +kernel
theorem dX5_rivals_13 : decode cX5_rivals 13 = .ok (.iload_n 3, 1) := by decide +kernel
theorem dX5_rivals_14 : decode cX5_rivals 14 = .ok (.invokevirtual 163, 3) := by decide +kernel
theorem dX5_rivals_17 : decode cX5_rivals 17 = .ok (.ifCond .eq 7, 3) := by decide +kernel
theorem dX5_rivals_20 : decode cX5_rivals 20 = .ok (.iconst 1, 1) := by decide +kernel
theorem dX5_rivals_21 : decode cX5_rivals 21 = .ok (.goto 4, 3) := by decide +kernel
theorem dX5_rivals_24 : decode cX5_rivals 24 = .ok (.iconst 0, 1) := by decide +kernel
theorem dX5_rivals_25 : decode cX5_rivals 25 = .ok (.iadd, 1) := by decide +kernel
theorem dX5_rivals_26 : decode cX5_rivals 26 = .ok (.istore_n 2, 1) := by decide +kernel
theorem dX5_rivals_27 : decode cX5_rivals 27 = .ok (.iinc 3 1, 3) := by decide +kernel
theorem dX5_rivals_30 : decode cX5_rivals 30 = .ok (.goto (-26), 3) := by decide +kernel
theorem dX5_rivals_33 : decode cX5_rivals 33 = .ok (.iload_n 2, 1) := by decide +kernel
theorem dX5_rivals_34 : decode cX5_rivals 34 = .ok (.ireturn, 1) := by decide +kernel
theorem dX5_loads_0 : decode cX5_loads 0 = .ok (.aload_n 0, 1) := by decide +kernel
theorem dX5_loads_1 : decode cX5_loads 1 = .ok (.aload_n 0, 1) := by decide +kernel
theorem dX5_loads_2 : decode cX5_loads 2 = .ok (.getfield 23, 3) := by decide +kernel
theorem dX5_loads_5 : decode cX5_loads 5 = .ok (.iconst 0, 1) := by decide +kernel
theorem dX5_loads_6 : decode cX5_loads 6 = .ok (.iaload, 1) := by decide +kernel
theorem dX5_loads_7 : decode cX5_loads 7 = .ok (.i2l, 1) := by decide +kernel
theorem dX5_loads_8 : decode cX5_loads 8 = .ok (.aload_n 0, 1) := by decide +kernel
theorem dX5_loads_9 : decode cX5_loads 9 = .ok (.getfield 23, 3) := by decide +kernel
theorem dX5_loads_12 : decode cX5_loads 12 = .ok (.iconst 1, 1) := by decide +kernel
theorem dX5_loads_13 : decode cX5_loads 13 = .ok (.iaload, 1) := by decide +kernel
theorem dX5_loads_14 : decode cX5_loads 14 = .ok (.i2l, 1) := by decide +kernel
theorem dX5_loads_15 : decode cX5_loads 15 = .ok (.lmul, 1) := by decide +kernel
theorem dX5_loads_16 : decode cX5_loads 16 = .ok (.aload_n 0, 1) := by decide +kernel
theorem dX5_loads_17 : decode cX5_loads 17 = .ok (.getfield 23, 3) := by decide +kernel
theorem dX5_loads_20 : decode cX5_loads 20 = .ok (.iconst 2, 1) := by decide +kernel
theorem dX5_loads_21 : decode cX5_loads 21 = .ok (.iaload, 1) := by decide +kernel
theorem dX5_loads_22 : decode cX5_loads 22 = .ok (.i2l, 1) := by decide +kernel
theorem dX5_loads_23 : decode cX5_loads 23 = .ok (.lmul, 1) := by decide +kernel
theorem dX5_loads_24 : decode cX5_loads 24 = .ok (.putfield 166, 3) := by decide +kernel
theorem dX5_loads_27 : decode cX5_loads 27 = .ok (.aload_n 0, 1) := by decide +kernel
theorem dX5_loads_28 : decode cX5_loads 28 = .ok (.lconst 0, 1) := by decide +kernel
theorem dX5_loads_29 : decode cX5_loads 29 = .ok (.putfield 170, 3) := by decide +kernel
theorem dX5_loads_32 : decode cX5_loads 32 = .ok (.iconst 0, 1) := by decide +kernel
theorem dX5_loads_33 : decode cX5_loads 33 = .ok (.istore_n 2, 1) := by decide +kernel
theorem dX5_loads_34 : decode cX5_loads 34 = .ok (.iload_n 2, 1) := by decide +kernel
theorem dX5_loads_35 : decode cX5_loads 35 = .ok (.bipush 9, 2) := by decide +kernel
theorem dX5_loads_37 : decode cX5_loads 37 = .ok (.if_icmp .ge 58, 3) := by decide +kernel
theorem dX5_loads_40 : decode cX5_loads 40 = .ok (.aload_n 0, 1) := by decide +kernel
theorem dX5_loads_41 : decode cX5_loads 41 = .ok (.dup, 1) := by decide +kernel
theorem dX5_loads_42 : decode cX5_loads 42 = .ok (.getfield 170, 3) := by decide +kernel
theorem dX5_loads_45 : decode cX5_loads 45 = .ok (.iload_n 2, 1) := by decide +kernel
theorem dX5_loads_46 : decode cX5_loads 46 = .ok (.iload_n 1, 1) := by decide +kernel
theorem dX5_loads_47 : decode cX5_loads 47 = .ok (.if_icmp .eq 12, 3) := by decide +kernel
theorem dX5_loads_50 : decode cX5_loads 50 = .ok (.aload_n 0, 1) := by decide +kernel
theorem dX5_loads_51 : decode cX5_loads 51 = .ok (.iload_n 1, 1) := by decide +kernel
theorem dX5_loads_52 : decode cX5_loads 52 = .ok (.iload_n 2, 1) := by decide +kernel
theorem dX5_loads_53 : decode cX5_loads 53 = .ok (.invokevirtual 163, 3) := by decide +kernel
theorem dX5_loads_56 : decode cX5_loads 56 = .ok (.ifCond .eq 28, 3) := by decide +kernel
theorem dX5_loads_59 : decode cX5_loads 59 = .ok (.aload_n 0, 1) := by decide +kernel
theorem dX5_loads_60 : decode cX5_loads 60 = .ok (.getfield 44, 3) := by decide +kernel
theorem dX5_loads_63 : decode cX5_loads 63 = .ok (.iload_n 2, 1) := by decide +kernel
theorem dX5_loads_64 : decode cX5_loads 64 = .ok (.iaload, 1) := by decide +kernel
theorem dX5_loads_65 : decode cX5_loads 65 = .ok (.i2l, 1) := by decide +kernel
theorem dX5_loads_66 : decode cX5_loads 66 = .ok (.aload_n 0, 1) := by decide +kernel
theorem dX5_loads_67 : decode cX5_loads 67 = .ok (.getfield 166, 3) := by decide +kernel
theorem dX5_loads_70 : decode cX5_loads 70 = .ok (.aload_n 0, 1) := by decide +kernel
theorem dX5_loads_71 : decode cX5_loads 71 = .ok (.getfield 23, 3) := by decide +kernel
theorem dX5_loads_74 : decode cX5_loads 74 = .ok (.iload_n 2, 1) := by decide +kernel
theorem dX5_loads_75 : decode cX5_loads 75 = .ok (.iconst 3, 1) := by decide +kernel
theorem dX5_loads_76 : decode cX5_loads 76 = .ok (.idiv, 1) := by decide +kernel
theorem dX5_loads_77 : decode cX5_loads 77 = .ok (.iaload, 1) := by decide +kernel
theorem dX5_loads_78 : decode cX5_loads 78 = .ok (.i2l, 1) := by decide +kernel
theorem dX5_loads_79 : decode cX5_loads 79 = .ok (.ldiv, 1) := by decide +kernel
theorem dX5_loads_80 : decode cX5_loads 80 = .ok (.lmul, 1) := by decide +kernel
theorem dX5_loads_81 : decode cX5_loads 81 = .ok (.goto 4, 3) := by decide +kernel
theorem dX5_loads_84 : decode cX5_loads 84 = .ok (.lconst 0, 1) := by decide +kernel
theorem dX5_loads_85 : decode cX5_loads 85 = .ok (.ladd, 1) := by decide +kernel
theorem dX5_loads_86 : decode cX5_loads 86 = .ok (.putfield 170, 3) := by decide +kernel
theorem dX5_loads_89 : decode cX5_loads 89 = .ok (.iinc 2 1, 3) := by decide +kernel
theorem dX5_loads_92 : decode cX5_loads 92 = .ok (.goto (-58), 3) := by decide +kernel
theorem dX5_loads_95 : decode cX5_loads 95 = .ok (.aload_n 0, 1) := by decide +kernel
theorem dX5_loads_96 : decode cX5_loads 96 = .ok (.getfield 170, 3) := by decide +kernel
theorem dX5_loads_99 : decode cX5_loads 99 = .ok (.lstore_n 2, 1) := by decide +kernel
theorem dX5_loads_100 : decode cX5_loads 100 = .ok (.aload_n 0, 1) := by decide +kernel
theorem dX5_loads_101 : decode cX5_loads 101 = .ok (.getfield 166, 3) := by decide +kernel
theorem dX5_loads_104 : decode cX5_loads 104 = .ok (.lstore 4, 2) := by decide +kernel
theorem dX5_loads_106 : decode cX5_loads 106 = .ok (.iconst 0, 1) := by decide +kernel
theorem dX5_loads_107 : decode cX5_loads 107 = .ok (.istore 6, 2) := by decide +kernel
theorem dX5_loads_109 : decode cX5_loads 109 = .ok (.iload 6, 2) := by decide +kernel
theorem dX5_loads_111 : decode cX5_loads 111 = .ok (.bipush 100, 2) := by decide +kernel
theorem dX5_loads_113 : decode cX5_loads 113 = .ok (.if_icmp .ge 29, 3) := by decide +kernel
theorem dX5_loads_116 : decode cX5_loads 116 = .ok (.lload 4, 2) := by decide +kernel
theorem dX5_loads_118 : decode cX5_loads 118 = .ok (.lconst 0, 1) := by decide +kernel
theorem dX5_loads_119 : decode cX5_loads 119 = .ok (.lcmp, 1) := by decide +kernel
theorem dX5_loads_120 : decode cX5_loads 120 = .ok (.ifCond .eq 22, 3) := by decide +kernel
theorem dX5_loads_123 : decode cX5_loads 123 = .ok (.lload_n 2, 1) := by decide +kernel
theorem dX5_loads_124 : decode cX5_loads 124 = .ok (.lload 4, 2) := by decide +kernel
theorem dX5_loads_126 : decode cX5_loads 126 = .ok (.lrem, 1) := by decide +kernel
theorem dX5_loads_127 : decode cX5_loads 127 = .ok (.lstore 7, 2) := by decide +kernel
theorem dX5_loads_129 : decode cX5_loads 129 = .ok (.lload 4, 2) := by decide +kernel
theorem dX5_loads_131 : decode cX5_loads 131 = .ok (.lstore_n 2, 1) := by decide +kernel
theorem dX5_loads_132 : decode cX5_loads 132 = .ok (.lload 7, 2) := by decide +kernel
theorem dX5_loads_134 : decode cX5_loads 134 = .ok (.lstore 4, 2) := by decide +kernel
theorem dX5_loads_136 : decode cX5_loads 136 = .ok (.iinc 6 1, 3) := by decide +kernel
theorem dX5_loads_139 : decode cX5_loads 139 = .ok (.goto (-30), 3) := by decide +kernel
theorem dX5_loads_142 : decode cX5_loads 142 = .ok (.aload_n 0, 1) := by decide +kernel
theorem dX5_loads_143 : decode cX5_loads 143 = .ok (.dup, 1) := by decide +kernel
theorem dX5_loads_144 : decode cX5_loads 144 = .ok (.getfield 170, 3) := by decide +kernel
theorem dX5_loads_147 : decode cX5_loads 147 = .ok (.lload_n 2, 1) := by decide +kernel
theorem dX5_loads_148 : decode cX5_loads 148 = .ok (.ldiv, 1) := by decide +kernel
theorem dX5_loads_149 : decode cX5_loads 149 = .ok (.putfield 170, 3) := by decide +kernel
theorem dX5_loads_152 : decode cX5_loads 152 = .ok (.aload_n 0, 1) := by decide +kernel
theorem dX5_loads_153 : decode cX5_loads 153 = .ok (.dup, 1) := by decide +kernel
theorem dX5_loads_154 : decode cX5_loads 154 = .ok (.getfield 166, 3) := by decide +kernel
theorem dX5_loads_157 : decode cX5_loads 157 = .ok (.lload_n 2, 1) := by decide +kernel
theorem dX5_loads_158 : decode cX5_loads 158 = .ok (.ldiv, 1) := by decide +kernel
theorem dX5_loads_159 : decode cX5_loads 159 = .ok (.putfield 166, 3) := by decide +kernel
theorem dX5_loads_162 : decode cX5_loads 162 = .ok (.return_, 1) := by decide +kernel
theorem dX5_isOver_0 : decode cX5_isOver 0 = .ok (.aload_n 0, 1) := by decide +kernel
theorem dX5_isOver_1 : decode cX5_isOver 1 = .ok (.iload_n 1, 1) := by decide +kernel
theorem dX5_isOver_2 : decode cX5_isOver 2 = .ok (.invokevirtual 173, 3) := by decide +kernel
theorem dX5_isOver_5 : decode cX5_isOver 5 = .ok (.aload_n 0, 1) := by decide +kernel
theorem dX5_isOver_6 : decode cX5_isOver 6 = .ok (.getfield 170, 3) := by decide +kernel
theorem dX5_isOver_9 : decode cX5_isOver 9 = .ok (.aload_n 0, 1) := by decide +kernel
theorem dX5_isOver_10 : decode cX5_isOver 10 = .ok (.getfield 166, 3) := by decide +kernel
theorem dX5_isOver_13 : decode cX5_isOver 13 = .ok (.lcmp, 1) := by decide +kernel
theorem dX5_isOver_14 : decode cX5_isOver 14 = .ok (.ifCond .le 7, 3) := by decide +kernel
theorem dX5_isOver_17 : decode cX5_isOver 17 = .ok (.iconst 1, 1) := by decide +kernel
theorem dX5_isOver_18 : decode cX5_isOver 18 = .ok (.goto 4, 3) := by decide +kernel
theorem dX5_isOver_21 : decode cX5_isOver 21 = .ok (.iconst 0, 1) := by decide +kernel
theorem dX5_isOver_22 : decode cX5_isOver 22 = .ok (.ireturn, 1) := by decide +kernel
theorem dX5_loadBy_0 : decode cX5_loadBy 0 = .ok (.aload_n 0, 1) := by decide +kernel
theorem dX5_loadBy_1 : decode cX5_loadBy 1 = .ok (.iload_n 1, 1) := by decide +kernel
theorem dX5_loadBy_2 : decode cX5_loadBy 2 = .ok (.invokevirtual 173, 3) := by decide +kernel
theorem dX5_loadBy_5 : decode cX5_loadBy 5 = .ok (.iload_n 2, 1) := by decide +kernel
theorem dX5_loadBy_6 : decode cX5_loadBy 6 = .ok (.ifCond .ne 10, 3) := by decide +kernel
theorem dX5_loadBy_9 : decode cX5_loadBy 9 = .ok (.aload_n 0, 1) := by decide +kernel
theorem dX5_loadBy_10 : decode cX5_loadBy 10 = .ok (.getfield 170, 3) := by decide +kernel
theorem dX5_loadBy_13 : decode cX5_loadBy 13 = .ok (.goto 7, 3) := by decide +kernel
theorem dX5_loadBy_16 : decode cX5_loadBy 16 = .ok (.aload_n 0, 1) := by decide +kernel
theorem dX5_loadBy_17 : decode cX5_loadBy 17 = .ok (.getfield 166, 3) := by decide +kernel
theorem dX5_loadBy_20 : decode cX5_loadBy 20 = .ok (.l2i, 1) := by decide +kernel
theorem dX5_loadBy_21 : decode cX5_loadBy 21 = .ok (.ireturn, 1) := by decide +kernel
theorem dX5_load_0 : decode cX5_load 0 = .ok (.aload_n 0, 1) := by decide +kernel
theorem dX5_load_1 : decode cX5_load 1 = .ok (.iload_n 1, 1) := by decide +kernel
theorem dX5_load_2 : decode cX5_load 2 = .ok (.iload_n 2, 1) := by decide +kernel
theorem dX5_load_3 : decode cX5_load 3 = .ok (.invokevirtual 154, 3) := by decide +kernel
theorem dX5_load_6 : decode cX5_load 6 = .ok (.ifCond .eq 23, 3) := by decide +kernel
theorem dX5_load_9 : decode cX5_load 9 = .ok (.iload_n 3, 1) := by decide +kernel
theorem dX5_load_10 : decode cX5_load 10 = .ok (.invokestatic 177, 3) := by decide +kernel
theorem dX5_load_13 : decode cX5_load 13 = .ok (.ifCond .eq 16, 3) := by decide +kernel
theorem dX5_load_16 : decode cX5_load 16 = .ok (.aload_n 0, 1) := by decide +kernel
theorem dX5_load_17 : decode cX5_load 17 = .ok (.iconst 3, 1) := by decide +kernel
theorem dX5_load_18 : decode cX5_load 18 = .ok (.iload_n 1, 1) := by decide +kernel
theorem dX5_load_19 : decode cX5_load 19 = .ok (.imul, 1) := by decide +kernel
theorem dX5_load_20 : decode cX5_load 20 = .ok (.iload_n 2, 1) := by decide +kernel
theorem dX5_load_21 : decode cX5_load 21 = .ok (.iadd, 1) := by decide +kernel
theorem dX5_load_22 : decode cX5_load 22 = .ok (.iload_n 3, 1) := by decide +kernel
theorem dX5_load_23 : decode cX5_load 23 = .ok (.invokevirtual 180, 3) := by decide +kernel
theorem dX5_load_26 : decode cX5_load 26 = .ok (.goto 5, 3) := by decide +kernel
theorem dX5_load_29 : decode cX5_load 29 = .ok (.bipush (-2), 2) := by decide +kernel
theorem dX5_load_31 : decode cX5_load 31 = .ok (.ireturn, 1) := by decide +kernel
theorem dX5_phi_0 : decode cX5_phi 0 = .ok (.aload_n 0, 1) := by decide +kernel
theorem dX5_phi_1 : decode cX5_phi 1 = .ok (.getfield 23, 3) := by decide +kernel
theorem dX5_phi_4 : decode cX5_phi 4 = .ok (.iload_n 1, 1) := by decide +kernel
theorem dX5_phi_5 : decode cX5_phi 5 = .ok (.iconst 3, 1) := by decide +kernel
theorem dX5_phi_6 : decode cX5_phi 6 = .ok (.idiv, 1) := by decide +kernel
theorem dX5_phi_7 : decode cX5_phi 7 = .ok (.iaload, 1) := by decide +kernel
theorem dX5_phi_8 : decode cX5_phi 8 = .ok (.istore_n 3, 1) := by decide +kernel
theorem dX5_phi_9 : decode cX5_phi 9 = .ok (.aload_n 0, 1) := by decide +kernel
theorem dX5_phi_10 : decode cX5_phi 10 = .ok (.iload_n 2, 1) := by decide +kernel
theorem dX5_phi_11 : decode cX5_phi 11 = .ok (.invokevirtual 183, 3) := by decide +kernel
theorem dX5_phi_14 : decode cX5_phi 14 = .ok (.aload_n 0, 1) := by decide +kernel
theorem dX5_phi_15 : decode cX5_phi 15 = .ok (.getfield 53, 3) := by decide +kernel
theorem dX5_phi_18 : decode cX5_phi 18 = .ok (.iload_n 2, 1) := by decide +kernel
theorem dX5_phi_19 : decode cX5_phi 19 = .ok (.iaload, 1) := by decide +kernel
theorem dX5_phi_20 : decode cX5_phi 20 = .ok (.iadd, 1) := by decide +kernel
theorem dX5_phi_21 : decode cX5_phi 21 = .ok (.aload_n 0, 1) := by decide +kernel
theorem dX5_phi_22 : decode cX5_phi 22 = .ok (.iload_n 1, 1) := by decide +kernel
theorem dX5_phi_23 : decode cX5_phi 23 = .ok (.invokevirtual 183, 3) := by decide +kernel
theorem dX5_phi_26 : decode cX5_phi 26 = .ok (.isub, 1) := by decide +kernel
theorem dX5_phi_27 : decode cX5_phi 27 = .ok (.iload_n 3, 1) := by decide +kernel
theorem dX5_phi_28 : decode cX5_phi 28 = .ok (.irem, 1) := by decide +kernel
theorem dX5_phi_29 : decode cX5_phi 29 = .ok (.istore 4, 2) := by decide +kernel
theorem dX5_phi_31 : decode cX5_phi 31 = .ok (.iload_n 3, 1) := by decide +kernel
theorem dX5_phi_32 : decode cX5_phi 32 = .ok (.iload 4, 2) := by decide +kernel
theorem dX5_phi_34 : decode cX5_phi 34 = .ok (.ifCond .ge 10, 3) := by decide +kernel
theorem dX5_phi_37 : decode cX5_phi 37 = .ok (.iload 4, 2) := by decide +kernel
theorem dX5_phi_39 : decode cX5_phi 39 = .ok (.iload_n 3, 1) := by decide +kernel
theorem dX5_phi_40 : decode cX5_phi 40 = .ok (.iadd, 1) := by decide +kernel
theorem dX5_phi_41 : decode cX5_phi 41 = .ok (.goto 5, 3) := by decide +kernel
theorem dX5_phi_44 : decode cX5_phi 44 = .ok (.iload 4, 2) := by decide +kernel
theorem dX5_phi_46 : decode cX5_phi 46 = .ok (.isub, 1) := by decide +kernel
theorem dX5_phi_47 : decode cX5_phi 47 = .ok (.ireturn, 1) := by decide +kernel
theorem dX5_up_0 : decode cX5_up 0 = .ok (.iload_n 0, 1) := by decide +kernel
theorem dX5_up_1 : decode cX5_up 1 = .ok (.ifCond .gt 7, 3) := by decide +kernel
theorem dX5_up_4 : decode cX5_up 4 = .ok (.iconst 0, 1) := by decide +kernel
theorem dX5_up_5 : decode cX5_up 5 = .ok (.goto 10, 3) := by decide +kernel
theorem dX5_up_8 : decode cX5_up 8 = .ok (.iload_n 0, 1) := by decide +kernel
theorem dX5_up_9 : decode cX5_up 9 = .ok (.iload_n 1, 1) := by decide +kernel
theorem dX5_up_10 : decode cX5_up 10 = .ok (.iadd, 1) := by decide +kernel
theorem dX5_up_11 : decode cX5_up 11 = .ok (.iconst 1, 1) := by decide +kernel
theorem dX5_up_12 : decode cX5_up 12 = .ok (.isub, 1) := by decide +kernel
theorem dX5_up_13 : decode cX5_up 13 = .ok (.iload_n 1, 1) := by decide +kernel
theorem dX5_up_14 : decode cX5_up 14 = .ok (.idiv, 1) := by decide +kernel
theorem dX5_up_15 : decode cX5_up 15 = .ok (.ireturn, 1) := by decide +kernel
theorem dX5_comes_0 : decode cX5_comes 0 = .ok (.aload_n 0, 1) := by decide +kernel
theorem dX5_comes_1 : decode cX5_comes 1 = .ok (.iload_n 1, 1) := by decide +kernel
theorem dX5_comes_2 : decode cX5_comes 2 = .ok (.iload_n 2, 1) := by decide +kernel
theorem dX5_comes_3 : decode cX5_comes 3 = .ok (.invokevirtual 186, 3) := by decide +kernel
theorem dX5_comes_6 : decode cX5_comes 6 = .ok (.istore 4, 2) := by decide +kernel
theorem dX5_comes_8 : decode cX5_comes 8 = .ok (.aload_n 0, 1) := by decide +kernel
theorem dX5_comes_9 : decode cX5_comes 9 = .ok (.getfield 23, 3) := by decide +kernel
theorem dX5_comes_12 : decode cX5_comes 12 = .ok (.iload_n 1, 1) := by decide +kernel
theorem dX5_comes_13 : decode cX5_comes 13 = .ok (.iconst 3, 1) := by decide +kernel
theorem dX5_comes_14 : decode cX5_comes 14 = .ok (.idiv, 1) := by decide +kernel
theorem dX5_comes_15 : decode cX5_comes 15 = .ok (.iaload, 1) := by decide +kernel
theorem dX5_comes_16 : decode cX5_comes 16 = .ok (.istore 5, 2) := by decide +kernel
theorem dX5_comes_18 : decode cX5_comes 18 = .ok (.aload_n 0, 1) := by decide +kernel
theorem dX5_comes_19 : decode cX5_comes 19 = .ok (.getfield 53, 3) := by decide +kernel
theorem dX5_comes_22 : decode cX5_comes 22 = .ok (.iload_n 1, 1) := by decide +kernel
theorem dX5_comes_23 : decode cX5_comes 23 = .ok (.iaload, 1) := by decide +kernel
theorem dX5_comes_24 : decode cX5_comes 24 = .ok (.iload 4, 2) := by decide +kernel
theorem dX5_comes_26 : decode cX5_comes 26 = .ok (.iadd, 1) := by decide +kernel
theorem dX5_comes_27 : decode cX5_comes 27 = .ok (.iload 5, 2) := by decide +kernel
theorem dX5_comes_29 : decode cX5_comes 29 = .ok (.idiv, 1) := by decide +kernel
theorem dX5_comes_30 : decode cX5_comes 30 = .ok (.iload_n 3, 1) := by decide +kernel
theorem dX5_comes_31 : decode cX5_comes 31 = .ok (.iload 4, 2) := by decide +kernel
theorem dX5_comes_33 : decode cX5_comes 33 = .ok (.isub, 1) := by decide +kernel
theorem dX5_comes_34 : decode cX5_comes 34 = .ok (.iload 5, 2) := by decide +kernel
theorem dX5_comes_36 : decode cX5_comes 36 = .ok (.invokestatic 189, 3) := by decide +kernel
theorem dX5_comes_39 : decode cX5_comes 39 = .ok (.iadd, 1) := by decide +kernel
theorem dX5_comes_40 : decode cX5_comes 40 = .ok (.ireturn, 1) := by decide +kernel
theorem dX5_work_0 : decode cX5_work 0 = .ok (.iconst 0, 1) := by decide +kernel
theorem dX5_work_1 : decode cX5_work 1 = .ok (.istore 4, 2) := by decide +kernel
theorem dX5_work_3 : decode cX5_work 3 = .ok (.iload_n 2, 1) := by decide +kernel
theorem dX5_work_4 : decode cX5_work 4 = .ok (.iconst 3, 1) := by decide +kernel
theorem dX5_work_5 : decode cX5_work 5 = .ok (.idiv, 1) := by decide +kernel
theorem dX5_work_6 : decode cX5_work 6 = .ok (.iconst 3, 1) := by decide +kernel
theorem dX5_work_7 : decode cX5_work 7 = .ok (.imul, 1) := by decide +kernel
theorem dX5_work_8 : decode cX5_work 8 = .ok (.istore 5, 2) := by decide +kernel
theorem dX5_work_10 : decode cX5_work 10 = .ok (.iload 5, 2) := by decide +kernel
theorem dX5_work_12 : decode cX5_work 12 = .ok (.iload_n 2, 1) := by decide +kernel
theorem dX5_work_13 : decode cX5_work 13 = .ok (.iconst 3, 1) := by decide +kernel
theorem dX5_work_14 : decode cX5_work 14 = .ok (.idiv, 1) := by decide +kernel
theorem dX5_work_15 : decode cX5_work 15 = .ok (.iconst 3, 1) := by decide +kernel
theorem dX5_work_16 : decode cX5_work 16 = .ok (.imul, 1) := by decide +kernel
theorem dX5_work_17 : decode cX5_work 17 = .ok (.iconst 3, 1) := by decide +kernel
theorem dX5_work_18 : decode cX5_work 18 = .ok (.iadd, 1) := by decide +kernel
theorem dX5_work_19 : decode cX5_work 19 = .ok (.if_icmp .ge 44, 3) := by decide +kernel
theorem dX5_work_22 : decode cX5_work 22 = .ok (.iload 4, 2) := by decide +kernel
theorem dX5_work_24 : decode cX5_work 24 = .ok (.aload_n 0, 1) := by decide +kernel
theorem dX5_work_25 : decode cX5_work 25 = .ok (.iload_n 1, 1) := by decide +kernel
theorem dX5_work_26 : decode cX5_work 26 = .ok (.iload 5, 2) := by decide +kernel
theorem dX5_work_28 : decode cX5_work 28 = .ok (.invokevirtual 163, 3) := by decide +kernel
theorem dX5_work_31 : decode cX5_work 31 = .ok (.ifCond .eq 22, 3) := by decide +kernel
theorem dX5_work_34 : decode cX5_work 34 = .ok (.aload_n 0, 1) := by decide +kernel
theorem dX5_work_35 : decode cX5_work 35 = .ok (.iload 5, 2) := by decide +kernel
theorem dX5_work_37 : decode cX5_work 37 = .ok (.iload_n 2, 1) := by decide +kernel
theorem dX5_work_38 : decode cX5_work 38 = .ok (.iload_n 3, 1) := by decide +kernel
theorem dX5_work_39 : decode cX5_work 39 = .ok (.invokevirtual 192, 3) := by decide +kernel
theorem dX5_work_42 : decode cX5_work 42 = .ok (.aload_n 0, 1) := by decide +kernel
theorem dX5_work_43 : decode cX5_work 43 = .ok (.getfield 44, 3) := by decide +kernel
theorem dX5_work_46 : decode cX5_work 46 = .ok (.iload 5, 2) := by decide +kernel
theorem dX5_work_48 : decode cX5_work 48 = .ok (.iaload, 1) := by decide +kernel
theorem dX5_work_49 : decode cX5_work 49 = .ok (.imul, 1) := by decide +kernel
theorem dX5_work_50 : decode cX5_work 50 = .ok (.goto 4, 3) := by decide +kernel
theorem dX5_work_53 : decode cX5_work 53 = .ok (.iconst 0, 1) := by decide +kernel
theorem dX5_work_54 : decode cX5_work 54 = .ok (.iadd, 1) := by decide +kernel
theorem dX5_work_55 : decode cX5_work 55 = .ok (.istore 4, 2) := by decide +kernel
theorem dX5_work_57 : decode cX5_work 57 = .ok (.iinc 5 1, 3) := by decide +kernel
theorem dX5_work_60 : decode cX5_work 60 = .ok (.goto (-50), 3) := by decide +kernel
theorem dX5_work_63 : decode cX5_work 63 = .ok (.iload 4, 2) := by decide +kernel
theorem dX5_work_65 : decode cX5_work 65 = .ok (.ireturn, 1) := by decide +kernel
theorem dX5_others_0 : decode cX5_others 0 = .ok (.iconst 0, 1) := by decide +kernel
theorem dX5_others_1 : decode cX5_others 1 = .ok (.istore_n 3, 1) := by decide +kernel
theorem dX5_others_2 : decode cX5_others 2 = .ok (.iconst 0, 1) := by decide +kernel
theorem dX5_others_3 : decode cX5_others 3 = .ok (.istore 4, 2) := by decide +kernel
theorem dX5_others_5 : decode cX5_others 5 = .ok (.iload 4, 2) := by decide +kernel
theorem dX5_others_7 : decode cX5_others 7 = .ok (.iconst 3, 1) := by decide +kernel
theorem dX5_others_8 : decode cX5_others 8 = .ok (.if_icmp .ge 102, 3) := by decide +kernel
theorem dX5_others_11 : decode cX5_others 11 = .ok (.iload 4, 2) := by decide +kernel
theorem dX5_others_13 : decode cX5_others 13 = .ok (.iload_n 1, 1) := by decide +kernel
theorem dX5_others_14 : decode cX5_others 14 = .ok (.iconst 3, 1) := by decide +kernel
theorem dX5_others_15 : decode cX5_others 15 = .ok (.idiv, 1) := by decide +kernel
theorem dX5_others_16 : decode cX5_others 16 = .ok (.if_icmp .eq 88, 3) := by decide +kernel
theorem dX5_others_19 : decode cX5_others 19 = .ok (.iconst 0, 1) := by decide +kernel
theorem dX5_others_20 : decode cX5_others 20 = .ok (.istore 5, 2) := by decide +kernel
theorem dX5_others_22 : decode cX5_others 22 = .ok (.iconst 3, 1) := by decide +kernel
theorem dX5_others_23 : decode cX5_others 23 = .ok (.iload 4, 2) := by decide +kernel
theorem dX5_others_25 : decode cX5_others 25 = .ok (.imul, 1) := by decide +kernel
theorem dX5_others_26 : decode cX5_others 26 = .ok (.istore 6, 2) := by decide +kernel
theorem dX5_others_28 : decode cX5_others 28 = .ok (.iload 6, 2) := by decide +kernel
theorem dX5_others_30 : decode cX5_others 30 = .ok (.iconst 3, 1) := by decide +kernel
theorem dX5_others_31 : decode cX5_others 31 = .ok (.iload 4, 2) := by decide +kernel
theorem dX5_others_33 : decode cX5_others 33 = .ok (.imul, 1) := by decide +kernel
theorem dX5_others_34 : decode cX5_others 34 = .ok (.iconst 3, 1) := by decide +kernel
theorem dX5_others_35 : decode cX5_others 35 = .ok (.iadd, 1) := by decide +kernel
theorem dX5_others_36 : decode cX5_others 36 = .ok (.if_icmp .ge 63, 3) := by decide +kernel
theorem dX5_others_39 : decode cX5_others 39 = .ok (.aload_n 0, 1) := by decide +kernel
theorem dX5_others_40 : decode cX5_others 40 = .ok (.iload_n 1, 1) := by decide +kernel
theorem dX5_others_41 : decode cX5_others 41 = .ok (.iload 6, 2) := by decide +kernel
theorem dX5_others_43 : decode cX5_others 43 = .ok (.invokevirtual 163, 3) := by decide +kernel
theorem dX5_others_46 : decode cX5_others 46 = .ok (.ifCond .eq 43, 3) := by decide +kernel
theorem dX5_others_49 : decode cX5_others 49 = .ok (.aload_n 0, 1) := by decide +kernel
theorem dX5_others_50 : decode cX5_others 50 = .ok (.getfield 56, 3) := by decide +kernel
theorem dX5_others_53 : decode cX5_others 53 = .ok (.iload 4, 2) := by decide +kernel
theorem dX5_others_55 : decode cX5_others 55 = .ok (.iaload, 1) := by decide +kernel
theorem dX5_others_56 : decode cX5_others 56 = .ok (.bipush (-2), 2) := by decide +kernel
theorem dX5_others_58 : decode cX5_others 58 = .ok (.if_icmp .eq 15, 3) := by decide +kernel
theorem dX5_others_61 : decode cX5_others 61 = .ok (.aload_n 0, 1) := by decide +kernel
theorem dX5_others_62 : decode cX5_others 62 = .ok (.getfield 56, 3) := by decide +kernel
theorem dX5_others_65 : decode cX5_others 65 = .ok (.iload 4, 2) := by decide +kernel
theorem dX5_others_67 : decode cX5_others 67 = .ok (.iaload, 1) := by decide +kernel
theorem dX5_others_68 : decode cX5_others 68 = .ok (.iload 6, 2) := by decide +kernel
theorem dX5_others_70 : decode cX5_others 70 = .ok (.if_icmp .ne 19, 3) := by decide +kernel
theorem dX5_others_73 : decode cX5_others 73 = .ok (.iload 5, 2) := by decide +kernel
theorem dX5_others_75 : decode cX5_others 75 = .ok (.aload_n 0, 1) := by decide +kernel
theorem dX5_others_76 : decode cX5_others 76 = .ok (.iload_n 1, 1) := by decide +kernel
theorem dX5_others_77 : decode cX5_others 77 = .ok (.iload 6, 2) := by decide +kernel
theorem dX5_others_79 : decode cX5_others 79 = .ok (.iload_n 2, 1) := by decide +kernel
theorem dX5_others_80 : decode cX5_others 80 = .ok (.invokevirtual 195, 3) := by decide +kernel
theorem dX5_others_83 : decode cX5_others 83 = .ok (.invokestatic 198, 3) := by decide +kernel
theorem dX5_others_86 : decode cX5_others 86 = .ok (.goto 5, 3) := by decide +kernel
theorem dX5_others_89 : decode cX5_others 89 = .ok (.iload 5, 2) := by decide +kernel
theorem dX5_others_91 : decode cX5_others 91 = .ok (.istore 5, 2) := by decide +kernel
theorem dX5_others_93 : decode cX5_others 93 = .ok (.iinc 6 1, 3) := by decide +kernel
theorem dX5_others_96 : decode cX5_others 96 = .ok (.goto (-68), 3) := by decide +kernel
theorem dX5_others_99 : decode cX5_others 99 = .ok (.iload_n 3, 1) := by decide +kernel
theorem dX5_others_100 : decode cX5_others 100 = .ok (.iload 5, 2) := by decide +kernel
theorem dX5_others_102 : decode cX5_others 102 = .ok (.iadd, 1) := by decide +kernel
theorem dX5_others_103 : decode cX5_others 103 = .ok (.istore_n 3, 1) := by decide +kernel
theorem dX5_others_104 : decode cX5_others 104 = .ok (.iinc 4 1, 3) := by decide +kernel
theorem dX5_others_107 : decode cX5_others 107 = .ok (.goto (-102), 3) := by decide +kernel
theorem dX5_others_110 : decode cX5_others 110 = .ok (.iload_n 3, 1) := by decide +kernel
theorem dX5_others_111 : decode cX5_others 111 = .ok (.ireturn, 1) := by decide +kernel
theorem dX5_holds_0 : decode cX5_holds 0 = .ok (.iconst 1, 1) := by decide +kernel
theorem dX5_holds_1 : decode cX5_holds 1 = .ok (.istore 4, 2) := by decide +kernel
theorem dX5_holds_3 : decode cX5_holds 3 = .ok (.iconst 0, 1) := by decide +kernel
theorem dX5_holds_4 : decode cX5_holds 4 = .ok (.istore 5, 2) := by decide +kernel
theorem dX5_holds_6 : decode cX5_holds 6 = .ok (.iload 5, 2) := by decide +kernel
theorem dX5_holds_8 : decode cX5_holds 8 = .ok (.sipush 202, 3) := by decide +kernel
theorem dX5_holds_11 : decode cX5_holds 11 = .ok (.if_icmp .ge 76, 3) := by decide +kernel
theorem dX5_holds_14 : decode cX5_holds 14 = .ok (.iload 4, 2) := by decide +kernel
theorem dX5_holds_16 : decode cX5_holds 16 = .ok (.sipush 200, 3) := by decide +kernel
theorem dX5_holds_19 : decode cX5_holds 19 = .ok (.if_icmp .gt 68, 3) := by decide +kernel
theorem dX5_holds_22 : decode cX5_holds 22 = .ok (.iload_n 3, 1) := by decide +kernel
theorem dX5_holds_23 : decode cX5_holds 23 = .ok (.iconst (-1), 1) := by decide +kernel
theorem dX5_holds_24 : decode cX5_holds 24 = .ok (.if_icmp .ne 14, 3) := by decide +kernel
theorem dX5_holds_27 : decode cX5_holds 27 = .ok (.aload_n 0, 1) := by decide +kernel
theorem dX5_holds_28 : decode cX5_holds 28 = .ok (.iload_n 1, 1) := by decide +kernel
theorem dX5_holds_29 : decode cX5_holds 29 = .ok (.iload_n 2, 1) := by decide +kernel
theorem dX5_holds_30 : decode cX5_holds 30 = .ok (.iload 4, 2) := by decide +kernel
theorem dX5_holds_32 : decode cX5_holds 32 = .ok (.invokevirtual 192, 3) := by decide +kernel
theorem dX5_holds_35 : decode cX5_holds 35 = .ok (.goto 6, 3) := by decide +kernel
theorem dX5_holds_38 : decode cX5_holds 38 = .ok (.iload_n 3, 1) := by decide +kernel
theorem dX5_holds_39 : decode cX5_holds 39 = .ok (.iconst 1, 1) := by decide +kernel
theorem dX5_holds_40 : decode cX5_holds 40 = .ok (.iadd, 1) := by decide +kernel
theorem dX5_holds_41 : decode cX5_holds 41 = .ok (.aload_n 0, 1) := by decide +kernel
theorem dX5_holds_42 : decode cX5_holds 42 = .ok (.getfield 44, 3) := by decide +kernel
theorem dX5_holds_45 : decode cX5_holds 45 = .ok (.iload_n 1, 1) := by decide +kernel
theorem dX5_holds_46 : decode cX5_holds 46 = .ok (.iaload, 1) := by decide +kernel
theorem dX5_holds_47 : decode cX5_holds 47 = .ok (.imul, 1) := by decide +kernel
theorem dX5_holds_48 : decode cX5_holds 48 = .ok (.aload_n 0, 1) := by decide +kernel
theorem dX5_holds_49 : decode cX5_holds 49 = .ok (.iload_n 1, 1) := by decide +kernel
theorem dX5_holds_50 : decode cX5_holds 50 = .ok (.iload_n 2, 1) := by decide +kernel
theorem dX5_holds_51 : decode cX5_holds 51 = .ok (.iload 4, 2) := by decide +kernel
theorem dX5_holds_53 : decode cX5_holds 53 = .ok (.invokevirtual 195, 3) := by decide +kernel
theorem dX5_holds_56 : decode cX5_holds 56 = .ok (.iadd, 1) := by decide +kernel
theorem dX5_holds_57 : decode cX5_holds 57 = .ok (.aload_n 0, 1) := by decide +kernel
theorem dX5_holds_58 : decode cX5_holds 58 = .ok (.iload_n 1, 1) := by decide +kernel
theorem dX5_holds_59 : decode cX5_holds 59 = .ok (.iload 4, 2) := by decide +kernel
theorem dX5_holds_61 : decode cX5_holds 61 = .ok (.invokevirtual 201, 3) := by decide +kernel
theorem dX5_holds_64 : decode cX5_holds 64 = .ok (.iadd, 1) := by decide +kernel
theorem dX5_holds_65 : decode cX5_holds 65 = .ok (.istore 6, 2) := by decide +kernel
theorem dX5_holds_67 : decode cX5_holds 67 = .ok (.iload 6, 2) := by decide +kernel
theorem dX5_holds_69 : decode cX5_holds 69 = .ok (.iload 4, 2) := by decide +kernel
theorem dX5_holds_71 : decode cX5_holds 71 = .ok (.if_icmp .ne 6, 3) := by decide +kernel
theorem dX5_holds_74 : decode cX5_holds 74 = .ok (.iload 4, 2) := by decide +kernel
theorem dX5_holds_76 : decode cX5_holds 76 = .ok (.ireturn, 1) := by decide +kernel
theorem dX5_holds_77 : decode cX5_holds 77 = .ok (.iload 6, 2) := by decide +kernel
theorem dX5_holds_79 : decode cX5_holds 79 = .ok (.istore 4, 2) := by decide +kernel
theorem dX5_holds_81 : decode cX5_holds 81 = .ok (.iinc 5 1, 3) := by decide +kernel
theorem dX5_holds_84 : decode cX5_holds 84 = .ok (.goto (-78), 3) := by decide +kernel
theorem dX5_holds_87 : decode cX5_holds 87 = .ok (.iconst (-1), 1) := by decide +kernel
theorem dX5_holds_88 : decode cX5_holds 88 = .ok (.ireturn, 1) := by decide +kernel
theorem dX5_answers_0 : decode cX5_answers 0 = .ok (.iload_n 1, 1) := by decide +kernel
theorem dX5_answers_1 : decode cX5_answers 1 = .ok (.iconst 3, 1) := by decide +kernel
theorem dX5_answers_2 : decode cX5_answers 2 = .ok (.idiv, 1) := by decide +kernel
theorem dX5_answers_3 : decode cX5_answers 3 = .ok (.iconst 3, 1) := by decide +kernel
theorem dX5_answers_4 : decode cX5_answers 4 = .ok (.imul, 1) := by decide +kernel
theorem dX5_answers_5 : decode cX5_answers 5 = .ok (.istore_n 2, 1) := by decide +kernel
theorem dX5_answers_6 : decode cX5_answers 6 = .ok (.aload_n 0, 1) := by decide +kernel
theorem dX5_answers_7 : decode cX5_answers 7 = .ok (.iconst (-1), 1) := by decide +kernel
theorem dX5_answers_8 : decode cX5_answers 8 = .ok (.putfield 204, 3) := by decide +kernel
theorem dX5_answers_11 : decode cX5_answers 11 = .ok (.iload_n 2, 1) := by decide +kernel
theorem dX5_answers_12 : decode cX5_answers 12 = .ok (.istore_n 3, 1) := by decide +kernel
theorem dX5_answers_13 : decode cX5_answers 13 = .ok (.iload_n 3, 1) := by decide +kernel
theorem dX5_answers_14 : decode cX5_answers 14 = .ok (.iload_n 2, 1) := by decide +kernel
theorem dX5_answers_15 : decode cX5_answers 15 = .ok (.iconst 3, 1) := by decide +kernel
theorem dX5_answers_16 : decode cX5_answers 16 = .ok (.iadd, 1) := by decide +kernel
theorem dX5_answers_17 : decode cX5_answers 17 = .ok (.if_icmp .ge 51, 3) := by decide +kernel
theorem dX5_answers_20 : decode cX5_answers 20 = .ok (.iload_n 3, 1) := by decide +kernel
theorem dX5_answers_21 : decode cX5_answers 21 = .ok (.iload_n 1, 1) := by decide +kernel
theorem dX5_answers_22 : decode cX5_answers 22 = .ok (.if_icmp .eq 12, 3) := by decide +kernel
theorem dX5_answers_25 : decode cX5_answers 25 = .ok (.aload_n 0, 1) := by decide +kernel
theorem dX5_answers_26 : decode cX5_answers 26 = .ok (.iload_n 1, 1) := by decide +kernel
theorem dX5_answers_27 : decode cX5_answers 27 = .ok (.iload_n 3, 1) := by decide +kernel
theorem dX5_answers_28 : decode cX5_answers 28 = .ok (.invokevirtual 163, 3) := by decide +kernel
theorem dX5_answers_31 : decode cX5_answers 31 = .ok (.ifCond .eq 31, 3) := by decide +kernel
theorem dX5_answers_34 : decode cX5_answers 34 = .ok (.aload_n 0, 1) := by decide +kernel
theorem dX5_answers_35 : decode cX5_answers 35 = .ok (.iload_n 1, 1) := by decide +kernel
theorem dX5_answers_36 : decode cX5_answers 36 = .ok (.iload_n 3, 1) := by decide +kernel
theorem dX5_answers_37 : decode cX5_answers 37 = .ok (.iconst (-1), 1) := by decide +kernel
theorem dX5_answers_38 : decode cX5_answers 38 = .ok (.invokevirtual 207, 3) := by decide +kernel
theorem dX5_answers_41 : decode cX5_answers 41 = .ok (.istore 4, 2) := by decide +kernel
theorem dX5_answers_43 : decode cX5_answers 43 = .ok (.iload 4, 2) := by decide +kernel
theorem dX5_answers_45 : decode cX5_answers 45 = .ok (.iconst (-1), 1) := by decide +kernel
theorem dX5_answers_46 : decode cX5_answers 46 = .ok (.if_icmp .eq 14, 3) := by decide +kernel
theorem dX5_answers_49 : decode cX5_answers 49 = .ok (.aload_n 0, 1) := by decide +kernel
theorem dX5_answers_50 : decode cX5_answers 50 = .ok (.iload_n 1, 1) := by decide +kernel
theorem dX5_answers_51 : decode cX5_answers 51 = .ok (.iload_n 3, 1) := by decide +kernel
theorem dX5_answers_52 : decode cX5_answers 52 = .ok (.iload 4, 2) := by decide +kernel
theorem dX5_answers_54 : decode cX5_answers 54 = .ok (.invokevirtual 210, 3) := by decide +kernel
theorem dX5_answers_57 : decode cX5_answers 57 = .ok (.ifCond .ne 5, 3) := by decide +kernel
theorem dX5_answers_60 : decode cX5_answers 60 = .ok (.iconst 0, 1) := by decide +kernel
theorem dX5_answers_61 : decode cX5_answers 61 = .ok (.ireturn, 1) := by decide +kernel
theorem dX5_answers_62 : decode cX5_answers 62 = .ok (.iinc 3 1, 3) := by decide +kernel
theorem dX5_answers_65 : decode cX5_answers 65 = .ok (.goto (-52), 3) := by decide +kernel
theorem dX5_answers_68 : decode cX5_answers 68 = .ok (.iconst 1, 1) := by decide +kernel
theorem dX5_answers_69 : decode cX5_answers 69 = .ok (.ireturn, 1) := by decide +kernel
theorem dX5_answersBy_0 : decode cX5_answersBy 0 = .ok (.aload_n 0, 1) := by decide +kernel
theorem dX5_answersBy_1 : decode cX5_answersBy 1 = .ok (.iload_n 1, 1) := by decide +kernel
theorem dX5_answersBy_2 : decode cX5_answersBy 2 = .ok (.iload_n 2, 1) := by decide +kernel
theorem dX5_answersBy_3 : decode cX5_answersBy 3 = .ok (.invokevirtual 186, 3) := by decide +kernel
theorem dX5_answersBy_6 : decode cX5_answersBy 6 = .ok (.istore 4, 2) := by decide +kernel
theorem dX5_answersBy_8 : decode cX5_answersBy 8 = .ok (.aload_n 0, 1) := by decide +kernel
theorem dX5_answersBy_9 : decode cX5_answersBy 9 = .ok (.getfield 23, 3) := by decide +kernel
theorem dX5_answersBy_12 : decode cX5_answersBy 12 = .ok (.iload_n 1, 1) := by decide +kernel
theorem dX5_answersBy_13 : decode cX5_answersBy 13 = .ok (.iconst 3, 1) := by decide +kernel
theorem dX5_answersBy_14 : decode cX5_answersBy 14 = .ok (.idiv, 1) := by decide +kernel
theorem dX5_answersBy_15 : decode cX5_answersBy 15 = .ok (.iaload, 1) := by decide +kernel
theorem dX5_answersBy_16 : decode cX5_answersBy 16 = .ok (.istore 5, 2) := by decide +kernel
theorem dX5_answersBy_18 : decode cX5_answersBy 18 = .ok (.aload_n 0, 1) := by decide +kernel
theorem dX5_answersBy_19 : decode cX5_answersBy 19 = .ok (.getfield 53, 3) := by decide +kernel
theorem dX5_answersBy_22 : decode cX5_answersBy 22 = .ok (.iload_n 1, 1) := by decide +kernel
theorem dX5_answersBy_23 : decode cX5_answersBy 23 = .ok (.iaload, 1) := by decide +kernel
theorem dX5_answersBy_24 : decode cX5_answersBy 24 = .ok (.iload 4, 2) := by decide +kernel
theorem dX5_answersBy_26 : decode cX5_answersBy 26 = .ok (.iadd, 1) := by decide +kernel
theorem dX5_answersBy_27 : decode cX5_answersBy 27 = .ok (.iload 5, 2) := by decide +kernel
theorem dX5_answersBy_29 : decode cX5_answersBy 29 = .ok (.idiv, 1) := by decide +kernel
theorem dX5_answersBy_30 : decode cX5_answersBy 30 = .ok (.istore 6, 2) := by decide +kernel
theorem dX5_answersBy_32 : decode cX5_answersBy 32 = .ok (.aload_n 0, 1) := by decide +kernel
theorem dX5_answersBy_33 : decode cX5_answersBy 33 = .ok (.iload_n 1, 1) := by decide +kernel
theorem dX5_answersBy_34 : decode cX5_answersBy 34 = .ok (.iload_n 2, 1) := by decide +kernel
theorem dX5_answersBy_35 : decode cX5_answersBy 35 = .ok (.iload_n 3, 1) := by decide +kernel
theorem dX5_answersBy_36 : decode cX5_answersBy 36 = .ok (.invokevirtual 192, 3) := by decide +kernel
theorem dX5_answersBy_39 : decode cX5_answersBy 39 = .ok (.istore 7, 2) := by decide +kernel
theorem dX5_answersBy_41 : decode cX5_answersBy 41 = .ok (.iconst 0, 1) := by decide +kernel
theorem dX5_answersBy_42 : decode cX5_answersBy 42 = .ok (.istore 8, 2) := by decide +kernel
theorem dX5_answersBy_44 : decode cX5_answersBy 44 = .ok (.iload 8, 2) := by decide +kernel
theorem dX5_answersBy_46 : decode cX5_answersBy 46 = .ok (.iload 7, 2) := by decide +kernel
theorem dX5_answersBy_48 : decode cX5_answersBy 48 = .ok (.if_icmp .ge 88, 3) := by decide +kernel
theorem dX5_answersBy_51 : decode cX5_answersBy 51 = .ok (.aload_n 0, 1) := by decide +kernel
theorem dX5_answersBy_52 : decode cX5_answersBy 52 = .ok (.iload_n 1, 1) := by decide +kernel
theorem dX5_answersBy_53 : decode cX5_answersBy 53 = .ok (.iload_n 2, 1) := by decide +kernel
theorem dX5_answersBy_54 : decode cX5_answersBy 54 = .ok (.iload 8, 2) := by decide +kernel
theorem dX5_answersBy_56 : decode cX5_answersBy 56 = .ok (.invokevirtual 207, 3) := by decide +kernel
theorem dX5_answersBy_59 : decode cX5_answersBy 59 = .ok (.istore 9, 2) := by decide +kernel
theorem dX5_answersBy_61 : decode cX5_answersBy 61 = .ok (.iload 9, 2) := by decide +kernel
theorem dX5_answersBy_63 : decode cX5_answersBy 63 = .ok (.iconst (-1), 1) := by decide +kernel
theorem dX5_answersBy_64 : decode cX5_answersBy 64 = .ok (.if_icmp .ne 5, 3) := by decide +kernel
theorem dX5_answersBy_67 : decode cX5_answersBy 67 = .ok (.iconst 0, 1) := by decide +kernel
theorem dX5_answersBy_68 : decode cX5_answersBy 68 = .ok (.ireturn, 1) := by decide +kernel
theorem dX5_answersBy_69 : decode cX5_answersBy 69 = .ok (.iload 9, 2) := by decide +kernel
theorem dX5_answersBy_71 : decode cX5_answersBy 71 = .ok (.iload 4, 2) := by decide +kernel
theorem dX5_answersBy_73 : decode cX5_answersBy 73 = .ok (.isub, 1) := by decide +kernel
theorem dX5_answersBy_74 : decode cX5_answersBy 74 = .ok (.iload 5, 2) := by decide +kernel
theorem dX5_answersBy_76 : decode cX5_answersBy 76 = .ok (.iload 8, 2) := by decide +kernel
theorem dX5_answersBy_78 : decode cX5_answersBy 78 = .ok (.iload 6, 2) := by decide +kernel
theorem dX5_answersBy_80 : decode cX5_answersBy 80 = .ok (.isub, 1) := by decide +kernel
theorem dX5_answersBy_81 : decode cX5_answersBy 81 = .ok (.imul, 1) := by decide +kernel
theorem dX5_answersBy_82 : decode cX5_answersBy 82 = .ok (.isub, 1) := by decide +kernel
theorem dX5_answersBy_83 : decode cX5_answersBy 83 = .ok (.aload_n 0, 1) := by decide +kernel
theorem dX5_answersBy_84 : decode cX5_answersBy 84 = .ok (.iload_n 1, 1) := by decide +kernel
theorem dX5_answersBy_85 : decode cX5_answersBy 85 = .ok (.invokevirtual 183, 3) := by decide +kernel
theorem dX5_answersBy_88 : decode cX5_answersBy 88 = .ok (.iadd, 1) := by decide +kernel
theorem dX5_answersBy_89 : decode cX5_answersBy 89 = .ok (.istore 10, 2) := by decide +kernel
theorem dX5_answersBy_91 : decode cX5_answersBy 91 = .ok (.aload_n 0, 1) := by decide +kernel
theorem dX5_answersBy_92 : decode cX5_answersBy 92 = .ok (.getfield 204, 3) := by decide +kernel
theorem dX5_answersBy_95 : decode cX5_answersBy 95 = .ok (.iconst (-1), 1) := by decide +kernel
theorem dX5_answersBy_96 : decode cX5_answersBy 96 = .ok (.if_icmp .eq 12, 3) := by decide +kernel
theorem dX5_answersBy_99 : decode cX5_answersBy 99 = .ok (.iload 10, 2) := by decide +kernel
theorem dX5_answersBy_101 : decode cX5_answersBy 101 = .ok (.aload_n 0, 1) := by decide +kernel
theorem dX5_answersBy_102 : decode cX5_answersBy 102 = .ok (.getfield 204, 3) := by decide +kernel
theorem dX5_answersBy_105 : decode cX5_answersBy 105 = .ok (.if_icmp .le 25, 3) := by decide +kernel
theorem dX5_answersBy_108 : decode cX5_answersBy 108 = .ok (.aload_n 0, 1) := by decide +kernel
theorem dX5_answersBy_109 : decode cX5_answersBy 109 = .ok (.iload 10, 2) := by decide +kernel
theorem dX5_answersBy_111 : decode cX5_answersBy 111 = .ok (.putfield 204, 3) := by decide +kernel
theorem dX5_answersBy_114 : decode cX5_answersBy 114 = .ok (.aload_n 0, 1) := by decide +kernel
theorem dX5_answersBy_115 : decode cX5_answersBy 115 = .ok (.iload_n 2, 1) := by decide +kernel
theorem dX5_answersBy_116 : decode cX5_answersBy 116 = .ok (.putfield 214, 3) := by decide +kernel
theorem dX5_answersBy_119 : decode cX5_answersBy 119 = .ok (.aload_n 0, 1) := by decide +kernel
theorem dX5_answersBy_120 : decode cX5_answersBy 120 = .ok (.iload 8, 2) := by decide +kernel
theorem dX5_answersBy_122 : decode cX5_answersBy 122 = .ok (.putfield 217, 3) := by decide +kernel
theorem dX5_answersBy_125 : decode cX5_answersBy 125 = .ok (.aload_n 0, 1) := by decide +kernel
theorem dX5_answersBy_126 : decode cX5_answersBy 126 = .ok (.iload_n 3, 1) := by decide +kernel
theorem dX5_answersBy_127 : decode cX5_answersBy 127 = .ok (.putfield 220, 3) := by decide +kernel
theorem dX5_answersBy_130 : decode cX5_answersBy 130 = .ok (.iinc 8 1, 3) := by decide +kernel
theorem dX5_answersBy_133 : decode cX5_answersBy 133 = .ok (.goto (-89), 3) := by decide +kernel
theorem dX5_answersBy_136 : decode cX5_answersBy 136 = .ok (.iconst 1, 1) := by decide +kernel
theorem dX5_answersBy_137 : decode cX5_answersBy 137 = .ok (.ireturn, 1) := by decide +kernel
theorem dX5_picksAll_0 : decode cX5_picksAll 0 = .ok (.iconst 0, 1) := by decide +kernel
theorem dX5_picksAll_1 : decode cX5_picksAll 1 = .ok (.istore_n 1, 1) := by decide +kernel
theorem dX5_picksAll_2 : decode cX5_picksAll 2 = .ok (.iload_n 1, 1) := by decide +kernel
theorem dX5_picksAll_3 : decode cX5_picksAll 3 = .ok (.iconst 3, 1) := by decide +kernel
theorem dX5_picksAll_4 : decode cX5_picksAll 4 = .ok (.if_icmp .ge 17, 3) := by decide +kernel
theorem dX5_picksAll_7 : decode cX5_picksAll 7 = .ok (.aload_n 0, 1) := by decide +kernel
theorem dX5_picksAll_8 : decode cX5_picksAll 8 = .ok (.getfield 56, 3) := by decide +kernel
theorem dX5_picksAll_11 : decode cX5_picksAll 11 = .ok (.iload_n 1, 1) := by decide +kernel
theorem dX5_picksAll_12 : decode cX5_picksAll 12 = .ok (.bipush (-2), 2) := by decide +kernel
theorem dX5_picksAll_14 : decode cX5_picksAll 14 = .ok (.iastore, 1) := by decide +kernel
theorem dX5_picksAll_15 : decode cX5_picksAll 15 = .ok (.iinc 1 1, 3) := by decide +kernel
theorem dX5_picksAll_18 : decode cX5_picksAll 18 = .ok (.goto (-16), 3) := by decide +kernel
theorem dX5_picksAll_21 : decode cX5_picksAll 21 = .ok (.return_, 1) := by decide +kernel
theorem dX5_boundsAll_0 : decode cX5_boundsAll 0 = .ok (.iconst 0, 1) := by decide +kernel
theorem dX5_boundsAll_1 : decode cX5_boundsAll 1 = .ok (.istore_n 1, 1) := by decide +kernel
theorem dX5_boundsAll_2 : decode cX5_boundsAll 2 = .ok (.iload_n 1, 1) := by decide +kernel
theorem dX5_boundsAll_3 : decode cX5_boundsAll 3 = .ok (.bipush 9, 2) := by decide +kernel
theorem dX5_boundsAll_5 : decode cX5_boundsAll 5 = .ok (.if_icmp .ge 77, 3) := by decide +kernel
theorem dX5_boundsAll_8 : decode cX5_boundsAll 8 = .ok (.aload_n 0, 1) := by decide +kernel
theorem dX5_boundsAll_9 : decode cX5_boundsAll 9 = .ok (.iload_n 1, 1) := by decide +kernel
theorem dX5_boundsAll_10 : decode cX5_boundsAll 10 = .ok (.invokevirtual 160, 3) := by decide +kernel
theorem dX5_boundsAll_13 : decode cX5_boundsAll 13 = .ok (.ifCond .eq 63, 3) := by decide +kernel
theorem dX5_boundsAll_16 : decode cX5_boundsAll 16 = .ok (.aload_n 0, 1) := by decide +kernel
theorem dX5_boundsAll_17 : decode cX5_boundsAll 17 = .ok (.iload_n 1, 1) := by decide +kernel
theorem dX5_boundsAll_18 : decode cX5_boundsAll 18 = .ok (.invokevirtual 223, 3) := by decide +kernel
theorem dX5_boundsAll_21 : decode cX5_boundsAll 21 = .ok (.ifCond .ne 11, 3) := by decide +kernel
theorem dX5_boundsAll_24 : decode cX5_boundsAll 24 = .ok (.aload_n 0, 1) := by decide +kernel
theorem dX5_boundsAll_25 : decode cX5_boundsAll 25 = .ok (.iload_n 1, 1) := by decide +kernel
theorem dX5_boundsAll_26 : decode cX5_boundsAll 26 = .ok (.invokevirtual 226, 3) := by decide +kernel
theorem dX5_boundsAll_29 : decode cX5_boundsAll 29 = .ok (.ifCond .ne 5, 3) := by decide +kernel
theorem dX5_boundsAll_32 : decode cX5_boundsAll 32 = .ok (.iconst 0, 1) := by decide +kernel
theorem dX5_boundsAll_33 : decode cX5_boundsAll 33 = .ok (.ireturn, 1) := by decide +kernel
theorem dX5_boundsAll_34 : decode cX5_boundsAll 34 = .ok (.aload_n 0, 1) := by decide +kernel
theorem dX5_boundsAll_35 : decode cX5_boundsAll 35 = .ok (.getfield 59, 3) := by decide +kernel
theorem dX5_boundsAll_38 : decode cX5_boundsAll 38 = .ok (.iload_n 1, 1) := by decide +kernel
theorem dX5_boundsAll_39 : decode cX5_boundsAll 39 = .ok (.aload_n 0, 1) := by decide +kernel
theorem dX5_boundsAll_40 : decode cX5_boundsAll 40 = .ok (.getfield 204, 3) := by decide +kernel
theorem dX5_boundsAll_43 : decode cX5_boundsAll 43 = .ok (.iastore, 1) := by decide +kernel
theorem dX5_boundsAll_44 : decode cX5_boundsAll 44 = .ok (.aload_n 0, 1) := by decide +kernel
theorem dX5_boundsAll_45 : decode cX5_boundsAll 45 = .ok (.getfield 62, 3) := by decide +kernel
theorem dX5_boundsAll_48 : decode cX5_boundsAll 48 = .ok (.iload_n 1, 1) := by decide +kernel
theorem dX5_boundsAll_49 : decode cX5_boundsAll 49 = .ok (.aload_n 0, 1) := by decide +kernel
theorem dX5_boundsAll_50 : decode cX5_boundsAll 50 = .ok (.getfield 214, 3) := by decide +kernel
theorem dX5_boundsAll_53 : decode cX5_boundsAll 53 = .ok (.iconst 3, 1) := by decide +kernel
theorem dX5_boundsAll_54 : decode cX5_boundsAll 54 = .ok (.irem, 1) := by decide +kernel
theorem dX5_boundsAll_55 : decode cX5_boundsAll 55 = .ok (.iastore, 1) := by decide +kernel
theorem dX5_boundsAll_56 : decode cX5_boundsAll 56 = .ok (.aload_n 0, 1) := by decide +kernel
theorem dX5_boundsAll_57 : decode cX5_boundsAll 57 = .ok (.getfield 65, 3) := by decide +kernel
theorem dX5_boundsAll_60 : decode cX5_boundsAll 60 = .ok (.iload_n 1, 1) := by decide +kernel
theorem dX5_boundsAll_61 : decode cX5_boundsAll 61 = .ok (.aload_n 0, 1) := by decide +kernel
theorem dX5_boundsAll_62 : decode cX5_boundsAll 62 = .ok (.getfield 217, 3) := by decide +kernel
theorem dX5_boundsAll_65 : decode cX5_boundsAll 65 = .ok (.iastore, 1) := by decide +kernel
theorem dX5_boundsAll_66 : decode cX5_boundsAll 66 = .ok (.aload_n 0, 1) := by decide +kernel
theorem dX5_boundsAll_67 : decode cX5_boundsAll 67 = .ok (.getfield 68, 3) := by decide +kernel
theorem dX5_boundsAll_70 : decode cX5_boundsAll 70 = .ok (.iload_n 1, 1) := by decide +kernel
theorem dX5_boundsAll_71 : decode cX5_boundsAll 71 = .ok (.aload_n 0, 1) := by decide +kernel
theorem dX5_boundsAll_72 : decode cX5_boundsAll 72 = .ok (.getfield 220, 3) := by decide +kernel
theorem dX5_boundsAll_75 : decode cX5_boundsAll 75 = .ok (.iastore, 1) := by decide +kernel
theorem dX5_boundsAll_76 : decode cX5_boundsAll 76 = .ok (.iinc 1 1, 3) := by decide +kernel
theorem dX5_boundsAll_79 : decode cX5_boundsAll 79 = .ok (.goto (-77), 3) := by decide +kernel
theorem dX5_boundsAll_82 : decode cX5_boundsAll 82 = .ok (.iconst 1, 1) := by decide +kernel
theorem dX5_boundsAll_83 : decode cX5_boundsAll 83 = .ok (.ireturn, 1) := by decide +kernel
theorem dX5_settles_0 : decode cX5_settles 0 = .ok (.aload_n 0, 1) := by decide +kernel
theorem dX5_settles_1 : decode cX5_settles 1 = .ok (.invokevirtual 229, 3) := by decide +kernel
theorem dX5_settles_4 : decode cX5_settles 4 = .ok (.aload_n 0, 1) := by decide +kernel
theorem dX5_settles_5 : decode cX5_settles 5 = .ok (.iconst 0, 1) := by decide +kernel
theorem dX5_settles_6 : decode cX5_settles 6 = .ok (.putfield 232, 3) := by decide +kernel
theorem dX5_settles_9 : decode cX5_settles 9 = .ok (.iconst 0, 1) := by decide +kernel
theorem dX5_settles_10 : decode cX5_settles 10 = .ok (.istore_n 1, 1) := by decide +kernel
theorem dX5_settles_11 : decode cX5_settles 11 = .ok (.iload_n 1, 1) := by decide +kernel
theorem dX5_settles_12 : decode cX5_settles 12 = .ok (.bipush 9, 2) := by decide +kernel
theorem dX5_settles_14 : decode cX5_settles 14 = .ok (.if_icmp .ge 33, 3) := by decide +kernel
theorem dX5_settles_17 : decode cX5_settles 17 = .ok (.aload_n 0, 1) := by decide +kernel
theorem dX5_settles_18 : decode cX5_settles 18 = .ok (.getfield 53, 3) := by decide +kernel
theorem dX5_settles_21 : decode cX5_settles 21 = .ok (.iload_n 1, 1) := by decide +kernel
theorem dX5_settles_22 : decode cX5_settles 22 = .ok (.iload_n 1, 1) := by decide +kernel
theorem dX5_settles_23 : decode cX5_settles 23 = .ok (.iconst 3, 1) := by decide +kernel
theorem dX5_settles_24 : decode cX5_settles 24 = .ok (.irem, 1) := by decide +kernel
theorem dX5_settles_25 : decode cX5_settles 25 = .ok (.ifCond .ne 14, 3) := by decide +kernel
theorem dX5_settles_28 : decode cX5_settles 28 = .ok (.aload_n 0, 1) := by decide +kernel
theorem dX5_settles_29 : decode cX5_settles 29 = .ok (.getfield 26, 3) := by decide +kernel
theorem dX5_settles_32 : decode cX5_settles 32 = .ok (.iload_n 1, 1) := by decide +kernel
theorem dX5_settles_33 : decode cX5_settles 33 = .ok (.iconst 3, 1) := by decide +kernel
theorem dX5_settles_34 : decode cX5_settles 34 = .ok (.idiv, 1) := by decide +kernel
theorem dX5_settles_35 : decode cX5_settles 35 = .ok (.iaload, 1) := by decide +kernel
theorem dX5_settles_36 : decode cX5_settles 36 = .ok (.goto 4, 3) := by decide +kernel
theorem dX5_settles_39 : decode cX5_settles 39 = .ok (.iconst 0, 1) := by decide +kernel
theorem dX5_settles_40 : decode cX5_settles 40 = .ok (.iastore, 1) := by decide +kernel
theorem dX5_settles_41 : decode cX5_settles 41 = .ok (.iinc 1 1, 3) := by decide +kernel
theorem dX5_settles_44 : decode cX5_settles 44 = .ok (.goto (-33), 3) := by decide +kernel
theorem dX5_settles_47 : decode cX5_settles 47 = .ok (.iconst 1, 1) := by decide +kernel
theorem dX5_settles_48 : decode cX5_settles 48 = .ok (.istore_n 1, 1) := by decide +kernel
theorem dX5_settles_49 : decode cX5_settles 49 = .ok (.iconst 1, 1) := by decide +kernel
theorem dX5_settles_50 : decode cX5_settles 50 = .ok (.istore_n 2, 1) := by decide +kernel
theorem dX5_settles_51 : decode cX5_settles 51 = .ok (.iload_n 2, 1) := by decide +kernel
theorem dX5_settles_52 : decode cX5_settles 52 = .ok (.bipush 20, 2) := by decide +kernel
theorem dX5_settles_54 : decode cX5_settles 54 = .ok (.if_icmp .gt 159, 3) := by decide +kernel
theorem dX5_settles_57 : decode cX5_settles 57 = .ok (.iload_n 1, 1) := by decide +kernel
theorem dX5_settles_58 : decode cX5_settles 58 = .ok (.ifCond .eq 155, 3) := by decide +kernel
theorem dX5_settles_61 : decode cX5_settles 61 = .ok (.aload_n 0, 1) := by decide +kernel
theorem dX5_settles_62 : decode cX5_settles 62 = .ok (.invokevirtual 236, 3) := by decide +kernel
theorem dX5_settles_65 : decode cX5_settles 65 = .ok (.istore_n 1, 1) := by decide +kernel
theorem dX5_settles_66 : decode cX5_settles 66 = .ok (.iconst 0, 1) := by decide +kernel
theorem dX5_settles_67 : decode cX5_settles 67 = .ok (.istore_n 3, 1) := by decide +kernel
theorem dX5_settles_68 : decode cX5_settles 68 = .ok (.iconst 0, 1) := by decide +kernel
theorem dX5_settles_69 : decode cX5_settles 69 = .ok (.istore 4, 2) := by decide +kernel
theorem dX5_settles_71 : decode cX5_settles 71 = .ok (.iload 4, 2) := by decide +kernel
theorem dX5_settles_73 : decode cX5_settles 73 = .ok (.bipush 9, 2) := by decide +kernel
theorem dX5_settles_75 : decode cX5_settles 75 = .ok (.if_icmp .ge 96, 3) := by decide +kernel
theorem dX5_settles_78 : decode cX5_settles 78 = .ok (.iload_n 1, 1) := by decide +kernel
theorem dX5_settles_79 : decode cX5_settles 79 = .ok (.ifCond .eq 92, 3) := by decide +kernel
theorem dX5_settles_82 : decode cX5_settles 82 = .ok (.iload 4, 2) := by decide +kernel
theorem dX5_settles_84 : decode cX5_settles 84 = .ok (.iconst 3, 1) := by decide +kernel
theorem dX5_settles_85 : decode cX5_settles 85 = .ok (.irem, 1) := by decide +kernel
theorem dX5_settles_86 : decode cX5_settles 86 = .ok (.ifCond .le 79, 3) := by decide +kernel
theorem dX5_settles_89 : decode cX5_settles 89 = .ok (.aload_n 0, 1) := by decide +kernel
theorem dX5_settles_90 : decode cX5_settles 90 = .ok (.iload 4, 2) := by decide +kernel
theorem dX5_settles_92 : decode cX5_settles 92 = .ok (.invokevirtual 160, 3) := by decide +kernel
theorem dX5_settles_95 : decode cX5_settles 95 = .ok (.ifCond .eq 70, 3) := by decide +kernel
theorem dX5_settles_98 : decode cX5_settles 98 = .ok (.aload_n 0, 1) := by decide +kernel
theorem dX5_settles_99 : decode cX5_settles 99 = .ok (.getfield 59, 3) := by decide +kernel
theorem dX5_settles_102 : decode cX5_settles 102 = .ok (.iload 4, 2) := by decide +kernel
theorem dX5_settles_104 : decode cX5_settles 104 = .ok (.iconst 1, 1) := by decide +kernel
theorem dX5_settles_105 : decode cX5_settles 105 = .ok (.isub, 1) := by decide +kernel
theorem dX5_settles_106 : decode cX5_settles 106 = .ok (.iaload, 1) := by decide +kernel
theorem dX5_settles_107 : decode cX5_settles 107 = .ok (.aload_n 0, 1) := by decide +kernel
theorem dX5_settles_108 : decode cX5_settles 108 = .ok (.getfield 50, 3) := by decide +kernel
theorem dX5_settles_111 : decode cX5_settles 111 = .ok (.iload 4, 2) := by decide +kernel
theorem dX5_settles_113 : decode cX5_settles 113 = .ok (.iaload, 1) := by decide +kernel
theorem dX5_settles_114 : decode cX5_settles 114 = .ok (.iadd, 1) := by decide +kernel
theorem dX5_settles_115 : decode cX5_settles 115 = .ok (.aload_n 0, 1) := by decide +kernel
theorem dX5_settles_116 : decode cX5_settles 116 = .ok (.iload 4, 2) := by decide +kernel
theorem dX5_settles_118 : decode cX5_settles 118 = .ok (.invokevirtual 183, 3) := by decide +kernel
theorem dX5_settles_121 : decode cX5_settles 121 = .ok (.isub, 1) := by decide +kernel
theorem dX5_settles_122 : decode cX5_settles 122 = .ok (.istore 5, 2) := by decide +kernel
theorem dX5_settles_124 : decode cX5_settles 124 = .ok (.iload_n 3, 1) := by decide +kernel
theorem dX5_settles_125 : decode cX5_settles 125 = .ok (.ifCond .ne 15, 3) := by decide +kernel
theorem dX5_settles_128 : decode cX5_settles 128 = .ok (.iload 5, 2) := by decide +kernel
theorem dX5_settles_130 : decode cX5_settles 130 = .ok (.aload_n 0, 1) := by decide +kernel
theorem dX5_settles_131 : decode cX5_settles 131 = .ok (.getfield 53, 3) := by decide +kernel
theorem dX5_settles_134 : decode cX5_settles 134 = .ok (.iload 4, 2) := by decide +kernel
theorem dX5_settles_136 : decode cX5_settles 136 = .ok (.iaload, 1) := by decide +kernel
theorem dX5_settles_137 : decode cX5_settles 137 = .ok (.if_icmp .le 7, 3) := by decide +kernel
theorem dX5_settles_140 : decode cX5_settles 140 = .ok (.iconst 1, 1) := by decide +kernel
theorem dX5_settles_141 : decode cX5_settles 141 = .ok (.goto 4, 3) := by decide +kernel
theorem dX5_settles_144 : decode cX5_settles 144 = .ok (.iconst 0, 1) := by decide +kernel
theorem dX5_settles_145 : decode cX5_settles 145 = .ok (.istore_n 3, 1) := by decide +kernel
theorem dX5_settles_146 : decode cX5_settles 146 = .ok (.aload_n 0, 1) := by decide +kernel
theorem dX5_settles_147 : decode cX5_settles 147 = .ok (.getfield 53, 3) := by decide +kernel
theorem dX5_settles_150 : decode cX5_settles 150 = .ok (.iload 4, 2) := by decide +kernel
theorem dX5_settles_152 : decode cX5_settles 152 = .ok (.iload 5, 2) := by decide +kernel
theorem dX5_settles_154 : decode cX5_settles 154 = .ok (.aload_n 0, 1) := by decide +kernel
theorem dX5_settles_155 : decode cX5_settles 155 = .ok (.getfield 53, 3) := by decide +kernel
theorem dX5_settles_158 : decode cX5_settles 158 = .ok (.iload 4, 2) := by decide +kernel
theorem dX5_settles_160 : decode cX5_settles 160 = .ok (.iaload, 1) := by decide +kernel
theorem dX5_settles_161 : decode cX5_settles 161 = .ok (.invokestatic 198, 3) := by decide +kernel
theorem dX5_settles_164 : decode cX5_settles 164 = .ok (.iastore, 1) := by decide +kernel
theorem dX5_settles_165 : decode cX5_settles 165 = .ok (.iinc 4 1, 3) := by decide +kernel
theorem dX5_settles_168 : decode cX5_settles 168 = .ok (.goto (-97), 3) := by decide +kernel
theorem dX5_settles_171 : decode cX5_settles 171 = .ok (.aload_n 0, 1) := by decide +kernel
theorem dX5_settles_172 : decode cX5_settles 172 = .ok (.iload_n 1, 1) := by decide +kernel
theorem dX5_settles_173 : decode cX5_settles 173 = .ok (.ifCond .eq 11, 3) := by decide +kernel
theorem dX5_settles_176 : decode cX5_settles 176 = .ok (.iload_n 3, 1) := by decide +kernel
theorem dX5_settles_177 : decode cX5_settles 177 = .ok (.ifCond .ne 7, 3) := by decide +kernel
theorem dX5_settles_180 : decode cX5_settles 180 = .ok (.iconst 1, 1) := by decide +kernel
theorem dX5_settles_181 : decode cX5_settles 181 = .ok (.goto 4, 3) := by decide +kernel
theorem dX5_settles_184 : decode cX5_settles 184 = .ok (.iconst 0, 1) := by decide +kernel
theorem dX5_settles_185 : decode cX5_settles 185 = .ok (.putfield 232, 3) := by decide +kernel
theorem dX5_settles_188 : decode cX5_settles 188 = .ok (.aload_n 0, 1) := by decide +kernel
theorem dX5_settles_189 : decode cX5_settles 189 = .ok (.iload_n 2, 1) := by decide +kernel
theorem dX5_settles_190 : decode cX5_settles 190 = .ok (.putfield 240, 3) := by decide +kernel
theorem dX5_settles_193 : decode cX5_settles 193 = .ok (.iload_n 1, 1) := by decide +kernel
theorem dX5_settles_194 : decode cX5_settles 194 = .ok (.ifCond .eq 11, 3) := by decide +kernel
theorem dX5_settles_197 : decode cX5_settles 197 = .ok (.iload_n 3, 1) := by decide +kernel
theorem dX5_settles_198 : decode cX5_settles 198 = .ok (.ifCond .eq 7, 3) := by decide +kernel
theorem dX5_settles_201 : decode cX5_settles 201 = .ok (.iconst 1, 1) := by decide +kernel
theorem dX5_settles_202 : decode cX5_settles 202 = .ok (.goto 4, 3) := by decide +kernel
theorem dX5_settles_205 : decode cX5_settles 205 = .ok (.iconst 0, 1) := by decide +kernel
theorem dX5_settles_206 : decode cX5_settles 206 = .ok (.istore_n 1, 1) := by decide +kernel
theorem dX5_settles_207 : decode cX5_settles 207 = .ok (.iinc 2 1, 3) := by decide +kernel
theorem dX5_settles_210 : decode cX5_settles 210 = .ok (.goto (-159), 3) := by decide +kernel
theorem dX5_settles_213 : decode cX5_settles 213 = .ok (.return_, 1) := by decide +kernel
theorem dX5_infoBy_0 : decode cX5_infoBy 0 = .ok (.iload_n 2, 1) := by decide +kernel
theorem dX5_infoBy_1 : decode cX5_infoBy 1 = .ok (.tableswitch 57 4 6 #[27, 33, 51], 27) := by decide +kernel
theorem dX5_infoBy_28 : decode cX5_infoBy 28 = .ok (.aload_n 0, 1) := by decide +kernel
theorem dX5_infoBy_29 : decode cX5_infoBy 29 = .ok (.iload_n 1, 1) := by decide +kernel
theorem dX5_infoBy_30 : decode cX5_infoBy 30 = .ok (.invokevirtual 183, 3) := by decide +kernel
theorem dX5_infoBy_33 : decode cX5_infoBy 33 = .ok (.ireturn, 1) := by decide +kernel
theorem dX5_infoBy_34 : decode cX5_infoBy 34 = .ok (.aload_n 0, 1) := by decide +kernel
theorem dX5_infoBy_35 : decode cX5_infoBy 35 = .ok (.getfield 232, 3) := by decide +kernel
theorem dX5_infoBy_38 : decode cX5_infoBy 38 = .ok (.ifCond .eq 12, 3) := by decide +kernel
theorem dX5_infoBy_41 : decode cX5_infoBy 41 = .ok (.aload_n 0, 1) := by decide +kernel
theorem dX5_infoBy_42 : decode cX5_infoBy 42 = .ok (.getfield 53, 3) := by decide +kernel
theorem dX5_infoBy_45 : decode cX5_infoBy 45 = .ok (.iload_n 1, 1) := by decide +kernel
theorem dX5_infoBy_46 : decode cX5_infoBy 46 = .ok (.iaload, 1) := by decide +kernel
theorem dX5_infoBy_47 : decode cX5_infoBy 47 = .ok (.goto 4, 3) := by decide +kernel
theorem dX5_infoBy_50 : decode cX5_infoBy 50 = .ok (.iconst (-1), 1) := by decide +kernel
theorem dX5_infoBy_51 : decode cX5_infoBy 51 = .ok (.ireturn, 1) := by decide +kernel
theorem dX5_infoBy_52 : decode cX5_infoBy 52 = .ok (.aload_n 0, 1) := by decide +kernel
theorem dX5_infoBy_53 : decode cX5_infoBy 53 = .ok (.iload_n 1, 1) := by decide +kernel
theorem dX5_infoBy_54 : decode cX5_infoBy 54 = .ok (.invokevirtual 243, 3) := by decide +kernel
theorem dX5_infoBy_57 : decode cX5_infoBy 57 = .ok (.ireturn, 1) := by decide +kernel
theorem dX5_infoBy_58 : decode cX5_infoBy 58 = .ok (.aload_n 0, 1) := by decide +kernel
theorem dX5_infoBy_59 : decode cX5_infoBy 59 = .ok (.iload_n 1, 1) := by decide +kernel
theorem dX5_infoBy_60 : decode cX5_infoBy 60 = .ok (.iload_n 2, 1) := by decide +kernel
theorem dX5_infoBy_61 : decode cX5_infoBy 61 = .ok (.invokevirtual 157, 3) := by decide +kernel
theorem dX5_infoBy_64 : decode cX5_infoBy 64 = .ok (.ireturn, 1) := by decide +kernel
theorem dX5_info_0 : decode cX5_info 0 = .ok (.aload_n 0, 1) := by decide +kernel
theorem dX5_info_1 : decode cX5_info 1 = .ok (.iload_n 1, 1) := by decide +kernel
theorem dX5_info_2 : decode cX5_info 2 = .ok (.iload_n 2, 1) := by decide +kernel
theorem dX5_info_3 : decode cX5_info 3 = .ok (.invokevirtual 154, 3) := by decide +kernel
theorem dX5_info_6 : decode cX5_info 6 = .ok (.ifCond .eq 15, 3) := by decide +kernel
theorem dX5_info_9 : decode cX5_info 9 = .ok (.iload_n 3, 1) := by decide +kernel
theorem dX5_info_10 : decode cX5_info 10 = .ok (.i2l, 1) := by decide +kernel
theorem dX5_info_11 : decode cX5_info 11 = .ok (.lconst 0, 1) := by decide +kernel
theorem dX5_info_12 : decode cX5_info 12 = .ok (.ldc2_w 246, 3) := by decide +kernel
theorem dX5_info_15 : decode cX5_info 15 = .ok (.invokestatic 89, 3) := by decide +kernel
theorem dX5_info_18 : decode cX5_info 18 = .ok (.ifCond .ne 6, 3) := by decide +kernel
theorem dX5_info_21 : decode cX5_info 21 = .ok (.bipush (-2), 2) := by decide +kernel
theorem dX5_info_23 : decode cX5_info 23 = .ok (.ireturn, 1) := by decide +kernel
theorem dX5_info_24 : decode cX5_info 24 = .ok (.aload_n 0, 1) := by decide +kernel
theorem dX5_info_25 : decode cX5_info 25 = .ok (.invokevirtual 248, 3) := by decide +kernel
theorem dX5_info_28 : decode cX5_info 28 = .ok (.aload_n 0, 1) := by decide +kernel
theorem dX5_info_29 : decode cX5_info 29 = .ok (.iconst 3, 1) := by decide +kernel
theorem dX5_info_30 : decode cX5_info 30 = .ok (.iload_n 1, 1) := by decide +kernel
theorem dX5_info_31 : decode cX5_info 31 = .ok (.imul, 1) := by decide +kernel
theorem dX5_info_32 : decode cX5_info 32 = .ok (.iload_n 2, 1) := by decide +kernel
theorem dX5_info_33 : decode cX5_info 33 = .ok (.iadd, 1) := by decide +kernel
theorem dX5_info_34 : decode cX5_info 34 = .ok (.iload_n 3, 1) := by decide +kernel
theorem dX5_info_35 : decode cX5_info 35 = .ok (.invokevirtual 251, 3) := by decide +kernel
theorem dX5_info_38 : decode cX5_info 38 = .ok (.ireturn, 1) := by decide +kernel
theorem dX5_boundBy_0 : decode cX5_boundBy 0 = .ok (.aload_n 0, 1) := by decide +kernel
theorem dX5_boundBy_1 : decode cX5_boundBy 1 = .ok (.getfield 232, 3) := by decide +kernel
theorem dX5_boundBy_4 : decode cX5_boundBy 4 = .ok (.ifCond .eq 12, 3) := by decide +kernel
theorem dX5_boundBy_7 : decode cX5_boundBy 7 = .ok (.aload_n 0, 1) := by decide +kernel
theorem dX5_boundBy_8 : decode cX5_boundBy 8 = .ok (.getfield 59, 3) := by decide +kernel
theorem dX5_boundBy_11 : decode cX5_boundBy 11 = .ok (.iload_n 1, 1) := by decide +kernel
theorem dX5_boundBy_12 : decode cX5_boundBy 12 = .ok (.iaload, 1) := by decide +kernel
theorem dX5_boundBy_13 : decode cX5_boundBy 13 = .ok (.goto 4, 3) := by decide +kernel
theorem dX5_boundBy_16 : decode cX5_boundBy 16 = .ok (.iconst (-1), 1) := by decide +kernel
theorem dX5_boundBy_17 : decode cX5_boundBy 17 = .ok (.ireturn, 1) := by decide +kernel
theorem dX5_bound_0 : decode cX5_bound 0 = .ok (.aload_n 0, 1) := by decide +kernel
theorem dX5_bound_1 : decode cX5_bound 1 = .ok (.invokevirtual 248, 3) := by decide +kernel
theorem dX5_bound_4 : decode cX5_bound 4 = .ok (.aload_n 0, 1) := by decide +kernel
theorem dX5_bound_5 : decode cX5_bound 5 = .ok (.iload_n 1, 1) := by decide +kernel
theorem dX5_bound_6 : decode cX5_bound 6 = .ok (.iload_n 2, 1) := by decide +kernel
theorem dX5_bound_7 : decode cX5_bound 7 = .ok (.invokevirtual 154, 3) := by decide +kernel
theorem dX5_bound_10 : decode cX5_bound 10 = .ok (.ifCond .eq 15, 3) := by decide +kernel
theorem dX5_bound_13 : decode cX5_bound 13 = .ok (.aload_n 0, 1) := by decide +kernel
theorem dX5_bound_14 : decode cX5_bound 14 = .ok (.iconst 3, 1) := by decide +kernel
theorem dX5_bound_15 : decode cX5_bound 15 = .ok (.iload_n 1, 1) := by decide +kernel
theorem dX5_bound_16 : decode cX5_bound 16 = .ok (.imul, 1) := by decide +kernel
theorem dX5_bound_17 : decode cX5_bound 17 = .ok (.iload_n 2, 1) := by decide +kernel
theorem dX5_bound_18 : decode cX5_bound 18 = .ok (.iadd, 1) := by decide +kernel
theorem dX5_bound_19 : decode cX5_bound 19 = .ok (.invokevirtual 254, 3) := by decide +kernel
theorem dX5_bound_22 : decode cX5_bound 22 = .ok (.goto 5, 3) := by decide +kernel
theorem dX5_bound_25 : decode cX5_bound 25 = .ok (.bipush (-2), 2) := by decide +kernel
theorem dX5_bound_27 : decode cX5_bound 27 = .ok (.ireturn, 1) := by decide +kernel
theorem dX5_momentOf_0 : decode cX5_momentOf 0 = .ok (.iconst 0, 1) := by decide +kernel
theorem dX5_momentOf_1 : decode cX5_momentOf 1 = .ok (.istore 4, 2) := by decide +kernel
theorem dX5_momentOf_3 : decode cX5_momentOf 3 = .ok (.iconst 3, 1) := by decide +kernel
theorem dX5_momentOf_4 : decode cX5_momentOf 4 = .ok (.iload_n 2, 1) := by decide +kernel
theorem dX5_momentOf_5 : decode cX5_momentOf 5 = .ok (.imul, 1) := by decide +kernel
theorem dX5_momentOf_6 : decode cX5_momentOf 6 = .ok (.istore 5, 2) := by decide +kernel
theorem dX5_momentOf_8 : decode cX5_momentOf 8 = .ok (.iload 5, 2) := by decide +kernel
theorem dX5_momentOf_10 : decode cX5_momentOf 10 = .ok (.iconst 3, 1) := by decide +kernel
theorem dX5_momentOf_11 : decode cX5_momentOf 11 = .ok (.iload_n 2, 1) := by decide +kernel
theorem dX5_momentOf_12 : decode cX5_momentOf 12 = .ok (.imul, 1) := by decide +kernel
theorem dX5_momentOf_13 : decode cX5_momentOf 13 = .ok (.iconst 3, 1) := by decide +kernel
theorem dX5_momentOf_14 : decode cX5_momentOf 14 = .ok (.iadd, 1) := by decide +kernel
theorem dX5_momentOf_15 : decode cX5_momentOf 15 = .ok (.if_icmp .ge 31, 3) := by decide +kernel
theorem dX5_momentOf_18 : decode cX5_momentOf 18 = .ok (.aload_n 0, 1) := by decide +kernel
theorem dX5_momentOf_19 : decode cX5_momentOf 19 = .ok (.iload_n 1, 1) := by decide +kernel
theorem dX5_momentOf_20 : decode cX5_momentOf 20 = .ok (.iload 5, 2) := by decide +kernel
theorem dX5_momentOf_22 : decode cX5_momentOf 22 = .ok (.invokevirtual 163, 3) := by decide +kernel
theorem dX5_momentOf_25 : decode cX5_momentOf 25 = .ok (.ifCond .eq 15, 3) := by decide +kernel
theorem dX5_momentOf_28 : decode cX5_momentOf 28 = .ok (.iload 4, 2) := by decide +kernel
theorem dX5_momentOf_30 : decode cX5_momentOf 30 = .ok (.iload_n 3, 1) := by decide +kernel
theorem dX5_momentOf_31 : decode cX5_momentOf 31 = .ok (.if_icmp .ne 6, 3) := by decide +kernel
theorem dX5_momentOf_34 : decode cX5_momentOf 34 = .ok (.iload 5, 2) := by decide +kernel
theorem dX5_momentOf_36 : decode cX5_momentOf 36 = .ok (.ireturn, 1) := by decide +kernel
theorem dX5_momentOf_37 : decode cX5_momentOf 37 = .ok (.iinc 4 1, 3) := by decide +kernel
theorem dX5_momentOf_40 : decode cX5_momentOf 40 = .ok (.iinc 5 1, 3) := by decide +kernel
theorem dX5_momentOf_43 : decode cX5_momentOf 43 = .ok (.goto (-35), 3) := by decide +kernel
theorem dX5_momentOf_46 : decode cX5_momentOf 46 = .ok (.iconst (-1), 1) := by decide +kernel
theorem dX5_momentOf_47 : decode cX5_momentOf 47 = .ok (.ireturn, 1) := by decide +kernel
theorem dX5_searchedBy_0 : decode cX5_searchedBy 0 = .ok (.aload_n 0, 1) := by decide +kernel
theorem dX5_searchedBy_1 : decode cX5_searchedBy 1 = .ok (.getfield 232, 3) := by decide +kernel
theorem dX5_searchedBy_4 : decode cX5_searchedBy 4 = .ok (.ifCond .ne 5, 3) := by decide +kernel
theorem dX5_searchedBy_7 : decode cX5_searchedBy 7 = .ok (.iconst (-1), 1) := by decide +kernel
theorem dX5_searchedBy_8 : decode cX5_searchedBy 8 = .ok (.ireturn, 1) := by decide +kernel
theorem dX5_searchedBy_9 : decode cX5_searchedBy 9 = .ok (.iload_n 1, 1) := by decide +kernel
theorem dX5_searchedBy_10 : decode cX5_searchedBy 10 = .ok (.iconst 3, 1) := by decide +kernel
theorem dX5_searchedBy_11 : decode cX5_searchedBy 11 = .ok (.idiv, 1) := by decide +kernel
theorem dX5_searchedBy_12 : decode cX5_searchedBy 12 = .ok (.ifCond .ne 7, 3) := by decide +kernel
theorem dX5_searchedBy_15 : decode cX5_searchedBy 15 = .ok (.iconst 1, 1) := by decide +kernel
theorem dX5_searchedBy_16 : decode cX5_searchedBy 16 = .ok (.goto 4, 3) := by decide +kernel
theorem dX5_searchedBy_19 : decode cX5_searchedBy 19 = .ok (.iconst 0, 1) := by decide +kernel
theorem dX5_searchedBy_20 : decode cX5_searchedBy 20 = .ok (.istore_n 2, 1) := by decide +kernel
theorem dX5_searchedBy_21 : decode cX5_searchedBy 21 = .ok (.iload_n 1, 1) := by decide +kernel
theorem dX5_searchedBy_22 : decode cX5_searchedBy 22 = .ok (.iconst 3, 1) := by decide +kernel
theorem dX5_searchedBy_23 : decode cX5_searchedBy 23 = .ok (.idiv, 1) := by decide +kernel
theorem dX5_searchedBy_24 : decode cX5_searchedBy 24 = .ok (.iconst 2, 1) := by decide +kernel
theorem dX5_searchedBy_25 : decode cX5_searchedBy 25 = .ok (.if_icmp .ne 7, 3) := by decide +kernel
theorem dX5_searchedBy_28 : decode cX5_searchedBy 28 = .ok (.iconst 1, 1) := by decide +kernel
theorem dX5_searchedBy_29 : decode cX5_searchedBy 29 = .ok (.goto 4, 3) := by decide +kernel
theorem dX5_searchedBy_32 : decode cX5_searchedBy 32 = .ok (.iconst 2, 1) := by decide +kernel
theorem dX5_searchedBy_33 : decode cX5_searchedBy 33 = .ok (.istore_n 3, 1) := by decide +kernel
theorem dX5_searchedBy_34 : decode cX5_searchedBy 34 = .ok (.iconst (-1), 1) := by decide +kernel
theorem dX5_searchedBy_35 : decode cX5_searchedBy 35 = .ok (.istore 4, 2) := by decide +kernel
theorem dX5_searchedBy_37 : decode cX5_searchedBy 37 = .ok (.iconst 1, 1) := by decide +kernel
theorem dX5_searchedBy_38 : decode cX5_searchedBy 38 = .ok (.istore 5, 2) := by decide +kernel
theorem dX5_searchedBy_40 : decode cX5_searchedBy 40 = .ok (.iconst 0, 1) := by decide +kernel
theorem dX5_searchedBy_41 : decode cX5_searchedBy 41 = .ok (.istore 6, 2) := by decide +kernel
theorem dX5_searchedBy_43 : decode cX5_searchedBy 43 = .ok (.iload 6, 2) := by decide +kernel
theorem dX5_searchedBy_45 : decode cX5_searchedBy 45 = .ok (.iconst 3, 1) := by decide +kernel
theorem dX5_searchedBy_46 : decode cX5_searchedBy 46 = .ok (.if_icmp .ge 122, 3) := by decide +kernel
theorem dX5_searchedBy_49 : decode cX5_searchedBy 49 = .ok (.iload 5, 2) := by decide +kernel
end
section
theorem dX5_searchedBy_51 : decode cX5_searchedBy 51 = .ok (.ifCond .eq 117, 3) := by decide +kernel
theorem dX5_searchedBy_54 : decode cX5_searchedBy 54 = .ok (.iconst 0, 1) := by decide +kernel
theorem dX5_searchedBy_55 : decode cX5_searchedBy 55 = .ok (.istore 7, 2) := by decide +kernel
theorem dX5_searchedBy_57 : decode cX5_searchedBy 57 = .ok (.iload 7, 2) := by decide +kernel
theorem dX5_searchedBy_59 : decode cX5_searchedBy 59 = .ok (.iconst 3, 1) := by decide +kernel
theorem dX5_searchedBy_60 : decode cX5_searchedBy 60 = .ok (.if_icmp .ge 102, 3) := by decide +kernel
theorem dX5_searchedBy_63 : decode cX5_searchedBy 63 = .ok (.iload 5, 2) := by decide +kernel
theorem dX5_searchedBy_65 : decode cX5_searchedBy 65 = .ok (.ifCond .eq 97, 3) := by decide +kernel
theorem dX5_searchedBy_68 : decode cX5_searchedBy 68 = .ok (.aload_n 0, 1) := by decide +kernel
theorem dX5_searchedBy_69 : decode cX5_searchedBy 69 = .ok (.getfield 56, 3) := by decide +kernel
theorem dX5_searchedBy_72 : decode cX5_searchedBy 72 = .ok (.iload_n 2, 1) := by decide +kernel
theorem dX5_searchedBy_73 : decode cX5_searchedBy 73 = .ok (.aload_n 0, 1) := by decide +kernel
theorem dX5_searchedBy_74 : decode cX5_searchedBy 74 = .ok (.iload_n 1, 1) := by decide +kernel
theorem dX5_searchedBy_75 : decode cX5_searchedBy 75 = .ok (.iload_n 2, 1) := by decide +kernel
theorem dX5_searchedBy_76 : decode cX5_searchedBy 76 = .ok (.iload 6, 2) := by decide +kernel
theorem dX5_searchedBy_78 : decode cX5_searchedBy 78 = .ok (.invokevirtual 257, 3) := by decide +kernel
theorem dX5_searchedBy_81 : decode cX5_searchedBy 81 = .ok (.iastore, 1) := by decide +kernel
theorem dX5_searchedBy_82 : decode cX5_searchedBy 82 = .ok (.aload_n 0, 1) := by decide +kernel
theorem dX5_searchedBy_83 : decode cX5_searchedBy 83 = .ok (.getfield 56, 3) := by decide +kernel
theorem dX5_searchedBy_86 : decode cX5_searchedBy 86 = .ok (.iload_n 3, 1) := by decide +kernel
theorem dX5_searchedBy_87 : decode cX5_searchedBy 87 = .ok (.aload_n 0, 1) := by decide +kernel
theorem dX5_searchedBy_88 : decode cX5_searchedBy 88 = .ok (.iload_n 1, 1) := by decide +kernel
theorem dX5_searchedBy_89 : decode cX5_searchedBy 89 = .ok (.iload_n 3, 1) := by decide +kernel
theorem dX5_searchedBy_90 : decode cX5_searchedBy 90 = .ok (.iload 7, 2) := by decide +kernel
theorem dX5_searchedBy_92 : decode cX5_searchedBy 92 = .ok (.invokevirtual 257, 3) := by decide +kernel
theorem dX5_searchedBy_95 : decode cX5_searchedBy 95 = .ok (.iastore, 1) := by decide +kernel
theorem dX5_searchedBy_96 : decode cX5_searchedBy 96 = .ok (.iload 6, 2) := by decide +kernel
theorem dX5_searchedBy_98 : decode cX5_searchedBy 98 = .ok (.ifCond .eq 13, 3) := by decide +kernel
theorem dX5_searchedBy_101 : decode cX5_searchedBy 101 = .ok (.aload_n 0, 1) := by decide +kernel
theorem dX5_searchedBy_102 : decode cX5_searchedBy 102 = .ok (.getfield 56, 3) := by decide +kernel
theorem dX5_searchedBy_105 : decode cX5_searchedBy 105 = .ok (.iload_n 2, 1) := by decide +kernel
theorem dX5_searchedBy_106 : decode cX5_searchedBy 106 = .ok (.iaload, 1) := by decide +kernel
theorem dX5_searchedBy_107 : decode cX5_searchedBy 107 = .ok (.iconst (-1), 1) := by decide +kernel
theorem dX5_searchedBy_108 : decode cX5_searchedBy 108 = .ok (.if_icmp .eq 22, 3) := by decide +kernel
theorem dX5_searchedBy_111 : decode cX5_searchedBy 111 = .ok (.iload 7, 2) := by decide +kernel
theorem dX5_searchedBy_113 : decode cX5_searchedBy 113 = .ok (.ifCond .eq 13, 3) := by decide +kernel
theorem dX5_searchedBy_116 : decode cX5_searchedBy 116 = .ok (.aload_n 0, 1) := by decide +kernel
theorem dX5_searchedBy_117 : decode cX5_searchedBy 117 = .ok (.getfield 56, 3) := by decide +kernel
theorem dX5_searchedBy_120 : decode cX5_searchedBy 120 = .ok (.iload_n 3, 1) := by decide +kernel
theorem dX5_searchedBy_121 : decode cX5_searchedBy 121 = .ok (.iaload, 1) := by decide +kernel
theorem dX5_searchedBy_122 : decode cX5_searchedBy 122 = .ok (.iconst (-1), 1) := by decide +kernel
theorem dX5_searchedBy_123 : decode cX5_searchedBy 123 = .ok (.if_icmp .eq 7, 3) := by decide +kernel
theorem dX5_searchedBy_126 : decode cX5_searchedBy 126 = .ok (.iconst 1, 1) := by decide +kernel
theorem dX5_searchedBy_127 : decode cX5_searchedBy 127 = .ok (.goto 4, 3) := by decide +kernel
theorem dX5_searchedBy_130 : decode cX5_searchedBy 130 = .ok (.iconst 0, 1) := by decide +kernel
theorem dX5_searchedBy_131 : decode cX5_searchedBy 131 = .ok (.istore 8, 2) := by decide +kernel
theorem dX5_searchedBy_133 : decode cX5_searchedBy 133 = .ok (.iload 8, 2) := by decide +kernel
theorem dX5_searchedBy_135 : decode cX5_searchedBy 135 = .ok (.ifCond .eq 21, 3) := by decide +kernel
theorem dX5_searchedBy_138 : decode cX5_searchedBy 138 = .ok (.aload_n 0, 1) := by decide +kernel
theorem dX5_searchedBy_139 : decode cX5_searchedBy 139 = .ok (.iload_n 1, 1) := by decide +kernel
theorem dX5_searchedBy_140 : decode cX5_searchedBy 140 = .ok (.invokevirtual 226, 3) := by decide +kernel
theorem dX5_searchedBy_143 : decode cX5_searchedBy 143 = .ok (.istore 5, 2) := by decide +kernel
theorem dX5_searchedBy_145 : decode cX5_searchedBy 145 = .ok (.iload 4, 2) := by decide +kernel
theorem dX5_searchedBy_147 : decode cX5_searchedBy 147 = .ok (.aload_n 0, 1) := by decide +kernel
theorem dX5_searchedBy_148 : decode cX5_searchedBy 148 = .ok (.getfield 204, 3) := by decide +kernel
theorem dX5_searchedBy_151 : decode cX5_searchedBy 151 = .ok (.invokestatic 198, 3) := by decide +kernel
theorem dX5_searchedBy_154 : decode cX5_searchedBy 154 = .ok (.istore 4, 2) := by decide +kernel
theorem dX5_searchedBy_156 : decode cX5_searchedBy 156 = .ok (.iinc 7 1, 3) := by decide +kernel
theorem dX5_searchedBy_159 : decode cX5_searchedBy 159 = .ok (.goto (-102), 3) := by decide +kernel
theorem dX5_searchedBy_162 : decode cX5_searchedBy 162 = .ok (.iinc 6 1, 3) := by decide +kernel
theorem dX5_searchedBy_165 : decode cX5_searchedBy 165 = .ok (.goto (-122), 3) := by decide +kernel
theorem dX5_searchedBy_168 : decode cX5_searchedBy 168 = .ok (.aload_n 0, 1) := by decide +kernel
theorem dX5_searchedBy_169 : decode cX5_searchedBy 169 = .ok (.invokevirtual 229, 3) := by decide +kernel
theorem dX5_searchedBy_172 : decode cX5_searchedBy 172 = .ok (.iload 5, 2) := by decide +kernel
theorem dX5_searchedBy_174 : decode cX5_searchedBy 174 = .ok (.ifCond .eq 8, 3) := by decide +kernel
theorem dX5_searchedBy_177 : decode cX5_searchedBy 177 = .ok (.iload 4, 2) := by decide +kernel
theorem dX5_searchedBy_179 : decode cX5_searchedBy 179 = .ok (.goto 4, 3) := by decide +kernel
theorem dX5_searchedBy_182 : decode cX5_searchedBy 182 = .ok (.iconst (-1), 1) := by decide +kernel
theorem dX5_searchedBy_183 : decode cX5_searchedBy 183 = .ok (.ireturn, 1) := by decide +kernel
theorem dX5_searched_0 : decode cX5_searched 0 = .ok (.aload_n 0, 1) := by decide +kernel
theorem dX5_searched_1 : decode cX5_searched 1 = .ok (.invokevirtual 248, 3) := by decide +kernel
theorem dX5_searched_4 : decode cX5_searched 4 = .ok (.aload_n 0, 1) := by decide +kernel
theorem dX5_searched_5 : decode cX5_searched 5 = .ok (.iload_n 1, 1) := by decide +kernel
theorem dX5_searched_6 : decode cX5_searched 6 = .ok (.iload_n 2, 1) := by decide +kernel
theorem dX5_searched_7 : decode cX5_searched 7 = .ok (.invokevirtual 154, 3) := by decide +kernel
theorem dX5_searched_10 : decode cX5_searched 10 = .ok (.ifCond .eq 15, 3) := by decide +kernel
theorem dX5_searched_13 : decode cX5_searched 13 = .ok (.aload_n 0, 1) := by decide +kernel
theorem dX5_searched_14 : decode cX5_searched 14 = .ok (.iconst 3, 1) := by decide +kernel
theorem dX5_searched_15 : decode cX5_searched 15 = .ok (.iload_n 1, 1) := by decide +kernel
theorem dX5_searched_16 : decode cX5_searched 16 = .ok (.imul, 1) := by decide +kernel
theorem dX5_searched_17 : decode cX5_searched 17 = .ok (.iload_n 2, 1) := by decide +kernel
theorem dX5_searched_18 : decode cX5_searched 18 = .ok (.iadd, 1) := by decide +kernel
theorem dX5_searched_19 : decode cX5_searched 19 = .ok (.invokevirtual 260, 3) := by decide +kernel
theorem dX5_searched_22 : decode cX5_searched 22 = .ok (.goto 5, 3) := by decide +kernel
theorem dX5_searched_25 : decode cX5_searched 25 = .ok (.bipush (-2), 2) := by decide +kernel
theorem dX5_searched_27 : decode cX5_searched 27 = .ok (.ireturn, 1) := by decide +kernel
theorem dX5_comesQuick_0 : decode cX5_comesQuick 0 = .ok (.aload_n 0, 1) := by decide +kernel
theorem dX5_comesQuick_1 : decode cX5_comesQuick 1 = .ok (.getfield 53, 3) := by decide +kernel
theorem dX5_comesQuick_4 : decode cX5_comesQuick 4 = .ok (.iload_n 1, 1) := by decide +kernel
theorem dX5_comesQuick_5 : decode cX5_comesQuick 5 = .ok (.iaload, 1) := by decide +kernel
theorem dX5_comesQuick_6 : decode cX5_comesQuick 6 = .ok (.iload_n 2, 1) := by decide +kernel
theorem dX5_comesQuick_7 : decode cX5_comesQuick 7 = .ok (.iadd, 1) := by decide +kernel
theorem dX5_comesQuick_8 : decode cX5_comesQuick 8 = .ok (.aload_n 0, 1) := by decide +kernel
theorem dX5_comesQuick_9 : decode cX5_comesQuick 9 = .ok (.getfield 23, 3) := by decide +kernel
theorem dX5_comesQuick_12 : decode cX5_comesQuick 12 = .ok (.iload_n 1, 1) := by decide +kernel
theorem dX5_comesQuick_13 : decode cX5_comesQuick 13 = .ok (.iconst 3, 1) := by decide +kernel
theorem dX5_comesQuick_14 : decode cX5_comesQuick 14 = .ok (.idiv, 1) := by decide +kernel
theorem dX5_comesQuick_15 : decode cX5_comesQuick 15 = .ok (.iaload, 1) := by decide +kernel
theorem dX5_comesQuick_16 : decode cX5_comesQuick 16 = .ok (.invokestatic 189, 3) := by decide +kernel
theorem dX5_comesQuick_19 : decode cX5_comesQuick 19 = .ok (.ireturn, 1) := by decide +kernel
theorem dX5_holdsQuick_0 : decode cX5_holdsQuick 0 = .ok (.iconst 1, 1) := by decide +kernel
theorem dX5_holdsQuick_1 : decode cX5_holdsQuick 1 = .ok (.istore_n 3, 1) := by decide +kernel
theorem dX5_holdsQuick_2 : decode cX5_holdsQuick 2 = .ok (.iconst 0, 1) := by decide +kernel
theorem dX5_holdsQuick_3 : decode cX5_holdsQuick 3 = .ok (.istore 4, 2) := by decide +kernel
theorem dX5_holdsQuick_5 : decode cX5_holdsQuick 5 = .ok (.iload 4, 2) := by decide +kernel
theorem dX5_holdsQuick_7 : decode cX5_holdsQuick 7 = .ok (.sipush 202, 3) := by decide +kernel
theorem dX5_holdsQuick_10 : decode cX5_holdsQuick 10 = .ok (.if_icmp .ge 103, 3) := by decide +kernel
theorem dX5_holdsQuick_13 : decode cX5_holdsQuick 13 = .ok (.iload_n 3, 1) := by decide +kernel
theorem dX5_holdsQuick_14 : decode cX5_holdsQuick 14 = .ok (.sipush 200, 3) := by decide +kernel
theorem dX5_holdsQuick_17 : decode cX5_holdsQuick 17 = .ok (.if_icmp .gt 96, 3) := by decide +kernel
theorem dX5_holdsQuick_20 : decode cX5_holdsQuick 20 = .ok (.iload_n 2, 1) := by decide +kernel
theorem dX5_holdsQuick_21 : decode cX5_holdsQuick 21 = .ok (.iconst (-1), 1) := by decide +kernel
theorem dX5_holdsQuick_22 : decode cX5_holdsQuick 22 = .ok (.if_icmp .ne 12, 3) := by decide +kernel
theorem dX5_holdsQuick_25 : decode cX5_holdsQuick 25 = .ok (.aload_n 0, 1) := by decide +kernel
theorem dX5_holdsQuick_26 : decode cX5_holdsQuick 26 = .ok (.iload_n 1, 1) := by decide +kernel
theorem dX5_holdsQuick_27 : decode cX5_holdsQuick 27 = .ok (.iload_n 3, 1) := by decide +kernel
theorem dX5_holdsQuick_28 : decode cX5_holdsQuick 28 = .ok (.invokevirtual 263, 3) := by decide +kernel
theorem dX5_holdsQuick_31 : decode cX5_holdsQuick 31 = .ok (.goto 6, 3) := by decide +kernel
theorem dX5_holdsQuick_34 : decode cX5_holdsQuick 34 = .ok (.iload_n 2, 1) := by decide +kernel
theorem dX5_holdsQuick_35 : decode cX5_holdsQuick 35 = .ok (.iconst 1, 1) := by decide +kernel
theorem dX5_holdsQuick_36 : decode cX5_holdsQuick 36 = .ok (.iadd, 1) := by decide +kernel
theorem dX5_holdsQuick_37 : decode cX5_holdsQuick 37 = .ok (.aload_n 0, 1) := by decide +kernel
theorem dX5_holdsQuick_38 : decode cX5_holdsQuick 38 = .ok (.getfield 44, 3) := by decide +kernel
theorem dX5_holdsQuick_41 : decode cX5_holdsQuick 41 = .ok (.iload_n 1, 1) := by decide +kernel
theorem dX5_holdsQuick_42 : decode cX5_holdsQuick 42 = .ok (.iaload, 1) := by decide +kernel
theorem dX5_holdsQuick_43 : decode cX5_holdsQuick 43 = .ok (.imul, 1) := by decide +kernel
theorem dX5_holdsQuick_44 : decode cX5_holdsQuick 44 = .ok (.istore 5, 2) := by decide +kernel
theorem dX5_holdsQuick_46 : decode cX5_holdsQuick 46 = .ok (.iconst 0, 1) := by decide +kernel
theorem dX5_holdsQuick_47 : decode cX5_holdsQuick 47 = .ok (.istore 6, 2) := by decide +kernel
theorem dX5_holdsQuick_49 : decode cX5_holdsQuick 49 = .ok (.iload 6, 2) := by decide +kernel
theorem dX5_holdsQuick_51 : decode cX5_holdsQuick 51 = .ok (.bipush 9, 2) := by decide +kernel
theorem dX5_holdsQuick_53 : decode cX5_holdsQuick 53 = .ok (.if_icmp .ge 43, 3) := by decide +kernel
theorem dX5_holdsQuick_56 : decode cX5_holdsQuick 56 = .ok (.iload 5, 2) := by decide +kernel
theorem dX5_holdsQuick_58 : decode cX5_holdsQuick 58 = .ok (.aload_n 0, 1) := by decide +kernel
theorem dX5_holdsQuick_59 : decode cX5_holdsQuick 59 = .ok (.iload_n 1, 1) := by decide +kernel
theorem dX5_holdsQuick_60 : decode cX5_holdsQuick 60 = .ok (.iload 6, 2) := by decide +kernel
theorem dX5_holdsQuick_62 : decode cX5_holdsQuick 62 = .ok (.invokevirtual 163, 3) := by decide +kernel
theorem dX5_holdsQuick_65 : decode cX5_holdsQuick 65 = .ok (.ifCond .eq 21, 3) := by decide +kernel
theorem dX5_holdsQuick_68 : decode cX5_holdsQuick 68 = .ok (.aload_n 0, 1) := by decide +kernel
theorem dX5_holdsQuick_69 : decode cX5_holdsQuick 69 = .ok (.iload 6, 2) := by decide +kernel
theorem dX5_holdsQuick_71 : decode cX5_holdsQuick 71 = .ok (.iload_n 3, 1) := by decide +kernel
theorem dX5_holdsQuick_72 : decode cX5_holdsQuick 72 = .ok (.invokevirtual 263, 3) := by decide +kernel
theorem dX5_holdsQuick_75 : decode cX5_holdsQuick 75 = .ok (.aload_n 0, 1) := by decide +kernel
theorem dX5_holdsQuick_76 : decode cX5_holdsQuick 76 = .ok (.getfield 44, 3) := by decide +kernel
theorem dX5_holdsQuick_79 : decode cX5_holdsQuick 79 = .ok (.iload 6, 2) := by decide +kernel
theorem dX5_holdsQuick_81 : decode cX5_holdsQuick 81 = .ok (.iaload, 1) := by decide +kernel
theorem dX5_holdsQuick_82 : decode cX5_holdsQuick 82 = .ok (.imul, 1) := by decide +kernel
theorem dX5_holdsQuick_83 : decode cX5_holdsQuick 83 = .ok (.goto 4, 3) := by decide +kernel
theorem dX5_holdsQuick_86 : decode cX5_holdsQuick 86 = .ok (.iconst 0, 1) := by decide +kernel
theorem dX5_holdsQuick_87 : decode cX5_holdsQuick 87 = .ok (.iadd, 1) := by decide +kernel
theorem dX5_holdsQuick_88 : decode cX5_holdsQuick 88 = .ok (.istore 5, 2) := by decide +kernel
theorem dX5_holdsQuick_90 : decode cX5_holdsQuick 90 = .ok (.iinc 6 1, 3) := by decide +kernel
theorem dX5_holdsQuick_93 : decode cX5_holdsQuick 93 = .ok (.goto (-44), 3) := by decide +kernel
theorem dX5_holdsQuick_96 : decode cX5_holdsQuick 96 = .ok (.iload 5, 2) := by decide +kernel
theorem dX5_holdsQuick_98 : decode cX5_holdsQuick 98 = .ok (.iload_n 3, 1) := by decide +kernel
theorem dX5_holdsQuick_99 : decode cX5_holdsQuick 99 = .ok (.if_icmp .ne 5, 3) := by decide +kernel
theorem dX5_holdsQuick_102 : decode cX5_holdsQuick 102 = .ok (.iload_n 3, 1) := by decide +kernel
theorem dX5_holdsQuick_103 : decode cX5_holdsQuick 103 = .ok (.ireturn, 1) := by decide +kernel
theorem dX5_holdsQuick_104 : decode cX5_holdsQuick 104 = .ok (.iload 5, 2) := by decide +kernel
theorem dX5_holdsQuick_106 : decode cX5_holdsQuick 106 = .ok (.istore_n 3, 1) := by decide +kernel
theorem dX5_holdsQuick_107 : decode cX5_holdsQuick 107 = .ok (.iinc 4 1, 3) := by decide +kernel
theorem dX5_holdsQuick_110 : decode cX5_holdsQuick 110 = .ok (.goto (-105), 3) := by decide +kernel
theorem dX5_holdsQuick_113 : decode cX5_holdsQuick 113 = .ok (.iconst (-1), 1) := by decide +kernel
theorem dX5_holdsQuick_114 : decode cX5_holdsQuick 114 = .ok (.ireturn, 1) := by decide +kernel
theorem dX5_quickBy_0 : decode cX5_quickBy 0 = .ok (.aload_n 0, 1) := by decide +kernel
theorem dX5_quickBy_1 : decode cX5_quickBy 1 = .ok (.getfield 232, 3) := by decide +kernel
theorem dX5_quickBy_4 : decode cX5_quickBy 4 = .ok (.ifCond .eq 12, 3) := by decide +kernel
theorem dX5_quickBy_7 : decode cX5_quickBy 7 = .ok (.aload_n 0, 1) := by decide +kernel
theorem dX5_quickBy_8 : decode cX5_quickBy 8 = .ok (.iload_n 1, 1) := by decide +kernel
theorem dX5_quickBy_9 : decode cX5_quickBy 9 = .ok (.iconst (-1), 1) := by decide +kernel
theorem dX5_quickBy_10 : decode cX5_quickBy 10 = .ok (.invokevirtual 266, 3) := by decide +kernel
theorem dX5_quickBy_13 : decode cX5_quickBy 13 = .ok (.goto 4, 3) := by decide +kernel
theorem dX5_quickBy_16 : decode cX5_quickBy 16 = .ok (.iconst (-1), 1) := by decide +kernel
theorem dX5_quickBy_17 : decode cX5_quickBy 17 = .ok (.istore_n 2, 1) := by decide +kernel
theorem dX5_quickBy_18 : decode cX5_quickBy 18 = .ok (.iload_n 2, 1) := by decide +kernel
theorem dX5_quickBy_19 : decode cX5_quickBy 19 = .ok (.iconst (-1), 1) := by decide +kernel
theorem dX5_quickBy_20 : decode cX5_quickBy 20 = .ok (.if_icmp .ne 5, 3) := by decide +kernel
theorem dX5_quickBy_23 : decode cX5_quickBy 23 = .ok (.iconst (-1), 1) := by decide +kernel
theorem dX5_quickBy_24 : decode cX5_quickBy 24 = .ok (.ireturn, 1) := by decide +kernel
theorem dX5_quickBy_25 : decode cX5_quickBy 25 = .ok (.iconst (-1), 1) := by decide +kernel
theorem dX5_quickBy_26 : decode cX5_quickBy 26 = .ok (.istore_n 3, 1) := by decide +kernel
theorem dX5_quickBy_27 : decode cX5_quickBy 27 = .ok (.aload_n 0, 1) := by decide +kernel
theorem dX5_quickBy_28 : decode cX5_quickBy 28 = .ok (.iload_n 1, 1) := by decide +kernel
theorem dX5_quickBy_29 : decode cX5_quickBy 29 = .ok (.iload_n 2, 1) := by decide +kernel
theorem dX5_quickBy_30 : decode cX5_quickBy 30 = .ok (.invokevirtual 263, 3) := by decide +kernel
theorem dX5_quickBy_33 : decode cX5_quickBy 33 = .ok (.istore 4, 2) := by decide +kernel
theorem dX5_quickBy_35 : decode cX5_quickBy 35 = .ok (.iconst 0, 1) := by decide +kernel
theorem dX5_quickBy_36 : decode cX5_quickBy 36 = .ok (.istore 5, 2) := by decide +kernel
theorem dX5_quickBy_38 : decode cX5_quickBy 38 = .ok (.iload 5, 2) := by decide +kernel
theorem dX5_quickBy_40 : decode cX5_quickBy 40 = .ok (.iload 4, 2) := by decide +kernel
theorem dX5_quickBy_42 : decode cX5_quickBy 42 = .ok (.if_icmp .ge 58, 3) := by decide +kernel
theorem dX5_quickBy_45 : decode cX5_quickBy 45 = .ok (.aload_n 0, 1) := by decide +kernel
theorem dX5_quickBy_46 : decode cX5_quickBy 46 = .ok (.iload_n 1, 1) := by decide +kernel
theorem dX5_quickBy_47 : decode cX5_quickBy 47 = .ok (.iload 5, 2) := by decide +kernel
theorem dX5_quickBy_49 : decode cX5_quickBy 49 = .ok (.invokevirtual 266, 3) := by decide +kernel
theorem dX5_quickBy_52 : decode cX5_quickBy 52 = .ok (.istore 6, 2) := by decide +kernel
theorem dX5_quickBy_54 : decode cX5_quickBy 54 = .ok (.iload 6, 2) := by decide +kernel
theorem dX5_quickBy_56 : decode cX5_quickBy 56 = .ok (.iconst (-1), 1) := by decide +kernel
theorem dX5_quickBy_57 : decode cX5_quickBy 57 = .ok (.if_icmp .ne 5, 3) := by decide +kernel
theorem dX5_quickBy_60 : decode cX5_quickBy 60 = .ok (.iconst (-1), 1) := by decide +kernel
theorem dX5_quickBy_61 : decode cX5_quickBy 61 = .ok (.ireturn, 1) := by decide +kernel
theorem dX5_quickBy_62 : decode cX5_quickBy 62 = .ok (.iload_n 3, 1) := by decide +kernel
theorem dX5_quickBy_63 : decode cX5_quickBy 63 = .ok (.iload 6, 2) := by decide +kernel
theorem dX5_quickBy_65 : decode cX5_quickBy 65 = .ok (.aload_n 0, 1) := by decide +kernel
theorem dX5_quickBy_66 : decode cX5_quickBy 66 = .ok (.getfield 23, 3) := by decide +kernel
theorem dX5_quickBy_69 : decode cX5_quickBy 69 = .ok (.iload_n 1, 1) := by decide +kernel
theorem dX5_quickBy_70 : decode cX5_quickBy 70 = .ok (.iconst 3, 1) := by decide +kernel
theorem dX5_quickBy_71 : decode cX5_quickBy 71 = .ok (.idiv, 1) := by decide +kernel
theorem dX5_quickBy_72 : decode cX5_quickBy 72 = .ok (.iaload, 1) := by decide +kernel
theorem dX5_quickBy_73 : decode cX5_quickBy 73 = .ok (.iload 5, 2) := by decide +kernel
theorem dX5_quickBy_75 : decode cX5_quickBy 75 = .ok (.imul, 1) := by decide +kernel
theorem dX5_quickBy_76 : decode cX5_quickBy 76 = .ok (.isub, 1) := by decide +kernel
theorem dX5_quickBy_77 : decode cX5_quickBy 77 = .ok (.aload_n 0, 1) := by decide +kernel
theorem dX5_quickBy_78 : decode cX5_quickBy 78 = .ok (.getfield 53, 3) := by decide +kernel
theorem dX5_quickBy_81 : decode cX5_quickBy 81 = .ok (.iload_n 1, 1) := by decide +kernel
theorem dX5_quickBy_82 : decode cX5_quickBy 82 = .ok (.iaload, 1) := by decide +kernel
theorem dX5_quickBy_83 : decode cX5_quickBy 83 = .ok (.iadd, 1) := by decide +kernel
theorem dX5_quickBy_84 : decode cX5_quickBy 84 = .ok (.aload_n 0, 1) := by decide +kernel
theorem dX5_quickBy_85 : decode cX5_quickBy 85 = .ok (.iload_n 1, 1) := by decide +kernel
theorem dX5_quickBy_86 : decode cX5_quickBy 86 = .ok (.invokevirtual 183, 3) := by decide +kernel
theorem dX5_quickBy_89 : decode cX5_quickBy 89 = .ok (.iadd, 1) := by decide +kernel
theorem dX5_quickBy_90 : decode cX5_quickBy 90 = .ok (.invokestatic 198, 3) := by decide +kernel
theorem dX5_quickBy_93 : decode cX5_quickBy 93 = .ok (.istore_n 3, 1) := by decide +kernel
theorem dX5_quickBy_94 : decode cX5_quickBy 94 = .ok (.iinc 5 1, 3) := by decide +kernel
theorem dX5_quickBy_97 : decode cX5_quickBy 97 = .ok (.goto (-59), 3) := by decide +kernel
theorem dX5_quickBy_100 : decode cX5_quickBy 100 = .ok (.iload_n 3, 1) := by decide +kernel
theorem dX5_quickBy_101 : decode cX5_quickBy 101 = .ok (.ireturn, 1) := by decide +kernel
theorem dX5_quick_0 : decode cX5_quick 0 = .ok (.aload_n 0, 1) := by decide +kernel
theorem dX5_quick_1 : decode cX5_quick 1 = .ok (.invokevirtual 248, 3) := by decide +kernel
theorem dX5_quick_4 : decode cX5_quick 4 = .ok (.aload_n 0, 1) := by decide +kernel
theorem dX5_quick_5 : decode cX5_quick 5 = .ok (.iload_n 1, 1) := by decide +kernel
theorem dX5_quick_6 : decode cX5_quick 6 = .ok (.iload_n 2, 1) := by decide +kernel
theorem dX5_quick_7 : decode cX5_quick 7 = .ok (.invokevirtual 154, 3) := by decide +kernel
theorem dX5_quick_10 : decode cX5_quick 10 = .ok (.ifCond .eq 15, 3) := by decide +kernel
theorem dX5_quick_13 : decode cX5_quick 13 = .ok (.aload_n 0, 1) := by decide +kernel
theorem dX5_quick_14 : decode cX5_quick 14 = .ok (.iconst 3, 1) := by decide +kernel
theorem dX5_quick_15 : decode cX5_quick 15 = .ok (.iload_n 1, 1) := by decide +kernel
theorem dX5_quick_16 : decode cX5_quick 16 = .ok (.imul, 1) := by decide +kernel
theorem dX5_quick_17 : decode cX5_quick 17 = .ok (.iload_n 2, 1) := by decide +kernel
theorem dX5_quick_18 : decode cX5_quick 18 = .ok (.iadd, 1) := by decide +kernel
theorem dX5_quick_19 : decode cX5_quick 19 = .ok (.invokevirtual 269, 3) := by decide +kernel
theorem dX5_quick_22 : decode cX5_quick 22 = .ok (.goto 5, 3) := by decide +kernel
theorem dX5_quick_25 : decode cX5_quick 25 = .ok (.bipush (-2), 2) := by decide +kernel
theorem dX5_quick_27 : decode cX5_quick 27 = .ok (.ireturn, 1) := by decide +kernel
theorem dX5_roundsNow_0 : decode cX5_roundsNow 0 = .ok (.aload_n 0, 1) := by decide +kernel
theorem dX5_roundsNow_1 : decode cX5_roundsNow 1 = .ok (.getfield 232, 3) := by decide +kernel
theorem dX5_roundsNow_4 : decode cX5_roundsNow 4 = .ok (.ifCond .eq 10, 3) := by decide +kernel
theorem dX5_roundsNow_7 : decode cX5_roundsNow 7 = .ok (.aload_n 0, 1) := by decide +kernel
theorem dX5_roundsNow_8 : decode cX5_roundsNow 8 = .ok (.getfield 240, 3) := by decide +kernel
theorem dX5_roundsNow_11 : decode cX5_roundsNow 11 = .ok (.goto 4, 3) := by decide +kernel
theorem dX5_roundsNow_14 : decode cX5_roundsNow 14 = .ok (.iconst (-1), 1) := by decide +kernel
theorem dX5_roundsNow_15 : decode cX5_roundsNow 15 = .ok (.ireturn, 1) := by decide +kernel
theorem dX5_rounds_0 : decode cX5_rounds 0 = .ok (.aload_n 0, 1) := by decide +kernel
theorem dX5_rounds_1 : decode cX5_rounds 1 = .ok (.invokevirtual 248, 3) := by decide +kernel
theorem dX5_rounds_4 : decode cX5_rounds 4 = .ok (.aload_n 0, 1) := by decide +kernel
theorem dX5_rounds_5 : decode cX5_rounds 5 = .ok (.invokevirtual 272, 3) := by decide +kernel
theorem dX5_rounds_8 : decode cX5_rounds 8 = .ok (.ireturn, 1) := by decide +kernel
theorem dX5_worstBy_0 : decode cX5_worstBy 0 = .ok (.aload_n 0, 1) := by decide +kernel
theorem dX5_worstBy_1 : decode cX5_worstBy 1 = .ok (.getfield 232, 3) := by decide +kernel
theorem dX5_worstBy_4 : decode cX5_worstBy 4 = .ok (.ifCond .ne 7, 3) := by decide +kernel
theorem dX5_worstBy_7 : decode cX5_worstBy 7 = .ok (.iconst (-1), 1) := by decide +kernel
theorem dX5_worstBy_8 : decode cX5_worstBy 8 = .ok (.goto 36, 3) := by decide +kernel
theorem dX5_worstBy_11 : decode cX5_worstBy 11 = .ok (.iload_n 2, 1) := by decide +kernel
theorem dX5_worstBy_12 : decode cX5_worstBy 12 = .ok (.ifCond .ne 12, 3) := by decide +kernel
theorem dX5_worstBy_15 : decode cX5_worstBy 15 = .ok (.aload_n 0, 1) := by decide +kernel
theorem dX5_worstBy_16 : decode cX5_worstBy 16 = .ok (.getfield 62, 3) := by decide +kernel
theorem dX5_worstBy_19 : decode cX5_worstBy 19 = .ok (.iload_n 1, 1) := by decide +kernel
theorem dX5_worstBy_20 : decode cX5_worstBy 20 = .ok (.iaload, 1) := by decide +kernel
theorem dX5_worstBy_21 : decode cX5_worstBy 21 = .ok (.goto 23, 3) := by decide +kernel
theorem dX5_worstBy_24 : decode cX5_worstBy 24 = .ok (.iload_n 2, 1) := by decide +kernel
theorem dX5_worstBy_25 : decode cX5_worstBy 25 = .ok (.iconst 1, 1) := by decide +kernel
theorem dX5_worstBy_26 : decode cX5_worstBy 26 = .ok (.if_icmp .ne 12, 3) := by decide +kernel
theorem dX5_worstBy_29 : decode cX5_worstBy 29 = .ok (.aload_n 0, 1) := by decide +kernel
theorem dX5_worstBy_30 : decode cX5_worstBy 30 = .ok (.getfield 65, 3) := by decide +kernel
theorem dX5_worstBy_33 : decode cX5_worstBy 33 = .ok (.iload_n 1, 1) := by decide +kernel
theorem dX5_worstBy_34 : decode cX5_worstBy 34 = .ok (.iaload, 1) := by decide +kernel
theorem dX5_worstBy_35 : decode cX5_worstBy 35 = .ok (.goto 9, 3) := by decide +kernel
theorem dX5_worstBy_38 : decode cX5_worstBy 38 = .ok (.aload_n 0, 1) := by decide +kernel
theorem dX5_worstBy_39 : decode cX5_worstBy 39 = .ok (.getfield 68, 3) := by decide +kernel
theorem dX5_worstBy_42 : decode cX5_worstBy 42 = .ok (.iload_n 1, 1) := by decide +kernel
theorem dX5_worstBy_43 : decode cX5_worstBy 43 = .ok (.iaload, 1) := by decide +kernel
theorem dX5_worstBy_44 : decode cX5_worstBy 44 = .ok (.ireturn, 1) := by decide +kernel
theorem dX5_worst_0 : decode cX5_worst 0 = .ok (.aload_n 0, 1) := by decide +kernel
theorem dX5_worst_1 : decode cX5_worst 1 = .ok (.invokevirtual 248, 3) := by decide +kernel
theorem dX5_worst_4 : decode cX5_worst 4 = .ok (.aload_n 0, 1) := by decide +kernel
theorem dX5_worst_5 : decode cX5_worst 5 = .ok (.iload_n 1, 1) := by decide +kernel
theorem dX5_worst_6 : decode cX5_worst 6 = .ok (.iload_n 2, 1) := by decide +kernel
theorem dX5_worst_7 : decode cX5_worst 7 = .ok (.invokevirtual 154, 3) := by decide +kernel
theorem dX5_worst_10 : decode cX5_worst 10 = .ok (.ifCond .eq 28, 3) := by decide +kernel
theorem dX5_worst_13 : decode cX5_worst 13 = .ok (.iload_n 3, 1) := by decide +kernel
theorem dX5_worst_14 : decode cX5_worst 14 = .ok (.i2l, 1) := by decide +kernel
theorem dX5_worst_15 : decode cX5_worst 15 = .ok (.lconst 0, 1) := by decide +kernel
theorem dX5_worst_16 : decode cX5_worst 16 = .ok (.ldc2_w 105, 3) := by decide +kernel
theorem dX5_worst_19 : decode cX5_worst 19 = .ok (.invokestatic 89, 3) := by decide +kernel
theorem dX5_worst_22 : decode cX5_worst 22 = .ok (.ifCond .eq 16, 3) := by decide +kernel
theorem dX5_worst_25 : decode cX5_worst 25 = .ok (.aload_n 0, 1) := by decide +kernel
theorem dX5_worst_26 : decode cX5_worst 26 = .ok (.iconst 3, 1) := by decide +kernel
theorem dX5_worst_27 : decode cX5_worst 27 = .ok (.iload_n 1, 1) := by decide +kernel
theorem dX5_worst_28 : decode cX5_worst 28 = .ok (.imul, 1) := by decide +kernel
theorem dX5_worst_29 : decode cX5_worst 29 = .ok (.iload_n 2, 1) := by decide +kernel
theorem dX5_worst_30 : decode cX5_worst 30 = .ok (.iadd, 1) := by decide +kernel
theorem dX5_worst_31 : decode cX5_worst 31 = .ok (.iload_n 3, 1) := by decide +kernel
theorem dX5_worst_32 : decode cX5_worst 32 = .ok (.invokevirtual 276, 3) := by decide +kernel
theorem dX5_worst_35 : decode cX5_worst 35 = .ok (.goto 5, 3) := by decide +kernel
theorem dX5_worst_38 : decode cX5_worst 38 = .ok (.bipush (-2), 2) := by decide +kernel
theorem dX5_worst_40 : decode cX5_worst 40 = .ok (.ireturn, 1) := by decide +kernel
theorem dX5_isAsked_0 : decode cX5_isAsked 0 = .ok (.aload_n 0, 1) := by decide +kernel
theorem dX5_isAsked_1 : decode cX5_isAsked 1 = .ok (.getfield 38, 3) := by decide +kernel
theorem dX5_isAsked_4 : decode cX5_isAsked 4 = .ok (.iload_n 1, 1) := by decide +kernel
theorem dX5_isAsked_5 : decode cX5_isAsked 5 = .ok (.iaload, 1) := by decide +kernel
theorem dX5_isAsked_6 : decode cX5_isAsked 6 = .ok (.ifCond .le 16, 3) := by decide +kernel
theorem dX5_isAsked_9 : decode cX5_isAsked 9 = .ok (.aload_n 0, 1) := by decide +kernel
theorem dX5_isAsked_10 : decode cX5_isAsked 10 = .ok (.getfield 29, 3) := by decide +kernel
theorem dX5_isAsked_13 : decode cX5_isAsked 13 = .ok (.iload_n 1, 1) := by decide +kernel
theorem dX5_isAsked_14 : decode cX5_isAsked 14 = .ok (.iaload, 1) := by decide +kernel
theorem dX5_isAsked_15 : decode cX5_isAsked 15 = .ok (.ifCond .le 7, 3) := by decide +kernel
theorem dX5_isAsked_18 : decode cX5_isAsked 18 = .ok (.iconst 1, 1) := by decide +kernel
theorem dX5_isAsked_19 : decode cX5_isAsked 19 = .ok (.goto 4, 3) := by decide +kernel
theorem dX5_isAsked_22 : decode cX5_isAsked 22 = .ok (.iconst 0, 1) := by decide +kernel
theorem dX5_isAsked_23 : decode cX5_isAsked 23 = .ok (.ireturn, 1) := by decide +kernel
theorem dX5_isMet_0 : decode cX5_isMet 0 = .ok (.aload_n 0, 1) := by decide +kernel
theorem dX5_isMet_1 : decode cX5_isMet 1 = .ok (.iload_n 1, 1) := by decide +kernel
theorem dX5_isMet_2 : decode cX5_isMet 2 = .ok (.invokevirtual 279, 3) := by decide +kernel
theorem dX5_isMet_5 : decode cX5_isMet 5 = .ok (.ifCond .eq 40, 3) := by decide +kernel
theorem dX5_isMet_8 : decode cX5_isMet 8 = .ok (.aload_n 0, 1) := by decide +kernel
theorem dX5_isMet_9 : decode cX5_isMet 9 = .ok (.getfield 232, 3) := by decide +kernel
theorem dX5_isMet_12 : decode cX5_isMet 12 = .ok (.ifCond .eq 33, 3) := by decide +kernel
theorem dX5_isMet_15 : decode cX5_isMet 15 = .ok (.aload_n 0, 1) := by decide +kernel
theorem dX5_isMet_16 : decode cX5_isMet 16 = .ok (.getfield 59, 3) := by decide +kernel
theorem dX5_isMet_19 : decode cX5_isMet 19 = .ok (.iconst 3, 1) := by decide +kernel
theorem dX5_isMet_20 : decode cX5_isMet 20 = .ok (.iload_n 1, 1) := by decide +kernel
theorem dX5_isMet_21 : decode cX5_isMet 21 = .ok (.imul, 1) := by decide +kernel
theorem dX5_isMet_22 : decode cX5_isMet 22 = .ok (.aload_n 0, 1) := by decide +kernel
theorem dX5_isMet_23 : decode cX5_isMet 23 = .ok (.getfield 38, 3) := by decide +kernel
theorem dX5_isMet_26 : decode cX5_isMet 26 = .ok (.iload_n 1, 1) := by decide +kernel
theorem dX5_isMet_27 : decode cX5_isMet 27 = .ok (.iaload, 1) := by decide +kernel
theorem dX5_isMet_28 : decode cX5_isMet 28 = .ok (.iadd, 1) := by decide +kernel
theorem dX5_isMet_29 : decode cX5_isMet 29 = .ok (.iconst 1, 1) := by decide +kernel
theorem dX5_isMet_30 : decode cX5_isMet 30 = .ok (.isub, 1) := by decide +kernel
theorem dX5_isMet_31 : decode cX5_isMet 31 = .ok (.iaload, 1) := by decide +kernel
theorem dX5_isMet_32 : decode cX5_isMet 32 = .ok (.aload_n 0, 1) := by decide +kernel
theorem dX5_isMet_33 : decode cX5_isMet 33 = .ok (.getfield 29, 3) := by decide +kernel
theorem dX5_isMet_36 : decode cX5_isMet 36 = .ok (.iload_n 1, 1) := by decide +kernel
theorem dX5_isMet_37 : decode cX5_isMet 37 = .ok (.iaload, 1) := by decide +kernel
theorem dX5_isMet_38 : decode cX5_isMet 38 = .ok (.if_icmp .gt 7, 3) := by decide +kernel
theorem dX5_isMet_41 : decode cX5_isMet 41 = .ok (.iconst 1, 1) := by decide +kernel
theorem dX5_isMet_42 : decode cX5_isMet 42 = .ok (.goto 4, 3) := by decide +kernel
theorem dX5_isMet_45 : decode cX5_isMet 45 = .ok (.iconst 0, 1) := by decide +kernel
theorem dX5_isMet_46 : decode cX5_isMet 46 = .ok (.ireturn, 1) := by decide +kernel
theorem dX5_meetsNow_0 : decode cX5_meetsNow 0 = .ok (.iconst 0, 1) := by decide +kernel
theorem dX5_meetsNow_1 : decode cX5_meetsNow 1 = .ok (.istore_n 1, 1) := by decide +kernel
theorem dX5_meetsNow_2 : decode cX5_meetsNow 2 = .ok (.iconst 0, 1) := by decide +kernel
theorem dX5_meetsNow_3 : decode cX5_meetsNow 3 = .ok (.istore_n 2, 1) := by decide +kernel
theorem dX5_meetsNow_4 : decode cX5_meetsNow 4 = .ok (.iload_n 2, 1) := by decide +kernel
theorem dX5_meetsNow_5 : decode cX5_meetsNow 5 = .ok (.iconst 3, 1) := by decide +kernel
theorem dX5_meetsNow_6 : decode cX5_meetsNow 6 = .ok (.if_icmp .ge 27, 3) := by decide +kernel
theorem dX5_meetsNow_9 : decode cX5_meetsNow 9 = .ok (.iload_n 1, 1) := by decide +kernel
theorem dX5_meetsNow_10 : decode cX5_meetsNow 10 = .ok (.aload_n 0, 1) := by decide +kernel
theorem dX5_meetsNow_11 : decode cX5_meetsNow 11 = .ok (.iload_n 2, 1) := by decide +kernel
theorem dX5_meetsNow_12 : decode cX5_meetsNow 12 = .ok (.invokevirtual 282, 3) := by decide +kernel
theorem dX5_meetsNow_15 : decode cX5_meetsNow 15 = .ok (.ifCond .eq 9, 3) := by decide +kernel
theorem dX5_meetsNow_18 : decode cX5_meetsNow 18 = .ok (.iconst 1, 1) := by decide +kernel
theorem dX5_meetsNow_19 : decode cX5_meetsNow 19 = .ok (.iload_n 2, 1) := by decide +kernel
theorem dX5_meetsNow_20 : decode cX5_meetsNow 20 = .ok (.ishl, 1) := by decide +kernel
theorem dX5_meetsNow_21 : decode cX5_meetsNow 21 = .ok (.goto 4, 3) := by decide +kernel
theorem dX5_meetsNow_24 : decode cX5_meetsNow 24 = .ok (.iconst 0, 1) := by decide +kernel
theorem dX5_meetsNow_25 : decode cX5_meetsNow 25 = .ok (.ior, 1) := by decide +kernel
theorem dX5_meetsNow_26 : decode cX5_meetsNow 26 = .ok (.istore_n 1, 1) := by decide +kernel
theorem dX5_meetsNow_27 : decode cX5_meetsNow 27 = .ok (.iinc 2 1, 3) := by decide +kernel
theorem dX5_meetsNow_30 : decode cX5_meetsNow 30 = .ok (.goto (-26), 3) := by decide +kernel
theorem dX5_meetsNow_33 : decode cX5_meetsNow 33 = .ok (.iload_n 1, 1) := by decide +kernel
theorem dX5_meetsNow_34 : decode cX5_meetsNow 34 = .ok (.ireturn, 1) := by decide +kernel
theorem dX5_meets_0 : decode cX5_meets 0 = .ok (.aload_n 0, 1) := by decide +kernel
theorem dX5_meets_1 : decode cX5_meets 1 = .ok (.invokevirtual 248, 3) := by decide +kernel
theorem dX5_meets_4 : decode cX5_meets 4 = .ok (.aload_n 0, 1) := by decide +kernel
theorem dX5_meets_5 : decode cX5_meets 5 = .ok (.invokevirtual 285, 3) := by decide +kernel
theorem dX5_meets_8 : decode cX5_meets 8 = .ok (.ireturn, 1) := by decide +kernel
theorem dX5_allMeet_0 : decode cX5_allMeet 0 = .ok (.iconst 1, 1) := by decide +kernel
theorem dX5_allMeet_1 : decode cX5_allMeet 1 = .ok (.istore_n 1, 1) := by decide +kernel
theorem dX5_allMeet_2 : decode cX5_allMeet 2 = .ok (.iconst 0, 1) := by decide +kernel
theorem dX5_allMeet_3 : decode cX5_allMeet 3 = .ok (.istore_n 2, 1) := by decide +kernel
theorem dX5_allMeet_4 : decode cX5_allMeet 4 = .ok (.iload_n 2, 1) := by decide +kernel
theorem dX5_allMeet_5 : decode cX5_allMeet 5 = .ok (.iconst 3, 1) := by decide +kernel
theorem dX5_allMeet_6 : decode cX5_allMeet 6 = .ok (.if_icmp .ge 35, 3) := by decide +kernel
theorem dX5_allMeet_9 : decode cX5_allMeet 9 = .ok (.iload_n 1, 1) := by decide +kernel
theorem dX5_allMeet_10 : decode cX5_allMeet 10 = .ok (.ifCond .eq 23, 3) := by decide +kernel
theorem dX5_allMeet_13 : decode cX5_allMeet 13 = .ok (.aload_n 0, 1) := by decide +kernel
theorem dX5_allMeet_14 : decode cX5_allMeet 14 = .ok (.iload_n 2, 1) := by decide +kernel
theorem dX5_allMeet_15 : decode cX5_allMeet 15 = .ok (.invokevirtual 279, 3) := by decide +kernel
theorem dX5_allMeet_18 : decode cX5_allMeet 18 = .ok (.ifCond .eq 11, 3) := by decide +kernel
theorem dX5_allMeet_21 : decode cX5_allMeet 21 = .ok (.aload_n 0, 1) := by decide +kernel
theorem dX5_allMeet_22 : decode cX5_allMeet 22 = .ok (.iload_n 2, 1) := by decide +kernel
theorem dX5_allMeet_23 : decode cX5_allMeet 23 = .ok (.invokevirtual 282, 3) := by decide +kernel
theorem dX5_allMeet_26 : decode cX5_allMeet 26 = .ok (.ifCond .eq 7, 3) := by decide +kernel
theorem dX5_allMeet_29 : decode cX5_allMeet 29 = .ok (.iconst 1, 1) := by decide +kernel
theorem dX5_allMeet_30 : decode cX5_allMeet 30 = .ok (.goto 4, 3) := by decide +kernel
theorem dX5_allMeet_33 : decode cX5_allMeet 33 = .ok (.iconst 0, 1) := by decide +kernel
theorem dX5_allMeet_34 : decode cX5_allMeet 34 = .ok (.istore_n 1, 1) := by decide +kernel
theorem dX5_allMeet_35 : decode cX5_allMeet 35 = .ok (.iinc 2 1, 3) := by decide +kernel
theorem dX5_allMeet_38 : decode cX5_allMeet 38 = .ok (.goto (-34), 3) := by decide +kernel
theorem dX5_allMeet_41 : decode cX5_allMeet 41 = .ok (.iload_n 1, 1) := by decide +kernel
theorem dX5_allMeet_42 : decode cX5_allMeet 42 = .ok (.ireturn, 1) := by decide +kernel
theorem dX5_marginBy_0 : decode cX5_marginBy 0 = .ok (.aload_n 0, 1) := by decide +kernel
theorem dX5_marginBy_1 : decode cX5_marginBy 1 = .ok (.getfield 44, 3) := by decide +kernel
theorem dX5_marginBy_4 : decode cX5_marginBy 4 = .ok (.iload_n 1, 1) := by decide +kernel
theorem dX5_marginBy_5 : decode cX5_marginBy 5 = .ok (.iaload, 1) := by decide +kernel
theorem dX5_marginBy_6 : decode cX5_marginBy 6 = .ok (.istore_n 2, 1) := by decide +kernel
theorem dX5_marginBy_7 : decode cX5_marginBy 7 = .ok (.iconst (-1), 1) := by decide +kernel
theorem dX5_marginBy_8 : decode cX5_marginBy 8 = .ok (.istore_n 3, 1) := by decide +kernel
theorem dX5_marginBy_9 : decode cX5_marginBy 9 = .ok (.iconst 0, 1) := by decide +kernel
theorem dX5_marginBy_10 : decode cX5_marginBy 10 = .ok (.istore 4, 2) := by decide +kernel
theorem dX5_marginBy_12 : decode cX5_marginBy 12 = .ok (.iload 4, 2) := by decide +kernel
theorem dX5_marginBy_14 : decode cX5_marginBy 14 = .ok (.bipush 8, 2) := by decide +kernel
theorem dX5_marginBy_16 : decode cX5_marginBy 16 = .ok (.if_icmp .gt 37, 3) := by decide +kernel
theorem dX5_marginBy_19 : decode cX5_marginBy 19 = .ok (.aload_n 0, 1) := by decide +kernel
theorem dX5_marginBy_20 : decode cX5_marginBy 20 = .ok (.getfield 44, 3) := by decide +kernel
theorem dX5_marginBy_23 : decode cX5_marginBy 23 = .ok (.iload_n 1, 1) := by decide +kernel
theorem dX5_marginBy_24 : decode cX5_marginBy 24 = .ok (.iload_n 2, 1) := by decide +kernel
theorem dX5_marginBy_25 : decode cX5_marginBy 25 = .ok (.iload 4, 2) := by decide +kernel
theorem dX5_marginBy_27 : decode cX5_marginBy 27 = .ok (.iadd, 1) := by decide +kernel
theorem dX5_marginBy_28 : decode cX5_marginBy 28 = .ok (.iastore, 1) := by decide +kernel
theorem dX5_marginBy_29 : decode cX5_marginBy 29 = .ok (.aload_n 0, 1) := by decide +kernel
theorem dX5_marginBy_30 : decode cX5_marginBy 30 = .ok (.invokevirtual 248, 3) := by decide +kernel
theorem dX5_marginBy_33 : decode cX5_marginBy 33 = .ok (.aload_n 0, 1) := by decide +kernel
theorem dX5_marginBy_34 : decode cX5_marginBy 34 = .ok (.invokevirtual 288, 3) := by decide +kernel
theorem dX5_marginBy_37 : decode cX5_marginBy 37 = .ok (.ifCond .eq 8, 3) := by decide +kernel
theorem dX5_marginBy_40 : decode cX5_marginBy 40 = .ok (.iload 4, 2) := by decide +kernel
theorem dX5_marginBy_42 : decode cX5_marginBy 42 = .ok (.goto 4, 3) := by decide +kernel
theorem dX5_marginBy_45 : decode cX5_marginBy 45 = .ok (.iload_n 3, 1) := by decide +kernel
theorem dX5_marginBy_46 : decode cX5_marginBy 46 = .ok (.istore_n 3, 1) := by decide +kernel
theorem dX5_marginBy_47 : decode cX5_marginBy 47 = .ok (.iinc 4 1, 3) := by decide +kernel
theorem dX5_marginBy_50 : decode cX5_marginBy 50 = .ok (.goto (-38), 3) := by decide +kernel
theorem dX5_marginBy_53 : decode cX5_marginBy 53 = .ok (.aload_n 0, 1) := by decide +kernel
theorem dX5_marginBy_54 : decode cX5_marginBy 54 = .ok (.getfield 44, 3) := by decide +kernel
theorem dX5_marginBy_57 : decode cX5_marginBy 57 = .ok (.iload_n 1, 1) := by decide +kernel
theorem dX5_marginBy_58 : decode cX5_marginBy 58 = .ok (.iload_n 2, 1) := by decide +kernel
theorem dX5_marginBy_59 : decode cX5_marginBy 59 = .ok (.iastore, 1) := by decide +kernel
theorem dX5_marginBy_60 : decode cX5_marginBy 60 = .ok (.iload_n 3, 1) := by decide +kernel
theorem dX5_marginBy_61 : decode cX5_marginBy 61 = .ok (.ireturn, 1) := by decide +kernel
theorem dX5_margin_0 : decode cX5_margin 0 = .ok (.aload_n 0, 1) := by decide +kernel
theorem dX5_margin_1 : decode cX5_margin 1 = .ok (.iload_n 1, 1) := by decide +kernel
theorem dX5_margin_2 : decode cX5_margin 2 = .ok (.iload_n 2, 1) := by decide +kernel
theorem dX5_margin_3 : decode cX5_margin 3 = .ok (.invokevirtual 154, 3) := by decide +kernel
theorem dX5_margin_6 : decode cX5_margin 6 = .ok (.ifCond .eq 15, 3) := by decide +kernel
theorem dX5_margin_9 : decode cX5_margin 9 = .ok (.aload_n 0, 1) := by decide +kernel
theorem dX5_margin_10 : decode cX5_margin 10 = .ok (.iconst 3, 1) := by decide +kernel
theorem dX5_margin_11 : decode cX5_margin 11 = .ok (.iload_n 1, 1) := by decide +kernel
theorem dX5_margin_12 : decode cX5_margin 12 = .ok (.imul, 1) := by decide +kernel
theorem dX5_margin_13 : decode cX5_margin 13 = .ok (.iload_n 2, 1) := by decide +kernel
theorem dX5_margin_14 : decode cX5_margin 14 = .ok (.iadd, 1) := by decide +kernel
theorem dX5_margin_15 : decode cX5_margin 15 = .ok (.invokevirtual 291, 3) := by decide +kernel
theorem dX5_margin_18 : decode cX5_margin 18 = .ok (.goto 5, 3) := by decide +kernel
theorem dX5_margin_21 : decode cX5_margin 21 = .ok (.bipush (-2), 2) := by decide +kernel
theorem dX5_margin_23 : decode cX5_margin 23 = .ok (.ireturn, 1) := by decide +kernel
theorem dX5_betterBy_0 : decode cX5_betterBy 0 = .ok (.aload_n 0, 1) := by decide +kernel
theorem dX5_betterBy_1 : decode cX5_betterBy 1 = .ok (.getfield 47, 3) := by decide +kernel
theorem dX5_betterBy_4 : decode cX5_betterBy 4 = .ok (.iload_n 1, 1) := by decide +kernel
theorem dX5_betterBy_5 : decode cX5_betterBy 5 = .ok (.iaload, 1) := by decide +kernel
theorem dX5_betterBy_6 : decode cX5_betterBy 6 = .ok (.istore_n 3, 1) := by decide +kernel
theorem dX5_betterBy_7 : decode cX5_betterBy 7 = .ok (.iconst (-1), 1) := by decide +kernel
theorem dX5_betterBy_8 : decode cX5_betterBy 8 = .ok (.istore 4, 2) := by decide +kernel
theorem dX5_betterBy_10 : decode cX5_betterBy 10 = .ok (.iconst (-1), 1) := by decide +kernel
theorem dX5_betterBy_11 : decode cX5_betterBy 11 = .ok (.istore 5, 2) := by decide +kernel
theorem dX5_betterBy_13 : decode cX5_betterBy 13 = .ok (.iload_n 1, 1) := by decide +kernel
theorem dX5_betterBy_14 : decode cX5_betterBy 14 = .ok (.iconst 3, 1) := by decide +kernel
theorem dX5_betterBy_15 : decode cX5_betterBy 15 = .ok (.idiv, 1) := by decide +kernel
theorem dX5_betterBy_16 : decode cX5_betterBy 16 = .ok (.iconst 3, 1) := by decide +kernel
theorem dX5_betterBy_17 : decode cX5_betterBy 17 = .ok (.imul, 1) := by decide +kernel
theorem dX5_betterBy_18 : decode cX5_betterBy 18 = .ok (.aload_n 0, 1) := by decide +kernel
theorem dX5_betterBy_19 : decode cX5_betterBy 19 = .ok (.getfield 38, 3) := by decide +kernel
theorem dX5_betterBy_22 : decode cX5_betterBy 22 = .ok (.iload_n 1, 1) := by decide +kernel
theorem dX5_betterBy_23 : decode cX5_betterBy 23 = .ok (.iconst 3, 1) := by decide +kernel
theorem dX5_betterBy_24 : decode cX5_betterBy 24 = .ok (.idiv, 1) := by decide +kernel
theorem dX5_betterBy_25 : decode cX5_betterBy 25 = .ok (.iaload, 1) := by decide +kernel
theorem dX5_betterBy_26 : decode cX5_betterBy 26 = .ok (.iadd, 1) := by decide +kernel
theorem dX5_betterBy_27 : decode cX5_betterBy 27 = .ok (.iconst 1, 1) := by decide +kernel
theorem dX5_betterBy_28 : decode cX5_betterBy 28 = .ok (.isub, 1) := by decide +kernel
theorem dX5_betterBy_29 : decode cX5_betterBy 29 = .ok (.istore 6, 2) := by decide +kernel
theorem dX5_betterBy_31 : decode cX5_betterBy 31 = .ok (.iconst 0, 1) := by decide +kernel
theorem dX5_betterBy_32 : decode cX5_betterBy 32 = .ok (.istore 7, 2) := by decide +kernel
theorem dX5_betterBy_34 : decode cX5_betterBy 34 = .ok (.iload 7, 2) := by decide +kernel
theorem dX5_betterBy_36 : decode cX5_betterBy 36 = .ok (.bipush 9, 2) := by decide +kernel
theorem dX5_betterBy_38 : decode cX5_betterBy 38 = .ok (.if_icmp .gt 86, 3) := by decide +kernel
theorem dX5_betterBy_41 : decode cX5_betterBy 41 = .ok (.aload_n 0, 1) := by decide +kernel
theorem dX5_betterBy_42 : decode cX5_betterBy 42 = .ok (.getfield 47, 3) := by decide +kernel
theorem dX5_betterBy_45 : decode cX5_betterBy 45 = .ok (.iload_n 1, 1) := by decide +kernel
theorem dX5_betterBy_46 : decode cX5_betterBy 46 = .ok (.iload 7, 2) := by decide +kernel
theorem dX5_betterBy_48 : decode cX5_betterBy 48 = .ok (.iastore, 1) := by decide +kernel
theorem dX5_betterBy_49 : decode cX5_betterBy 49 = .ok (.aload_n 0, 1) := by decide +kernel
theorem dX5_betterBy_50 : decode cX5_betterBy 50 = .ok (.invokevirtual 248, 3) := by decide +kernel
theorem dX5_betterBy_53 : decode cX5_betterBy 53 = .ok (.aload_n 0, 1) := by decide +kernel
theorem dX5_betterBy_54 : decode cX5_betterBy 54 = .ok (.getfield 232, 3) := by decide +kernel
theorem dX5_betterBy_57 : decode cX5_betterBy 57 = .ok (.ifCond .eq 25, 3) := by decide +kernel
theorem dX5_betterBy_60 : decode cX5_betterBy 60 = .ok (.iload 4, 2) := by decide +kernel
theorem dX5_betterBy_62 : decode cX5_betterBy 62 = .ok (.iconst (-1), 1) := by decide +kernel
theorem dX5_betterBy_63 : decode cX5_betterBy 63 = .ok (.if_icmp .eq 15, 3) := by decide +kernel
theorem dX5_betterBy_66 : decode cX5_betterBy 66 = .ok (.aload_n 0, 1) := by decide +kernel
theorem dX5_betterBy_67 : decode cX5_betterBy 67 = .ok (.getfield 59, 3) := by decide +kernel
theorem dX5_betterBy_70 : decode cX5_betterBy 70 = .ok (.iload 6, 2) := by decide +kernel
theorem dX5_betterBy_72 : decode cX5_betterBy 72 = .ok (.iaload, 1) := by decide +kernel
theorem dX5_betterBy_73 : decode cX5_betterBy 73 = .ok (.iload 5, 2) := by decide +kernel
theorem dX5_betterBy_75 : decode cX5_betterBy 75 = .ok (.if_icmp .ge 7, 3) := by decide +kernel
theorem dX5_betterBy_78 : decode cX5_betterBy 78 = .ok (.iconst 1, 1) := by decide +kernel
theorem dX5_betterBy_79 : decode cX5_betterBy 79 = .ok (.goto 4, 3) := by decide +kernel
theorem dX5_betterBy_82 : decode cX5_betterBy 82 = .ok (.iconst 0, 1) := by decide +kernel
theorem dX5_betterBy_83 : decode cX5_betterBy 83 = .ok (.istore 8, 2) := by decide +kernel
theorem dX5_betterBy_85 : decode cX5_betterBy 85 = .ok (.iload 8, 2) := by decide +kernel
theorem dX5_betterBy_87 : decode cX5_betterBy 87 = .ok (.ifCond .eq 8, 3) := by decide +kernel
theorem dX5_betterBy_90 : decode cX5_betterBy 90 = .ok (.iload 7, 2) := by decide +kernel
theorem dX5_betterBy_92 : decode cX5_betterBy 92 = .ok (.goto 5, 3) := by decide +kernel
theorem dX5_betterBy_95 : decode cX5_betterBy 95 = .ok (.iload 4, 2) := by decide +kernel
theorem dX5_betterBy_97 : decode cX5_betterBy 97 = .ok (.istore 4, 2) := by decide +kernel
theorem dX5_betterBy_99 : decode cX5_betterBy 99 = .ok (.iload 8, 2) := by decide +kernel
theorem dX5_betterBy_101 : decode cX5_betterBy 101 = .ok (.ifCond .eq 13, 3) := by decide +kernel
theorem dX5_betterBy_104 : decode cX5_betterBy 104 = .ok (.aload_n 0, 1) := by decide +kernel
theorem dX5_betterBy_105 : decode cX5_betterBy 105 = .ok (.getfield 59, 3) := by decide +kernel
theorem dX5_betterBy_108 : decode cX5_betterBy 108 = .ok (.iload 6, 2) := by decide +kernel
theorem dX5_betterBy_110 : decode cX5_betterBy 110 = .ok (.iaload, 1) := by decide +kernel
theorem dX5_betterBy_111 : decode cX5_betterBy 111 = .ok (.goto 5, 3) := by decide +kernel
theorem dX5_betterBy_114 : decode cX5_betterBy 114 = .ok (.iload 5, 2) := by decide +kernel
theorem dX5_betterBy_116 : decode cX5_betterBy 116 = .ok (.istore 5, 2) := by decide +kernel
theorem dX5_betterBy_118 : decode cX5_betterBy 118 = .ok (.iinc 7 1, 3) := by decide +kernel
theorem dX5_betterBy_121 : decode cX5_betterBy 121 = .ok (.goto (-87), 3) := by decide +kernel
theorem dX5_betterBy_124 : decode cX5_betterBy 124 = .ok (.aload_n 0, 1) := by decide +kernel
theorem dX5_betterBy_125 : decode cX5_betterBy 125 = .ok (.getfield 47, 3) := by decide +kernel
theorem dX5_betterBy_128 : decode cX5_betterBy 128 = .ok (.iload_n 1, 1) := by decide +kernel
theorem dX5_betterBy_129 : decode cX5_betterBy 129 = .ok (.iload_n 3, 1) := by decide +kernel
theorem dX5_betterBy_130 : decode cX5_betterBy 130 = .ok (.iastore, 1) := by decide +kernel
theorem dX5_betterBy_131 : decode cX5_betterBy 131 = .ok (.iload_n 2, 1) := by decide +kernel
theorem dX5_betterBy_132 : decode cX5_betterBy 132 = .ok (.ifCond .ne 8, 3) := by decide +kernel
theorem dX5_betterBy_135 : decode cX5_betterBy 135 = .ok (.iload 4, 2) := by decide +kernel
theorem dX5_betterBy_137 : decode cX5_betterBy 137 = .ok (.goto 5, 3) := by decide +kernel
theorem dX5_betterBy_140 : decode cX5_betterBy 140 = .ok (.iload 5, 2) := by decide +kernel
theorem dX5_betterBy_142 : decode cX5_betterBy 142 = .ok (.ireturn, 1) := by decide +kernel
theorem dX5_better_0 : decode cX5_better 0 = .ok (.aload_n 0, 1) := by decide +kernel
theorem dX5_better_1 : decode cX5_better 1 = .ok (.iload_n 1, 1) := by decide +kernel
theorem dX5_better_2 : decode cX5_better 2 = .ok (.iload_n 2, 1) := by decide +kernel
theorem dX5_better_3 : decode cX5_better 3 = .ok (.invokevirtual 154, 3) := by decide +kernel
theorem dX5_better_6 : decode cX5_better 6 = .ok (.ifCond .eq 23, 3) := by decide +kernel
theorem dX5_better_9 : decode cX5_better 9 = .ok (.iload_n 3, 1) := by decide +kernel
theorem dX5_better_10 : decode cX5_better 10 = .ok (.invokestatic 177, 3) := by decide +kernel
theorem dX5_better_13 : decode cX5_better 13 = .ok (.ifCond .eq 16, 3) := by decide +kernel
theorem dX5_better_16 : decode cX5_better 16 = .ok (.aload_n 0, 1) := by decide +kernel
theorem dX5_better_17 : decode cX5_better 17 = .ok (.iconst 3, 1) := by decide +kernel
theorem dX5_better_18 : decode cX5_better 18 = .ok (.iload_n 1, 1) := by decide +kernel
theorem dX5_better_19 : decode cX5_better 19 = .ok (.imul, 1) := by decide +kernel
theorem dX5_better_20 : decode cX5_better 20 = .ok (.iload_n 2, 1) := by decide +kernel
theorem dX5_better_21 : decode cX5_better 21 = .ok (.iadd, 1) := by decide +kernel
theorem dX5_better_22 : decode cX5_better 22 = .ok (.iload_n 3, 1) := by decide +kernel
theorem dX5_better_23 : decode cX5_better 23 = .ok (.invokevirtual 294, 3) := by decide +kernel
theorem dX5_better_26 : decode cX5_better 26 = .ok (.goto 5, 3) := by decide +kernel
theorem dX5_better_29 : decode cX5_better 29 = .ok (.bipush (-2), 2) := by decide +kernel
theorem dX5_better_31 : decode cX5_better 31 = .ok (.ireturn, 1) := by decide +kernel
theorem dX5_releaseOf_0 : decode cX5_releaseOf 0 = .ok (.aload_n 0, 1) := by decide +kernel
theorem dX5_releaseOf_1 : decode cX5_releaseOf 1 = .ok (.getfield 32, 3) := by decide +kernel
theorem dX5_releaseOf_4 : decode cX5_releaseOf 4 = .ok (.iload_n 1, 1) := by decide +kernel
theorem dX5_releaseOf_5 : decode cX5_releaseOf 5 = .ok (.iconst 3, 1) := by decide +kernel
theorem dX5_releaseOf_6 : decode cX5_releaseOf 6 = .ok (.idiv, 1) := by decide +kernel
theorem dX5_releaseOf_7 : decode cX5_releaseOf 7 = .ok (.iaload, 1) := by decide +kernel
theorem dX5_releaseOf_8 : decode cX5_releaseOf 8 = .ok (.iload_n 2, 1) := by decide +kernel
theorem dX5_releaseOf_9 : decode cX5_releaseOf 9 = .ok (.aload_n 0, 1) := by decide +kernel
theorem dX5_releaseOf_10 : decode cX5_releaseOf 10 = .ok (.getfield 23, 3) := by decide +kernel
theorem dX5_releaseOf_13 : decode cX5_releaseOf 13 = .ok (.iload_n 1, 1) := by decide +kernel
theorem dX5_releaseOf_14 : decode cX5_releaseOf 14 = .ok (.iconst 3, 1) := by decide +kernel
theorem dX5_releaseOf_15 : decode cX5_releaseOf 15 = .ok (.idiv, 1) := by decide +kernel
theorem dX5_releaseOf_16 : decode cX5_releaseOf 16 = .ok (.iaload, 1) := by decide +kernel
theorem dX5_releaseOf_17 : decode cX5_releaseOf 17 = .ok (.imul, 1) := by decide +kernel
theorem dX5_releaseOf_18 : decode cX5_releaseOf 18 = .ok (.iadd, 1) := by decide +kernel
theorem dX5_releaseOf_19 : decode cX5_releaseOf 19 = .ok (.ireturn, 1) := by decide +kernel
theorem dX5_begins_0 : decode cX5_begins 0 = .ok (.iconst 0, 1) := by decide +kernel
theorem dX5_begins_1 : decode cX5_begins 1 = .ok (.istore_n 1, 1) := by decide +kernel
theorem dX5_begins_2 : decode cX5_begins 2 = .ok (.iload_n 1, 1) := by decide +kernel
theorem dX5_begins_3 : decode cX5_begins 3 = .ok (.bipush 9, 2) := by decide +kernel
theorem dX5_begins_5 : decode cX5_begins 5 = .ok (.if_icmp .ge 135, 3) := by decide +kernel
theorem dX5_begins_8 : decode cX5_begins 8 = .ok (.aload_n 0, 1) := by decide +kernel
theorem dX5_begins_9 : decode cX5_begins 9 = .ok (.getfield 77, 3) := by decide +kernel
theorem dX5_begins_12 : decode cX5_begins 12 = .ok (.iload_n 1, 1) := by decide +kernel
theorem dX5_begins_13 : decode cX5_begins 13 = .ok (.iconst (-1), 1) := by decide +kernel
theorem dX5_begins_14 : decode cX5_begins 14 = .ok (.iastore, 1) := by decide +kernel
theorem dX5_begins_15 : decode cX5_begins 15 = .ok (.aload_n 0, 1) := by decide +kernel
theorem dX5_begins_16 : decode cX5_begins 16 = .ok (.getfield 80, 3) := by decide +kernel
theorem dX5_begins_19 : decode cX5_begins 19 = .ok (.iload_n 1, 1) := by decide +kernel
theorem dX5_begins_20 : decode cX5_begins 20 = .ok (.iconst (-1), 1) := by decide +kernel
theorem dX5_begins_21 : decode cX5_begins 21 = .ok (.iastore, 1) := by decide +kernel
theorem dX5_begins_22 : decode cX5_begins 22 = .ok (.aload_n 0, 1) := by decide +kernel
theorem dX5_begins_23 : decode cX5_begins 23 = .ok (.getfield 83, 3) := by decide +kernel
theorem dX5_begins_26 : decode cX5_begins 26 = .ok (.iload_n 1, 1) := by decide +kernel
theorem dX5_begins_27 : decode cX5_begins 27 = .ok (.iconst 0, 1) := by decide +kernel
theorem dX5_begins_28 : decode cX5_begins 28 = .ok (.iastore, 1) := by decide +kernel
theorem dX5_begins_29 : decode cX5_begins 29 = .ok (.iconst 0, 1) := by decide +kernel
theorem dX5_begins_30 : decode cX5_begins 30 = .ok (.istore_n 2, 1) := by decide +kernel
theorem dX5_begins_31 : decode cX5_begins 31 = .ok (.iconst 0, 1) := by decide +kernel
theorem dX5_begins_32 : decode cX5_begins 32 = .ok (.istore_n 3, 1) := by decide +kernel
theorem dX5_begins_33 : decode cX5_begins 33 = .ok (.iload_n 3, 1) := by decide +kernel
theorem dX5_begins_34 : decode cX5_begins 34 = .ok (.bipush 64, 2) := by decide +kernel
theorem dX5_begins_36 : decode cX5_begins 36 = .ok (.if_icmp .ge 98, 3) := by decide +kernel
theorem dX5_begins_39 : decode cX5_begins 39 = .ok (.iload_n 1, 1) := by decide +kernel
theorem dX5_begins_40 : decode cX5_begins 40 = .ok (.iconst 3, 1) := by decide +kernel
theorem dX5_begins_41 : decode cX5_begins 41 = .ok (.idiv, 1) := by decide +kernel
theorem dX5_begins_42 : decode cX5_begins 42 = .ok (.istore 4, 2) := by decide +kernel
theorem dX5_begins_44 : decode cX5_begins 44 = .ok (.aload_n 0, 1) := by decide +kernel
theorem dX5_begins_45 : decode cX5_begins 45 = .ok (.iload_n 1, 1) := by decide +kernel
theorem dX5_begins_46 : decode cX5_begins 46 = .ok (.iload_n 3, 1) := by decide +kernel
theorem dX5_begins_47 : decode cX5_begins 47 = .ok (.invokevirtual 297, 3) := by decide +kernel
theorem dX5_begins_50 : decode cX5_begins 50 = .ok (.aload_n 0, 1) := by decide +kernel
theorem dX5_begins_51 : decode cX5_begins 51 = .ok (.getfield 50, 3) := by decide +kernel
theorem dX5_begins_54 : decode cX5_begins 54 = .ok (.iload_n 1, 1) := by decide +kernel
theorem dX5_begins_55 : decode cX5_begins 55 = .ok (.iaload, 1) := by decide +kernel
theorem dX5_begins_56 : decode cX5_begins 56 = .ok (.iadd, 1) := by decide +kernel
theorem dX5_begins_57 : decode cX5_begins 57 = .ok (.iload_n 3, 1) := by decide +kernel
theorem dX5_begins_58 : decode cX5_begins 58 = .ok (.aload_n 0, 1) := by decide +kernel
theorem dX5_begins_59 : decode cX5_begins 59 = .ok (.getfield 35, 3) := by decide +kernel
theorem dX5_begins_62 : decode cX5_begins 62 = .ok (.iload 4, 2) := by decide +kernel
theorem dX5_begins_64 : decode cX5_begins 64 = .ok (.iaload, 1) := by decide +kernel
theorem dX5_begins_65 : decode cX5_begins 65 = .ok (.imul, 1) := by decide +kernel
theorem dX5_begins_66 : decode cX5_begins 66 = .ok (.aload_n 0, 1) := by decide +kernel
theorem dX5_begins_67 : decode cX5_begins 67 = .ok (.getfield 26, 3) := by decide +kernel
theorem dX5_begins_70 : decode cX5_begins 70 = .ok (.iload 4, 2) := by decide +kernel
theorem dX5_begins_72 : decode cX5_begins 72 = .ok (.iaload, 1) := by decide +kernel
theorem dX5_begins_73 : decode cX5_begins 73 = .ok (.iconst 1, 1) := by decide +kernel
theorem dX5_begins_74 : decode cX5_begins 74 = .ok (.iadd, 1) := by decide +kernel
theorem dX5_begins_75 : decode cX5_begins 75 = .ok (.irem, 1) := by decide +kernel
theorem dX5_begins_76 : decode cX5_begins 76 = .ok (.iadd, 1) := by decide +kernel
theorem dX5_begins_77 : decode cX5_begins 77 = .ok (.istore 5, 2) := by decide +kernel
theorem dX5_begins_79 : decode cX5_begins 79 = .ok (.iload_n 2, 1) := by decide +kernel
theorem dX5_begins_80 : decode cX5_begins 80 = .ok (.iload 5, 2) := by decide +kernel
theorem dX5_begins_82 : decode cX5_begins 82 = .ok (.invokestatic 198, 3) := by decide +kernel
theorem dX5_begins_85 : decode cX5_begins 85 = .ok (.istore_n 2, 1) := by decide +kernel
theorem dX5_begins_86 : decode cX5_begins 86 = .ok (.aload_n 0, 1) := by decide +kernel
theorem dX5_begins_87 : decode cX5_begins 87 = .ok (.getfield 71, 3) := by decide +kernel
theorem dX5_begins_90 : decode cX5_begins 90 = .ok (.bipush 64, 2) := by decide +kernel
theorem dX5_begins_92 : decode cX5_begins 92 = .ok (.iload_n 1, 1) := by decide +kernel
theorem dX5_begins_93 : decode cX5_begins 93 = .ok (.imul, 1) := by decide +kernel
theorem dX5_begins_94 : decode cX5_begins 94 = .ok (.iload_n 3, 1) := by decide +kernel
theorem dX5_begins_95 : decode cX5_begins 95 = .ok (.iadd, 1) := by decide +kernel
theorem dX5_begins_96 : decode cX5_begins 96 = .ok (.iload_n 1, 1) := by decide +kernel
theorem dX5_begins_97 : decode cX5_begins 97 = .ok (.iconst 3, 1) := by decide +kernel
theorem dX5_begins_98 : decode cX5_begins 98 = .ok (.irem, 1) := by decide +kernel
theorem dX5_begins_99 : decode cX5_begins 99 = .ok (.ifCond .ne 15, 3) := by decide +kernel
theorem dX5_begins_102 : decode cX5_begins 102 = .ok (.aload_n 0, 1) := by decide +kernel
theorem dX5_begins_103 : decode cX5_begins 103 = .ok (.iload_n 1, 1) := by decide +kernel
theorem dX5_begins_104 : decode cX5_begins 104 = .ok (.invokevirtual 160, 3) := by decide +kernel
theorem dX5_begins_107 : decode cX5_begins 107 = .ok (.ifCond .eq 7, 3) := by decide +kernel
theorem dX5_begins_110 : decode cX5_begins 110 = .ok (.iload_n 2, 1) := by decide +kernel
theorem dX5_begins_111 : decode cX5_begins 111 = .ok (.goto 4, 3) := by decide +kernel
theorem dX5_begins_114 : decode cX5_begins 114 = .ok (.iconst (-1), 1) := by decide +kernel
theorem dX5_begins_115 : decode cX5_begins 115 = .ok (.iastore, 1) := by decide +kernel
theorem dX5_begins_116 : decode cX5_begins 116 = .ok (.aload_n 0, 1) := by decide +kernel
theorem dX5_begins_117 : decode cX5_begins 117 = .ok (.getfield 74, 3) := by decide +kernel
theorem dX5_begins_120 : decode cX5_begins 120 = .ok (.bipush 64, 2) := by decide +kernel
theorem dX5_begins_122 : decode cX5_begins 122 = .ok (.iload_n 1, 1) := by decide +kernel
theorem dX5_begins_123 : decode cX5_begins 123 = .ok (.imul, 1) := by decide +kernel
theorem dX5_begins_124 : decode cX5_begins 124 = .ok (.iload_n 3, 1) := by decide +kernel
theorem dX5_begins_125 : decode cX5_begins 125 = .ok (.iadd, 1) := by decide +kernel
theorem dX5_begins_126 : decode cX5_begins 126 = .ok (.iconst 0, 1) := by decide +kernel
theorem dX5_begins_127 : decode cX5_begins 127 = .ok (.iastore, 1) := by decide +kernel
theorem dX5_begins_128 : decode cX5_begins 128 = .ok (.iinc 3 1, 3) := by decide +kernel
theorem dX5_begins_131 : decode cX5_begins 131 = .ok (.goto (-98), 3) := by decide +kernel
theorem dX5_begins_134 : decode cX5_begins 134 = .ok (.iinc 1 1, 3) := by decide +kernel
theorem dX5_begins_137 : decode cX5_begins 137 = .ok (.goto (-135), 3) := by decide +kernel
theorem dX5_begins_140 : decode cX5_begins 140 = .ok (.return_, 1) := by decide +kernel
theorem dX5_does_0 : decode cX5_does 0 = .ok (.iconst (-1), 1) := by decide +kernel
theorem dX5_does_1 : decode cX5_does 1 = .ok (.istore_n 3, 1) := by decide +kernel
theorem dX5_does_2 : decode cX5_does 2 = .ok (.iconst 0, 1) := by decide +kernel
theorem dX5_does_3 : decode cX5_does 3 = .ok (.istore 4, 2) := by decide +kernel
theorem dX5_does_5 : decode cX5_does 5 = .ok (.iload 4, 2) := by decide +kernel
theorem dX5_does_7 : decode cX5_does 7 = .ok (.bipush 9, 2) := by decide +kernel
theorem dX5_does_9 : decode cX5_does 9 = .ok (.if_icmp .ge 140, 3) := by decide +kernel
theorem dX5_does_12 : decode cX5_does 12 = .ok (.aload_n 0, 1) := by decide +kernel
theorem dX5_does_13 : decode cX5_does 13 = .ok (.iload 4, 2) := by decide +kernel
theorem dX5_does_15 : decode cX5_does 15 = .ok (.invokevirtual 160, 3) := by decide +kernel
theorem dX5_does_18 : decode cX5_does 18 = .ok (.ifCond .eq 14, 3) := by decide +kernel
theorem dX5_does_21 : decode cX5_does 21 = .ok (.aload_n 0, 1) := by decide +kernel
theorem dX5_does_22 : decode cX5_does 22 = .ok (.getfield 41, 3) := by decide +kernel
theorem dX5_does_25 : decode cX5_does 25 = .ok (.iload 4, 2) := by decide +kernel
theorem dX5_does_27 : decode cX5_does 27 = .ok (.iaload, 1) := by decide +kernel
theorem dX5_does_28 : decode cX5_does 28 = .ok (.iload_n 1, 1) := by decide +kernel
theorem dX5_does_29 : decode cX5_does 29 = .ok (.if_icmp .eq 7, 3) := by decide +kernel
theorem dX5_does_32 : decode cX5_does 32 = .ok (.iconst 1, 1) := by decide +kernel
theorem dX5_does_33 : decode cX5_does 33 = .ok (.goto 4, 3) := by decide +kernel
theorem dX5_does_36 : decode cX5_does 36 = .ok (.iconst 0, 1) := by decide +kernel
theorem dX5_does_37 : decode cX5_does 37 = .ok (.istore 5, 2) := by decide +kernel
theorem dX5_does_39 : decode cX5_does 39 = .ok (.iconst 0, 1) := by decide +kernel
theorem dX5_does_40 : decode cX5_does 40 = .ok (.istore 6, 2) := by decide +kernel
theorem dX5_does_42 : decode cX5_does 42 = .ok (.iload 6, 2) := by decide +kernel
theorem dX5_does_44 : decode cX5_does 44 = .ok (.bipush 64, 2) := by decide +kernel
theorem dX5_does_46 : decode cX5_does 46 = .ok (.if_icmp .ge 97, 3) := by decide +kernel
theorem dX5_does_49 : decode cX5_does 49 = .ok (.iload 5, 2) := by decide +kernel
theorem dX5_does_51 : decode cX5_does 51 = .ok (.ifCond .ne 92, 3) := by decide +kernel
theorem dX5_does_54 : decode cX5_does 54 = .ok (.bipush 64, 2) := by decide +kernel
theorem dX5_does_56 : decode cX5_does 56 = .ok (.iload 4, 2) := by decide +kernel
theorem dX5_does_58 : decode cX5_does 58 = .ok (.imul, 1) := by decide +kernel
theorem dX5_does_59 : decode cX5_does 59 = .ok (.iload 6, 2) := by decide +kernel
theorem dX5_does_61 : decode cX5_does 61 = .ok (.iadd, 1) := by decide +kernel
theorem dX5_does_62 : decode cX5_does 62 = .ok (.istore 7, 2) := by decide +kernel
theorem dX5_does_64 : decode cX5_does 64 = .ok (.aload_n 0, 1) := by decide +kernel
theorem dX5_does_65 : decode cX5_does 65 = .ok (.getfield 71, 3) := by decide +kernel
theorem dX5_does_68 : decode cX5_does 68 = .ok (.iload 7, 2) := by decide +kernel
theorem dX5_does_70 : decode cX5_does 70 = .ok (.iaload, 1) := by decide +kernel
theorem dX5_does_71 : decode cX5_does 71 = .ok (.iconst (-1), 1) := by decide +kernel
theorem dX5_does_72 : decode cX5_does 72 = .ok (.if_icmp .eq 65, 3) := by decide +kernel
theorem dX5_does_75 : decode cX5_does 75 = .ok (.aload_n 0, 1) := by decide +kernel
theorem dX5_does_76 : decode cX5_does 76 = .ok (.getfield 71, 3) := by decide +kernel
theorem dX5_does_79 : decode cX5_does 79 = .ok (.iload 7, 2) := by decide +kernel
theorem dX5_does_81 : decode cX5_does 81 = .ok (.iaload, 1) := by decide +kernel
theorem dX5_does_82 : decode cX5_does 82 = .ok (.iload_n 2, 1) := by decide +kernel
theorem dX5_does_83 : decode cX5_does 83 = .ok (.if_icmp .gt 54, 3) := by decide +kernel
theorem dX5_does_86 : decode cX5_does 86 = .ok (.aload_n 0, 1) := by decide +kernel
theorem dX5_does_87 : decode cX5_does 87 = .ok (.getfield 74, 3) := by decide +kernel
theorem dX5_does_90 : decode cX5_does 90 = .ok (.iload 7, 2) := by decide +kernel
theorem dX5_does_92 : decode cX5_does 92 = .ok (.iaload, 1) := by decide +kernel
theorem dX5_does_93 : decode cX5_does 93 = .ok (.aload_n 0, 1) := by decide +kernel
theorem dX5_does_94 : decode cX5_does 94 = .ok (.getfield 44, 3) := by decide +kernel
theorem dX5_does_97 : decode cX5_does 97 = .ok (.iload 4, 2) := by decide +kernel
theorem dX5_does_99 : decode cX5_does 99 = .ok (.iaload, 1) := by decide +kernel
theorem dX5_does_100 : decode cX5_does 100 = .ok (.if_icmp .ge 37, 3) := by decide +kernel
theorem dX5_does_103 : decode cX5_does 103 = .ok (.iconst 1, 1) := by decide +kernel
theorem dX5_does_104 : decode cX5_does 104 = .ok (.istore 5, 2) := by decide +kernel
theorem dX5_does_106 : decode cX5_does 106 = .ok (.iload_n 3, 1) := by decide +kernel
theorem dX5_does_107 : decode cX5_does 107 = .ok (.iconst (-1), 1) := by decide +kernel
theorem dX5_does_108 : decode cX5_does 108 = .ok (.if_icmp .eq 22, 3) := by decide +kernel
theorem dX5_does_111 : decode cX5_does 111 = .ok (.aload_n 0, 1) := by decide +kernel
theorem dX5_does_112 : decode cX5_does 112 = .ok (.getfield 47, 3) := by decide +kernel
theorem dX5_does_115 : decode cX5_does 115 = .ok (.iload 4, 2) := by decide +kernel
theorem dX5_does_117 : decode cX5_does 117 = .ok (.iaload, 1) := by decide +kernel
theorem dX5_does_118 : decode cX5_does 118 = .ok (.aload_n 0, 1) := by decide +kernel
theorem dX5_does_119 : decode cX5_does 119 = .ok (.getfield 47, 3) := by decide +kernel
theorem dX5_does_122 : decode cX5_does 122 = .ok (.iload_n 3, 1) := by decide +kernel
theorem dX5_does_123 : decode cX5_does 123 = .ok (.bipush 64, 2) := by decide +kernel
theorem dX5_does_125 : decode cX5_does 125 = .ok (.idiv, 1) := by decide +kernel
theorem dX5_does_126 : decode cX5_does 126 = .ok (.iaload, 1) := by decide +kernel
theorem dX5_does_127 : decode cX5_does 127 = .ok (.if_icmp .le 8, 3) := by decide +kernel
theorem dX5_does_130 : decode cX5_does 130 = .ok (.iload 7, 2) := by decide +kernel
theorem dX5_does_132 : decode cX5_does 132 = .ok (.goto 4, 3) := by decide +kernel
theorem dX5_does_135 : decode cX5_does 135 = .ok (.iload_n 3, 1) := by decide +kernel
theorem dX5_does_136 : decode cX5_does 136 = .ok (.istore_n 3, 1) := by decide +kernel
theorem dX5_does_137 : decode cX5_does 137 = .ok (.iinc 6 1, 3) := by decide +kernel
theorem dX5_does_140 : decode cX5_does 140 = .ok (.goto (-98), 3) := by decide +kernel
theorem dX5_does_143 : decode cX5_does 143 = .ok (.iinc 4 1, 3) := by decide +kernel
theorem dX5_does_146 : decode cX5_does 146 = .ok (.goto (-141), 3) := by decide +kernel
theorem dX5_does_149 : decode cX5_does 149 = .ok (.iload_n 3, 1) := by decide +kernel
theorem dX5_does_150 : decode cX5_does 150 = .ok (.ireturn, 1) := by decide +kernel
theorem dX5_ends_0 : decode cX5_ends 0 = .ok (.iload_n 1, 1) := by decide +kernel
theorem dX5_ends_1 : decode cX5_ends 1 = .ok (.bipush 64, 2) := by decide +kernel
theorem dX5_ends_3 : decode cX5_ends 3 = .ok (.idiv, 1) := by decide +kernel
theorem dX5_ends_4 : decode cX5_ends 4 = .ok (.istore_n 3, 1) := by decide +kernel
theorem dX5_ends_5 : decode cX5_ends 5 = .ok (.iload_n 1, 1) := by decide +kernel
theorem dX5_ends_6 : decode cX5_ends 6 = .ok (.bipush 64, 2) := by decide +kernel
theorem dX5_ends_8 : decode cX5_ends 8 = .ok (.irem, 1) := by decide +kernel
theorem dX5_ends_9 : decode cX5_ends 9 = .ok (.istore 4, 2) := by decide +kernel
theorem dX5_ends_11 : decode cX5_ends 11 = .ok (.iload_n 2, 1) := by decide +kernel
theorem dX5_ends_12 : decode cX5_ends 12 = .ok (.aload_n 0, 1) := by decide +kernel
theorem dX5_ends_13 : decode cX5_ends 13 = .ok (.iload_n 3, 1) := by decide +kernel
theorem dX5_ends_14 : decode cX5_ends 14 = .ok (.iload 4, 2) := by decide +kernel
theorem dX5_ends_16 : decode cX5_ends 16 = .ok (.invokevirtual 297, 3) := by decide +kernel
theorem dX5_ends_19 : decode cX5_ends 19 = .ok (.isub, 1) := by decide +kernel
theorem dX5_ends_20 : decode cX5_ends 20 = .ok (.istore 5, 2) := by decide +kernel
theorem dX5_ends_22 : decode cX5_ends 22 = .ok (.aload_n 0, 1) := by decide +kernel
theorem dX5_ends_23 : decode cX5_ends 23 = .ok (.getfield 77, 3) := by decide +kernel
theorem dX5_ends_26 : decode cX5_ends 26 = .ok (.iload_n 3, 1) := by decide +kernel
theorem dX5_ends_27 : decode cX5_ends 27 = .ok (.aload_n 0, 1) := by decide +kernel
theorem dX5_ends_28 : decode cX5_ends 28 = .ok (.getfield 77, 3) := by decide +kernel
theorem dX5_ends_31 : decode cX5_ends 31 = .ok (.iload_n 3, 1) := by decide +kernel
theorem dX5_ends_32 : decode cX5_ends 32 = .ok (.iaload, 1) := by decide +kernel
theorem dX5_ends_33 : decode cX5_ends 33 = .ok (.iload 5, 2) := by decide +kernel
theorem dX5_ends_35 : decode cX5_ends 35 = .ok (.invokestatic 198, 3) := by decide +kernel
theorem dX5_ends_38 : decode cX5_ends 38 = .ok (.iastore, 1) := by decide +kernel
theorem dX5_ends_39 : decode cX5_ends 39 = .ok (.aload_n 0, 1) := by decide +kernel
theorem dX5_ends_40 : decode cX5_ends 40 = .ok (.getfield 80, 3) := by decide +kernel
theorem dX5_ends_43 : decode cX5_ends 43 = .ok (.iload_n 3, 1) := by decide +kernel
theorem dX5_ends_44 : decode cX5_ends 44 = .ok (.aload_n 0, 1) := by decide +kernel
theorem dX5_ends_45 : decode cX5_ends 45 = .ok (.getfield 80, 3) := by decide +kernel
theorem dX5_ends_48 : decode cX5_ends 48 = .ok (.iload_n 3, 1) := by decide +kernel
theorem dX5_ends_49 : decode cX5_ends 49 = .ok (.iaload, 1) := by decide +kernel
theorem dX5_ends_50 : decode cX5_ends 50 = .ok (.iconst (-1), 1) := by decide +kernel
theorem dX5_ends_51 : decode cX5_ends 51 = .ok (.if_icmp .ne 8, 3) := by decide +kernel
theorem dX5_ends_54 : decode cX5_ends 54 = .ok (.iload 5, 2) := by decide +kernel
theorem dX5_ends_56 : decode cX5_ends 56 = .ok (.goto 14, 3) := by decide +kernel
theorem dX5_ends_59 : decode cX5_ends 59 = .ok (.aload_n 0, 1) := by decide +kernel
theorem dX5_ends_60 : decode cX5_ends 60 = .ok (.getfield 80, 3) := by decide +kernel
theorem dX5_ends_63 : decode cX5_ends 63 = .ok (.iload_n 3, 1) := by decide +kernel
theorem dX5_ends_64 : decode cX5_ends 64 = .ok (.iaload, 1) := by decide +kernel
theorem dX5_ends_65 : decode cX5_ends 65 = .ok (.iload 5, 2) := by decide +kernel
theorem dX5_ends_67 : decode cX5_ends 67 = .ok (.invokestatic 300, 3) := by decide +kernel
theorem dX5_ends_70 : decode cX5_ends 70 = .ok (.iastore, 1) := by decide +kernel
theorem dX5_ends_71 : decode cX5_ends 71 = .ok (.aload_n 0, 1) := by decide +kernel
theorem dX5_ends_72 : decode cX5_ends 72 = .ok (.getfield 83, 3) := by decide +kernel
theorem dX5_ends_75 : decode cX5_ends 75 = .ok (.iload_n 3, 1) := by decide +kernel
theorem dX5_ends_76 : decode cX5_ends 76 = .ok (.dup2, 1) := by decide +kernel
theorem dX5_ends_77 : decode cX5_ends 77 = .ok (.iaload, 1) := by decide +kernel
theorem dX5_ends_78 : decode cX5_ends 78 = .ok (.iconst 1, 1) := by decide +kernel
theorem dX5_ends_79 : decode cX5_ends 79 = .ok (.iadd, 1) := by decide +kernel
theorem dX5_ends_80 : decode cX5_ends 80 = .ok (.iastore, 1) := by decide +kernel
theorem dX5_ends_81 : decode cX5_ends 81 = .ok (.iload_n 3, 1) := by decide +kernel
theorem dX5_ends_82 : decode cX5_ends 82 = .ok (.iconst 3, 1) := by decide +kernel
theorem dX5_ends_83 : decode cX5_ends 83 = .ok (.irem, 1) := by decide +kernel
theorem dX5_ends_84 : decode cX5_ends 84 = .ok (.iconst 2, 1) := by decide +kernel
theorem dX5_ends_85 : decode cX5_ends 85 = .ok (.if_icmp .ge 32, 3) := by decide +kernel
theorem dX5_ends_88 : decode cX5_ends 88 = .ok (.aload_n 0, 1) := by decide +kernel
theorem dX5_ends_89 : decode cX5_ends 89 = .ok (.iload_n 3, 1) := by decide +kernel
theorem dX5_ends_90 : decode cX5_ends 90 = .ok (.iconst 1, 1) := by decide +kernel
theorem dX5_ends_91 : decode cX5_ends 91 = .ok (.iadd, 1) := by decide +kernel
theorem dX5_ends_92 : decode cX5_ends 92 = .ok (.invokevirtual 160, 3) := by decide +kernel
theorem dX5_ends_95 : decode cX5_ends 95 = .ok (.ifCond .eq 22, 3) := by decide +kernel
theorem dX5_ends_98 : decode cX5_ends 98 = .ok (.aload_n 0, 1) := by decide +kernel
theorem dX5_ends_99 : decode cX5_ends 99 = .ok (.getfield 71, 3) := by decide +kernel
theorem dX5_ends_102 : decode cX5_ends 102 = .ok (.iload_n 1, 1) := by decide +kernel
theorem dX5_ends_103 : decode cX5_ends 103 = .ok (.bipush 64, 2) := by decide +kernel
theorem dX5_ends_105 : decode cX5_ends 105 = .ok (.iadd, 1) := by decide +kernel
theorem dX5_ends_106 : decode cX5_ends 106 = .ok (.iload_n 2, 1) := by decide +kernel
theorem dX5_ends_107 : decode cX5_ends 107 = .ok (.aload_n 0, 1) := by decide +kernel
theorem dX5_ends_108 : decode cX5_ends 108 = .ok (.getfield 50, 3) := by decide +kernel
theorem dX5_ends_111 : decode cX5_ends 111 = .ok (.iload_n 3, 1) := by decide +kernel
theorem dX5_ends_112 : decode cX5_ends 112 = .ok (.iconst 1, 1) := by decide +kernel
theorem dX5_ends_113 : decode cX5_ends 113 = .ok (.iadd, 1) := by decide +kernel
theorem dX5_ends_114 : decode cX5_ends 114 = .ok (.iaload, 1) := by decide +kernel
theorem dX5_ends_115 : decode cX5_ends 115 = .ok (.iadd, 1) := by decide +kernel
theorem dX5_ends_116 : decode cX5_ends 116 = .ok (.iastore, 1) := by decide +kernel
theorem dX5_ends_117 : decode cX5_ends 117 = .ok (.return_, 1) := by decide +kernel
theorem dX5_endedNow_0 : decode cX5_endedNow 0 = .ok (.iconst 0, 1) := by decide +kernel
theorem dX5_endedNow_1 : decode cX5_endedNow 1 = .ok (.istore_n 1, 1) := by decide +kernel
theorem dX5_endedNow_2 : decode cX5_endedNow 2 = .ok (.iconst 0, 1) := by decide +kernel
theorem dX5_endedNow_3 : decode cX5_endedNow 3 = .ok (.istore_n 2, 1) := by decide +kernel
theorem dX5_endedNow_4 : decode cX5_endedNow 4 = .ok (.iload_n 2, 1) := by decide +kernel
theorem dX5_endedNow_5 : decode cX5_endedNow 5 = .ok (.bipush 9, 2) := by decide +kernel
theorem dX5_endedNow_7 : decode cX5_endedNow 7 = .ok (.if_icmp .ge 18, 3) := by decide +kernel
theorem dX5_endedNow_10 : decode cX5_endedNow 10 = .ok (.iload_n 1, 1) := by decide +kernel
theorem dX5_endedNow_11 : decode cX5_endedNow 11 = .ok (.aload_n 0, 1) := by decide +kernel
theorem dX5_endedNow_12 : decode cX5_endedNow 12 = .ok (.getfield 83, 3) := by decide +kernel
theorem dX5_endedNow_15 : decode cX5_endedNow 15 = .ok (.iload_n 2, 1) := by decide +kernel
theorem dX5_endedNow_16 : decode cX5_endedNow 16 = .ok (.iaload, 1) := by decide +kernel
theorem dX5_endedNow_17 : decode cX5_endedNow 17 = .ok (.iadd, 1) := by decide +kernel
theorem dX5_endedNow_18 : decode cX5_endedNow 18 = .ok (.istore_n 1, 1) := by decide +kernel
theorem dX5_endedNow_19 : decode cX5_endedNow 19 = .ok (.iinc 2 1, 3) := by decide +kernel
theorem dX5_endedNow_22 : decode cX5_endedNow 22 = .ok (.goto (-18), 3) := by decide +kernel
theorem dX5_endedNow_25 : decode cX5_endedNow 25 = .ok (.iload_n 1, 1) := by decide +kernel
theorem dX5_endedNow_26 : decode cX5_endedNow 26 = .ok (.ireturn, 1) := by decide +kernel
theorem dX5_run_0 : decode cX5_run 0 = .ok (.iload_n 1, 1) := by decide +kernel
theorem dX5_run_1 : decode cX5_run 1 = .ok (.i2l, 1) := by decide +kernel
theorem dX5_run_2 : decode cX5_run 2 = .ok (.lconst 1, 1) := by decide +kernel
theorem dX5_run_3 : decode cX5_run 3 = .ok (.ldc2_w 303, 3) := by decide +kernel
theorem dX5_run_6 : decode cX5_run 6 = .ok (.invokestatic 89, 3) := by decide +kernel
theorem dX5_run_9 : decode cX5_run 9 = .ok (.ifCond .ne 6, 3) := by decide +kernel
theorem dX5_run_12 : decode cX5_run 12 = .ok (.bipush (-2), 2) := by decide +kernel
theorem dX5_run_14 : decode cX5_run 14 = .ok (.ireturn, 1) := by decide +kernel
theorem dX5_run_15 : decode cX5_run 15 = .ok (.aload_n 0, 1) := by decide +kernel
theorem dX5_run_16 : decode cX5_run 16 = .ok (.invokevirtual 305, 3) := by decide +kernel
theorem dX5_run_19 : decode cX5_run 19 = .ok (.aload_n 0, 1) := by decide +kernel
theorem dX5_run_20 : decode cX5_run 20 = .ok (.iload_n 1, 1) := by decide +kernel
theorem dX5_run_21 : decode cX5_run 21 = .ok (.putfield 308, 3) := by decide +kernel
theorem dX5_run_24 : decode cX5_run 24 = .ok (.iconst 0, 1) := by decide +kernel
theorem dX5_run_25 : decode cX5_run 25 = .ok (.istore_n 2, 1) := by decide +kernel
theorem dX5_run_26 : decode cX5_run 26 = .ok (.iload_n 2, 1) := by decide +kernel
theorem dX5_run_27 : decode cX5_run 27 = .ok (.iload_n 1, 1) := by decide +kernel
theorem dX5_run_28 : decode cX5_run 28 = .ok (.if_icmp .ge 166, 3) := by decide +kernel
theorem dX5_run_31 : decode cX5_run 31 = .ok (.aload_n 0, 1) := by decide +kernel
theorem dX5_run_32 : decode cX5_run 32 = .ok (.iconst 0, 1) := by decide +kernel
theorem dX5_run_33 : decode cX5_run 33 = .ok (.iload_n 2, 1) := by decide +kernel
theorem dX5_run_34 : decode cX5_run 34 = .ok (.invokevirtual 311, 3) := by decide +kernel
theorem dX5_run_37 : decode cX5_run 37 = .ok (.istore_n 3, 1) := by decide +kernel
theorem dX5_run_38 : decode cX5_run 38 = .ok (.aload_n 0, 1) := by decide +kernel
theorem dX5_run_39 : decode cX5_run 39 = .ok (.iconst 1, 1) := by decide +kernel
theorem dX5_run_40 : decode cX5_run 40 = .ok (.iload_n 2, 1) := by decide +kernel
theorem dX5_run_41 : decode cX5_run 41 = .ok (.invokevirtual 311, 3) := by decide +kernel
theorem dX5_run_44 : decode cX5_run 44 = .ok (.istore 4, 2) := by decide +kernel
theorem dX5_run_46 : decode cX5_run 46 = .ok (.aload_n 0, 1) := by decide +kernel
theorem dX5_run_47 : decode cX5_run 47 = .ok (.getfield 86, 3) := by decide +kernel
theorem dX5_run_50 : decode cX5_run 50 = .ok (.iload_n 2, 1) := by decide +kernel
theorem dX5_run_51 : decode cX5_run 51 = .ok (.iload_n 3, 1) := by decide +kernel
theorem dX5_run_52 : decode cX5_run 52 = .ok (.iconst (-1), 1) := by decide +kernel
theorem dX5_run_53 : decode cX5_run 53 = .ok (.if_icmp .ne 7, 3) := by decide +kernel
theorem dX5_run_56 : decode cX5_run 56 = .ok (.iconst (-1), 1) := by decide +kernel
theorem dX5_run_57 : decode cX5_run 57 = .ok (.goto 7, 3) := by decide +kernel
theorem dX5_run_60 : decode cX5_run 60 = .ok (.iload_n 3, 1) := by decide +kernel
theorem dX5_run_61 : decode cX5_run 61 = .ok (.bipush 64, 2) := by decide +kernel
theorem dX5_run_63 : decode cX5_run 63 = .ok (.idiv, 1) := by decide +kernel
theorem dX5_run_64 : decode cX5_run 64 = .ok (.iastore, 1) := by decide +kernel
theorem dX5_run_65 : decode cX5_run 65 = .ok (.aload_n 0, 1) := by decide +kernel
theorem dX5_run_66 : decode cX5_run 66 = .ok (.getfield 86, 3) := by decide +kernel
theorem dX5_run_69 : decode cX5_run 69 = .ok (.sipush 300, 3) := by decide +kernel
theorem dX5_run_72 : decode cX5_run 72 = .ok (.iload_n 2, 1) := by decide +kernel
theorem dX5_run_73 : decode cX5_run 73 = .ok (.iadd, 1) := by decide +kernel
theorem dX5_run_74 : decode cX5_run 74 = .ok (.iload 4, 2) := by decide +kernel
theorem dX5_run_76 : decode cX5_run 76 = .ok (.iconst (-1), 1) := by decide +kernel
theorem dX5_run_77 : decode cX5_run 77 = .ok (.if_icmp .ne 7, 3) := by decide +kernel
theorem dX5_run_80 : decode cX5_run 80 = .ok (.iconst (-1), 1) := by decide +kernel
theorem dX5_run_81 : decode cX5_run 81 = .ok (.goto 8, 3) := by decide +kernel
theorem dX5_run_84 : decode cX5_run 84 = .ok (.iload 4, 2) := by decide +kernel
theorem dX5_run_86 : decode cX5_run 86 = .ok (.bipush 64, 2) := by decide +kernel
theorem dX5_run_88 : decode cX5_run 88 = .ok (.idiv, 1) := by decide +kernel
theorem dX5_run_89 : decode cX5_run 89 = .ok (.iastore, 1) := by decide +kernel
theorem dX5_run_90 : decode cX5_run 90 = .ok (.iload_n 3, 1) := by decide +kernel
theorem dX5_run_91 : decode cX5_run 91 = .ok (.iconst (-1), 1) := by decide +kernel
theorem dX5_run_92 : decode cX5_run 92 = .ok (.if_icmp .eq 13, 3) := by decide +kernel
theorem dX5_run_95 : decode cX5_run 95 = .ok (.aload_n 0, 1) := by decide +kernel
theorem dX5_run_96 : decode cX5_run 96 = .ok (.getfield 74, 3) := by decide +kernel
theorem dX5_run_99 : decode cX5_run 99 = .ok (.iload_n 3, 1) := by decide +kernel
theorem dX5_run_100 : decode cX5_run 100 = .ok (.dup2, 1) := by decide +kernel
theorem dX5_run_101 : decode cX5_run 101 = .ok (.iaload, 1) := by decide +kernel
theorem dX5_run_102 : decode cX5_run 102 = .ok (.iconst 1, 1) := by decide +kernel
theorem dX5_run_103 : decode cX5_run 103 = .ok (.iadd, 1) := by decide +kernel
theorem dX5_run_104 : decode cX5_run 104 = .ok (.iastore, 1) := by decide +kernel
theorem dX5_run_105 : decode cX5_run 105 = .ok (.iload 4, 2) := by decide +kernel
theorem dX5_run_107 : decode cX5_run 107 = .ok (.iconst (-1), 1) := by decide +kernel
theorem dX5_run_108 : decode cX5_run 108 = .ok (.if_icmp .eq 14, 3) := by decide +kernel
theorem dX5_run_111 : decode cX5_run 111 = .ok (.aload_n 0, 1) := by decide +kernel
theorem dX5_run_112 : decode cX5_run 112 = .ok (.getfield 74, 3) := by decide +kernel
theorem dX5_run_115 : decode cX5_run 115 = .ok (.iload 4, 2) := by decide +kernel
theorem dX5_run_117 : decode cX5_run 117 = .ok (.dup2, 1) := by decide +kernel
theorem dX5_run_118 : decode cX5_run 118 = .ok (.iaload, 1) := by decide +kernel
theorem dX5_run_119 : decode cX5_run 119 = .ok (.iconst 1, 1) := by decide +kernel
theorem dX5_run_120 : decode cX5_run 120 = .ok (.iadd, 1) := by decide +kernel
theorem dX5_run_121 : decode cX5_run 121 = .ok (.iastore, 1) := by decide +kernel
theorem dX5_run_122 : decode cX5_run 122 = .ok (.iload_n 3, 1) := by decide +kernel
theorem dX5_run_123 : decode cX5_run 123 = .ok (.iconst (-1), 1) := by decide +kernel
theorem dX5_run_124 : decode cX5_run 124 = .ok (.if_icmp .eq 29, 3) := by decide +kernel
theorem dX5_run_127 : decode cX5_run 127 = .ok (.aload_n 0, 1) := by decide +kernel
theorem dX5_run_128 : decode cX5_run 128 = .ok (.getfield 74, 3) := by decide +kernel
theorem dX5_run_131 : decode cX5_run 131 = .ok (.iload_n 3, 1) := by decide +kernel
theorem dX5_run_132 : decode cX5_run 132 = .ok (.iaload, 1) := by decide +kernel
theorem dX5_run_133 : decode cX5_run 133 = .ok (.aload_n 0, 1) := by decide +kernel
theorem dX5_run_134 : decode cX5_run 134 = .ok (.getfield 44, 3) := by decide +kernel
theorem dX5_run_137 : decode cX5_run 137 = .ok (.iload_n 3, 1) := by decide +kernel
theorem dX5_run_138 : decode cX5_run 138 = .ok (.bipush 64, 2) := by decide +kernel
theorem dX5_run_140 : decode cX5_run 140 = .ok (.idiv, 1) := by decide +kernel
theorem dX5_run_141 : decode cX5_run 141 = .ok (.iaload, 1) := by decide +kernel
theorem dX5_run_142 : decode cX5_run 142 = .ok (.if_icmp .ne 11, 3) := by decide +kernel
theorem dX5_run_145 : decode cX5_run 145 = .ok (.aload_n 0, 1) := by decide +kernel
theorem dX5_run_146 : decode cX5_run 146 = .ok (.iload_n 3, 1) := by decide +kernel
theorem dX5_run_147 : decode cX5_run 147 = .ok (.iload_n 2, 1) := by decide +kernel
theorem dX5_run_148 : decode cX5_run 148 = .ok (.iconst 1, 1) := by decide +kernel
theorem dX5_run_149 : decode cX5_run 149 = .ok (.iadd, 1) := by decide +kernel
theorem dX5_run_150 : decode cX5_run 150 = .ok (.invokevirtual 314, 3) := by decide +kernel
theorem dX5_run_153 : decode cX5_run 153 = .ok (.iload 4, 2) := by decide +kernel
theorem dX5_run_155 : decode cX5_run 155 = .ok (.iconst (-1), 1) := by decide +kernel
theorem dX5_run_156 : decode cX5_run 156 = .ok (.if_icmp .eq 32, 3) := by decide +kernel
theorem dX5_run_159 : decode cX5_run 159 = .ok (.aload_n 0, 1) := by decide +kernel
theorem dX5_run_160 : decode cX5_run 160 = .ok (.getfield 74, 3) := by decide +kernel
theorem dX5_run_163 : decode cX5_run 163 = .ok (.iload 4, 2) := by decide +kernel
theorem dX5_run_165 : decode cX5_run 165 = .ok (.iaload, 1) := by decide +kernel
theorem dX5_run_166 : decode cX5_run 166 = .ok (.aload_n 0, 1) := by decide +kernel
theorem dX5_run_167 : decode cX5_run 167 = .ok (.getfield 44, 3) := by decide +kernel
theorem dX5_run_170 : decode cX5_run 170 = .ok (.iload 4, 2) := by decide +kernel
theorem dX5_run_172 : decode cX5_run 172 = .ok (.bipush 64, 2) := by decide +kernel
theorem dX5_run_174 : decode cX5_run 174 = .ok (.idiv, 1) := by decide +kernel
theorem dX5_run_175 : decode cX5_run 175 = .ok (.iaload, 1) := by decide +kernel
theorem dX5_run_176 : decode cX5_run 176 = .ok (.if_icmp .ne 12, 3) := by decide +kernel
theorem dX5_run_179 : decode cX5_run 179 = .ok (.aload_n 0, 1) := by decide +kernel
theorem dX5_run_180 : decode cX5_run 180 = .ok (.iload 4, 2) := by decide +kernel
theorem dX5_run_182 : decode cX5_run 182 = .ok (.iload_n 2, 1) := by decide +kernel
theorem dX5_run_183 : decode cX5_run 183 = .ok (.iconst 1, 1) := by decide +kernel
theorem dX5_run_184 : decode cX5_run 184 = .ok (.iadd, 1) := by decide +kernel
theorem dX5_run_185 : decode cX5_run 185 = .ok (.invokevirtual 314, 3) := by decide +kernel
theorem dX5_run_188 : decode cX5_run 188 = .ok (.iinc 2 1, 3) := by decide +kernel
theorem dX5_run_191 : decode cX5_run 191 = .ok (.goto (-165), 3) := by decide +kernel
theorem dX5_run_194 : decode cX5_run 194 = .ok (.aload_n 0, 1) := by decide +kernel
theorem dX5_run_195 : decode cX5_run 195 = .ok (.invokevirtual 318, 3) := by decide +kernel
theorem dX5_run_198 : decode cX5_run 198 = .ok (.ireturn, 1) := by decide +kernel
theorem dX5_seenBy_0 : decode cX5_seenBy 0 = .ok (.iload_n 2, 1) := by decide +kernel
theorem dX5_seenBy_1 : decode cX5_seenBy 1 = .ok (.ifCond .ne 12, 3) := by decide +kernel
theorem dX5_seenBy_4 : decode cX5_seenBy 4 = .ok (.aload_n 0, 1) := by decide +kernel
theorem dX5_seenBy_5 : decode cX5_seenBy 5 = .ok (.getfield 77, 3) := by decide +kernel
theorem dX5_seenBy_8 : decode cX5_seenBy 8 = .ok (.iload_n 1, 1) := by decide +kernel
theorem dX5_seenBy_9 : decode cX5_seenBy 9 = .ok (.iaload, 1) := by decide +kernel
theorem dX5_seenBy_10 : decode cX5_seenBy 10 = .ok (.goto 23, 3) := by decide +kernel
theorem dX5_seenBy_13 : decode cX5_seenBy 13 = .ok (.iload_n 2, 1) := by decide +kernel
theorem dX5_seenBy_14 : decode cX5_seenBy 14 = .ok (.iconst 1, 1) := by decide +kernel
theorem dX5_seenBy_15 : decode cX5_seenBy 15 = .ok (.if_icmp .ne 12, 3) := by decide +kernel
theorem dX5_seenBy_18 : decode cX5_seenBy 18 = .ok (.aload_n 0, 1) := by decide +kernel
theorem dX5_seenBy_19 : decode cX5_seenBy 19 = .ok (.getfield 80, 3) := by decide +kernel
theorem dX5_seenBy_22 : decode cX5_seenBy 22 = .ok (.iload_n 1, 1) := by decide +kernel
theorem dX5_seenBy_23 : decode cX5_seenBy 23 = .ok (.iaload, 1) := by decide +kernel
theorem dX5_seenBy_24 : decode cX5_seenBy 24 = .ok (.goto 9, 3) := by decide +kernel
theorem dX5_seenBy_27 : decode cX5_seenBy 27 = .ok (.aload_n 0, 1) := by decide +kernel
theorem dX5_seenBy_28 : decode cX5_seenBy 28 = .ok (.getfield 83, 3) := by decide +kernel
theorem dX5_seenBy_31 : decode cX5_seenBy 31 = .ok (.iload_n 1, 1) := by decide +kernel
theorem dX5_seenBy_32 : decode cX5_seenBy 32 = .ok (.iaload, 1) := by decide +kernel
theorem dX5_seenBy_33 : decode cX5_seenBy 33 = .ok (.ireturn, 1) := by decide +kernel
theorem dX5_seen_0 : decode cX5_seen 0 = .ok (.aload_n 0, 1) := by decide +kernel
theorem dX5_seen_1 : decode cX5_seen 1 = .ok (.iload_n 1, 1) := by decide +kernel
theorem dX5_seen_2 : decode cX5_seen 2 = .ok (.iload_n 2, 1) := by decide +kernel
theorem dX5_seen_3 : decode cX5_seen 3 = .ok (.invokevirtual 154, 3) := by decide +kernel
theorem dX5_seen_6 : decode cX5_seen 6 = .ok (.ifCond .eq 28, 3) := by decide +kernel
theorem dX5_seen_9 : decode cX5_seen 9 = .ok (.iload_n 3, 1) := by decide +kernel
theorem dX5_seen_10 : decode cX5_seen 10 = .ok (.i2l, 1) := by decide +kernel
theorem dX5_seen_11 : decode cX5_seen 11 = .ok (.lconst 0, 1) := by decide +kernel
theorem dX5_seen_12 : decode cX5_seen 12 = .ok (.ldc2_w 105, 3) := by decide +kernel
theorem dX5_seen_15 : decode cX5_seen 15 = .ok (.invokestatic 89, 3) := by decide +kernel
theorem dX5_seen_18 : decode cX5_seen 18 = .ok (.ifCond .eq 16, 3) := by decide +kernel
theorem dX5_seen_21 : decode cX5_seen 21 = .ok (.aload_n 0, 1) := by decide +kernel
theorem dX5_seen_22 : decode cX5_seen 22 = .ok (.iconst 3, 1) := by decide +kernel
theorem dX5_seen_23 : decode cX5_seen 23 = .ok (.iload_n 1, 1) := by decide +kernel
theorem dX5_seen_24 : decode cX5_seen 24 = .ok (.imul, 1) := by decide +kernel
theorem dX5_seen_25 : decode cX5_seen 25 = .ok (.iload_n 2, 1) := by decide +kernel
theorem dX5_seen_26 : decode cX5_seen 26 = .ok (.iadd, 1) := by decide +kernel
theorem dX5_seen_27 : decode cX5_seen 27 = .ok (.iload_n 3, 1) := by decide +kernel
theorem dX5_seen_28 : decode cX5_seen 28 = .ok (.invokevirtual 321, 3) := by decide +kernel
theorem dX5_seen_31 : decode cX5_seen 31 = .ok (.goto 5, 3) := by decide +kernel
theorem dX5_seen_34 : decode cX5_seen 34 = .ok (.bipush (-2), 2) := by decide +kernel
theorem dX5_seen_36 : decode cX5_seen 36 = .ok (.ireturn, 1) := by decide +kernel
theorem dX5_tickBy_0 : decode cX5_tickBy 0 = .ok (.iload_n 2, 1) := by decide +kernel
theorem dX5_tickBy_1 : decode cX5_tickBy 1 = .ok (.aload_n 0, 1) := by decide +kernel
theorem dX5_tickBy_2 : decode cX5_tickBy 2 = .ok (.getfield 308, 3) := by decide +kernel
theorem dX5_tickBy_5 : decode cX5_tickBy 5 = .ok (.if_icmp .ge 18, 3) := by decide +kernel
theorem dX5_tickBy_8 : decode cX5_tickBy 8 = .ok (.aload_n 0, 1) := by decide +kernel
theorem dX5_tickBy_9 : decode cX5_tickBy 9 = .ok (.getfield 86, 3) := by decide +kernel
theorem dX5_tickBy_12 : decode cX5_tickBy 12 = .ok (.sipush 300, 3) := by decide +kernel
theorem dX5_tickBy_15 : decode cX5_tickBy 15 = .ok (.iload_n 1, 1) := by decide +kernel
theorem dX5_tickBy_16 : decode cX5_tickBy 16 = .ok (.imul, 1) := by decide +kernel
theorem dX5_tickBy_17 : decode cX5_tickBy 17 = .ok (.iload_n 2, 1) := by decide +kernel
theorem dX5_tickBy_18 : decode cX5_tickBy 18 = .ok (.iadd, 1) := by decide +kernel
theorem dX5_tickBy_19 : decode cX5_tickBy 19 = .ok (.iaload, 1) := by decide +kernel
theorem dX5_tickBy_20 : decode cX5_tickBy 20 = .ok (.goto 4, 3) := by decide +kernel
theorem dX5_tickBy_23 : decode cX5_tickBy 23 = .ok (.iconst (-1), 1) := by decide +kernel
theorem dX5_tickBy_24 : decode cX5_tickBy 24 = .ok (.ireturn, 1) := by decide +kernel
theorem dX5_tick_0 : decode cX5_tick 0 = .ok (.iload_n 1, 1) := by decide +kernel
theorem dX5_tick_1 : decode cX5_tick 1 = .ok (.invokestatic 177, 3) := by decide +kernel
theorem dX5_tick_4 : decode cX5_tick 4 = .ok (.ifCond .eq 24, 3) := by decide +kernel
theorem dX5_tick_7 : decode cX5_tick 7 = .ok (.iload_n 2, 1) := by decide +kernel
theorem dX5_tick_8 : decode cX5_tick 8 = .ok (.i2l, 1) := by decide +kernel
theorem dX5_tick_9 : decode cX5_tick 9 = .ok (.lconst 0, 1) := by decide +kernel
theorem dX5_tick_10 : decode cX5_tick 10 = .ok (.ldc2_w 324, 3) := by decide +kernel
theorem dX5_tick_13 : decode cX5_tick 13 = .ok (.invokestatic 89, 3) := by decide +kernel
theorem dX5_tick_16 : decode cX5_tick 16 = .ok (.ifCond .eq 12, 3) := by decide +kernel
theorem dX5_tick_19 : decode cX5_tick 19 = .ok (.aload_n 0, 1) := by decide +kernel
theorem dX5_tick_20 : decode cX5_tick 20 = .ok (.iload_n 1, 1) := by decide +kernel
theorem dX5_tick_21 : decode cX5_tick 21 = .ok (.iload_n 2, 1) := by decide +kernel
theorem dX5_tick_22 : decode cX5_tick 22 = .ok (.invokevirtual 326, 3) := by decide +kernel
theorem dX5_tick_25 : decode cX5_tick 25 = .ok (.goto 5, 3) := by decide +kernel
theorem dX5_tick_28 : decode cX5_tick 28 = .ok (.bipush (-2), 2) := by decide +kernel
theorem dX5_tick_30 : decode cX5_tick 30 = .ok (.ireturn, 1) := by decide +kernel
theorem dX5_idle_0 : decode cX5_idle 0 = .ok (.iconst 0, 1) := by decide +kernel
theorem dX5_idle_1 : decode cX5_idle 1 = .ok (.istore_n 2, 1) := by decide +kernel
theorem dX5_idle_2 : decode cX5_idle 2 = .ok (.iconst 0, 1) := by decide +kernel
theorem dX5_idle_3 : decode cX5_idle 3 = .ok (.istore_n 3, 1) := by decide +kernel
theorem dX5_idle_4 : decode cX5_idle 4 = .ok (.iload_n 3, 1) := by decide +kernel
theorem dX5_idle_5 : decode cX5_idle 5 = .ok (.aload_n 0, 1) := by decide +kernel
theorem dX5_idle_6 : decode cX5_idle 6 = .ok (.getfield 308, 3) := by decide +kernel
theorem dX5_idle_9 : decode cX5_idle 9 = .ok (.if_icmp .ge 33, 3) := by decide +kernel
theorem dX5_idle_12 : decode cX5_idle 12 = .ok (.iload_n 2, 1) := by decide +kernel
theorem dX5_idle_13 : decode cX5_idle 13 = .ok (.aload_n 0, 1) := by decide +kernel
theorem dX5_idle_14 : decode cX5_idle 14 = .ok (.getfield 86, 3) := by decide +kernel
theorem dX5_idle_17 : decode cX5_idle 17 = .ok (.sipush 300, 3) := by decide +kernel
theorem dX5_idle_20 : decode cX5_idle 20 = .ok (.iload_n 1, 1) := by decide +kernel
theorem dX5_idle_21 : decode cX5_idle 21 = .ok (.imul, 1) := by decide +kernel
theorem dX5_idle_22 : decode cX5_idle 22 = .ok (.iload_n 3, 1) := by decide +kernel
theorem dX5_idle_23 : decode cX5_idle 23 = .ok (.iadd, 1) := by decide +kernel
theorem dX5_idle_24 : decode cX5_idle 24 = .ok (.iaload, 1) := by decide +kernel
theorem dX5_idle_25 : decode cX5_idle 25 = .ok (.iconst (-1), 1) := by decide +kernel
theorem dX5_idle_26 : decode cX5_idle 26 = .ok (.if_icmp .ne 7, 3) := by decide +kernel
theorem dX5_idle_29 : decode cX5_idle 29 = .ok (.iconst 1, 1) := by decide +kernel
theorem dX5_idle_30 : decode cX5_idle 30 = .ok (.goto 4, 3) := by decide +kernel
theorem dX5_idle_33 : decode cX5_idle 33 = .ok (.iconst 0, 1) := by decide +kernel
theorem dX5_idle_34 : decode cX5_idle 34 = .ok (.iadd, 1) := by decide +kernel
theorem dX5_idle_35 : decode cX5_idle 35 = .ok (.istore_n 2, 1) := by decide +kernel
theorem dX5_idle_36 : decode cX5_idle 36 = .ok (.iinc 3 1, 3) := by decide +kernel
theorem dX5_idle_39 : decode cX5_idle 39 = .ok (.goto (-35), 3) := by decide +kernel
theorem dX5_idle_42 : decode cX5_idle 42 = .ok (.iload_n 2, 1) := by decide +kernel
theorem dX5_idle_43 : decode cX5_idle 43 = .ok (.ireturn, 1) := by decide +kernel
theorem dX5_write_0 : decode cX5_write 0 = .ok (.iload_n 1, 1) := by decide +kernel
theorem dX5_write_1 : decode cX5_write 1 = .ok (.invokestatic 101, 3) := by decide +kernel
theorem dX5_write_4 : decode cX5_write 4 = .ok (.ifCond .ne 6, 3) := by decide +kernel
theorem dX5_write_7 : decode cX5_write 7 = .ok (.bipush (-2), 2) := by decide +kernel
theorem dX5_write_9 : decode cX5_write 9 = .ok (.ireturn, 1) := by decide +kernel
theorem dX5_write_10 : decode cX5_write 10 = .ok (.aload_n 0, 1) := by decide +kernel
theorem dX5_write_11 : decode cX5_write 11 = .ok (.getfield 7, 3) := by decide +kernel
theorem dX5_write_14 : decode cX5_write 14 = .ok (.iload_n 1, 1) := by decide +kernel
theorem dX5_write_15 : decode cX5_write 15 = .ok (.iaload, 1) := by decide +kernel
theorem dX5_write_16 : decode cX5_write 16 = .ok (.ifCond .ge 9, 3) := by decide +kernel
theorem dX5_write_19 : decode cX5_write 19 = .ok (.aload_n 0, 1) := by decide +kernel
theorem dX5_write_20 : decode cX5_write 20 = .ok (.iconst 1, 1) := by decide +kernel
theorem dX5_write_21 : decode cX5_write 21 = .ok (.invokevirtual 107, 3) := by decide +kernel
theorem dX5_write_24 : decode cX5_write 24 = .ok (.ireturn, 1) := by decide +kernel
theorem dX5_write_25 : decode cX5_write 25 = .ok (.aload_n 0, 1) := by decide +kernel
theorem dX5_write_26 : decode cX5_write 26 = .ok (.invokevirtual 248, 3) := by decide +kernel
theorem dX5_write_29 : decode cX5_write 29 = .ok (.iconst 0, 1) := by decide +kernel
theorem dX5_write_30 : decode cX5_write 30 = .ok (.istore_n 2, 1) := by decide +kernel
theorem dX5_write_31 : decode cX5_write 31 = .ok (.iconst 0, 1) := by decide +kernel
theorem dX5_write_32 : decode cX5_write 32 = .ok (.istore_n 3, 1) := by decide +kernel
theorem dX5_write_33 : decode cX5_write 33 = .ok (.iload_n 3, 1) := by decide +kernel
theorem dX5_write_34 : decode cX5_write 34 = .ok (.bipush 9, 2) := by decide +kernel
theorem dX5_write_36 : decode cX5_write 36 = .ok (.if_icmp .ge 66, 3) := by decide +kernel
theorem dX5_write_39 : decode cX5_write 39 = .ok (.aload_n 0, 1) := by decide +kernel
theorem dX5_write_40 : decode cX5_write 40 = .ok (.iload_n 3, 1) := by decide +kernel
theorem dX5_write_41 : decode cX5_write 41 = .ok (.invokevirtual 160, 3) := by decide +kernel
theorem dX5_write_44 : decode cX5_write 44 = .ok (.ifCond .eq 52, 3) := by decide +kernel
theorem dX5_write_47 : decode cX5_write 47 = .ok (.iload_n 2, 1) := by decide +kernel
theorem dX5_write_48 : decode cX5_write 48 = .ok (.aload_n 0, 1) := by decide +kernel
theorem dX5_write_49 : decode cX5_write 49 = .ok (.getfield 13, 3) := by decide +kernel
theorem dX5_write_52 : decode cX5_write 52 = .ok (.iload_n 1, 1) := by decide +kernel
theorem dX5_write_53 : decode cX5_write 53 = .ok (.iaload, 1) := by decide +kernel
theorem dX5_write_54 : decode cX5_write 54 = .ok (.if_icmp .ge 42, 3) := by decide +kernel
theorem dX5_write_57 : decode cX5_write 57 = .ok (.aload_n 0, 1) := by decide +kernel
theorem dX5_write_58 : decode cX5_write 58 = .ok (.getfield 16, 3) := by decide +kernel
theorem dX5_write_61 : decode cX5_write 61 = .ok (.bipush 60, 2) := by decide +kernel
theorem dX5_write_63 : decode cX5_write 63 = .ok (.iload_n 1, 1) := by decide +kernel
theorem dX5_write_64 : decode cX5_write 64 = .ok (.imul, 1) := by decide +kernel
theorem dX5_write_65 : decode cX5_write 65 = .ok (.iload_n 2, 1) := by decide +kernel
theorem dX5_write_66 : decode cX5_write 66 = .ok (.iadd, 1) := by decide +kernel
theorem dX5_write_67 : decode cX5_write 67 = .ok (.aload_n 0, 1) := by decide +kernel
theorem dX5_write_68 : decode cX5_write 68 = .ok (.getfield 7, 3) := by decide +kernel
theorem dX5_write_71 : decode cX5_write 71 = .ok (.iload_n 1, 1) := by decide +kernel
theorem dX5_write_72 : decode cX5_write 72 = .ok (.iaload, 1) := by decide +kernel
theorem dX5_write_73 : decode cX5_write 73 = .ok (.ifCond .ne 13, 3) := by decide +kernel
theorem dX5_write_76 : decode cX5_write 76 = .ok (.aload_n 0, 1) := by decide +kernel
theorem dX5_write_77 : decode cX5_write 77 = .ok (.iload_n 3, 1) := by decide +kernel
theorem dX5_write_78 : decode cX5_write 78 = .ok (.invokevirtual 254, 3) := by decide +kernel
theorem dX5_write_81 : decode cX5_write 81 = .ok (.i2s, 1) := by decide +kernel
theorem dX5_write_82 : decode cX5_write 82 = .ok (.i2l, 1) := by decide +kernel
theorem dX5_write_83 : decode cX5_write 83 = .ok (.goto 9, 3) := by decide +kernel
theorem dX5_write_86 : decode cX5_write 86 = .ok (.aload_n 0, 1) := by decide +kernel
theorem dX5_write_87 : decode cX5_write 87 = .ok (.iload_n 3, 1) := by decide +kernel
theorem dX5_write_88 : decode cX5_write 88 = .ok (.invokevirtual 254, 3) := by decide +kernel
theorem dX5_write_91 : decode cX5_write 91 = .ok (.i2l, 1) := by decide +kernel
theorem dX5_write_92 : decode cX5_write 92 = .ok (.lastore, 1) := by decide +kernel
theorem dX5_write_93 : decode cX5_write 93 = .ok (.iinc 2 1, 3) := by decide +kernel
theorem dX5_write_96 : decode cX5_write 96 = .ok (.iinc 3 1, 3) := by decide +kernel
theorem dX5_write_99 : decode cX5_write 99 = .ok (.goto (-66), 3) := by decide +kernel
theorem dX5_write_102 : decode cX5_write 102 = .ok (.iload_n 2, 1) := by decide +kernel
theorem dX5_write_103 : decode cX5_write 103 = .ok (.ireturn, 1) := by decide +kernel
theorem dX5_over_0 : decode cX5_over 0 = .ok (.iconst 0, 1) := by decide +kernel
theorem dX5_over_1 : decode cX5_over 1 = .ok (.istore_n 1, 1) := by decide +kernel
theorem dX5_over_2 : decode cX5_over 2 = .ok (.iconst 0, 1) := by decide +kernel
theorem dX5_over_3 : decode cX5_over 3 = .ok (.istore_n 2, 1) := by decide +kernel
theorem dX5_over_4 : decode cX5_over 4 = .ok (.iload_n 2, 1) := by decide +kernel
theorem dX5_over_5 : decode cX5_over 5 = .ok (.bipush 9, 2) := by decide +kernel
theorem dX5_over_7 : decode cX5_over 7 = .ok (.if_icmp .ge 33, 3) := by decide +kernel
theorem dX5_over_10 : decode cX5_over 10 = .ok (.iload_n 1, 1) := by decide +kernel
theorem dX5_over_11 : decode cX5_over 11 = .ok (.aload_n 0, 1) := by decide +kernel
theorem dX5_over_12 : decode cX5_over 12 = .ok (.iload_n 2, 1) := by decide +kernel
theorem dX5_over_13 : decode cX5_over 13 = .ok (.invokevirtual 160, 3) := by decide +kernel
theorem dX5_over_16 : decode cX5_over 16 = .ok (.ifCond .eq 15, 3) := by decide +kernel
theorem dX5_over_19 : decode cX5_over 19 = .ok (.aload_n 0, 1) := by decide +kernel
theorem dX5_over_20 : decode cX5_over 20 = .ok (.iload_n 2, 1) := by decide +kernel
theorem dX5_over_21 : decode cX5_over 21 = .ok (.invokevirtual 223, 3) := by decide +kernel
theorem dX5_over_24 : decode cX5_over 24 = .ok (.ifCond .eq 7, 3) := by decide +kernel
theorem dX5_over_27 : decode cX5_over 27 = .ok (.iconst 1, 1) := by decide +kernel
theorem dX5_over_28 : decode cX5_over 28 = .ok (.goto 4, 3) := by decide +kernel
theorem dX5_over_31 : decode cX5_over 31 = .ok (.iconst 0, 1) := by decide +kernel
theorem dX5_over_32 : decode cX5_over 32 = .ok (.iadd, 1) := by decide +kernel
theorem dX5_over_33 : decode cX5_over 33 = .ok (.istore_n 1, 1) := by decide +kernel
theorem dX5_over_34 : decode cX5_over 34 = .ok (.iinc 2 1, 3) := by decide +kernel
theorem dX5_over_37 : decode cX5_over 37 = .ok (.goto (-33), 3) := by decide +kernel
theorem dX5_over_40 : decode cX5_over 40 = .ok (.iload_n 1, 1) := by decide +kernel
theorem dX5_over_41 : decode cX5_over 41 = .ok (.ireturn, 1) := by decide +kernel
theorem dX5_countBy_0 : decode cX5_countBy 0 = .ok (.iload_n 1, 1) := by decide +kernel
theorem dX5_countBy_1 : decode cX5_countBy 1 = .ok (.tableswitch 159 0 8 #[51, 72, 85, 127, 132, 138, 144, 149, 154], 51) := by decide +kernel
theorem dX5_countBy_52 : decode cX5_countBy 52 = .ok (.aload_n 0, 1) := by decide +kernel
theorem dX5_countBy_53 : decode cX5_countBy 53 = .ok (.getfield 38, 3) := by decide +kernel
theorem dX5_countBy_56 : decode cX5_countBy 56 = .ok (.iconst 0, 1) := by decide +kernel
theorem dX5_countBy_57 : decode cX5_countBy 57 = .ok (.iaload, 1) := by decide +kernel
theorem dX5_countBy_58 : decode cX5_countBy 58 = .ok (.aload_n 0, 1) := by decide +kernel
theorem dX5_countBy_59 : decode cX5_countBy 59 = .ok (.getfield 38, 3) := by decide +kernel
theorem dX5_countBy_62 : decode cX5_countBy 62 = .ok (.iconst 1, 1) := by decide +kernel
theorem dX5_countBy_63 : decode cX5_countBy 63 = .ok (.iaload, 1) := by decide +kernel
theorem dX5_countBy_64 : decode cX5_countBy 64 = .ok (.iadd, 1) := by decide +kernel
theorem dX5_countBy_65 : decode cX5_countBy 65 = .ok (.aload_n 0, 1) := by decide +kernel
theorem dX5_countBy_66 : decode cX5_countBy 66 = .ok (.getfield 38, 3) := by decide +kernel
theorem dX5_countBy_69 : decode cX5_countBy 69 = .ok (.iconst 2, 1) := by decide +kernel
theorem dX5_countBy_70 : decode cX5_countBy 70 = .ok (.iaload, 1) := by decide +kernel
theorem dX5_countBy_71 : decode cX5_countBy 71 = .ok (.iadd, 1) := by decide +kernel
theorem dX5_countBy_72 : decode cX5_countBy 72 = .ok (.ireturn, 1) := by decide +kernel
theorem dX5_countBy_73 : decode cX5_countBy 73 = .ok (.aload_n 0, 1) := by decide +kernel
theorem dX5_countBy_74 : decode cX5_countBy 74 = .ok (.getfield 232, 3) := by decide +kernel
theorem dX5_countBy_77 : decode cX5_countBy 77 = .ok (.ifCond .eq 7, 3) := by decide +kernel
theorem dX5_countBy_80 : decode cX5_countBy 80 = .ok (.iconst 1, 1) := by decide +kernel
theorem dX5_countBy_81 : decode cX5_countBy 81 = .ok (.goto 4, 3) := by decide +kernel
theorem dX5_countBy_84 : decode cX5_countBy 84 = .ok (.iconst 0, 1) := by decide +kernel
theorem dX5_countBy_85 : decode cX5_countBy 85 = .ok (.ireturn, 1) := by decide +kernel
theorem dX5_countBy_86 : decode cX5_countBy 86 = .ok (.aload_n 0, 1) := by decide +kernel
theorem dX5_countBy_87 : decode cX5_countBy 87 = .ok (.iconst 0, 1) := by decide +kernel
theorem dX5_countBy_88 : decode cX5_countBy 88 = .ok (.invokevirtual 282, 3) := by decide +kernel
theorem dX5_countBy_91 : decode cX5_countBy 91 = .ok (.ifCond .eq 7, 3) := by decide +kernel
theorem dX5_countBy_94 : decode cX5_countBy 94 = .ok (.iconst 1, 1) := by decide +kernel
theorem dX5_countBy_95 : decode cX5_countBy 95 = .ok (.goto 4, 3) := by decide +kernel
theorem dX5_countBy_98 : decode cX5_countBy 98 = .ok (.iconst 0, 1) := by decide +kernel
theorem dX5_countBy_99 : decode cX5_countBy 99 = .ok (.aload_n 0, 1) := by decide +kernel
theorem dX5_countBy_100 : decode cX5_countBy 100 = .ok (.iconst 1, 1) := by decide +kernel
theorem dX5_countBy_101 : decode cX5_countBy 101 = .ok (.invokevirtual 282, 3) := by decide +kernel
theorem dX5_countBy_104 : decode cX5_countBy 104 = .ok (.ifCond .eq 7, 3) := by decide +kernel
theorem dX5_countBy_107 : decode cX5_countBy 107 = .ok (.iconst 1, 1) := by decide +kernel
theorem dX5_countBy_108 : decode cX5_countBy 108 = .ok (.goto 4, 3) := by decide +kernel
theorem dX5_countBy_111 : decode cX5_countBy 111 = .ok (.iconst 0, 1) := by decide +kernel
theorem dX5_countBy_112 : decode cX5_countBy 112 = .ok (.iadd, 1) := by decide +kernel
theorem dX5_countBy_113 : decode cX5_countBy 113 = .ok (.aload_n 0, 1) := by decide +kernel
theorem dX5_countBy_114 : decode cX5_countBy 114 = .ok (.iconst 2, 1) := by decide +kernel
theorem dX5_countBy_115 : decode cX5_countBy 115 = .ok (.invokevirtual 282, 3) := by decide +kernel
theorem dX5_countBy_118 : decode cX5_countBy 118 = .ok (.ifCond .eq 7, 3) := by decide +kernel
theorem dX5_countBy_121 : decode cX5_countBy 121 = .ok (.iconst 1, 1) := by decide +kernel
theorem dX5_countBy_122 : decode cX5_countBy 122 = .ok (.goto 4, 3) := by decide +kernel
theorem dX5_countBy_125 : decode cX5_countBy 125 = .ok (.iconst 0, 1) := by decide +kernel
theorem dX5_countBy_126 : decode cX5_countBy 126 = .ok (.iadd, 1) := by decide +kernel
theorem dX5_countBy_127 : decode cX5_countBy 127 = .ok (.ireturn, 1) := by decide +kernel
theorem dX5_countBy_128 : decode cX5_countBy 128 = .ok (.aload_n 0, 1) := by decide +kernel
theorem dX5_countBy_129 : decode cX5_countBy 129 = .ok (.invokevirtual 318, 3) := by decide +kernel
theorem dX5_countBy_132 : decode cX5_countBy 132 = .ok (.ireturn, 1) := by decide +kernel
theorem dX5_countBy_133 : decode cX5_countBy 133 = .ok (.aload_n 0, 1) := by decide +kernel
theorem dX5_countBy_134 : decode cX5_countBy 134 = .ok (.iconst 0, 1) := by decide +kernel
theorem dX5_countBy_135 : decode cX5_countBy 135 = .ok (.invokevirtual 329, 3) := by decide +kernel
theorem dX5_countBy_138 : decode cX5_countBy 138 = .ok (.ireturn, 1) := by decide +kernel
theorem dX5_countBy_139 : decode cX5_countBy 139 = .ok (.aload_n 0, 1) := by decide +kernel
theorem dX5_countBy_140 : decode cX5_countBy 140 = .ok (.iconst 1, 1) := by decide +kernel
theorem dX5_countBy_141 : decode cX5_countBy 141 = .ok (.invokevirtual 329, 3) := by decide +kernel
theorem dX5_countBy_144 : decode cX5_countBy 144 = .ok (.ireturn, 1) := by decide +kernel
theorem dX5_countBy_145 : decode cX5_countBy 145 = .ok (.aload_n 0, 1) := by decide +kernel
theorem dX5_countBy_146 : decode cX5_countBy 146 = .ok (.getfield 308, 3) := by decide +kernel
theorem dX5_countBy_149 : decode cX5_countBy 149 = .ok (.ireturn, 1) := by decide +kernel
theorem dX5_countBy_150 : decode cX5_countBy 150 = .ok (.aload_n 0, 1) := by decide +kernel
theorem dX5_countBy_151 : decode cX5_countBy 151 = .ok (.invokevirtual 332, 3) := by decide +kernel
theorem dX5_countBy_154 : decode cX5_countBy 154 = .ok (.ireturn, 1) := by decide +kernel
theorem dX5_countBy_155 : decode cX5_countBy 155 = .ok (.aload_n 0, 1) := by decide +kernel
theorem dX5_countBy_156 : decode cX5_countBy 156 = .ok (.getfield 95, 3) := by decide +kernel
theorem dX5_countBy_159 : decode cX5_countBy 159 = .ok (.ireturn, 1) := by decide +kernel
theorem dX5_countBy_160 : decode cX5_countBy 160 = .ok (.bipush (-2), 2) := by decide +kernel
theorem dX5_countBy_162 : decode cX5_countBy 162 = .ok (.ireturn, 1) := by decide +kernel
theorem dX5_count_0 : decode cX5_count 0 = .ok (.aload_n 0, 1) := by decide +kernel
theorem dX5_count_1 : decode cX5_count 1 = .ok (.invokevirtual 248, 3) := by decide +kernel
theorem dX5_count_4 : decode cX5_count 4 = .ok (.aload_n 0, 1) := by decide +kernel
theorem dX5_count_5 : decode cX5_count 5 = .ok (.iload_n 1, 1) := by decide +kernel
theorem dX5_count_6 : decode cX5_count 6 = .ok (.invokevirtual 335, 3) := by decide +kernel
theorem dX5_count_9 : decode cX5_count 9 = .ok (.ireturn, 1) := by decide +kernel
theorem dX5_stepTells_0 : decode cX5_stepTells 0 = .ok (.lload_n 1, 1) := by decide +kernel
theorem dX5_stepTells_1 : decode cX5_stepTells 1 = .ok (.lstore 4, 2) := by decide +kernel
theorem dX5_stepTells_3 : decode cX5_stepTells 3 = .ok (.iconst 0, 1) := by decide +kernel
theorem dX5_stepTells_4 : decode cX5_stepTells 4 = .ok (.istore 6, 2) := by decide +kernel
theorem dX5_stepTells_6 : decode cX5_stepTells 6 = .ok (.iload 6, 2) := by decide +kernel
theorem dX5_stepTells_8 : decode cX5_stepTells 8 = .ok (.bipush 7, 2) := by decide +kernel
theorem dX5_stepTells_10 : decode cX5_stepTells 10 = .ok (.if_icmp .ge 26, 3) := by decide +kernel
theorem dX5_stepTells_13 : decode cX5_stepTells 13 = .ok (.ldc2_w 338, 3) := by decide +kernel
theorem dX5_stepTells_16 : decode cX5_stepTells 16 = .ok (.lload 4, 2) := by decide +kernel
theorem dX5_stepTells_18 : decode cX5_stepTells 18 = .ok (.lmul, 1) := by decide +kernel
theorem dX5_stepTells_19 : decode cX5_stepTells 19 = .ok (.aload_n 0, 1) := by decide +kernel
theorem dX5_stepTells_20 : decode cX5_stepTells 20 = .ok (.iload_n 3, 1) := by decide +kernel
theorem dX5_stepTells_21 : decode cX5_stepTells 21 = .ok (.iload 6, 2) := by decide +kernel
theorem dX5_stepTells_23 : decode cX5_stepTells 23 = .ok (.invokevirtual 251, 3) := by decide +kernel
theorem dX5_stepTells_26 : decode cX5_stepTells 26 = .ok (.i2l, 1) := by decide +kernel
theorem dX5_stepTells_27 : decode cX5_stepTells 27 = .ok (.ladd, 1) := by decide +kernel
theorem dX5_stepTells_28 : decode cX5_stepTells 28 = .ok (.lstore 4, 2) := by decide +kernel
theorem dX5_stepTells_30 : decode cX5_stepTells 30 = .ok (.iinc 6 1, 3) := by decide +kernel
theorem dX5_stepTells_33 : decode cX5_stepTells 33 = .ok (.goto (-27), 3) := by decide +kernel
theorem dX5_stepTells_36 : decode cX5_stepTells 36 = .ok (.ldc2_w 338, 3) := by decide +kernel
theorem dX5_stepTells_39 : decode cX5_stepTells 39 = .ok (.lload 4, 2) := by decide +kernel
theorem dX5_stepTells_41 : decode cX5_stepTells 41 = .ok (.lmul, 1) := by decide +kernel
theorem dX5_stepTells_42 : decode cX5_stepTells 42 = .ok (.aload_n 0, 1) := by decide +kernel
theorem dX5_stepTells_43 : decode cX5_stepTells 43 = .ok (.iload_n 3, 1) := by decide +kernel
theorem dX5_stepTells_44 : decode cX5_stepTells 44 = .ok (.iconst 0, 1) := by decide +kernel
theorem dX5_stepTells_45 : decode cX5_stepTells 45 = .ok (.invokevirtual 180, 3) := by decide +kernel
theorem dX5_stepTells_48 : decode cX5_stepTells 48 = .ok (.i2l, 1) := by decide +kernel
theorem dX5_stepTells_49 : decode cX5_stepTells 49 = .ok (.ladd, 1) := by decide +kernel
theorem dX5_stepTells_50 : decode cX5_stepTells 50 = .ok (.lstore 4, 2) := by decide +kernel
theorem dX5_stepTells_52 : decode cX5_stepTells 52 = .ok (.ldc2_w 338, 3) := by decide +kernel
theorem dX5_stepTells_55 : decode cX5_stepTells 55 = .ok (.lload 4, 2) := by decide +kernel
theorem dX5_stepTells_57 : decode cX5_stepTells 57 = .ok (.lmul, 1) := by decide +kernel
theorem dX5_stepTells_58 : decode cX5_stepTells 58 = .ok (.aload_n 0, 1) := by decide +kernel
theorem dX5_stepTells_59 : decode cX5_stepTells 59 = .ok (.iload_n 3, 1) := by decide +kernel
theorem dX5_stepTells_60 : decode cX5_stepTells 60 = .ok (.iconst 1, 1) := by decide +kernel
theorem dX5_stepTells_61 : decode cX5_stepTells 61 = .ok (.invokevirtual 180, 3) := by decide +kernel
theorem dX5_stepTells_64 : decode cX5_stepTells 64 = .ok (.i2l, 1) := by decide +kernel
theorem dX5_stepTells_65 : decode cX5_stepTells 65 = .ok (.ladd, 1) := by decide +kernel
theorem dX5_stepTells_66 : decode cX5_stepTells 66 = .ok (.lstore 4, 2) := by decide +kernel
theorem dX5_stepTells_68 : decode cX5_stepTells 68 = .ok (.ldc2_w 338, 3) := by decide +kernel
theorem dX5_stepTells_71 : decode cX5_stepTells 71 = .ok (.lload 4, 2) := by decide +kernel
theorem dX5_stepTells_73 : decode cX5_stepTells 73 = .ok (.lmul, 1) := by decide +kernel
theorem dX5_stepTells_74 : decode cX5_stepTells 74 = .ok (.aload_n 0, 1) := by decide +kernel
theorem dX5_stepTells_75 : decode cX5_stepTells 75 = .ok (.iload_n 3, 1) := by decide +kernel
theorem dX5_stepTells_76 : decode cX5_stepTells 76 = .ok (.invokevirtual 254, 3) := by decide +kernel
theorem dX5_stepTells_79 : decode cX5_stepTells 79 = .ok (.i2l, 1) := by decide +kernel
theorem dX5_stepTells_80 : decode cX5_stepTells 80 = .ok (.ladd, 1) := by decide +kernel
theorem dX5_stepTells_81 : decode cX5_stepTells 81 = .ok (.lstore 4, 2) := by decide +kernel
theorem dX5_stepTells_83 : decode cX5_stepTells 83 = .ok (.ldc2_w 338, 3) := by decide +kernel
theorem dX5_stepTells_86 : decode cX5_stepTells 86 = .ok (.lload 4, 2) := by decide +kernel
theorem dX5_stepTells_88 : decode cX5_stepTells 88 = .ok (.lmul, 1) := by decide +kernel
theorem dX5_stepTells_89 : decode cX5_stepTells 89 = .ok (.aload_n 0, 1) := by decide +kernel
theorem dX5_stepTells_90 : decode cX5_stepTells 90 = .ok (.iload_n 3, 1) := by decide +kernel
theorem dX5_stepTells_91 : decode cX5_stepTells 91 = .ok (.invokevirtual 260, 3) := by decide +kernel
theorem dX5_stepTells_94 : decode cX5_stepTells 94 = .ok (.i2l, 1) := by decide +kernel
theorem dX5_stepTells_95 : decode cX5_stepTells 95 = .ok (.ladd, 1) := by decide +kernel
theorem dX5_stepTells_96 : decode cX5_stepTells 96 = .ok (.lstore 4, 2) := by decide +kernel
theorem dX5_stepTells_98 : decode cX5_stepTells 98 = .ok (.ldc2_w 338, 3) := by decide +kernel
theorem dX5_stepTells_101 : decode cX5_stepTells 101 = .ok (.lload 4, 2) := by decide +kernel
theorem dX5_stepTells_103 : decode cX5_stepTells 103 = .ok (.lmul, 1) := by decide +kernel
theorem dX5_stepTells_104 : decode cX5_stepTells 104 = .ok (.aload_n 0, 1) := by decide +kernel
theorem dX5_stepTells_105 : decode cX5_stepTells 105 = .ok (.iload_n 3, 1) := by decide +kernel
theorem dX5_stepTells_106 : decode cX5_stepTells 106 = .ok (.invokevirtual 269, 3) := by decide +kernel
theorem dX5_stepTells_109 : decode cX5_stepTells 109 = .ok (.i2l, 1) := by decide +kernel
theorem dX5_stepTells_110 : decode cX5_stepTells 110 = .ok (.ladd, 1) := by decide +kernel
theorem dX5_stepTells_111 : decode cX5_stepTells 111 = .ok (.lstore 4, 2) := by decide +kernel
theorem dX5_stepTells_113 : decode cX5_stepTells 113 = .ok (.iconst 0, 1) := by decide +kernel
theorem dX5_stepTells_114 : decode cX5_stepTells 114 = .ok (.istore 6, 2) := by decide +kernel
theorem dX5_stepTells_116 : decode cX5_stepTells 116 = .ok (.iload 6, 2) := by decide +kernel
theorem dX5_stepTells_118 : decode cX5_stepTells 118 = .ok (.iconst 3, 1) := by decide +kernel
theorem dX5_stepTells_119 : decode cX5_stepTells 119 = .ok (.if_icmp .ge 26, 3) := by decide +kernel
theorem dX5_stepTells_122 : decode cX5_stepTells 122 = .ok (.ldc2_w 338, 3) := by decide +kernel
theorem dX5_stepTells_125 : decode cX5_stepTells 125 = .ok (.lload 4, 2) := by decide +kernel
theorem dX5_stepTells_127 : decode cX5_stepTells 127 = .ok (.lmul, 1) := by decide +kernel
theorem dX5_stepTells_128 : decode cX5_stepTells 128 = .ok (.aload_n 0, 1) := by decide +kernel
theorem dX5_stepTells_129 : decode cX5_stepTells 129 = .ok (.iload_n 3, 1) := by decide +kernel
theorem dX5_stepTells_130 : decode cX5_stepTells 130 = .ok (.iload 6, 2) := by decide +kernel
theorem dX5_stepTells_132 : decode cX5_stepTells 132 = .ok (.invokevirtual 276, 3) := by decide +kernel
theorem dX5_stepTells_135 : decode cX5_stepTells 135 = .ok (.i2l, 1) := by decide +kernel
end
section
theorem dX5_stepTells_136 : decode cX5_stepTells 136 = .ok (.ladd, 1) := by decide +kernel
theorem dX5_stepTells_137 : decode cX5_stepTells 137 = .ok (.lstore 4, 2) := by decide +kernel
theorem dX5_stepTells_139 : decode cX5_stepTells 139 = .ok (.iinc 6 1, 3) := by decide +kernel
theorem dX5_stepTells_142 : decode cX5_stepTells 142 = .ok (.goto (-26), 3) := by decide +kernel
theorem dX5_stepTells_145 : decode cX5_stepTells 145 = .ok (.iconst 0, 1) := by decide +kernel
theorem dX5_stepTells_146 : decode cX5_stepTells 146 = .ok (.istore 6, 2) := by decide +kernel
theorem dX5_stepTells_148 : decode cX5_stepTells 148 = .ok (.iload 6, 2) := by decide +kernel
theorem dX5_stepTells_150 : decode cX5_stepTells 150 = .ok (.iconst 3, 1) := by decide +kernel
theorem dX5_stepTells_151 : decode cX5_stepTells 151 = .ok (.if_icmp .ge 26, 3) := by decide +kernel
theorem dX5_stepTells_154 : decode cX5_stepTells 154 = .ok (.ldc2_w 338, 3) := by decide +kernel
theorem dX5_stepTells_157 : decode cX5_stepTells 157 = .ok (.lload 4, 2) := by decide +kernel
theorem dX5_stepTells_159 : decode cX5_stepTells 159 = .ok (.lmul, 1) := by decide +kernel
theorem dX5_stepTells_160 : decode cX5_stepTells 160 = .ok (.aload_n 0, 1) := by decide +kernel
theorem dX5_stepTells_161 : decode cX5_stepTells 161 = .ok (.iload_n 3, 1) := by decide +kernel
theorem dX5_stepTells_162 : decode cX5_stepTells 162 = .ok (.iload 6, 2) := by decide +kernel
theorem dX5_stepTells_164 : decode cX5_stepTells 164 = .ok (.invokevirtual 321, 3) := by decide +kernel
theorem dX5_stepTells_167 : decode cX5_stepTells 167 = .ok (.i2l, 1) := by decide +kernel
theorem dX5_stepTells_168 : decode cX5_stepTells 168 = .ok (.ladd, 1) := by decide +kernel
theorem dX5_stepTells_169 : decode cX5_stepTells 169 = .ok (.lstore 4, 2) := by decide +kernel
theorem dX5_stepTells_171 : decode cX5_stepTells 171 = .ok (.iinc 6 1, 3) := by decide +kernel
theorem dX5_stepTells_174 : decode cX5_stepTells 174 = .ok (.goto (-26), 3) := by decide +kernel
theorem dX5_stepTells_177 : decode cX5_stepTells 177 = .ok (.lload 4, 2) := by decide +kernel
theorem dX5_stepTells_179 : decode cX5_stepTells 179 = .ok (.lreturn, 1) := by decide +kernel
theorem dX5_digest_0 : decode cX5_digest 0 = .ok (.ldc2_w 340, 3) := by decide +kernel
theorem dX5_digest_3 : decode cX5_digest 3 = .ok (.lstore_n 1, 1) := by decide +kernel
theorem dX5_digest_4 : decode cX5_digest 4 = .ok (.aload_n 0, 1) := by decide +kernel
theorem dX5_digest_5 : decode cX5_digest 5 = .ok (.invokevirtual 248, 3) := by decide +kernel
theorem dX5_digest_8 : decode cX5_digest 8 = .ok (.iconst 0, 1) := by decide +kernel
theorem dX5_digest_9 : decode cX5_digest 9 = .ok (.istore_n 3, 1) := by decide +kernel
theorem dX5_digest_10 : decode cX5_digest 10 = .ok (.iload_n 3, 1) := by decide +kernel
theorem dX5_digest_11 : decode cX5_digest 11 = .ok (.bipush 8, 2) := by decide +kernel
theorem dX5_digest_13 : decode cX5_digest 13 = .ok (.if_icmp .ge 22, 3) := by decide +kernel
theorem dX5_digest_16 : decode cX5_digest 16 = .ok (.ldc2_w 338, 3) := by decide +kernel
theorem dX5_digest_19 : decode cX5_digest 19 = .ok (.lload_n 1, 1) := by decide +kernel
theorem dX5_digest_20 : decode cX5_digest 20 = .ok (.lmul, 1) := by decide +kernel
theorem dX5_digest_21 : decode cX5_digest 21 = .ok (.aload_n 0, 1) := by decide +kernel
theorem dX5_digest_22 : decode cX5_digest 22 = .ok (.iload_n 3, 1) := by decide +kernel
theorem dX5_digest_23 : decode cX5_digest 23 = .ok (.invokevirtual 335, 3) := by decide +kernel
theorem dX5_digest_26 : decode cX5_digest 26 = .ok (.i2l, 1) := by decide +kernel
theorem dX5_digest_27 : decode cX5_digest 27 = .ok (.ladd, 1) := by decide +kernel
theorem dX5_digest_28 : decode cX5_digest 28 = .ok (.lstore_n 1, 1) := by decide +kernel
theorem dX5_digest_29 : decode cX5_digest 29 = .ok (.iinc 3 1, 3) := by decide +kernel
theorem dX5_digest_32 : decode cX5_digest 32 = .ok (.goto (-22), 3) := by decide +kernel
theorem dX5_digest_35 : decode cX5_digest 35 = .ok (.ldc2_w 338, 3) := by decide +kernel
theorem dX5_digest_38 : decode cX5_digest 38 = .ok (.lload_n 1, 1) := by decide +kernel
theorem dX5_digest_39 : decode cX5_digest 39 = .ok (.lmul, 1) := by decide +kernel
theorem dX5_digest_40 : decode cX5_digest 40 = .ok (.aload_n 0, 1) := by decide +kernel
theorem dX5_digest_41 : decode cX5_digest 41 = .ok (.invokevirtual 272, 3) := by decide +kernel
theorem dX5_digest_44 : decode cX5_digest 44 = .ok (.i2l, 1) := by decide +kernel
theorem dX5_digest_45 : decode cX5_digest 45 = .ok (.ladd, 1) := by decide +kernel
theorem dX5_digest_46 : decode cX5_digest 46 = .ok (.lstore_n 1, 1) := by decide +kernel
theorem dX5_digest_47 : decode cX5_digest 47 = .ok (.ldc2_w 338, 3) := by decide +kernel
theorem dX5_digest_50 : decode cX5_digest 50 = .ok (.lload_n 1, 1) := by decide +kernel
theorem dX5_digest_51 : decode cX5_digest 51 = .ok (.lmul, 1) := by decide +kernel
theorem dX5_digest_52 : decode cX5_digest 52 = .ok (.aload_n 0, 1) := by decide +kernel
theorem dX5_digest_53 : decode cX5_digest 53 = .ok (.invokevirtual 285, 3) := by decide +kernel
theorem dX5_digest_56 : decode cX5_digest 56 = .ok (.i2l, 1) := by decide +kernel
theorem dX5_digest_57 : decode cX5_digest 57 = .ok (.ladd, 1) := by decide +kernel
theorem dX5_digest_58 : decode cX5_digest 58 = .ok (.lstore_n 1, 1) := by decide +kernel
theorem dX5_digest_59 : decode cX5_digest 59 = .ok (.iconst 0, 1) := by decide +kernel
theorem dX5_digest_60 : decode cX5_digest 60 = .ok (.istore_n 3, 1) := by decide +kernel
theorem dX5_digest_61 : decode cX5_digest 61 = .ok (.iload_n 3, 1) := by decide +kernel
theorem dX5_digest_62 : decode cX5_digest 62 = .ok (.iconst 3, 1) := by decide +kernel
theorem dX5_digest_63 : decode cX5_digest 63 = .ok (.if_icmp .ge 40, 3) := by decide +kernel
theorem dX5_digest_66 : decode cX5_digest 66 = .ok (.iconst 0, 1) := by decide +kernel
theorem dX5_digest_67 : decode cX5_digest 67 = .ok (.istore 4, 2) := by decide +kernel
theorem dX5_digest_69 : decode cX5_digest 69 = .ok (.iload 4, 2) := by decide +kernel
theorem dX5_digest_71 : decode cX5_digest 71 = .ok (.bipush 6, 2) := by decide +kernel
theorem dX5_digest_73 : decode cX5_digest 73 = .ok (.if_icmp .ge 24, 3) := by decide +kernel
theorem dX5_digest_76 : decode cX5_digest 76 = .ok (.ldc2_w 338, 3) := by decide +kernel
theorem dX5_digest_79 : decode cX5_digest 79 = .ok (.lload_n 1, 1) := by decide +kernel
theorem dX5_digest_80 : decode cX5_digest 80 = .ok (.lmul, 1) := by decide +kernel
theorem dX5_digest_81 : decode cX5_digest 81 = .ok (.aload_n 0, 1) := by decide +kernel
theorem dX5_digest_82 : decode cX5_digest 82 = .ok (.iload_n 3, 1) := by decide +kernel
theorem dX5_digest_83 : decode cX5_digest 83 = .ok (.iload 4, 2) := by decide +kernel
theorem dX5_digest_85 : decode cX5_digest 85 = .ok (.invokevirtual 140, 3) := by decide +kernel
theorem dX5_digest_88 : decode cX5_digest 88 = .ok (.i2l, 1) := by decide +kernel
theorem dX5_digest_89 : decode cX5_digest 89 = .ok (.ladd, 1) := by decide +kernel
theorem dX5_digest_90 : decode cX5_digest 90 = .ok (.lstore_n 1, 1) := by decide +kernel
theorem dX5_digest_91 : decode cX5_digest 91 = .ok (.iinc 4 1, 3) := by decide +kernel
theorem dX5_digest_94 : decode cX5_digest 94 = .ok (.goto (-25), 3) := by decide +kernel
theorem dX5_digest_97 : decode cX5_digest 97 = .ok (.iinc 3 1, 3) := by decide +kernel
theorem dX5_digest_100 : decode cX5_digest 100 = .ok (.goto (-39), 3) := by decide +kernel
theorem dX5_digest_103 : decode cX5_digest 103 = .ok (.iconst 0, 1) := by decide +kernel
theorem dX5_digest_104 : decode cX5_digest 104 = .ok (.istore_n 3, 1) := by decide +kernel
theorem dX5_digest_105 : decode cX5_digest 105 = .ok (.iload_n 3, 1) := by decide +kernel
theorem dX5_digest_106 : decode cX5_digest 106 = .ok (.bipush 9, 2) := by decide +kernel
theorem dX5_digest_108 : decode cX5_digest 108 = .ok (.if_icmp .ge 24, 3) := by decide +kernel
theorem dX5_digest_111 : decode cX5_digest 111 = .ok (.aload_n 0, 1) := by decide +kernel
theorem dX5_digest_112 : decode cX5_digest 112 = .ok (.iload_n 3, 1) := by decide +kernel
theorem dX5_digest_113 : decode cX5_digest 113 = .ok (.invokevirtual 160, 3) := by decide +kernel
theorem dX5_digest_116 : decode cX5_digest 116 = .ok (.ifCond .eq 10, 3) := by decide +kernel
theorem dX5_digest_119 : decode cX5_digest 119 = .ok (.aload_n 0, 1) := by decide +kernel
theorem dX5_digest_120 : decode cX5_digest 120 = .ok (.lload_n 1, 1) := by decide +kernel
theorem dX5_digest_121 : decode cX5_digest 121 = .ok (.iload_n 3, 1) := by decide +kernel
theorem dX5_digest_122 : decode cX5_digest 122 = .ok (.invokevirtual 342, 3) := by decide +kernel
theorem dX5_digest_125 : decode cX5_digest 125 = .ok (.lstore_n 1, 1) := by decide +kernel
theorem dX5_digest_126 : decode cX5_digest 126 = .ok (.iinc 3 1, 3) := by decide +kernel
theorem dX5_digest_129 : decode cX5_digest 129 = .ok (.goto (-24), 3) := by decide +kernel
theorem dX5_digest_132 : decode cX5_digest 132 = .ok (.iconst 0, 1) := by decide +kernel
theorem dX5_digest_133 : decode cX5_digest 133 = .ok (.istore_n 3, 1) := by decide +kernel
theorem dX5_digest_134 : decode cX5_digest 134 = .ok (.iload_n 3, 1) := by decide +kernel
theorem dX5_digest_135 : decode cX5_digest 135 = .ok (.bipush 60, 2) := by decide +kernel
theorem dX5_digest_137 : decode cX5_digest 137 = .ok (.if_icmp .ge 37, 3) := by decide +kernel
theorem dX5_digest_140 : decode cX5_digest 140 = .ok (.ldc2_w 338, 3) := by decide +kernel
theorem dX5_digest_143 : decode cX5_digest 143 = .ok (.lload_n 1, 1) := by decide +kernel
theorem dX5_digest_144 : decode cX5_digest 144 = .ok (.lmul, 1) := by decide +kernel
theorem dX5_digest_145 : decode cX5_digest 145 = .ok (.aload_n 0, 1) := by decide +kernel
theorem dX5_digest_146 : decode cX5_digest 146 = .ok (.iconst 0, 1) := by decide +kernel
theorem dX5_digest_147 : decode cX5_digest 147 = .ok (.iload_n 3, 1) := by decide +kernel
theorem dX5_digest_148 : decode cX5_digest 148 = .ok (.invokevirtual 326, 3) := by decide +kernel
theorem dX5_digest_151 : decode cX5_digest 151 = .ok (.i2l, 1) := by decide +kernel
theorem dX5_digest_152 : decode cX5_digest 152 = .ok (.ladd, 1) := by decide +kernel
theorem dX5_digest_153 : decode cX5_digest 153 = .ok (.lstore_n 1, 1) := by decide +kernel
theorem dX5_digest_154 : decode cX5_digest 154 = .ok (.ldc2_w 338, 3) := by decide +kernel
theorem dX5_digest_157 : decode cX5_digest 157 = .ok (.lload_n 1, 1) := by decide +kernel
theorem dX5_digest_158 : decode cX5_digest 158 = .ok (.lmul, 1) := by decide +kernel
theorem dX5_digest_159 : decode cX5_digest 159 = .ok (.aload_n 0, 1) := by decide +kernel
theorem dX5_digest_160 : decode cX5_digest 160 = .ok (.iconst 1, 1) := by decide +kernel
theorem dX5_digest_161 : decode cX5_digest 161 = .ok (.iload_n 3, 1) := by decide +kernel
theorem dX5_digest_162 : decode cX5_digest 162 = .ok (.invokevirtual 326, 3) := by decide +kernel
theorem dX5_digest_165 : decode cX5_digest 165 = .ok (.i2l, 1) := by decide +kernel
theorem dX5_digest_166 : decode cX5_digest 166 = .ok (.ladd, 1) := by decide +kernel
theorem dX5_digest_167 : decode cX5_digest 167 = .ok (.lstore_n 1, 1) := by decide +kernel
theorem dX5_digest_168 : decode cX5_digest 168 = .ok (.iinc 3 1, 3) := by decide +kernel
theorem dX5_digest_171 : decode cX5_digest 171 = .ok (.goto (-37), 3) := by decide +kernel
theorem dX5_digest_174 : decode cX5_digest 174 = .ok (.lload_n 1, 1) := by decide +kernel
theorem dX5_digest_175 : decode cX5_digest 175 = .ok (.lreturn, 1) := by decide +kernel
theorem dJ6_bitCount_0f7a4_0 : decode cJ6_bitCount_0f7a4 0 = .ok (.iload_n 0, 1) := by decide +kernel
theorem dJ6_bitCount_0f7a4_1 : decode cJ6_bitCount_0f7a4 1 = .ok (.iload_n 0, 1) := by decide +kernel
theorem dJ6_bitCount_0f7a4_2 : decode cJ6_bitCount_0f7a4 2 = .ok (.iconst 1, 1) := by decide +kernel
theorem dJ6_bitCount_0f7a4_3 : decode cJ6_bitCount_0f7a4 3 = .ok (.iushr, 1) := by decide +kernel
theorem dJ6_bitCount_0f7a4_4 : decode cJ6_bitCount_0f7a4 4 = .ok (.ldc_w 265, 3) := by decide +kernel
theorem dJ6_bitCount_0f7a4_7 : decode cJ6_bitCount_0f7a4 7 = .ok (.iand, 1) := by decide +kernel
theorem dJ6_bitCount_0f7a4_8 : decode cJ6_bitCount_0f7a4 8 = .ok (.isub, 1) := by decide +kernel
theorem dJ6_bitCount_0f7a4_9 : decode cJ6_bitCount_0f7a4 9 = .ok (.istore_n 0, 1) := by decide +kernel
theorem dJ6_bitCount_0f7a4_10 : decode cJ6_bitCount_0f7a4 10 = .ok (.iload_n 0, 1) := by decide +kernel
theorem dJ6_bitCount_0f7a4_11 : decode cJ6_bitCount_0f7a4 11 = .ok (.ldc_w 266, 3) := by decide +kernel
theorem dJ6_bitCount_0f7a4_14 : decode cJ6_bitCount_0f7a4 14 = .ok (.iand, 1) := by decide +kernel
theorem dJ6_bitCount_0f7a4_15 : decode cJ6_bitCount_0f7a4 15 = .ok (.iload_n 0, 1) := by decide +kernel
theorem dJ6_bitCount_0f7a4_16 : decode cJ6_bitCount_0f7a4 16 = .ok (.iconst 2, 1) := by decide +kernel
theorem dJ6_bitCount_0f7a4_17 : decode cJ6_bitCount_0f7a4 17 = .ok (.iushr, 1) := by decide +kernel
theorem dJ6_bitCount_0f7a4_18 : decode cJ6_bitCount_0f7a4 18 = .ok (.ldc_w 266, 3) := by decide +kernel
theorem dJ6_bitCount_0f7a4_21 : decode cJ6_bitCount_0f7a4 21 = .ok (.iand, 1) := by decide +kernel
theorem dJ6_bitCount_0f7a4_22 : decode cJ6_bitCount_0f7a4 22 = .ok (.iadd, 1) := by decide +kernel
theorem dJ6_bitCount_0f7a4_23 : decode cJ6_bitCount_0f7a4 23 = .ok (.istore_n 0, 1) := by decide +kernel
theorem dJ6_bitCount_0f7a4_24 : decode cJ6_bitCount_0f7a4 24 = .ok (.iload_n 0, 1) := by decide +kernel
theorem dJ6_bitCount_0f7a4_25 : decode cJ6_bitCount_0f7a4 25 = .ok (.iload_n 0, 1) := by decide +kernel
theorem dJ6_bitCount_0f7a4_26 : decode cJ6_bitCount_0f7a4 26 = .ok (.iconst 4, 1) := by decide +kernel
theorem dJ6_bitCount_0f7a4_27 : decode cJ6_bitCount_0f7a4 27 = .ok (.iushr, 1) := by decide +kernel
theorem dJ6_bitCount_0f7a4_28 : decode cJ6_bitCount_0f7a4 28 = .ok (.iadd, 1) := by decide +kernel
theorem dJ6_bitCount_0f7a4_29 : decode cJ6_bitCount_0f7a4 29 = .ok (.ldc_w 267, 3) := by decide +kernel
theorem dJ6_bitCount_0f7a4_32 : decode cJ6_bitCount_0f7a4 32 = .ok (.iand, 1) := by decide +kernel
theorem dJ6_bitCount_0f7a4_33 : decode cJ6_bitCount_0f7a4 33 = .ok (.istore_n 0, 1) := by decide +kernel
theorem dJ6_bitCount_0f7a4_34 : decode cJ6_bitCount_0f7a4 34 = .ok (.iload_n 0, 1) := by decide +kernel
theorem dJ6_bitCount_0f7a4_35 : decode cJ6_bitCount_0f7a4 35 = .ok (.iload_n 0, 1) := by decide +kernel
theorem dJ6_bitCount_0f7a4_36 : decode cJ6_bitCount_0f7a4 36 = .ok (.bipush 8, 2) := by decide +kernel
theorem dJ6_bitCount_0f7a4_38 : decode cJ6_bitCount_0f7a4 38 = .ok (.iushr, 1) := by decide +kernel
theorem dJ6_bitCount_0f7a4_39 : decode cJ6_bitCount_0f7a4 39 = .ok (.iadd, 1) := by decide +kernel
theorem dJ6_bitCount_0f7a4_40 : decode cJ6_bitCount_0f7a4 40 = .ok (.istore_n 0, 1) := by decide +kernel
theorem dJ6_bitCount_0f7a4_41 : decode cJ6_bitCount_0f7a4 41 = .ok (.iload_n 0, 1) := by decide +kernel
theorem dJ6_bitCount_0f7a4_42 : decode cJ6_bitCount_0f7a4 42 = .ok (.iload_n 0, 1) := by decide +kernel
theorem dJ6_bitCount_0f7a4_43 : decode cJ6_bitCount_0f7a4 43 = .ok (.bipush 16, 2) := by decide +kernel
theorem dJ6_bitCount_0f7a4_45 : decode cJ6_bitCount_0f7a4 45 = .ok (.iushr, 1) := by decide +kernel
theorem dJ6_bitCount_0f7a4_46 : decode cJ6_bitCount_0f7a4 46 = .ok (.iadd, 1) := by decide +kernel
theorem dJ6_bitCount_0f7a4_47 : decode cJ6_bitCount_0f7a4 47 = .ok (.istore_n 0, 1) := by decide +kernel
theorem dJ6_bitCount_0f7a4_48 : decode cJ6_bitCount_0f7a4 48 = .ok (.iload_n 0, 1) := by decide +kernel
theorem dJ6_bitCount_0f7a4_49 : decode cJ6_bitCount_0f7a4 49 = .ok (.bipush 63, 2) := by decide +kernel
theorem dJ6_bitCount_0f7a4_51 : decode cJ6_bitCount_0f7a4 51 = .ok (.iand, 1) := by decide +kernel
theorem dJ6_bitCount_0f7a4_52 : decode cJ6_bitCount_0f7a4 52 = .ok (.ireturn, 1) := by decide +kernel
theorem dJ9_floorMod_7cf53_0 : decode cJ9_floorMod_7cf53 0 = .ok (.iload_n 0, 1) := by decide +kernel
theorem dJ9_floorMod_7cf53_1 : decode cJ9_floorMod_7cf53 1 = .ok (.iload_n 1, 1) := by decide +kernel
theorem dJ9_floorMod_7cf53_2 : decode cJ9_floorMod_7cf53 2 = .ok (.irem, 1) := by decide +kernel
theorem dJ9_floorMod_7cf53_3 : decode cJ9_floorMod_7cf53 3 = .ok (.istore_n 2, 1) := by decide +kernel
theorem dJ9_floorMod_7cf53_4 : decode cJ9_floorMod_7cf53 4 = .ok (.iload_n 0, 1) := by decide +kernel
theorem dJ9_floorMod_7cf53_5 : decode cJ9_floorMod_7cf53 5 = .ok (.iload_n 1, 1) := by decide +kernel
theorem dJ9_floorMod_7cf53_6 : decode cJ9_floorMod_7cf53 6 = .ok (.ixor, 1) := by decide +kernel
theorem dJ9_floorMod_7cf53_7 : decode cJ9_floorMod_7cf53 7 = .ok (.ifCond .ge 11, 3) := by decide +kernel
theorem dJ9_floorMod_7cf53_10 : decode cJ9_floorMod_7cf53 10 = .ok (.iload_n 2, 1) := by decide +kernel
theorem dJ9_floorMod_7cf53_11 : decode cJ9_floorMod_7cf53 11 = .ok (.ifCond .eq 7, 3) := by decide +kernel
theorem dJ9_floorMod_7cf53_14 : decode cJ9_floorMod_7cf53 14 = .ok (.iload_n 2, 1) := by decide +kernel
theorem dJ9_floorMod_7cf53_15 : decode cJ9_floorMod_7cf53 15 = .ok (.iload_n 1, 1) := by decide +kernel
theorem dJ9_floorMod_7cf53_16 : decode cJ9_floorMod_7cf53 16 = .ok (.iadd, 1) := by decide +kernel
theorem dJ9_floorMod_7cf53_17 : decode cJ9_floorMod_7cf53 17 = .ok (.ireturn, 1) := by decide +kernel
theorem dJ9_floorMod_7cf53_18 : decode cJ9_floorMod_7cf53 18 = .ok (.iload_n 2, 1) := by decide +kernel
theorem dJ9_floorMod_7cf53_19 : decode cJ9_floorMod_7cf53 19 = .ok (.ireturn, 1) := by decide +kernel
theorem dJ9_max_7cf53_0 : decode cJ9_max_7cf53 0 = .ok (.iload_n 0, 1) := by decide +kernel
theorem dJ9_max_7cf53_1 : decode cJ9_max_7cf53 1 = .ok (.iload_n 1, 1) := by decide +kernel
theorem dJ9_max_7cf53_2 : decode cJ9_max_7cf53 2 = .ok (.if_icmp .lt 7, 3) := by decide +kernel
theorem dJ9_max_7cf53_5 : decode cJ9_max_7cf53 5 = .ok (.iload_n 0, 1) := by decide +kernel
theorem dJ9_max_7cf53_6 : decode cJ9_max_7cf53 6 = .ok (.goto 4, 3) := by decide +kernel
theorem dJ9_max_7cf53_9 : decode cJ9_max_7cf53 9 = .ok (.iload_n 1, 1) := by decide +kernel
theorem dJ9_max_7cf53_10 : decode cJ9_max_7cf53 10 = .ok (.ireturn, 1) := by decide +kernel
theorem dJ9_min_7cf53_0 : decode cJ9_min_7cf53 0 = .ok (.iload_n 0, 1) := by decide +kernel
theorem dJ9_min_7cf53_1 : decode cJ9_min_7cf53 1 = .ok (.iload_n 1, 1) := by decide +kernel
theorem dJ9_min_7cf53_2 : decode cJ9_min_7cf53 2 = .ok (.if_icmp .gt 7, 3) := by decide +kernel
theorem dJ9_min_7cf53_5 : decode cJ9_min_7cf53 5 = .ok (.iload_n 0, 1) := by decide +kernel
theorem dJ9_min_7cf53_6 : decode cJ9_min_7cf53 6 = .ok (.goto 4, 3) := by decide +kernel
theorem dJ9_min_7cf53_9 : decode cJ9_min_7cf53 9 = .ok (.iload_n 1, 1) := by decide +kernel
theorem dJ9_min_7cf53_10 : decode cJ9_min_7cf53 10 = .ok (.ireturn, 1) := by decide +kernel
theorem dJ7_fill_d0a16_0 : decode cJ7_fill_d0a16 0 = .ok (.iconst 0, 1) := by decide +kernel
theorem dJ7_fill_d0a16_1 : decode cJ7_fill_d0a16 1 = .ok (.istore_n 3, 1) := by decide +kernel
theorem dJ7_fill_d0a16_2 : decode cJ7_fill_d0a16 2 = .ok (.aload_n 0, 1) := by decide +kernel
theorem dJ7_fill_d0a16_3 : decode cJ7_fill_d0a16 3 = .ok (.arraylength, 1) := by decide +kernel
theorem dJ7_fill_d0a16_4 : decode cJ7_fill_d0a16 4 = .ok (.istore 4, 2) := by decide +kernel
theorem dJ7_fill_d0a16_6 : decode cJ7_fill_d0a16 6 = .ok (.iload_n 3, 1) := by decide +kernel
theorem dJ7_fill_d0a16_7 : decode cJ7_fill_d0a16 7 = .ok (.iload 4, 2) := by decide +kernel
theorem dJ7_fill_d0a16_9 : decode cJ7_fill_d0a16 9 = .ok (.if_icmp .ge 13, 3) := by decide +kernel
theorem dJ7_fill_d0a16_12 : decode cJ7_fill_d0a16 12 = .ok (.aload_n 0, 1) := by decide +kernel
theorem dJ7_fill_d0a16_13 : decode cJ7_fill_d0a16 13 = .ok (.iload_n 3, 1) := by decide +kernel
theorem dJ7_fill_d0a16_14 : decode cJ7_fill_d0a16 14 = .ok (.lload_n 1, 1) := by decide +kernel
theorem dJ7_fill_d0a16_15 : decode cJ7_fill_d0a16 15 = .ok (.lastore, 1) := by decide +kernel
theorem dJ7_fill_d0a16_16 : decode cJ7_fill_d0a16 16 = .ok (.iinc 3 1, 3) := by decide +kernel
theorem dJ7_fill_d0a16_19 : decode cJ7_fill_d0a16 19 = .ok (.goto (-13), 3) := by decide +kernel
theorem dJ7_fill_d0a16_22 : decode cJ7_fill_d0a16 22 = .ok (.return_, 1) := by decide +kernel
theorem dJ7_fill_53178_0 : decode cJ7_fill_53178 0 = .ok (.iconst 0, 1) := by decide +kernel
theorem dJ7_fill_53178_1 : decode cJ7_fill_53178 1 = .ok (.istore_n 2, 1) := by decide +kernel
theorem dJ7_fill_53178_2 : decode cJ7_fill_53178 2 = .ok (.aload_n 0, 1) := by decide +kernel
theorem dJ7_fill_53178_3 : decode cJ7_fill_53178 3 = .ok (.arraylength, 1) := by decide +kernel
theorem dJ7_fill_53178_4 : decode cJ7_fill_53178 4 = .ok (.istore_n 3, 1) := by decide +kernel
theorem dJ7_fill_53178_5 : decode cJ7_fill_53178 5 = .ok (.iload_n 2, 1) := by decide +kernel
theorem dJ7_fill_53178_6 : decode cJ7_fill_53178 6 = .ok (.iload_n 3, 1) := by decide +kernel
theorem dJ7_fill_53178_7 : decode cJ7_fill_53178 7 = .ok (.if_icmp .ge 13, 3) := by decide +kernel
theorem dJ7_fill_53178_10 : decode cJ7_fill_53178 10 = .ok (.aload_n 0, 1) := by decide +kernel
theorem dJ7_fill_53178_11 : decode cJ7_fill_53178 11 = .ok (.iload_n 2, 1) := by decide +kernel
theorem dJ7_fill_53178_12 : decode cJ7_fill_53178 12 = .ok (.iload_n 1, 1) := by decide +kernel
theorem dJ7_fill_53178_13 : decode cJ7_fill_53178 13 = .ok (.iastore, 1) := by decide +kernel
theorem dJ7_fill_53178_14 : decode cJ7_fill_53178 14 = .ok (.iinc 2 1, 3) := by decide +kernel
theorem dJ7_fill_53178_17 : decode cJ7_fill_53178 17 = .ok (.goto (-12), 3) := by decide +kernel
theorem dJ7_fill_53178_20 : decode cJ7_fill_53178 20 = .ok (.return_, 1) := by decide +kernel
theorem dL_law_0 : decode cL_law 0 = .ok (.new 7, 3) := by decide +kernel
theorem dL_law_3 : decode cL_law 3 = .ok (.dup, 1) := by decide +kernel
theorem dL_law_4 : decode cL_law 4 = .ok (.invokespecial 9, 3) := by decide +kernel
theorem dL_law_7 : decode cL_law 7 = .ok (.astore_n 1, 1) := by decide +kernel
theorem dL_law_8 : decode cL_law 8 = .ok (.new 10, 3) := by decide +kernel
theorem dL_law_11 : decode cL_law 11 = .ok (.dup, 1) := by decide +kernel
theorem dL_law_12 : decode cL_law 12 = .ok (.invokespecial 12, 3) := by decide +kernel
theorem dL_law_15 : decode cL_law 15 = .ok (.astore_n 2, 1) := by decide +kernel
theorem dL_law_16 : decode cL_law 16 = .ok (.iconst 0, 1) := by decide +kernel
theorem dL_law_17 : decode cL_law 17 = .ok (.istore_n 3, 1) := by decide +kernel
theorem dL_law_18 : decode cL_law 18 = .ok (.iload_n 3, 1) := by decide +kernel
theorem dL_law_19 : decode cL_law 19 = .ok (.aload_n 0, 1) := by decide +kernel
theorem dL_law_20 : decode cL_law 20 = .ok (.arraylength, 1) := by decide +kernel
theorem dL_law_21 : decode cL_law 21 = .ok (.bipush 6, 2) := by decide +kernel
theorem dL_law_23 : decode cL_law 23 = .ok (.isub, 1) := by decide +kernel
theorem dL_law_24 : decode cL_law 24 = .ok (.if_icmp .gt 1101, 3) := by decide +kernel
theorem dL_law_27 : decode cL_law 27 = .ok (.aload_n 0, 1) := by decide +kernel
theorem dL_law_28 : decode cL_law 28 = .ok (.iload_n 3, 1) := by decide +kernel
theorem dL_law_29 : decode cL_law 29 = .ok (.iaload, 1) := by decide +kernel
theorem dL_law_30 : decode cL_law 30 = .ok (.bipush 31, 2) := by decide +kernel
theorem dL_law_32 : decode cL_law 32 = .ok (.iand, 1) := by decide +kernel
theorem dL_law_33 : decode cL_law 33 = .ok (.tableswitch 1086 0 26 #[123, 166, 229, 252, 305, 338, 371, 414, 457, 490, 523, 556, 569, 612, 625, 658, 701, 724, 767, 800, 843, 866, 919, 963, 1026, 1049, 1072], 123) := by decide +kernel
theorem dL_law_156 : decode cL_law 156 = .ok (.aload_n 1, 1) := by decide +kernel
theorem dL_law_157 : decode cL_law 157 = .ok (.aload_n 0, 1) := by decide +kernel
theorem dL_law_158 : decode cL_law 158 = .ok (.iload_n 3, 1) := by decide +kernel
theorem dL_law_159 : decode cL_law 159 = .ok (.iconst 1, 1) := by decide +kernel
theorem dL_law_160 : decode cL_law 160 = .ok (.iadd, 1) := by decide +kernel
theorem dL_law_161 : decode cL_law 161 = .ok (.iaload, 1) := by decide +kernel
theorem dL_law_162 : decode cL_law 162 = .ok (.aload_n 0, 1) := by decide +kernel
theorem dL_law_163 : decode cL_law 163 = .ok (.iload_n 3, 1) := by decide +kernel
theorem dL_law_164 : decode cL_law 164 = .ok (.iconst 2, 1) := by decide +kernel
theorem dL_law_165 : decode cL_law 165 = .ok (.iadd, 1) := by decide +kernel
theorem dL_law_166 : decode cL_law 166 = .ok (.iaload, 1) := by decide +kernel
theorem dL_law_167 : decode cL_law 167 = .ok (.aload_n 0, 1) := by decide +kernel
theorem dL_law_168 : decode cL_law 168 = .ok (.iload_n 3, 1) := by decide +kernel
theorem dL_law_169 : decode cL_law 169 = .ok (.iconst 3, 1) := by decide +kernel
theorem dL_law_170 : decode cL_law 170 = .ok (.iadd, 1) := by decide +kernel
theorem dL_law_171 : decode cL_law 171 = .ok (.iaload, 1) := by decide +kernel
theorem dL_law_172 : decode cL_law 172 = .ok (.invokevirtual 13, 3) := by decide +kernel
theorem dL_law_175 : decode cL_law 175 = .ok (.aload_n 2, 1) := by decide +kernel
theorem dL_law_176 : decode cL_law 176 = .ok (.aload_n 0, 1) := by decide +kernel
theorem dL_law_177 : decode cL_law 177 = .ok (.iload_n 3, 1) := by decide +kernel
theorem dL_law_178 : decode cL_law 178 = .ok (.iconst 1, 1) := by decide +kernel
theorem dL_law_179 : decode cL_law 179 = .ok (.iadd, 1) := by decide +kernel
theorem dL_law_180 : decode cL_law 180 = .ok (.iaload, 1) := by decide +kernel
theorem dL_law_181 : decode cL_law 181 = .ok (.aload_n 0, 1) := by decide +kernel
theorem dL_law_182 : decode cL_law 182 = .ok (.iload_n 3, 1) := by decide +kernel
theorem dL_law_183 : decode cL_law 183 = .ok (.iconst 2, 1) := by decide +kernel
theorem dL_law_184 : decode cL_law 184 = .ok (.iadd, 1) := by decide +kernel
theorem dL_law_185 : decode cL_law 185 = .ok (.iaload, 1) := by decide +kernel
theorem dL_law_186 : decode cL_law 186 = .ok (.aload_n 0, 1) := by decide +kernel
theorem dL_law_187 : decode cL_law 187 = .ok (.iload_n 3, 1) := by decide +kernel
theorem dL_law_188 : decode cL_law 188 = .ok (.iconst 3, 1) := by decide +kernel
theorem dL_law_189 : decode cL_law 189 = .ok (.iadd, 1) := by decide +kernel
theorem dL_law_190 : decode cL_law 190 = .ok (.iaload, 1) := by decide +kernel
theorem dL_law_191 : decode cL_law 191 = .ok (.invokevirtual 17, 3) := by decide +kernel
theorem dL_law_194 : decode cL_law 194 = .ok (.if_icmp .eq 925, 3) := by decide +kernel
theorem dL_law_197 : decode cL_law 197 = .ok (.iconst 0, 1) := by decide +kernel
theorem dL_law_198 : decode cL_law 198 = .ok (.ireturn, 1) := by decide +kernel
theorem dL_law_199 : decode cL_law 199 = .ok (.aload_n 1, 1) := by decide +kernel
theorem dL_law_200 : decode cL_law 200 = .ok (.aload_n 0, 1) := by decide +kernel
theorem dL_law_201 : decode cL_law 201 = .ok (.iload_n 3, 1) := by decide +kernel
theorem dL_law_202 : decode cL_law 202 = .ok (.iconst 1, 1) := by decide +kernel
theorem dL_law_203 : decode cL_law 203 = .ok (.iadd, 1) := by decide +kernel
theorem dL_law_204 : decode cL_law 204 = .ok (.iaload, 1) := by decide +kernel
theorem dL_law_205 : decode cL_law 205 = .ok (.aload_n 0, 1) := by decide +kernel
theorem dL_law_206 : decode cL_law 206 = .ok (.iload_n 3, 1) := by decide +kernel
theorem dL_law_207 : decode cL_law 207 = .ok (.iconst 2, 1) := by decide +kernel
theorem dL_law_208 : decode cL_law 208 = .ok (.iadd, 1) := by decide +kernel
theorem dL_law_209 : decode cL_law 209 = .ok (.iaload, 1) := by decide +kernel
theorem dL_law_210 : decode cL_law 210 = .ok (.aload_n 0, 1) := by decide +kernel
theorem dL_law_211 : decode cL_law 211 = .ok (.iload_n 3, 1) := by decide +kernel
theorem dL_law_212 : decode cL_law 212 = .ok (.iconst 3, 1) := by decide +kernel
theorem dL_law_213 : decode cL_law 213 = .ok (.iadd, 1) := by decide +kernel
theorem dL_law_214 : decode cL_law 214 = .ok (.iaload, 1) := by decide +kernel
theorem dL_law_215 : decode cL_law 215 = .ok (.aload_n 0, 1) := by decide +kernel
theorem dL_law_216 : decode cL_law 216 = .ok (.iload_n 3, 1) := by decide +kernel
theorem dL_law_217 : decode cL_law 217 = .ok (.iconst 4, 1) := by decide +kernel
theorem dL_law_218 : decode cL_law 218 = .ok (.iadd, 1) := by decide +kernel
theorem dL_law_219 : decode cL_law 219 = .ok (.iaload, 1) := by decide +kernel
theorem dL_law_220 : decode cL_law 220 = .ok (.aload_n 0, 1) := by decide +kernel
theorem dL_law_221 : decode cL_law 221 = .ok (.iload_n 3, 1) := by decide +kernel
theorem dL_law_222 : decode cL_law 222 = .ok (.iconst 5, 1) := by decide +kernel
theorem dL_law_223 : decode cL_law 223 = .ok (.iadd, 1) := by decide +kernel
theorem dL_law_224 : decode cL_law 224 = .ok (.iaload, 1) := by decide +kernel
theorem dL_law_225 : decode cL_law 225 = .ok (.invokevirtual 18, 3) := by decide +kernel
theorem dL_law_228 : decode cL_law 228 = .ok (.aload_n 2, 1) := by decide +kernel
theorem dL_law_229 : decode cL_law 229 = .ok (.aload_n 0, 1) := by decide +kernel
theorem dL_law_230 : decode cL_law 230 = .ok (.iload_n 3, 1) := by decide +kernel
theorem dL_law_231 : decode cL_law 231 = .ok (.iconst 1, 1) := by decide +kernel
theorem dL_law_232 : decode cL_law 232 = .ok (.iadd, 1) := by decide +kernel
theorem dL_law_233 : decode cL_law 233 = .ok (.iaload, 1) := by decide +kernel
theorem dL_law_234 : decode cL_law 234 = .ok (.aload_n 0, 1) := by decide +kernel
theorem dL_law_235 : decode cL_law 235 = .ok (.iload_n 3, 1) := by decide +kernel
theorem dL_law_236 : decode cL_law 236 = .ok (.iconst 2, 1) := by decide +kernel
theorem dL_law_237 : decode cL_law 237 = .ok (.iadd, 1) := by decide +kernel
theorem dL_law_238 : decode cL_law 238 = .ok (.iaload, 1) := by decide +kernel
theorem dL_law_239 : decode cL_law 239 = .ok (.aload_n 0, 1) := by decide +kernel
theorem dL_law_240 : decode cL_law 240 = .ok (.iload_n 3, 1) := by decide +kernel
theorem dL_law_241 : decode cL_law 241 = .ok (.iconst 3, 1) := by decide +kernel
theorem dL_law_242 : decode cL_law 242 = .ok (.iadd, 1) := by decide +kernel
theorem dL_law_243 : decode cL_law 243 = .ok (.iaload, 1) := by decide +kernel
theorem dL_law_244 : decode cL_law 244 = .ok (.aload_n 0, 1) := by decide +kernel
theorem dL_law_245 : decode cL_law 245 = .ok (.iload_n 3, 1) := by decide +kernel
theorem dL_law_246 : decode cL_law 246 = .ok (.iconst 4, 1) := by decide +kernel
theorem dL_law_247 : decode cL_law 247 = .ok (.iadd, 1) := by decide +kernel
theorem dL_law_248 : decode cL_law 248 = .ok (.iaload, 1) := by decide +kernel
theorem dL_law_249 : decode cL_law 249 = .ok (.aload_n 0, 1) := by decide +kernel
theorem dL_law_250 : decode cL_law 250 = .ok (.iload_n 3, 1) := by decide +kernel
theorem dL_law_251 : decode cL_law 251 = .ok (.iconst 5, 1) := by decide +kernel
theorem dL_law_252 : decode cL_law 252 = .ok (.iadd, 1) := by decide +kernel
theorem dL_law_253 : decode cL_law 253 = .ok (.iaload, 1) := by decide +kernel
theorem dL_law_254 : decode cL_law 254 = .ok (.invokevirtual 22, 3) := by decide +kernel
theorem dL_law_257 : decode cL_law 257 = .ok (.if_icmp .eq 862, 3) := by decide +kernel
theorem dL_law_260 : decode cL_law 260 = .ok (.iconst 0, 1) := by decide +kernel
theorem dL_law_261 : decode cL_law 261 = .ok (.ireturn, 1) := by decide +kernel
theorem dL_law_262 : decode cL_law 262 = .ok (.aload_n 1, 1) := by decide +kernel
theorem dL_law_263 : decode cL_law 263 = .ok (.aload_n 0, 1) := by decide +kernel
theorem dL_law_264 : decode cL_law 264 = .ok (.iload_n 3, 1) := by decide +kernel
theorem dL_law_265 : decode cL_law 265 = .ok (.iconst 1, 1) := by decide +kernel
theorem dL_law_266 : decode cL_law 266 = .ok (.iadd, 1) := by decide +kernel
theorem dL_law_267 : decode cL_law 267 = .ok (.iaload, 1) := by decide +kernel
theorem dL_law_268 : decode cL_law 268 = .ok (.invokevirtual 23, 3) := by decide +kernel
theorem dL_law_271 : decode cL_law 271 = .ok (.aload_n 2, 1) := by decide +kernel
theorem dL_law_272 : decode cL_law 272 = .ok (.aload_n 0, 1) := by decide +kernel
theorem dL_law_273 : decode cL_law 273 = .ok (.iload_n 3, 1) := by decide +kernel
theorem dL_law_274 : decode cL_law 274 = .ok (.iconst 1, 1) := by decide +kernel
theorem dL_law_275 : decode cL_law 275 = .ok (.iadd, 1) := by decide +kernel
theorem dL_law_276 : decode cL_law 276 = .ok (.iaload, 1) := by decide +kernel
theorem dL_law_277 : decode cL_law 277 = .ok (.invokevirtual 27, 3) := by decide +kernel
theorem dL_law_280 : decode cL_law 280 = .ok (.if_icmp .eq 839, 3) := by decide +kernel
theorem dL_law_283 : decode cL_law 283 = .ok (.iconst 0, 1) := by decide +kernel
theorem dL_law_284 : decode cL_law 284 = .ok (.ireturn, 1) := by decide +kernel
theorem dL_law_285 : decode cL_law 285 = .ok (.aload_n 1, 1) := by decide +kernel
theorem dL_law_286 : decode cL_law 286 = .ok (.aload_n 0, 1) := by decide +kernel
theorem dL_law_287 : decode cL_law 287 = .ok (.iload_n 3, 1) := by decide +kernel
theorem dL_law_288 : decode cL_law 288 = .ok (.iconst 1, 1) := by decide +kernel
theorem dL_law_289 : decode cL_law 289 = .ok (.iadd, 1) := by decide +kernel
theorem dL_law_290 : decode cL_law 290 = .ok (.iaload, 1) := by decide +kernel
theorem dL_law_291 : decode cL_law 291 = .ok (.aload_n 0, 1) := by decide +kernel
theorem dL_law_292 : decode cL_law 292 = .ok (.iload_n 3, 1) := by decide +kernel
theorem dL_law_293 : decode cL_law 293 = .ok (.iconst 2, 1) := by decide +kernel
theorem dL_law_294 : decode cL_law 294 = .ok (.iadd, 1) := by decide +kernel
theorem dL_law_295 : decode cL_law 295 = .ok (.iaload, 1) := by decide +kernel
theorem dL_law_296 : decode cL_law 296 = .ok (.aload_n 0, 1) := by decide +kernel
theorem dL_law_297 : decode cL_law 297 = .ok (.iload_n 3, 1) := by decide +kernel
theorem dL_law_298 : decode cL_law 298 = .ok (.iconst 3, 1) := by decide +kernel
theorem dL_law_299 : decode cL_law 299 = .ok (.iadd, 1) := by decide +kernel
theorem dL_law_300 : decode cL_law 300 = .ok (.iaload, 1) := by decide +kernel
theorem dL_law_301 : decode cL_law 301 = .ok (.aload_n 0, 1) := by decide +kernel
theorem dL_law_302 : decode cL_law 302 = .ok (.iload_n 3, 1) := by decide +kernel
theorem dL_law_303 : decode cL_law 303 = .ok (.iconst 4, 1) := by decide +kernel
theorem dL_law_304 : decode cL_law 304 = .ok (.iadd, 1) := by decide +kernel
theorem dL_law_305 : decode cL_law 305 = .ok (.iaload, 1) := by decide +kernel
theorem dL_law_306 : decode cL_law 306 = .ok (.invokevirtual 28, 3) := by decide +kernel
theorem dL_law_309 : decode cL_law 309 = .ok (.aload_n 2, 1) := by decide +kernel
theorem dL_law_310 : decode cL_law 310 = .ok (.aload_n 0, 1) := by decide +kernel
theorem dL_law_311 : decode cL_law 311 = .ok (.iload_n 3, 1) := by decide +kernel
theorem dL_law_312 : decode cL_law 312 = .ok (.iconst 1, 1) := by decide +kernel
theorem dL_law_313 : decode cL_law 313 = .ok (.iadd, 1) := by decide +kernel
theorem dL_law_314 : decode cL_law 314 = .ok (.iaload, 1) := by decide +kernel
theorem dL_law_315 : decode cL_law 315 = .ok (.aload_n 0, 1) := by decide +kernel
theorem dL_law_316 : decode cL_law 316 = .ok (.iload_n 3, 1) := by decide +kernel
theorem dL_law_317 : decode cL_law 317 = .ok (.iconst 2, 1) := by decide +kernel
theorem dL_law_318 : decode cL_law 318 = .ok (.iadd, 1) := by decide +kernel
theorem dL_law_319 : decode cL_law 319 = .ok (.iaload, 1) := by decide +kernel
theorem dL_law_320 : decode cL_law 320 = .ok (.aload_n 0, 1) := by decide +kernel
theorem dL_law_321 : decode cL_law 321 = .ok (.iload_n 3, 1) := by decide +kernel
theorem dL_law_322 : decode cL_law 322 = .ok (.iconst 3, 1) := by decide +kernel
theorem dL_law_323 : decode cL_law 323 = .ok (.iadd, 1) := by decide +kernel
theorem dL_law_324 : decode cL_law 324 = .ok (.iaload, 1) := by decide +kernel
theorem dL_law_325 : decode cL_law 325 = .ok (.aload_n 0, 1) := by decide +kernel
theorem dL_law_326 : decode cL_law 326 = .ok (.iload_n 3, 1) := by decide +kernel
theorem dL_law_327 : decode cL_law 327 = .ok (.iconst 4, 1) := by decide +kernel
theorem dL_law_328 : decode cL_law 328 = .ok (.iadd, 1) := by decide +kernel
theorem dL_law_329 : decode cL_law 329 = .ok (.iaload, 1) := by decide +kernel
theorem dL_law_330 : decode cL_law 330 = .ok (.invokevirtual 32, 3) := by decide +kernel
theorem dL_law_333 : decode cL_law 333 = .ok (.if_icmp .eq 786, 3) := by decide +kernel
theorem dL_law_336 : decode cL_law 336 = .ok (.iconst 0, 1) := by decide +kernel
theorem dL_law_337 : decode cL_law 337 = .ok (.ireturn, 1) := by decide +kernel
theorem dL_law_338 : decode cL_law 338 = .ok (.aload_n 1, 1) := by decide +kernel
theorem dL_law_339 : decode cL_law 339 = .ok (.aload_n 0, 1) := by decide +kernel
theorem dL_law_340 : decode cL_law 340 = .ok (.iload_n 3, 1) := by decide +kernel
theorem dL_law_341 : decode cL_law 341 = .ok (.iconst 1, 1) := by decide +kernel
theorem dL_law_342 : decode cL_law 342 = .ok (.iadd, 1) := by decide +kernel
theorem dL_law_343 : decode cL_law 343 = .ok (.iaload, 1) := by decide +kernel
theorem dL_law_344 : decode cL_law 344 = .ok (.aload_n 0, 1) := by decide +kernel
theorem dL_law_345 : decode cL_law 345 = .ok (.iload_n 3, 1) := by decide +kernel
theorem dL_law_346 : decode cL_law 346 = .ok (.iconst 2, 1) := by decide +kernel
theorem dL_law_347 : decode cL_law 347 = .ok (.iadd, 1) := by decide +kernel
theorem dL_law_348 : decode cL_law 348 = .ok (.iaload, 1) := by decide +kernel
theorem dL_law_349 : decode cL_law 349 = .ok (.invokevirtual 33, 3) := by decide +kernel
theorem dL_law_352 : decode cL_law 352 = .ok (.aload_n 2, 1) := by decide +kernel
theorem dL_law_353 : decode cL_law 353 = .ok (.aload_n 0, 1) := by decide +kernel
theorem dL_law_354 : decode cL_law 354 = .ok (.iload_n 3, 1) := by decide +kernel
theorem dL_law_355 : decode cL_law 355 = .ok (.iconst 1, 1) := by decide +kernel
theorem dL_law_356 : decode cL_law 356 = .ok (.iadd, 1) := by decide +kernel
theorem dL_law_357 : decode cL_law 357 = .ok (.iaload, 1) := by decide +kernel
theorem dL_law_358 : decode cL_law 358 = .ok (.aload_n 0, 1) := by decide +kernel
theorem dL_law_359 : decode cL_law 359 = .ok (.iload_n 3, 1) := by decide +kernel
theorem dL_law_360 : decode cL_law 360 = .ok (.iconst 2, 1) := by decide +kernel
theorem dL_law_361 : decode cL_law 361 = .ok (.iadd, 1) := by decide +kernel
theorem dL_law_362 : decode cL_law 362 = .ok (.iaload, 1) := by decide +kernel
theorem dL_law_363 : decode cL_law 363 = .ok (.invokevirtual 37, 3) := by decide +kernel
theorem dL_law_366 : decode cL_law 366 = .ok (.if_icmp .eq 753, 3) := by decide +kernel
theorem dL_law_369 : decode cL_law 369 = .ok (.iconst 0, 1) := by decide +kernel
theorem dL_law_370 : decode cL_law 370 = .ok (.ireturn, 1) := by decide +kernel
theorem dL_law_371 : decode cL_law 371 = .ok (.aload_n 1, 1) := by decide +kernel
theorem dL_law_372 : decode cL_law 372 = .ok (.aload_n 0, 1) := by decide +kernel
theorem dL_law_373 : decode cL_law 373 = .ok (.iload_n 3, 1) := by decide +kernel
theorem dL_law_374 : decode cL_law 374 = .ok (.iconst 1, 1) := by decide +kernel
theorem dL_law_375 : decode cL_law 375 = .ok (.iadd, 1) := by decide +kernel
theorem dL_law_376 : decode cL_law 376 = .ok (.iaload, 1) := by decide +kernel
theorem dL_law_377 : decode cL_law 377 = .ok (.aload_n 0, 1) := by decide +kernel
theorem dL_law_378 : decode cL_law 378 = .ok (.iload_n 3, 1) := by decide +kernel
theorem dL_law_379 : decode cL_law 379 = .ok (.iconst 2, 1) := by decide +kernel
theorem dL_law_380 : decode cL_law 380 = .ok (.iadd, 1) := by decide +kernel
theorem dL_law_381 : decode cL_law 381 = .ok (.iaload, 1) := by decide +kernel
theorem dL_law_382 : decode cL_law 382 = .ok (.invokevirtual 38, 3) := by decide +kernel
theorem dL_law_385 : decode cL_law 385 = .ok (.aload_n 2, 1) := by decide +kernel
theorem dL_law_386 : decode cL_law 386 = .ok (.aload_n 0, 1) := by decide +kernel
theorem dL_law_387 : decode cL_law 387 = .ok (.iload_n 3, 1) := by decide +kernel
theorem dL_law_388 : decode cL_law 388 = .ok (.iconst 1, 1) := by decide +kernel
theorem dL_law_389 : decode cL_law 389 = .ok (.iadd, 1) := by decide +kernel
theorem dL_law_390 : decode cL_law 390 = .ok (.iaload, 1) := by decide +kernel
theorem dL_law_391 : decode cL_law 391 = .ok (.aload_n 0, 1) := by decide +kernel
theorem dL_law_392 : decode cL_law 392 = .ok (.iload_n 3, 1) := by decide +kernel
theorem dL_law_393 : decode cL_law 393 = .ok (.iconst 2, 1) := by decide +kernel
theorem dL_law_394 : decode cL_law 394 = .ok (.iadd, 1) := by decide +kernel
theorem dL_law_395 : decode cL_law 395 = .ok (.iaload, 1) := by decide +kernel
theorem dL_law_396 : decode cL_law 396 = .ok (.invokevirtual 41, 3) := by decide +kernel
theorem dL_law_399 : decode cL_law 399 = .ok (.if_icmp .eq 720, 3) := by decide +kernel
theorem dL_law_402 : decode cL_law 402 = .ok (.iconst 0, 1) := by decide +kernel
theorem dL_law_403 : decode cL_law 403 = .ok (.ireturn, 1) := by decide +kernel
theorem dL_law_404 : decode cL_law 404 = .ok (.aload_n 1, 1) := by decide +kernel
theorem dL_law_405 : decode cL_law 405 = .ok (.aload_n 0, 1) := by decide +kernel
theorem dL_law_406 : decode cL_law 406 = .ok (.iload_n 3, 1) := by decide +kernel
theorem dL_law_407 : decode cL_law 407 = .ok (.iconst 1, 1) := by decide +kernel
theorem dL_law_408 : decode cL_law 408 = .ok (.iadd, 1) := by decide +kernel
theorem dL_law_409 : decode cL_law 409 = .ok (.iaload, 1) := by decide +kernel
theorem dL_law_410 : decode cL_law 410 = .ok (.aload_n 0, 1) := by decide +kernel
theorem dL_law_411 : decode cL_law 411 = .ok (.iload_n 3, 1) := by decide +kernel
theorem dL_law_412 : decode cL_law 412 = .ok (.iconst 2, 1) := by decide +kernel
theorem dL_law_413 : decode cL_law 413 = .ok (.iadd, 1) := by decide +kernel
theorem dL_law_414 : decode cL_law 414 = .ok (.iaload, 1) := by decide +kernel
theorem dL_law_415 : decode cL_law 415 = .ok (.aload_n 0, 1) := by decide +kernel
theorem dL_law_416 : decode cL_law 416 = .ok (.iload_n 3, 1) := by decide +kernel
theorem dL_law_417 : decode cL_law 417 = .ok (.iconst 3, 1) := by decide +kernel
theorem dL_law_418 : decode cL_law 418 = .ok (.iadd, 1) := by decide +kernel
theorem dL_law_419 : decode cL_law 419 = .ok (.iaload, 1) := by decide +kernel
theorem dL_law_420 : decode cL_law 420 = .ok (.invokevirtual 42, 3) := by decide +kernel
theorem dL_law_423 : decode cL_law 423 = .ok (.aload_n 2, 1) := by decide +kernel
theorem dL_law_424 : decode cL_law 424 = .ok (.aload_n 0, 1) := by decide +kernel
theorem dL_law_425 : decode cL_law 425 = .ok (.iload_n 3, 1) := by decide +kernel
theorem dL_law_426 : decode cL_law 426 = .ok (.iconst 1, 1) := by decide +kernel
theorem dL_law_427 : decode cL_law 427 = .ok (.iadd, 1) := by decide +kernel
theorem dL_law_428 : decode cL_law 428 = .ok (.iaload, 1) := by decide +kernel
theorem dL_law_429 : decode cL_law 429 = .ok (.aload_n 0, 1) := by decide +kernel
theorem dL_law_430 : decode cL_law 430 = .ok (.iload_n 3, 1) := by decide +kernel
theorem dL_law_431 : decode cL_law 431 = .ok (.iconst 2, 1) := by decide +kernel
theorem dL_law_432 : decode cL_law 432 = .ok (.iadd, 1) := by decide +kernel
theorem dL_law_433 : decode cL_law 433 = .ok (.iaload, 1) := by decide +kernel
theorem dL_law_434 : decode cL_law 434 = .ok (.aload_n 0, 1) := by decide +kernel
theorem dL_law_435 : decode cL_law 435 = .ok (.iload_n 3, 1) := by decide +kernel
theorem dL_law_436 : decode cL_law 436 = .ok (.iconst 3, 1) := by decide +kernel
theorem dL_law_437 : decode cL_law 437 = .ok (.iadd, 1) := by decide +kernel
theorem dL_law_438 : decode cL_law 438 = .ok (.iaload, 1) := by decide +kernel
theorem dL_law_439 : decode cL_law 439 = .ok (.invokevirtual 45, 3) := by decide +kernel
theorem dL_law_442 : decode cL_law 442 = .ok (.if_icmp .eq 677, 3) := by decide +kernel
theorem dL_law_445 : decode cL_law 445 = .ok (.iconst 0, 1) := by decide +kernel
theorem dL_law_446 : decode cL_law 446 = .ok (.ireturn, 1) := by decide +kernel
theorem dL_law_447 : decode cL_law 447 = .ok (.aload_n 1, 1) := by decide +kernel
theorem dL_law_448 : decode cL_law 448 = .ok (.aload_n 0, 1) := by decide +kernel
theorem dL_law_449 : decode cL_law 449 = .ok (.iload_n 3, 1) := by decide +kernel
theorem dL_law_450 : decode cL_law 450 = .ok (.iconst 1, 1) := by decide +kernel
theorem dL_law_451 : decode cL_law 451 = .ok (.iadd, 1) := by decide +kernel
theorem dL_law_452 : decode cL_law 452 = .ok (.iaload, 1) := by decide +kernel
theorem dL_law_453 : decode cL_law 453 = .ok (.aload_n 0, 1) := by decide +kernel
theorem dL_law_454 : decode cL_law 454 = .ok (.iload_n 3, 1) := by decide +kernel
theorem dL_law_455 : decode cL_law 455 = .ok (.iconst 2, 1) := by decide +kernel
theorem dL_law_456 : decode cL_law 456 = .ok (.iadd, 1) := by decide +kernel
theorem dL_law_457 : decode cL_law 457 = .ok (.iaload, 1) := by decide +kernel
theorem dL_law_458 : decode cL_law 458 = .ok (.aload_n 0, 1) := by decide +kernel
theorem dL_law_459 : decode cL_law 459 = .ok (.iload_n 3, 1) := by decide +kernel
theorem dL_law_460 : decode cL_law 460 = .ok (.iconst 3, 1) := by decide +kernel
theorem dL_law_461 : decode cL_law 461 = .ok (.iadd, 1) := by decide +kernel
theorem dL_law_462 : decode cL_law 462 = .ok (.iaload, 1) := by decide +kernel
theorem dL_law_463 : decode cL_law 463 = .ok (.invokevirtual 46, 3) := by decide +kernel
theorem dL_law_466 : decode cL_law 466 = .ok (.aload_n 2, 1) := by decide +kernel
theorem dL_law_467 : decode cL_law 467 = .ok (.aload_n 0, 1) := by decide +kernel
theorem dL_law_468 : decode cL_law 468 = .ok (.iload_n 3, 1) := by decide +kernel
theorem dL_law_469 : decode cL_law 469 = .ok (.iconst 1, 1) := by decide +kernel
theorem dL_law_470 : decode cL_law 470 = .ok (.iadd, 1) := by decide +kernel
theorem dL_law_471 : decode cL_law 471 = .ok (.iaload, 1) := by decide +kernel
theorem dL_law_472 : decode cL_law 472 = .ok (.aload_n 0, 1) := by decide +kernel
theorem dL_law_473 : decode cL_law 473 = .ok (.iload_n 3, 1) := by decide +kernel
theorem dL_law_474 : decode cL_law 474 = .ok (.iconst 2, 1) := by decide +kernel
theorem dL_law_475 : decode cL_law 475 = .ok (.iadd, 1) := by decide +kernel
theorem dL_law_476 : decode cL_law 476 = .ok (.iaload, 1) := by decide +kernel
theorem dL_law_477 : decode cL_law 477 = .ok (.aload_n 0, 1) := by decide +kernel
theorem dL_law_478 : decode cL_law 478 = .ok (.iload_n 3, 1) := by decide +kernel
theorem dL_law_479 : decode cL_law 479 = .ok (.iconst 3, 1) := by decide +kernel
theorem dL_law_480 : decode cL_law 480 = .ok (.iadd, 1) := by decide +kernel
theorem dL_law_481 : decode cL_law 481 = .ok (.iaload, 1) := by decide +kernel
theorem dL_law_482 : decode cL_law 482 = .ok (.invokevirtual 49, 3) := by decide +kernel
theorem dL_law_485 : decode cL_law 485 = .ok (.if_icmp .eq 634, 3) := by decide +kernel
theorem dL_law_488 : decode cL_law 488 = .ok (.iconst 0, 1) := by decide +kernel
theorem dL_law_489 : decode cL_law 489 = .ok (.ireturn, 1) := by decide +kernel
theorem dL_law_490 : decode cL_law 490 = .ok (.aload_n 1, 1) := by decide +kernel
theorem dL_law_491 : decode cL_law 491 = .ok (.aload_n 0, 1) := by decide +kernel
theorem dL_law_492 : decode cL_law 492 = .ok (.iload_n 3, 1) := by decide +kernel
theorem dL_law_493 : decode cL_law 493 = .ok (.iconst 1, 1) := by decide +kernel
theorem dL_law_494 : decode cL_law 494 = .ok (.iadd, 1) := by decide +kernel
theorem dL_law_495 : decode cL_law 495 = .ok (.iaload, 1) := by decide +kernel
theorem dL_law_496 : decode cL_law 496 = .ok (.aload_n 0, 1) := by decide +kernel
theorem dL_law_497 : decode cL_law 497 = .ok (.iload_n 3, 1) := by decide +kernel
theorem dL_law_498 : decode cL_law 498 = .ok (.iconst 2, 1) := by decide +kernel
theorem dL_law_499 : decode cL_law 499 = .ok (.iadd, 1) := by decide +kernel
theorem dL_law_500 : decode cL_law 500 = .ok (.iaload, 1) := by decide +kernel
theorem dL_law_501 : decode cL_law 501 = .ok (.invokevirtual 50, 3) := by decide +kernel
theorem dL_law_504 : decode cL_law 504 = .ok (.aload_n 2, 1) := by decide +kernel
theorem dL_law_505 : decode cL_law 505 = .ok (.aload_n 0, 1) := by decide +kernel
theorem dL_law_506 : decode cL_law 506 = .ok (.iload_n 3, 1) := by decide +kernel
theorem dL_law_507 : decode cL_law 507 = .ok (.iconst 1, 1) := by decide +kernel
theorem dL_law_508 : decode cL_law 508 = .ok (.iadd, 1) := by decide +kernel
theorem dL_law_509 : decode cL_law 509 = .ok (.iaload, 1) := by decide +kernel
theorem dL_law_510 : decode cL_law 510 = .ok (.aload_n 0, 1) := by decide +kernel
theorem dL_law_511 : decode cL_law 511 = .ok (.iload_n 3, 1) := by decide +kernel
theorem dL_law_512 : decode cL_law 512 = .ok (.iconst 2, 1) := by decide +kernel
theorem dL_law_513 : decode cL_law 513 = .ok (.iadd, 1) := by decide +kernel
theorem dL_law_514 : decode cL_law 514 = .ok (.iaload, 1) := by decide +kernel
theorem dL_law_515 : decode cL_law 515 = .ok (.invokevirtual 53, 3) := by decide +kernel
theorem dL_law_518 : decode cL_law 518 = .ok (.if_icmp .eq 601, 3) := by decide +kernel
theorem dL_law_521 : decode cL_law 521 = .ok (.iconst 0, 1) := by decide +kernel
theorem dL_law_522 : decode cL_law 522 = .ok (.ireturn, 1) := by decide +kernel
theorem dL_law_523 : decode cL_law 523 = .ok (.aload_n 1, 1) := by decide +kernel
theorem dL_law_524 : decode cL_law 524 = .ok (.aload_n 0, 1) := by decide +kernel
theorem dL_law_525 : decode cL_law 525 = .ok (.iload_n 3, 1) := by decide +kernel
theorem dL_law_526 : decode cL_law 526 = .ok (.iconst 1, 1) := by decide +kernel
theorem dL_law_527 : decode cL_law 527 = .ok (.iadd, 1) := by decide +kernel
theorem dL_law_528 : decode cL_law 528 = .ok (.iaload, 1) := by decide +kernel
theorem dL_law_529 : decode cL_law 529 = .ok (.aload_n 0, 1) := by decide +kernel
theorem dL_law_530 : decode cL_law 530 = .ok (.iload_n 3, 1) := by decide +kernel
theorem dL_law_531 : decode cL_law 531 = .ok (.iconst 2, 1) := by decide +kernel
theorem dL_law_532 : decode cL_law 532 = .ok (.iadd, 1) := by decide +kernel
theorem dL_law_533 : decode cL_law 533 = .ok (.iaload, 1) := by decide +kernel
theorem dL_law_534 : decode cL_law 534 = .ok (.invokevirtual 54, 3) := by decide +kernel
theorem dL_law_537 : decode cL_law 537 = .ok (.aload_n 2, 1) := by decide +kernel
theorem dL_law_538 : decode cL_law 538 = .ok (.aload_n 0, 1) := by decide +kernel
theorem dL_law_539 : decode cL_law 539 = .ok (.iload_n 3, 1) := by decide +kernel
theorem dL_law_540 : decode cL_law 540 = .ok (.iconst 1, 1) := by decide +kernel
theorem dL_law_541 : decode cL_law 541 = .ok (.iadd, 1) := by decide +kernel
theorem dL_law_542 : decode cL_law 542 = .ok (.iaload, 1) := by decide +kernel
theorem dL_law_543 : decode cL_law 543 = .ok (.aload_n 0, 1) := by decide +kernel
theorem dL_law_544 : decode cL_law 544 = .ok (.iload_n 3, 1) := by decide +kernel
theorem dL_law_545 : decode cL_law 545 = .ok (.iconst 2, 1) := by decide +kernel
theorem dL_law_546 : decode cL_law 546 = .ok (.iadd, 1) := by decide +kernel
theorem dL_law_547 : decode cL_law 547 = .ok (.iaload, 1) := by decide +kernel
theorem dL_law_548 : decode cL_law 548 = .ok (.invokevirtual 57, 3) := by decide +kernel
theorem dL_law_551 : decode cL_law 551 = .ok (.if_icmp .eq 568, 3) := by decide +kernel
theorem dL_law_554 : decode cL_law 554 = .ok (.iconst 0, 1) := by decide +kernel
theorem dL_law_555 : decode cL_law 555 = .ok (.ireturn, 1) := by decide +kernel
theorem dL_law_556 : decode cL_law 556 = .ok (.aload_n 1, 1) := by decide +kernel
theorem dL_law_557 : decode cL_law 557 = .ok (.aload_n 0, 1) := by decide +kernel
theorem dL_law_558 : decode cL_law 558 = .ok (.iload_n 3, 1) := by decide +kernel
theorem dL_law_559 : decode cL_law 559 = .ok (.iconst 1, 1) := by decide +kernel
theorem dL_law_560 : decode cL_law 560 = .ok (.iadd, 1) := by decide +kernel
theorem dL_law_561 : decode cL_law 561 = .ok (.iaload, 1) := by decide +kernel
theorem dL_law_562 : decode cL_law 562 = .ok (.aload_n 0, 1) := by decide +kernel
theorem dL_law_563 : decode cL_law 563 = .ok (.iload_n 3, 1) := by decide +kernel
theorem dL_law_564 : decode cL_law 564 = .ok (.iconst 2, 1) := by decide +kernel
theorem dL_law_565 : decode cL_law 565 = .ok (.iadd, 1) := by decide +kernel
theorem dL_law_566 : decode cL_law 566 = .ok (.iaload, 1) := by decide +kernel
theorem dL_law_567 : decode cL_law 567 = .ok (.invokevirtual 58, 3) := by decide +kernel
theorem dL_law_570 : decode cL_law 570 = .ok (.aload_n 2, 1) := by decide +kernel
theorem dL_law_571 : decode cL_law 571 = .ok (.aload_n 0, 1) := by decide +kernel
theorem dL_law_572 : decode cL_law 572 = .ok (.iload_n 3, 1) := by decide +kernel
theorem dL_law_573 : decode cL_law 573 = .ok (.iconst 1, 1) := by decide +kernel
theorem dL_law_574 : decode cL_law 574 = .ok (.iadd, 1) := by decide +kernel
theorem dL_law_575 : decode cL_law 575 = .ok (.iaload, 1) := by decide +kernel
theorem dL_law_576 : decode cL_law 576 = .ok (.aload_n 0, 1) := by decide +kernel
theorem dL_law_577 : decode cL_law 577 = .ok (.iload_n 3, 1) := by decide +kernel
theorem dL_law_578 : decode cL_law 578 = .ok (.iconst 2, 1) := by decide +kernel
theorem dL_law_579 : decode cL_law 579 = .ok (.iadd, 1) := by decide +kernel
theorem dL_law_580 : decode cL_law 580 = .ok (.iaload, 1) := by decide +kernel
theorem dL_law_581 : decode cL_law 581 = .ok (.invokevirtual 61, 3) := by decide +kernel
theorem dL_law_584 : decode cL_law 584 = .ok (.if_icmp .eq 535, 3) := by decide +kernel
theorem dL_law_587 : decode cL_law 587 = .ok (.iconst 0, 1) := by decide +kernel
theorem dL_law_588 : decode cL_law 588 = .ok (.ireturn, 1) := by decide +kernel
theorem dL_law_589 : decode cL_law 589 = .ok (.aload_n 1, 1) := by decide +kernel
theorem dL_law_590 : decode cL_law 590 = .ok (.invokevirtual 62, 3) := by decide +kernel
theorem dL_law_593 : decode cL_law 593 = .ok (.aload_n 2, 1) := by decide +kernel
theorem dL_law_594 : decode cL_law 594 = .ok (.invokevirtual 66, 3) := by decide +kernel
theorem dL_law_597 : decode cL_law 597 = .ok (.if_icmp .eq 522, 3) := by decide +kernel
theorem dL_law_600 : decode cL_law 600 = .ok (.iconst 0, 1) := by decide +kernel
theorem dL_law_601 : decode cL_law 601 = .ok (.ireturn, 1) := by decide +kernel
theorem dL_law_602 : decode cL_law 602 = .ok (.aload_n 1, 1) := by decide +kernel
theorem dL_law_603 : decode cL_law 603 = .ok (.aload_n 0, 1) := by decide +kernel
theorem dL_law_604 : decode cL_law 604 = .ok (.iload_n 3, 1) := by decide +kernel
theorem dL_law_605 : decode cL_law 605 = .ok (.iconst 1, 1) := by decide +kernel
theorem dL_law_606 : decode cL_law 606 = .ok (.iadd, 1) := by decide +kernel
theorem dL_law_607 : decode cL_law 607 = .ok (.iaload, 1) := by decide +kernel
theorem dL_law_608 : decode cL_law 608 = .ok (.aload_n 0, 1) := by decide +kernel
theorem dL_law_609 : decode cL_law 609 = .ok (.iload_n 3, 1) := by decide +kernel
theorem dL_law_610 : decode cL_law 610 = .ok (.iconst 2, 1) := by decide +kernel
theorem dL_law_611 : decode cL_law 611 = .ok (.iadd, 1) := by decide +kernel
theorem dL_law_612 : decode cL_law 612 = .ok (.iaload, 1) := by decide +kernel
theorem dL_law_613 : decode cL_law 613 = .ok (.aload_n 0, 1) := by decide +kernel
theorem dL_law_614 : decode cL_law 614 = .ok (.iload_n 3, 1) := by decide +kernel
theorem dL_law_615 : decode cL_law 615 = .ok (.iconst 3, 1) := by decide +kernel
theorem dL_law_616 : decode cL_law 616 = .ok (.iadd, 1) := by decide +kernel
theorem dL_law_617 : decode cL_law 617 = .ok (.iaload, 1) := by decide +kernel
theorem dL_law_618 : decode cL_law 618 = .ok (.invokevirtual 67, 3) := by decide +kernel
theorem dL_law_621 : decode cL_law 621 = .ok (.aload_n 2, 1) := by decide +kernel
theorem dL_law_622 : decode cL_law 622 = .ok (.aload_n 0, 1) := by decide +kernel
theorem dL_law_623 : decode cL_law 623 = .ok (.iload_n 3, 1) := by decide +kernel
theorem dL_law_624 : decode cL_law 624 = .ok (.iconst 1, 1) := by decide +kernel
theorem dL_law_625 : decode cL_law 625 = .ok (.iadd, 1) := by decide +kernel
theorem dL_law_626 : decode cL_law 626 = .ok (.iaload, 1) := by decide +kernel
theorem dL_law_627 : decode cL_law 627 = .ok (.aload_n 0, 1) := by decide +kernel
theorem dL_law_628 : decode cL_law 628 = .ok (.iload_n 3, 1) := by decide +kernel
theorem dL_law_629 : decode cL_law 629 = .ok (.iconst 2, 1) := by decide +kernel
theorem dL_law_630 : decode cL_law 630 = .ok (.iadd, 1) := by decide +kernel
theorem dL_law_631 : decode cL_law 631 = .ok (.iaload, 1) := by decide +kernel
theorem dL_law_632 : decode cL_law 632 = .ok (.aload_n 0, 1) := by decide +kernel
theorem dL_law_633 : decode cL_law 633 = .ok (.iload_n 3, 1) := by decide +kernel
theorem dL_law_634 : decode cL_law 634 = .ok (.iconst 3, 1) := by decide +kernel
theorem dL_law_635 : decode cL_law 635 = .ok (.iadd, 1) := by decide +kernel
theorem dL_law_636 : decode cL_law 636 = .ok (.iaload, 1) := by decide +kernel
theorem dL_law_637 : decode cL_law 637 = .ok (.invokevirtual 70, 3) := by decide +kernel
theorem dL_law_640 : decode cL_law 640 = .ok (.if_icmp .eq 479, 3) := by decide +kernel
theorem dL_law_643 : decode cL_law 643 = .ok (.iconst 0, 1) := by decide +kernel
theorem dL_law_644 : decode cL_law 644 = .ok (.ireturn, 1) := by decide +kernel
theorem dL_law_645 : decode cL_law 645 = .ok (.aload_n 1, 1) := by decide +kernel
theorem dL_law_646 : decode cL_law 646 = .ok (.invokevirtual 71, 3) := by decide +kernel
theorem dL_law_649 : decode cL_law 649 = .ok (.aload_n 2, 1) := by decide +kernel
theorem dL_law_650 : decode cL_law 650 = .ok (.invokevirtual 74, 3) := by decide +kernel
theorem dL_law_653 : decode cL_law 653 = .ok (.if_icmp .eq 466, 3) := by decide +kernel
theorem dL_law_656 : decode cL_law 656 = .ok (.iconst 0, 1) := by decide +kernel
theorem dL_law_657 : decode cL_law 657 = .ok (.ireturn, 1) := by decide +kernel
theorem dL_law_658 : decode cL_law 658 = .ok (.aload_n 1, 1) := by decide +kernel
theorem dL_law_659 : decode cL_law 659 = .ok (.aload_n 0, 1) := by decide +kernel
theorem dL_law_660 : decode cL_law 660 = .ok (.iload_n 3, 1) := by decide +kernel
theorem dL_law_661 : decode cL_law 661 = .ok (.iconst 1, 1) := by decide +kernel
theorem dL_law_662 : decode cL_law 662 = .ok (.iadd, 1) := by decide +kernel
theorem dL_law_663 : decode cL_law 663 = .ok (.iaload, 1) := by decide +kernel
theorem dL_law_664 : decode cL_law 664 = .ok (.aload_n 0, 1) := by decide +kernel
theorem dL_law_665 : decode cL_law 665 = .ok (.iload_n 3, 1) := by decide +kernel
theorem dL_law_666 : decode cL_law 666 = .ok (.iconst 2, 1) := by decide +kernel
theorem dL_law_667 : decode cL_law 667 = .ok (.iadd, 1) := by decide +kernel
theorem dL_law_668 : decode cL_law 668 = .ok (.iaload, 1) := by decide +kernel
theorem dL_law_669 : decode cL_law 669 = .ok (.invokevirtual 75, 3) := by decide +kernel
theorem dL_law_672 : decode cL_law 672 = .ok (.aload_n 2, 1) := by decide +kernel
theorem dL_law_673 : decode cL_law 673 = .ok (.aload_n 0, 1) := by decide +kernel
theorem dL_law_674 : decode cL_law 674 = .ok (.iload_n 3, 1) := by decide +kernel
theorem dL_law_675 : decode cL_law 675 = .ok (.iconst 1, 1) := by decide +kernel
theorem dL_law_676 : decode cL_law 676 = .ok (.iadd, 1) := by decide +kernel
theorem dL_law_677 : decode cL_law 677 = .ok (.iaload, 1) := by decide +kernel
theorem dL_law_678 : decode cL_law 678 = .ok (.aload_n 0, 1) := by decide +kernel
theorem dL_law_679 : decode cL_law 679 = .ok (.iload_n 3, 1) := by decide +kernel
theorem dL_law_680 : decode cL_law 680 = .ok (.iconst 2, 1) := by decide +kernel
theorem dL_law_681 : decode cL_law 681 = .ok (.iadd, 1) := by decide +kernel
theorem dL_law_682 : decode cL_law 682 = .ok (.iaload, 1) := by decide +kernel
theorem dL_law_683 : decode cL_law 683 = .ok (.invokevirtual 78, 3) := by decide +kernel
theorem dL_law_686 : decode cL_law 686 = .ok (.if_icmp .eq 433, 3) := by decide +kernel
theorem dL_law_689 : decode cL_law 689 = .ok (.iconst 0, 1) := by decide +kernel
theorem dL_law_690 : decode cL_law 690 = .ok (.ireturn, 1) := by decide +kernel
theorem dL_law_691 : decode cL_law 691 = .ok (.aload_n 1, 1) := by decide +kernel
theorem dL_law_692 : decode cL_law 692 = .ok (.aload_n 0, 1) := by decide +kernel
theorem dL_law_693 : decode cL_law 693 = .ok (.iload_n 3, 1) := by decide +kernel
theorem dL_law_694 : decode cL_law 694 = .ok (.iconst 1, 1) := by decide +kernel
theorem dL_law_695 : decode cL_law 695 = .ok (.iadd, 1) := by decide +kernel
theorem dL_law_696 : decode cL_law 696 = .ok (.iaload, 1) := by decide +kernel
theorem dL_law_697 : decode cL_law 697 = .ok (.aload_n 0, 1) := by decide +kernel
theorem dL_law_698 : decode cL_law 698 = .ok (.iload_n 3, 1) := by decide +kernel
theorem dL_law_699 : decode cL_law 699 = .ok (.iconst 2, 1) := by decide +kernel
theorem dL_law_700 : decode cL_law 700 = .ok (.iadd, 1) := by decide +kernel
theorem dL_law_701 : decode cL_law 701 = .ok (.iaload, 1) := by decide +kernel
theorem dL_law_702 : decode cL_law 702 = .ok (.aload_n 0, 1) := by decide +kernel
theorem dL_law_703 : decode cL_law 703 = .ok (.iload_n 3, 1) := by decide +kernel
theorem dL_law_704 : decode cL_law 704 = .ok (.iconst 3, 1) := by decide +kernel
theorem dL_law_705 : decode cL_law 705 = .ok (.iadd, 1) := by decide +kernel
theorem dL_law_706 : decode cL_law 706 = .ok (.iaload, 1) := by decide +kernel
theorem dL_law_707 : decode cL_law 707 = .ok (.invokevirtual 79, 3) := by decide +kernel
theorem dL_law_710 : decode cL_law 710 = .ok (.aload_n 2, 1) := by decide +kernel
theorem dL_law_711 : decode cL_law 711 = .ok (.aload_n 0, 1) := by decide +kernel
theorem dL_law_712 : decode cL_law 712 = .ok (.iload_n 3, 1) := by decide +kernel
theorem dL_law_713 : decode cL_law 713 = .ok (.iconst 1, 1) := by decide +kernel
theorem dL_law_714 : decode cL_law 714 = .ok (.iadd, 1) := by decide +kernel
theorem dL_law_715 : decode cL_law 715 = .ok (.iaload, 1) := by decide +kernel
theorem dL_law_716 : decode cL_law 716 = .ok (.aload_n 0, 1) := by decide +kernel
theorem dL_law_717 : decode cL_law 717 = .ok (.iload_n 3, 1) := by decide +kernel
theorem dL_law_718 : decode cL_law 718 = .ok (.iconst 2, 1) := by decide +kernel
theorem dL_law_719 : decode cL_law 719 = .ok (.iadd, 1) := by decide +kernel
theorem dL_law_720 : decode cL_law 720 = .ok (.iaload, 1) := by decide +kernel
theorem dL_law_721 : decode cL_law 721 = .ok (.aload_n 0, 1) := by decide +kernel
theorem dL_law_722 : decode cL_law 722 = .ok (.iload_n 3, 1) := by decide +kernel
theorem dL_law_723 : decode cL_law 723 = .ok (.iconst 3, 1) := by decide +kernel
theorem dL_law_724 : decode cL_law 724 = .ok (.iadd, 1) := by decide +kernel
theorem dL_law_725 : decode cL_law 725 = .ok (.iaload, 1) := by decide +kernel
theorem dL_law_726 : decode cL_law 726 = .ok (.invokevirtual 82, 3) := by decide +kernel
theorem dL_law_729 : decode cL_law 729 = .ok (.if_icmp .eq 390, 3) := by decide +kernel
theorem dL_law_732 : decode cL_law 732 = .ok (.iconst 0, 1) := by decide +kernel
theorem dL_law_733 : decode cL_law 733 = .ok (.ireturn, 1) := by decide +kernel
theorem dL_law_734 : decode cL_law 734 = .ok (.aload_n 1, 1) := by decide +kernel
theorem dL_law_735 : decode cL_law 735 = .ok (.aload_n 0, 1) := by decide +kernel
theorem dL_law_736 : decode cL_law 736 = .ok (.iload_n 3, 1) := by decide +kernel
theorem dL_law_737 : decode cL_law 737 = .ok (.iconst 1, 1) := by decide +kernel
theorem dL_law_738 : decode cL_law 738 = .ok (.iadd, 1) := by decide +kernel
theorem dL_law_739 : decode cL_law 739 = .ok (.iaload, 1) := by decide +kernel
theorem dL_law_740 : decode cL_law 740 = .ok (.invokevirtual 83, 3) := by decide +kernel
theorem dL_law_743 : decode cL_law 743 = .ok (.aload_n 2, 1) := by decide +kernel
theorem dL_law_744 : decode cL_law 744 = .ok (.aload_n 0, 1) := by decide +kernel
theorem dL_law_745 : decode cL_law 745 = .ok (.iload_n 3, 1) := by decide +kernel
theorem dL_law_746 : decode cL_law 746 = .ok (.iconst 1, 1) := by decide +kernel
theorem dL_law_747 : decode cL_law 747 = .ok (.iadd, 1) := by decide +kernel
theorem dL_law_748 : decode cL_law 748 = .ok (.iaload, 1) := by decide +kernel
theorem dL_law_749 : decode cL_law 749 = .ok (.invokevirtual 86, 3) := by decide +kernel
theorem dL_law_752 : decode cL_law 752 = .ok (.if_icmp .eq 367, 3) := by decide +kernel
theorem dL_law_755 : decode cL_law 755 = .ok (.iconst 0, 1) := by decide +kernel
theorem dL_law_756 : decode cL_law 756 = .ok (.ireturn, 1) := by decide +kernel
theorem dL_law_757 : decode cL_law 757 = .ok (.aload_n 1, 1) := by decide +kernel
theorem dL_law_758 : decode cL_law 758 = .ok (.aload_n 0, 1) := by decide +kernel
theorem dL_law_759 : decode cL_law 759 = .ok (.iload_n 3, 1) := by decide +kernel
theorem dL_law_760 : decode cL_law 760 = .ok (.iconst 1, 1) := by decide +kernel
theorem dL_law_761 : decode cL_law 761 = .ok (.iadd, 1) := by decide +kernel
theorem dL_law_762 : decode cL_law 762 = .ok (.iaload, 1) := by decide +kernel
theorem dL_law_763 : decode cL_law 763 = .ok (.aload_n 0, 1) := by decide +kernel
theorem dL_law_764 : decode cL_law 764 = .ok (.iload_n 3, 1) := by decide +kernel
theorem dL_law_765 : decode cL_law 765 = .ok (.iconst 2, 1) := by decide +kernel
theorem dL_law_766 : decode cL_law 766 = .ok (.iadd, 1) := by decide +kernel
theorem dL_law_767 : decode cL_law 767 = .ok (.iaload, 1) := by decide +kernel
theorem dL_law_768 : decode cL_law 768 = .ok (.aload_n 0, 1) := by decide +kernel
theorem dL_law_769 : decode cL_law 769 = .ok (.iload_n 3, 1) := by decide +kernel
theorem dL_law_770 : decode cL_law 770 = .ok (.iconst 3, 1) := by decide +kernel
theorem dL_law_771 : decode cL_law 771 = .ok (.iadd, 1) := by decide +kernel
theorem dL_law_772 : decode cL_law 772 = .ok (.iaload, 1) := by decide +kernel
theorem dL_law_773 : decode cL_law 773 = .ok (.invokevirtual 87, 3) := by decide +kernel
theorem dL_law_776 : decode cL_law 776 = .ok (.aload_n 2, 1) := by decide +kernel
theorem dL_law_777 : decode cL_law 777 = .ok (.aload_n 0, 1) := by decide +kernel
theorem dL_law_778 : decode cL_law 778 = .ok (.iload_n 3, 1) := by decide +kernel
theorem dL_law_779 : decode cL_law 779 = .ok (.iconst 1, 1) := by decide +kernel
theorem dL_law_780 : decode cL_law 780 = .ok (.iadd, 1) := by decide +kernel
theorem dL_law_781 : decode cL_law 781 = .ok (.iaload, 1) := by decide +kernel
theorem dL_law_782 : decode cL_law 782 = .ok (.aload_n 0, 1) := by decide +kernel
theorem dL_law_783 : decode cL_law 783 = .ok (.iload_n 3, 1) := by decide +kernel
theorem dL_law_784 : decode cL_law 784 = .ok (.iconst 2, 1) := by decide +kernel
theorem dL_law_785 : decode cL_law 785 = .ok (.iadd, 1) := by decide +kernel
theorem dL_law_786 : decode cL_law 786 = .ok (.iaload, 1) := by decide +kernel
theorem dL_law_787 : decode cL_law 787 = .ok (.aload_n 0, 1) := by decide +kernel
theorem dL_law_788 : decode cL_law 788 = .ok (.iload_n 3, 1) := by decide +kernel
theorem dL_law_789 : decode cL_law 789 = .ok (.iconst 3, 1) := by decide +kernel
theorem dL_law_790 : decode cL_law 790 = .ok (.iadd, 1) := by decide +kernel
theorem dL_law_791 : decode cL_law 791 = .ok (.iaload, 1) := by decide +kernel
theorem dL_law_792 : decode cL_law 792 = .ok (.invokevirtual 90, 3) := by decide +kernel
theorem dL_law_795 : decode cL_law 795 = .ok (.if_icmp .eq 324, 3) := by decide +kernel
theorem dL_law_798 : decode cL_law 798 = .ok (.iconst 0, 1) := by decide +kernel
theorem dL_law_799 : decode cL_law 799 = .ok (.ireturn, 1) := by decide +kernel
theorem dL_law_800 : decode cL_law 800 = .ok (.aload_n 1, 1) := by decide +kernel
theorem dL_law_801 : decode cL_law 801 = .ok (.aload_n 0, 1) := by decide +kernel
theorem dL_law_802 : decode cL_law 802 = .ok (.iload_n 3, 1) := by decide +kernel
theorem dL_law_803 : decode cL_law 803 = .ok (.iconst 1, 1) := by decide +kernel
theorem dL_law_804 : decode cL_law 804 = .ok (.iadd, 1) := by decide +kernel
theorem dL_law_805 : decode cL_law 805 = .ok (.iaload, 1) := by decide +kernel
theorem dL_law_806 : decode cL_law 806 = .ok (.aload_n 0, 1) := by decide +kernel
theorem dL_law_807 : decode cL_law 807 = .ok (.iload_n 3, 1) := by decide +kernel
theorem dL_law_808 : decode cL_law 808 = .ok (.iconst 2, 1) := by decide +kernel
theorem dL_law_809 : decode cL_law 809 = .ok (.iadd, 1) := by decide +kernel
theorem dL_law_810 : decode cL_law 810 = .ok (.iaload, 1) := by decide +kernel
theorem dL_law_811 : decode cL_law 811 = .ok (.invokevirtual 91, 3) := by decide +kernel
theorem dL_law_814 : decode cL_law 814 = .ok (.aload_n 2, 1) := by decide +kernel
theorem dL_law_815 : decode cL_law 815 = .ok (.aload_n 0, 1) := by decide +kernel
theorem dL_law_816 : decode cL_law 816 = .ok (.iload_n 3, 1) := by decide +kernel
theorem dL_law_817 : decode cL_law 817 = .ok (.iconst 1, 1) := by decide +kernel
theorem dL_law_818 : decode cL_law 818 = .ok (.iadd, 1) := by decide +kernel
theorem dL_law_819 : decode cL_law 819 = .ok (.iaload, 1) := by decide +kernel
theorem dL_law_820 : decode cL_law 820 = .ok (.aload_n 0, 1) := by decide +kernel
theorem dL_law_821 : decode cL_law 821 = .ok (.iload_n 3, 1) := by decide +kernel
theorem dL_law_822 : decode cL_law 822 = .ok (.iconst 2, 1) := by decide +kernel
theorem dL_law_823 : decode cL_law 823 = .ok (.iadd, 1) := by decide +kernel
theorem dL_law_824 : decode cL_law 824 = .ok (.iaload, 1) := by decide +kernel
theorem dL_law_825 : decode cL_law 825 = .ok (.invokevirtual 94, 3) := by decide +kernel
theorem dL_law_828 : decode cL_law 828 = .ok (.if_icmp .eq 291, 3) := by decide +kernel
theorem dL_law_831 : decode cL_law 831 = .ok (.iconst 0, 1) := by decide +kernel
theorem dL_law_832 : decode cL_law 832 = .ok (.ireturn, 1) := by decide +kernel
theorem dL_law_833 : decode cL_law 833 = .ok (.aload_n 1, 1) := by decide +kernel
theorem dL_law_834 : decode cL_law 834 = .ok (.aload_n 0, 1) := by decide +kernel
theorem dL_law_835 : decode cL_law 835 = .ok (.iload_n 3, 1) := by decide +kernel
theorem dL_law_836 : decode cL_law 836 = .ok (.iconst 1, 1) := by decide +kernel
theorem dL_law_837 : decode cL_law 837 = .ok (.iadd, 1) := by decide +kernel
theorem dL_law_838 : decode cL_law 838 = .ok (.iaload, 1) := by decide +kernel
theorem dL_law_839 : decode cL_law 839 = .ok (.aload_n 0, 1) := by decide +kernel
theorem dL_law_840 : decode cL_law 840 = .ok (.iload_n 3, 1) := by decide +kernel
theorem dL_law_841 : decode cL_law 841 = .ok (.iconst 2, 1) := by decide +kernel
theorem dL_law_842 : decode cL_law 842 = .ok (.iadd, 1) := by decide +kernel
theorem dL_law_843 : decode cL_law 843 = .ok (.iaload, 1) := by decide +kernel
theorem dL_law_844 : decode cL_law 844 = .ok (.aload_n 0, 1) := by decide +kernel
theorem dL_law_845 : decode cL_law 845 = .ok (.iload_n 3, 1) := by decide +kernel
theorem dL_law_846 : decode cL_law 846 = .ok (.iconst 3, 1) := by decide +kernel
theorem dL_law_847 : decode cL_law 847 = .ok (.iadd, 1) := by decide +kernel
theorem dL_law_848 : decode cL_law 848 = .ok (.iaload, 1) := by decide +kernel
theorem dL_law_849 : decode cL_law 849 = .ok (.invokevirtual 95, 3) := by decide +kernel
theorem dL_law_852 : decode cL_law 852 = .ok (.aload_n 2, 1) := by decide +kernel
theorem dL_law_853 : decode cL_law 853 = .ok (.aload_n 0, 1) := by decide +kernel
theorem dL_law_854 : decode cL_law 854 = .ok (.iload_n 3, 1) := by decide +kernel
theorem dL_law_855 : decode cL_law 855 = .ok (.iconst 1, 1) := by decide +kernel
theorem dL_law_856 : decode cL_law 856 = .ok (.iadd, 1) := by decide +kernel
theorem dL_law_857 : decode cL_law 857 = .ok (.iaload, 1) := by decide +kernel
theorem dL_law_858 : decode cL_law 858 = .ok (.aload_n 0, 1) := by decide +kernel
theorem dL_law_859 : decode cL_law 859 = .ok (.iload_n 3, 1) := by decide +kernel
theorem dL_law_860 : decode cL_law 860 = .ok (.iconst 2, 1) := by decide +kernel
theorem dL_law_861 : decode cL_law 861 = .ok (.iadd, 1) := by decide +kernel
theorem dL_law_862 : decode cL_law 862 = .ok (.iaload, 1) := by decide +kernel
theorem dL_law_863 : decode cL_law 863 = .ok (.aload_n 0, 1) := by decide +kernel
theorem dL_law_864 : decode cL_law 864 = .ok (.iload_n 3, 1) := by decide +kernel
theorem dL_law_865 : decode cL_law 865 = .ok (.iconst 3, 1) := by decide +kernel
theorem dL_law_866 : decode cL_law 866 = .ok (.iadd, 1) := by decide +kernel
theorem dL_law_867 : decode cL_law 867 = .ok (.iaload, 1) := by decide +kernel
theorem dL_law_868 : decode cL_law 868 = .ok (.invokevirtual 98, 3) := by decide +kernel
theorem dL_law_871 : decode cL_law 871 = .ok (.if_icmp .eq 248, 3) := by decide +kernel
theorem dL_law_874 : decode cL_law 874 = .ok (.iconst 0, 1) := by decide +kernel
theorem dL_law_875 : decode cL_law 875 = .ok (.ireturn, 1) := by decide +kernel
theorem dL_law_876 : decode cL_law 876 = .ok (.aload_n 1, 1) := by decide +kernel
theorem dL_law_877 : decode cL_law 877 = .ok (.aload_n 0, 1) := by decide +kernel
theorem dL_law_878 : decode cL_law 878 = .ok (.iload_n 3, 1) := by decide +kernel
theorem dL_law_879 : decode cL_law 879 = .ok (.iconst 1, 1) := by decide +kernel
theorem dL_law_880 : decode cL_law 880 = .ok (.iadd, 1) := by decide +kernel
theorem dL_law_881 : decode cL_law 881 = .ok (.iaload, 1) := by decide +kernel
theorem dL_law_882 : decode cL_law 882 = .ok (.invokevirtual 99, 3) := by decide +kernel
theorem dL_law_885 : decode cL_law 885 = .ok (.aload_n 2, 1) := by decide +kernel
theorem dL_law_886 : decode cL_law 886 = .ok (.aload_n 0, 1) := by decide +kernel
theorem dL_law_887 : decode cL_law 887 = .ok (.iload_n 3, 1) := by decide +kernel
theorem dL_law_888 : decode cL_law 888 = .ok (.iconst 1, 1) := by decide +kernel
theorem dL_law_889 : decode cL_law 889 = .ok (.iadd, 1) := by decide +kernel
theorem dL_law_890 : decode cL_law 890 = .ok (.iaload, 1) := by decide +kernel
theorem dL_law_891 : decode cL_law 891 = .ok (.invokevirtual 102, 3) := by decide +kernel
theorem dL_law_894 : decode cL_law 894 = .ok (.if_icmp .eq 225, 3) := by decide +kernel
theorem dL_law_897 : decode cL_law 897 = .ok (.iconst 0, 1) := by decide +kernel
theorem dL_law_898 : decode cL_law 898 = .ok (.ireturn, 1) := by decide +kernel
theorem dL_law_899 : decode cL_law 899 = .ok (.aload_n 1, 1) := by decide +kernel
theorem dL_law_900 : decode cL_law 900 = .ok (.aload_n 0, 1) := by decide +kernel
theorem dL_law_901 : decode cL_law 901 = .ok (.iload_n 3, 1) := by decide +kernel
theorem dL_law_902 : decode cL_law 902 = .ok (.iconst 1, 1) := by decide +kernel
theorem dL_law_903 : decode cL_law 903 = .ok (.iadd, 1) := by decide +kernel
theorem dL_law_904 : decode cL_law 904 = .ok (.iaload, 1) := by decide +kernel
theorem dL_law_905 : decode cL_law 905 = .ok (.aload_n 0, 1) := by decide +kernel
theorem dL_law_906 : decode cL_law 906 = .ok (.iload_n 3, 1) := by decide +kernel
theorem dL_law_907 : decode cL_law 907 = .ok (.iconst 2, 1) := by decide +kernel
theorem dL_law_908 : decode cL_law 908 = .ok (.iadd, 1) := by decide +kernel
theorem dL_law_909 : decode cL_law 909 = .ok (.iaload, 1) := by decide +kernel
theorem dL_law_910 : decode cL_law 910 = .ok (.aload_n 0, 1) := by decide +kernel
theorem dL_law_911 : decode cL_law 911 = .ok (.iload_n 3, 1) := by decide +kernel
theorem dL_law_912 : decode cL_law 912 = .ok (.iconst 3, 1) := by decide +kernel
theorem dL_law_913 : decode cL_law 913 = .ok (.iadd, 1) := by decide +kernel
theorem dL_law_914 : decode cL_law 914 = .ok (.iaload, 1) := by decide +kernel
theorem dL_law_915 : decode cL_law 915 = .ok (.aload_n 0, 1) := by decide +kernel
theorem dL_law_916 : decode cL_law 916 = .ok (.iload_n 3, 1) := by decide +kernel
theorem dL_law_917 : decode cL_law 917 = .ok (.iconst 4, 1) := by decide +kernel
theorem dL_law_918 : decode cL_law 918 = .ok (.iadd, 1) := by decide +kernel
theorem dL_law_919 : decode cL_law 919 = .ok (.iaload, 1) := by decide +kernel
theorem dL_law_920 : decode cL_law 920 = .ok (.invokevirtual 103, 3) := by decide +kernel
theorem dL_law_923 : decode cL_law 923 = .ok (.aload_n 2, 1) := by decide +kernel
theorem dL_law_924 : decode cL_law 924 = .ok (.aload_n 0, 1) := by decide +kernel
theorem dL_law_925 : decode cL_law 925 = .ok (.iload_n 3, 1) := by decide +kernel
theorem dL_law_926 : decode cL_law 926 = .ok (.iconst 1, 1) := by decide +kernel
theorem dL_law_927 : decode cL_law 927 = .ok (.iadd, 1) := by decide +kernel
theorem dL_law_928 : decode cL_law 928 = .ok (.iaload, 1) := by decide +kernel
theorem dL_law_929 : decode cL_law 929 = .ok (.aload_n 0, 1) := by decide +kernel
theorem dL_law_930 : decode cL_law 930 = .ok (.iload_n 3, 1) := by decide +kernel
theorem dL_law_931 : decode cL_law 931 = .ok (.iconst 2, 1) := by decide +kernel
theorem dL_law_932 : decode cL_law 932 = .ok (.iadd, 1) := by decide +kernel
theorem dL_law_933 : decode cL_law 933 = .ok (.iaload, 1) := by decide +kernel
theorem dL_law_934 : decode cL_law 934 = .ok (.aload_n 0, 1) := by decide +kernel
theorem dL_law_935 : decode cL_law 935 = .ok (.iload_n 3, 1) := by decide +kernel
theorem dL_law_936 : decode cL_law 936 = .ok (.iconst 3, 1) := by decide +kernel
theorem dL_law_937 : decode cL_law 937 = .ok (.iadd, 1) := by decide +kernel
theorem dL_law_938 : decode cL_law 938 = .ok (.iaload, 1) := by decide +kernel
theorem dL_law_939 : decode cL_law 939 = .ok (.aload_n 0, 1) := by decide +kernel
theorem dL_law_940 : decode cL_law 940 = .ok (.iload_n 3, 1) := by decide +kernel
theorem dL_law_941 : decode cL_law 941 = .ok (.iconst 4, 1) := by decide +kernel
theorem dL_law_942 : decode cL_law 942 = .ok (.iadd, 1) := by decide +kernel
theorem dL_law_943 : decode cL_law 943 = .ok (.iaload, 1) := by decide +kernel
theorem dL_law_944 : decode cL_law 944 = .ok (.invokevirtual 106, 3) := by decide +kernel
theorem dL_law_947 : decode cL_law 947 = .ok (.if_icmp .eq 172, 3) := by decide +kernel
theorem dL_law_950 : decode cL_law 950 = .ok (.iconst 0, 1) := by decide +kernel
theorem dL_law_951 : decode cL_law 951 = .ok (.ireturn, 1) := by decide +kernel
theorem dL_law_952 : decode cL_law 952 = .ok (.aload_n 1, 1) := by decide +kernel
theorem dL_law_953 : decode cL_law 953 = .ok (.aload_n 0, 1) := by decide +kernel
theorem dL_law_954 : decode cL_law 954 = .ok (.iload_n 3, 1) := by decide +kernel
theorem dL_law_955 : decode cL_law 955 = .ok (.iconst 1, 1) := by decide +kernel
theorem dL_law_956 : decode cL_law 956 = .ok (.iadd, 1) := by decide +kernel
theorem dL_law_957 : decode cL_law 957 = .ok (.iaload, 1) := by decide +kernel
theorem dL_law_958 : decode cL_law 958 = .ok (.aload_n 0, 1) := by decide +kernel
theorem dL_law_959 : decode cL_law 959 = .ok (.iload_n 3, 1) := by decide +kernel
theorem dL_law_960 : decode cL_law 960 = .ok (.iconst 2, 1) := by decide +kernel
theorem dL_law_961 : decode cL_law 961 = .ok (.iadd, 1) := by decide +kernel
theorem dL_law_962 : decode cL_law 962 = .ok (.iaload, 1) := by decide +kernel
theorem dL_law_963 : decode cL_law 963 = .ok (.aload_n 0, 1) := by decide +kernel
theorem dL_law_964 : decode cL_law 964 = .ok (.iload_n 3, 1) := by decide +kernel
theorem dL_law_965 : decode cL_law 965 = .ok (.iconst 3, 1) := by decide +kernel
theorem dL_law_966 : decode cL_law 966 = .ok (.iadd, 1) := by decide +kernel
theorem dL_law_967 : decode cL_law 967 = .ok (.iaload, 1) := by decide +kernel
theorem dL_law_968 : decode cL_law 968 = .ok (.invokevirtual 107, 3) := by decide +kernel
theorem dL_law_971 : decode cL_law 971 = .ok (.aload_n 2, 1) := by decide +kernel
theorem dL_law_972 : decode cL_law 972 = .ok (.aload_n 0, 1) := by decide +kernel
theorem dL_law_973 : decode cL_law 973 = .ok (.iload_n 3, 1) := by decide +kernel
theorem dL_law_974 : decode cL_law 974 = .ok (.iconst 1, 1) := by decide +kernel
theorem dL_law_975 : decode cL_law 975 = .ok (.iadd, 1) := by decide +kernel
theorem dL_law_976 : decode cL_law 976 = .ok (.iaload, 1) := by decide +kernel
theorem dL_law_977 : decode cL_law 977 = .ok (.aload_n 0, 1) := by decide +kernel
theorem dL_law_978 : decode cL_law 978 = .ok (.iload_n 3, 1) := by decide +kernel
theorem dL_law_979 : decode cL_law 979 = .ok (.iconst 2, 1) := by decide +kernel
theorem dL_law_980 : decode cL_law 980 = .ok (.iadd, 1) := by decide +kernel
theorem dL_law_981 : decode cL_law 981 = .ok (.iaload, 1) := by decide +kernel
theorem dL_law_982 : decode cL_law 982 = .ok (.aload_n 0, 1) := by decide +kernel
theorem dL_law_983 : decode cL_law 983 = .ok (.iload_n 3, 1) := by decide +kernel
theorem dL_law_984 : decode cL_law 984 = .ok (.iconst 3, 1) := by decide +kernel
theorem dL_law_985 : decode cL_law 985 = .ok (.iadd, 1) := by decide +kernel
theorem dL_law_986 : decode cL_law 986 = .ok (.iaload, 1) := by decide +kernel
theorem dL_law_987 : decode cL_law 987 = .ok (.invokevirtual 111, 3) := by decide +kernel
theorem dL_law_990 : decode cL_law 990 = .ok (.lcmp, 1) := by decide +kernel
theorem dL_law_991 : decode cL_law 991 = .ok (.ifCond .eq 128, 3) := by decide +kernel
theorem dL_law_994 : decode cL_law 994 = .ok (.iconst 0, 1) := by decide +kernel
theorem dL_law_995 : decode cL_law 995 = .ok (.ireturn, 1) := by decide +kernel
theorem dL_law_996 : decode cL_law 996 = .ok (.aload_n 1, 1) := by decide +kernel
theorem dL_law_997 : decode cL_law 997 = .ok (.aload_n 0, 1) := by decide +kernel
theorem dL_law_998 : decode cL_law 998 = .ok (.iload_n 3, 1) := by decide +kernel
theorem dL_law_999 : decode cL_law 999 = .ok (.iconst 1, 1) := by decide +kernel
theorem dL_law_1000 : decode cL_law 1000 = .ok (.iadd, 1) := by decide +kernel
theorem dL_law_1001 : decode cL_law 1001 = .ok (.iaload, 1) := by decide +kernel
theorem dL_law_1002 : decode cL_law 1002 = .ok (.aload_n 0, 1) := by decide +kernel
theorem dL_law_1003 : decode cL_law 1003 = .ok (.iload_n 3, 1) := by decide +kernel
theorem dL_law_1004 : decode cL_law 1004 = .ok (.iconst 2, 1) := by decide +kernel
theorem dL_law_1005 : decode cL_law 1005 = .ok (.iadd, 1) := by decide +kernel
theorem dL_law_1006 : decode cL_law 1006 = .ok (.iaload, 1) := by decide +kernel
theorem dL_law_1007 : decode cL_law 1007 = .ok (.aload_n 0, 1) := by decide +kernel
theorem dL_law_1008 : decode cL_law 1008 = .ok (.iload_n 3, 1) := by decide +kernel
theorem dL_law_1009 : decode cL_law 1009 = .ok (.iconst 3, 1) := by decide +kernel
theorem dL_law_1010 : decode cL_law 1010 = .ok (.iadd, 1) := by decide +kernel
theorem dL_law_1011 : decode cL_law 1011 = .ok (.iaload, 1) := by decide +kernel
theorem dL_law_1012 : decode cL_law 1012 = .ok (.aload_n 0, 1) := by decide +kernel
theorem dL_law_1013 : decode cL_law 1013 = .ok (.iload_n 3, 1) := by decide +kernel
theorem dL_law_1014 : decode cL_law 1014 = .ok (.iconst 4, 1) := by decide +kernel
theorem dL_law_1015 : decode cL_law 1015 = .ok (.iadd, 1) := by decide +kernel
theorem dL_law_1016 : decode cL_law 1016 = .ok (.iaload, 1) := by decide +kernel
theorem dL_law_1017 : decode cL_law 1017 = .ok (.aload_n 0, 1) := by decide +kernel
theorem dL_law_1018 : decode cL_law 1018 = .ok (.iload_n 3, 1) := by decide +kernel
theorem dL_law_1019 : decode cL_law 1019 = .ok (.iconst 5, 1) := by decide +kernel
theorem dL_law_1020 : decode cL_law 1020 = .ok (.iadd, 1) := by decide +kernel
theorem dL_law_1021 : decode cL_law 1021 = .ok (.iaload, 1) := by decide +kernel
theorem dL_law_1022 : decode cL_law 1022 = .ok (.invokevirtual 112, 3) := by decide +kernel
theorem dL_law_1025 : decode cL_law 1025 = .ok (.aload_n 2, 1) := by decide +kernel
theorem dL_law_1026 : decode cL_law 1026 = .ok (.aload_n 0, 1) := by decide +kernel
theorem dL_law_1027 : decode cL_law 1027 = .ok (.iload_n 3, 1) := by decide +kernel
theorem dL_law_1028 : decode cL_law 1028 = .ok (.iconst 1, 1) := by decide +kernel
theorem dL_law_1029 : decode cL_law 1029 = .ok (.iadd, 1) := by decide +kernel
theorem dL_law_1030 : decode cL_law 1030 = .ok (.iaload, 1) := by decide +kernel
theorem dL_law_1031 : decode cL_law 1031 = .ok (.aload_n 0, 1) := by decide +kernel
theorem dL_law_1032 : decode cL_law 1032 = .ok (.iload_n 3, 1) := by decide +kernel
theorem dL_law_1033 : decode cL_law 1033 = .ok (.iconst 2, 1) := by decide +kernel
theorem dL_law_1034 : decode cL_law 1034 = .ok (.iadd, 1) := by decide +kernel
theorem dL_law_1035 : decode cL_law 1035 = .ok (.iaload, 1) := by decide +kernel
theorem dL_law_1036 : decode cL_law 1036 = .ok (.aload_n 0, 1) := by decide +kernel
theorem dL_law_1037 : decode cL_law 1037 = .ok (.iload_n 3, 1) := by decide +kernel
theorem dL_law_1038 : decode cL_law 1038 = .ok (.iconst 3, 1) := by decide +kernel
theorem dL_law_1039 : decode cL_law 1039 = .ok (.iadd, 1) := by decide +kernel
theorem dL_law_1040 : decode cL_law 1040 = .ok (.iaload, 1) := by decide +kernel
theorem dL_law_1041 : decode cL_law 1041 = .ok (.aload_n 0, 1) := by decide +kernel
theorem dL_law_1042 : decode cL_law 1042 = .ok (.iload_n 3, 1) := by decide +kernel
theorem dL_law_1043 : decode cL_law 1043 = .ok (.iconst 4, 1) := by decide +kernel
theorem dL_law_1044 : decode cL_law 1044 = .ok (.iadd, 1) := by decide +kernel
theorem dL_law_1045 : decode cL_law 1045 = .ok (.iaload, 1) := by decide +kernel
theorem dL_law_1046 : decode cL_law 1046 = .ok (.aload_n 0, 1) := by decide +kernel
theorem dL_law_1047 : decode cL_law 1047 = .ok (.iload_n 3, 1) := by decide +kernel
theorem dL_law_1048 : decode cL_law 1048 = .ok (.iconst 5, 1) := by decide +kernel
theorem dL_law_1049 : decode cL_law 1049 = .ok (.iadd, 1) := by decide +kernel
theorem dL_law_1050 : decode cL_law 1050 = .ok (.iaload, 1) := by decide +kernel
theorem dL_law_1051 : decode cL_law 1051 = .ok (.invokevirtual 115, 3) := by decide +kernel
theorem dL_law_1054 : decode cL_law 1054 = .ok (.if_icmp .eq 65, 3) := by decide +kernel
theorem dL_law_1057 : decode cL_law 1057 = .ok (.iconst 0, 1) := by decide +kernel
theorem dL_law_1058 : decode cL_law 1058 = .ok (.ireturn, 1) := by decide +kernel
theorem dL_law_1059 : decode cL_law 1059 = .ok (.aload_n 1, 1) := by decide +kernel
theorem dL_law_1060 : decode cL_law 1060 = .ok (.aload_n 0, 1) := by decide +kernel
theorem dL_law_1061 : decode cL_law 1061 = .ok (.iload_n 3, 1) := by decide +kernel
theorem dL_law_1062 : decode cL_law 1062 = .ok (.iconst 1, 1) := by decide +kernel
theorem dL_law_1063 : decode cL_law 1063 = .ok (.iadd, 1) := by decide +kernel
theorem dL_law_1064 : decode cL_law 1064 = .ok (.iaload, 1) := by decide +kernel
theorem dL_law_1065 : decode cL_law 1065 = .ok (.invokevirtual 116, 3) := by decide +kernel
theorem dL_law_1068 : decode cL_law 1068 = .ok (.aload_n 2, 1) := by decide +kernel
theorem dL_law_1069 : decode cL_law 1069 = .ok (.aload_n 0, 1) := by decide +kernel
theorem dL_law_1070 : decode cL_law 1070 = .ok (.iload_n 3, 1) := by decide +kernel
theorem dL_law_1071 : decode cL_law 1071 = .ok (.iconst 1, 1) := by decide +kernel
theorem dL_law_1072 : decode cL_law 1072 = .ok (.iadd, 1) := by decide +kernel
theorem dL_law_1073 : decode cL_law 1073 = .ok (.iaload, 1) := by decide +kernel
theorem dL_law_1074 : decode cL_law 1074 = .ok (.invokevirtual 119, 3) := by decide +kernel
theorem dL_law_1077 : decode cL_law 1077 = .ok (.if_icmp .eq 42, 3) := by decide +kernel
theorem dL_law_1080 : decode cL_law 1080 = .ok (.iconst 0, 1) := by decide +kernel
theorem dL_law_1081 : decode cL_law 1081 = .ok (.ireturn, 1) := by decide +kernel
theorem dL_law_1082 : decode cL_law 1082 = .ok (.aload_n 1, 1) := by decide +kernel
theorem dL_law_1083 : decode cL_law 1083 = .ok (.aload_n 0, 1) := by decide +kernel
theorem dL_law_1084 : decode cL_law 1084 = .ok (.iload_n 3, 1) := by decide +kernel
theorem dL_law_1085 : decode cL_law 1085 = .ok (.iconst 1, 1) := by decide +kernel
theorem dL_law_1086 : decode cL_law 1086 = .ok (.iadd, 1) := by decide +kernel
theorem dL_law_1087 : decode cL_law 1087 = .ok (.iaload, 1) := by decide +kernel
theorem dL_law_1088 : decode cL_law 1088 = .ok (.invokevirtual 120, 3) := by decide +kernel
theorem dL_law_1091 : decode cL_law 1091 = .ok (.aload_n 2, 1) := by decide +kernel
theorem dL_law_1092 : decode cL_law 1092 = .ok (.aload_n 0, 1) := by decide +kernel
theorem dL_law_1093 : decode cL_law 1093 = .ok (.iload_n 3, 1) := by decide +kernel
theorem dL_law_1094 : decode cL_law 1094 = .ok (.iconst 1, 1) := by decide +kernel
theorem dL_law_1095 : decode cL_law 1095 = .ok (.iadd, 1) := by decide +kernel
theorem dL_law_1096 : decode cL_law 1096 = .ok (.iaload, 1) := by decide +kernel
theorem dL_law_1097 : decode cL_law 1097 = .ok (.invokevirtual 123, 3) := by decide +kernel
theorem dL_law_1100 : decode cL_law 1100 = .ok (.if_icmp .eq 19, 3) := by decide +kernel
theorem dL_law_1103 : decode cL_law 1103 = .ok (.iconst 0, 1) := by decide +kernel
theorem dL_law_1104 : decode cL_law 1104 = .ok (.ireturn, 1) := by decide +kernel
theorem dL_law_1105 : decode cL_law 1105 = .ok (.aload_n 1, 1) := by decide +kernel
theorem dL_law_1106 : decode cL_law 1106 = .ok (.invokevirtual 124, 3) := by decide +kernel
theorem dL_law_1109 : decode cL_law 1109 = .ok (.aload_n 2, 1) := by decide +kernel
theorem dL_law_1110 : decode cL_law 1110 = .ok (.invokevirtual 128, 3) := by decide +kernel
theorem dL_law_1113 : decode cL_law 1113 = .ok (.lcmp, 1) := by decide +kernel
theorem dL_law_1114 : decode cL_law 1114 = .ok (.ifCond .eq 5, 3) := by decide +kernel
theorem dL_law_1117 : decode cL_law 1117 = .ok (.iconst 0, 1) := by decide +kernel
theorem dL_law_1118 : decode cL_law 1118 = .ok (.ireturn, 1) := by decide +kernel
theorem dL_law_1119 : decode cL_law 1119 = .ok (.iinc 3 6, 3) := by decide +kernel
theorem dL_law_1122 : decode cL_law 1122 = .ok (.goto (-1104), 3) := by decide +kernel
theorem dL_law_1125 : decode cL_law 1125 = .ok (.iconst 1, 1) := by decide +kernel
theorem dL_law_1126 : decode cL_law 1126 = .ok (.ireturn, 1) := by decide +kernel
end
section
section ZK
/-- a value whose references are places in the world -/
def zV (ρ : Nat → Nat) : Value → Value
  | .ref k => .ref (ρ k)
  | v => v
theorem zV_cat (ρ : Nat → Nat) (v : Value) : (zV ρ v).category = v.category := by cases v <;> rfl
theorem zV_cats (ρ : Nat → Nat) (st : List Value) : ((st.map (zV ρ)).map fun v => v.category).sum = (st.map fun v => v.category).sum := by
  rw [List.map_map]
  congr 1
  exact List.map_congr_left (fun v _ => zV_cat ρ v)
abbrev zA : Type := (Nat → Int32) ⊕ (Nat → Int64) ⊕ List (Option Nat)
abbrev zE : Type := (FieldType × Nat × zA) ⊕ (Nat × List Value)
abbrev zH : Type := List zE
def zMA (ρ : Nat → Nat) : zA → ((Nat → Int32) ⊕ (Nat → Int64) ⊕ (Nat → UInt32) ⊕ (Nat → UInt64) ⊕ (Nat → Option Nat))
  | .inl f => .inl f
  | .inr (.inl f) => .inr (.inl f)
  | .inr (.inr l) => .inr (.inr (.inr (.inr (fun j => (l.getD j none).map ρ))))
def zM (cI : FieldType → ClassId) (ρ : Nat → Nat) : zE → va_E
  | .inl q => .inl (cI q.1, q.2.1, zMA ρ q.2.2)
  | .inr q => .inr (q.1, q.2.map (zV ρ))
def zw (cI : FieldType → ClassId) (ρ : Nat → Nat) (h : zH) : va_W := h.mapIdx (fun k e => (ρ k, zM cI ρ e))
theorem zw_at {cI : FieldType → ClassId} {ρ : Nat → Nat} {h : zH} {k : Nat} {e : zE} (hk : h[k]? = some e) : (zw cI ρ h)[k]? = some (ρ k, zM cI ρ e) := by
  simp [zw, List.getElem?_mapIdx, hk]
theorem zw_of {cI : FieldType → ClassId} {ρ : Nat → Nat} {h : zH} {k : Nat} {q : Nat × va_E} (hk : (zw cI ρ h)[k]? = some q) : ∃ e, h[k]? = some e ∧ q = (ρ k, zM cI ρ e) := by
  rw [zw, List.getElem?_mapIdx] at hk
  cases he : h[k]? with
  | none => rw [he] at hk; cases hk
  | some e => rw [he] at hk; cases hk; exact ⟨e, rfl, rfl⟩
theorem zw_set {cI : FieldType → ClassId} {ρ : Nat → Nat} {h : zH} {k : Nat} {e : zE} : (zw cI ρ h).set k (ρ k, zM cI ρ e) = zw cI ρ (h.set k e) := by
  apply List.ext_getElem?
  intro i
  simp only [zw, List.getElem?_mapIdx, List.getElem?_set, List.length_mapIdx]
  by_cases hi : k = i
  · subst hi
    by_cases hl : k < h.length
    · simp [hl]
    · simp [hl]
  · simp [hi]
def zTys (cI : FieldType → ClassId) : List (ClassId × FieldType) := [(cI .int, .int), (cI .long, .long), (cI (.array .int), .array .int), (cI (.object "OffsetChains$Sheet"), .object "OffsetChains$Sheet")]
/-- the tables' words that pass from a state to any warmed one -/
def zWd : List Cond := lw_tbl.filter goodWord
theorem zWd_in {w : Cond} (i : Nat) (h : lw_tbl[i]? = some w) (g : goodWord w = true) : w ∈ zWd := List.mem_filter.mpr ⟨List.mem_of_getElem? h, g⟩
theorem zWd_of {w : Cond} (h : w ∈ lw_tbl) (g : goodWord w = true) : w ∈ zWd := List.mem_filter.mpr ⟨h, g⟩
theorem zWd_good {y : MethodName} {cc : ByteArray} {n : Nat} {r : Option FieldType} (h : Cond.code y cc n r ∈ zWd) : GoodIn zWd (.code y cc n r :: zWd) := by
  intro w hw
  have hw2 : w ∈ zWd := by
    rcases List.mem_cons.mp hw with e | e
    · rw [e]; exact h
    · exact e
  exact ⟨hw2, good_of_word (List.mem_filter.mp hw2).2⟩
/-- the nest's words -/
def zIsN : Cond → Bool
  | .fieldLinkNest .. => true
  | .methodLinkNest .. => true
  | _ => false
def zNs : List Cond := lw_tbl.filter zIsN
theorem zNs_in {w : Cond} (i : Nat) (h : lw_tbl[i]? = some w) (g : zIsN w = true) : w ∈ zNs := List.mem_filter.mpr ⟨List.mem_of_getElem? h, g⟩
def zNw (U : State) : Prop := ∀ w ∈ zNs, va_Nw w U
theorem zNw.warm {s U : State} (hW : s.WarmedH U.vm) (h : zNw s) : zNw U := by
  intro w hw
  have h1 := h w hw
  have h2 := (List.mem_filter.mp hw).2
  cases w <;> first | exact h1.warmF hW | exact va_Nw.warmF hW h1 | exact va_Nw.warmM hW h1 | cases h2
theorem zNw.same {u U : State} (e : u.vm = U.vm) (h : zNw u) : zNw U := by
  intro w hw
  have h1 := h w hw
  have h2 := (List.mem_filter.mp hw).2
  cases w <;> first | exact va_Nw.same rfl e h1 | cases h2
/-- the static tables: 9000 on -/
def zTn : Nat → String
  | 0 => "TRAIT_LEAST"
  | 1 => "TRAIT_MOST"
  | 2 => "MARK_LEAST"
  | _ => "MARK_MOST"
def zTl : Nat → Nat
  | 0 => 5
  | 1 => 5
  | 2 => 4
  | _ => 4
def zTf : Nat → Nat → Int32
  | 0, 0 => 5
  | 0, _ => 0
  | 1, 0 => 100
  | 1, 1 => 30
  | 1, 2 => 200
  | 1, 3 => 99
  | 1, _ => 9
  | 2, 1 => 1
  | 2, _ => 0
  | _, 0 => 1
  | _, 1 => 20
  | _, 2 => 9
  | _, _ => 20
def zT (ρ : Nat → Nat) (A : Nat → Prop) (U : State) (H : Heap) : Prop := ∀ i : Nat, i < 4 → va_Z "OffsetChains" (zTn i) "[I" (.ref (ρ (9000 + i))) A U H ∧ va_T .int (ρ (9000 + i)) (zTl i) (fun j => .int (zTf i j)) A U H
/-- a method: name, code, locals, what it returns -/
abbrev zU : Type := MethodName × ByteArray × Nat × Option FieldType
def zRel (mc n : Nat) (ρ ρ' : Nat → Nat) : Prop := (mc = 0 → ρ' = ρ) ∧ ∀ k : Nat, (k < n ∨ 9000 ≤ k) → ρ' k = ρ k
theorem zRel.rf {mc n : Nat} {ρ : Nat → Nat} : zRel mc n ρ ρ := ⟨fun _ => rfl, fun _ _ => rfl⟩
def zR (mc ms d : Nat) : Room := { frames := d, cells := mc, slots := ms, locals := 43 * d }
def zL (nL : Nat) (ρ : Nat → Nat) (ls : Array Slot) (L : List (Option Value)) : Prop := ls.size = nL ∧ lv_wf ls ∧ ∀ (i : Nat) (v : Value), L[i]? = some (some v) → ls[i]? = some (.val (zV ρ v))
def zQ (D : va_G) (cI : FieldType → ClassId) (ρ0 : Nat → Nat) (n0 mc : Nat) (A : Nat → Prop) (Post : Option Value → zH → Prop) : Array Value → State → Outcome → State → Prop := fun _ st oc t =>
  (∃ (r : Option Value) (h' : zH) (ρ' : Nat → Nat), Post r h' ∧ oc = .returned (r.map (zV ρ')) ∧ zRel mc n0 ρ0 ρ' ∧ n0 ≤ h'.length ∧ va_P D vwCl (zw cI ρ' h') t.heap ∧ va_D A (zw cI ρ' h')) ∧ va_F A st t
def zCx (μ : zU) (p : Program) (s : State) (m : MethodId) (args : Array Value) (meth : Method) (c : Code) (D : va_G) (cI : FieldType → ClassId) (A : Nat → Prop) : Prop :=
  p.tables.exec = Jvm.exec ∧ c.code = μ.2.1 ∧ c.maxLocals = μ.2.2.1 ∧ meth.sig.returnType = μ.2.2.2 ∧ meth.locks = false ∧ meth.name = μ.1.name ∧ s.vm.findClass μ.1.cls = some m.cls ∧ (∀ w ∈ zWd, w.before args s = true) ∧ zNw s ∧ va_K D vwCl (zTys cI) s ∧ ∀ q : Nat, s.heap.size ≤ q → A q
def zSt (μ : zU) (D : va_G) (cI : FieldType → ClassId) (A : Nat → Prop) (s : State) (h : zH) (L : List (Option Value)) (ρ : Nat → Nat) (H : Heap) (locs : List Loc) (ls : Array Slot) : Prop :=
  va_P D vwCl (zw cI ρ h) H ∧ va_D A (zw cI ρ h) ∧ va_S A s.heap H locs ∧ zL μ.2.2.1 ρ ls L ∧ zT ρ A s s.heap
/-- from pc on, with locals L, operands st and world h, the method comes to its end, with Post -/
def Z (mc ms d : Nat) (μ : zU) (pc : Nat) (L : List (Option Value)) (st : List Value) (h : zH) (kc ks : Nat) (Post : Option Value → zH → Prop) : Prop :=
  ∀ (p : Program) (l : Launch) (e : Env) (s : State) (m : MethodId) (args : Array Value) (below : List Frame) (meth : Method) (c : Code) (D : va_G) (cI : FieldType → ClassId) (A : Nat → Prop) (ρ0 : Nat → Nat) (n0 : Nat),
    zCx μ p s m args meth c D cI A → n0 ≤ h.length → ∀ (ρ : Nat → Nat) (H : Heap) (locs : List Loc) (ls : Array Slot), zRel mc n0 ρ0 ρ → zSt μ D cI A s h L ρ H locs ls →
      W p l e (zR mc ms d) s m args below meth c H locs kc ks (MQ below (zQ D cI ρ0 n0 mc A Post) args s mc ms A) (F0 m pc ls (st.map (zV ρ)))
/-- a method's contract -/
def zMet (mc ms d : Nat) (μ : zU) (avs : List Value) (h0 : zH) (Post : Option Value → zH → Prop) : Prop :=
  ∀ (l : Launch) (D : va_G) (cI : FieldType → ClassId) (ρ0 : Nat → Nat) (sz : Nat), Met l μ.1 (.code μ.1 μ.2.1 μ.2.2.1 μ.2.2.2 :: zWd) (zR mc ms d)
    (va_Pc (avs.map (zV ρ0)) (fun U => U.heap.size = sz ∧ va_P D vwCl (zw cI ρ0 h0) U.heap ∧ va_K D vwCl (zTys cI) U ∧ va_D (fun _ => True) (zw cI ρ0 h0) ∧ zNw U ∧ zT ρ0 (va_A (zw cI ρ0 h0) sz) U U.heap))
    (zQ D cI ρ0 h0.length mc (va_A (zw cI ρ0 h0) sz) Post) mc ms (va_A (zw cI ρ0 h0) sz)
def zC (mc ms hd : Nat) (μ : zU) (avs : List Value) (h0 : zH) (Post : Option Value → zH → Prop) : Prop := ∀ d : Nat, hd ≤ d → zMet mc ms d μ avs h0 Post
def zLk (l : List (Nat × Value)) (i : Nat) : Option Value := (l.find? (fun q => q.1 == i)).map (fun q => q.2)
/-- the locals at the entry -/
def zEnt (avs : List Value) (n : Nat) : List (Option Value) := (List.range n).map (zLk (lv_args 0 avs))
theorem zLk_in {l : List (Nat × Value)} {i : Nat} {v : Value} (h : zLk l i = some v) : (i, v) ∈ l := by
  unfold zLk at h
  cases hf : l.find? (fun q => q.1 == i) with
  | none => rw [hf] at h; cases h
  | some q =>
    rw [hf] at h
    have h1 := List.mem_of_find?_eq_some hf
    have h2 := List.find?_some hf
    cases h
    have h3 : q.1 = i := by simpa using h2
    rw [← h3]
    exact h1
theorem zArgs (ρ : Nat → Nat) : ∀ (avs : List Value) (k : Nat), lv_args k (avs.map (zV ρ)) = (lv_args k avs).map (fun q => (q.1, zV ρ q.2))
  | [], _ => rfl
  | v :: vs, k => by
    show (k, zV ρ v) :: lv_args (if (zV ρ v).category = 2 then k + 2 else k + 1) (vs.map (zV ρ)) = _
    rw [zV_cat, zArgs ρ vs]
    rfl
theorem zSl (ρ : Nat → Nat) (avs : List Value) : (lg_sl (avs.map (zV ρ))).length = (lg_sl avs).length := by
  unfold lg_sl
  induction avs with
  | nil => rfl
  | cons v vs ih =>
    simp only [List.map_cons, List.flatMap_cons, List.length_append, ih, zV_cat]
    split <;> rfl
theorem zL_ent {nL : Nat} {ρ : Nat → Nat} {avs : List Value} {ls : Array Slot} (h : lv_has ls nL (lv_args 0 (avs.map (zV ρ)))) : zL nL ρ ls (zEnt avs nL) := by
  refine ⟨h.1, h.2.1, fun i v hv => ?_⟩
  rw [zEnt, List.getElem?_map] at hv
  cases hr : (List.range nL)[i]? with
  | none => rw [hr] at hv; cases hv
  | some j =>
    rw [hr] at hv
    have hj : j = i := by
      have := List.getElem?_eq_some_iff.mp hr
      obtain ⟨h1, h2⟩ := this
      simpa using h2.symm
    subst hj
    have h1 : zLk (lv_args 0 avs) j = some v := Option.some.inj hv
    have h2 := zLk_in h1
    have h3 : (j, zV ρ v) ∈ lv_args 0 (avs.map (zV ρ)) := by
      rw [zArgs]
      exact List.mem_map.mpr ⟨(j, v), h2, rfl⟩
    exact h.2.2 _ h3
set_option maxHeartbeats 1000000 in
theorem zC.of {mc ms hd : Nat} {μ : zU} {avs : List Value} {h0 : zH} {Post : Option Value → zH → Prop} (hpl : plainName μ.1.cls = true) (hsl : (lg_sl avs).length ≤ μ.2.2.1)
    (k : ∀ d : Nat, hd ≤ d → Z mc ms d μ 0 (zEnt avs μ.2.2.1) [] h0 0 0 Post) : zC mc ms hd μ avs h0 Post := by
  intro d hd' l D cI ρ0 sz
  refine Met.ofW (cc := μ.2.1) (maxL := μ.2.2.1) (ret := μ.2.2.2) hpl rfl ?_
  intro p e s m args below meth c s₁ B hml hv
  obtain ⟨rfl, hsz, hP, hK, hD0, hN, hT⟩ := hv
  have hts0 := atoms_spec (ws := .code μ.1 μ.2.1 μ.2.2.1 μ.2.2.2 :: zWd) B.pre
  have hown : s.vm.findClass μ.1.cls = some m.cls := findClass_of_methodNamed B.named
  have hin : meth.name = μ.1.name := (name_of_methodNamed B.named B.method).1
  subst hsz
  have hD := hD0.self (sz := s.heap.size)
  have hl := lv_entry (avs.map (zV ρ0)) (n := μ.2.2.1) (by rw [zSl]; exact hsl)
  rw [lg_entry_eq]
  exact k d hd' p l e s m _ below meth c D cI _ ρ0 h0.length ⟨B.exec, B.bytes, hml, B.returns, B.notSynchronized, hin, hown, fun w hw => hts0 w (List.mem_cons_of_mem _ hw), hN, hK, fun q hq => Or.inr hq⟩ (Nat.le_refl _) ρ0 s.heap [] _ zRel.rf ⟨hP, hD, va_S.rf, zL_ent hl, hT⟩
end ZK
end
section
section ZI
variable {mc ms d : Nat} {μ : zU} {pc : Nat} {L : List (Option Value)} {st : List Value} {h : zH} {kc ks : Nat} {Post : Option Value → zH → Prop}
theorem Z.pure {pc' : Nat} {st' : List Value} (f : ∀ {p : Program} {l : Launch} {e : Env} {s : State} {m : MethodId} {args : Array Value} {below : List Frame} {meth : Method} {c : Code} {H : Heap} {locs : List Loc} {ls : Array Slot} {ρ : Nat → Nat} {Q : State → Prop}, p.tables.exec = Jvm.exec → c.code = μ.2.1 → s.vm.findClass μ.1.cls = some m.cls → (∀ w ∈ zWd, w.before args s = true) →
      W p l e (zR mc ms d) s m args below meth c H locs kc ks Q (F0 m pc' ls (st'.map (zV ρ))) → W p l e (zR mc ms d) s m args below meth c H locs kc ks Q (F0 m pc ls (st.map (zV ρ))))
    (k : Z mc ms d μ pc' L st' h kc ks Post) : Z mc ms d μ pc L st h kc ks Post := by
  intro p l e s m args below meth c D cI A ρ0 n0 hC hn ρ H locs ls hR hS
  exact f hC.1 hC.2.1 hC.2.2.2.2.2.2.1 hC.2.2.2.2.2.2.2.1 (k p l e s m args below meth c D cI A ρ0 n0 hC hn ρ H locs ls hR hS)
theorem Z.br {c1 : Prop} {pc1 pc2 : Nat} {st' : List Value} (f : ∀ {p : Program} {l : Launch} {e : Env} {s : State} {m : MethodId} {args : Array Value} {below : List Frame} {meth : Method} {c : Code} {H : Heap} {locs : List Loc} {ls : Array Slot} {ρ : Nat → Nat} {Q : State → Prop}, p.tables.exec = Jvm.exec → c.code = μ.2.1 →
      (c1 → W p l e (zR mc ms d) s m args below meth c H locs kc ks Q (F0 m pc1 ls (st'.map (zV ρ)))) → (¬ c1 → W p l e (zR mc ms d) s m args below meth c H locs kc ks Q (F0 m pc2 ls (st'.map (zV ρ)))) → W p l e (zR mc ms d) s m args below meth c H locs kc ks Q (F0 m pc ls (st.map (zV ρ))))
    (k1 : c1 → Z mc ms d μ pc1 L st' h kc ks Post) (k2 : ¬ c1 → Z mc ms d μ pc2 L st' h kc ks Post) : Z mc ms d μ pc L st h kc ks Post := by
  intro p l e s m args below meth c D cI A ρ0 n0 hC hn ρ H locs ls hR hS
  exact f hC.1 hC.2.1 (fun q => k1 q p l e s m args below meth c D cI A ρ0 n0 hC hn ρ H locs ls hR hS) (fun q => k2 q p l e s m args below meth c D cI A ρ0 n0 hC hn ρ H locs ls hR hS)
/-- the locals' reading: a value that is known -/
theorem Z.lds {pc' : Nat} {i : Nat} {v : Value} (f : ∀ {p : Program} {l : Launch} {e : Env} {s : State} {m : MethodId} {args : Array Value} {below : List Frame} {meth : Method} {c : Code} {H : Heap} {locs : List Loc} {ls : Array Slot} {ρ : Nat → Nat} {Q : State → Prop}, p.tables.exec = Jvm.exec → c.code = μ.2.1 → ls[i]? = some (.val (zV ρ v)) →
      W p l e (zR mc ms d) s m args below meth c H locs kc ks Q (F0 m pc' ls ((v :: st).map (zV ρ))) → W p l e (zR mc ms d) s m args below meth c H locs kc ks Q (F0 m pc ls (st.map (zV ρ))))
    (hl : L[i]? = some (some v)) (k : Z mc ms d μ pc' L (v :: st) h kc ks Post) : Z mc ms d μ pc L st h kc ks Post := by
  intro p l e s m args below meth c D cI A ρ0 n0 hC hn ρ H locs ls hR hS
  exact f hC.1 hC.2.1 (hS.2.2.2.1.2.2 i v hl) (k p l e s m args below meth c D cI A ρ0 n0 hC hn ρ H locs ls hR hS)
def zNl (L : List (Option Value)) (i : Nat) : Bool := match i with
  | 0 => true
  | j + 1 => match L[j]? with
    | some (some v) => v.category == 1
    | _ => true
def zAs (ρ : Nat → Nat) (L : List (Option Value)) : List (Nat × Value) := (List.range L.length).filterMap (fun i => match L[i]? with
  | some (some v) => some (i, zV ρ v)
  | _ => none)
theorem zAs_in {ρ : Nat → Nat} {L : List (Option Value)} {i : Nat} {v : Value} (h : L[i]? = some (some v)) : (i, zV ρ v) ∈ zAs ρ L := by
  refine List.mem_filterMap.mpr ⟨i, List.mem_range.mpr (List.getElem?_eq_some_iff.mp h).1, ?_⟩
  rw [h]
theorem zAs_of {ρ : Nat → Nat} {L : List (Option Value)} {q : Nat × Value} (h : q ∈ zAs ρ L) : ∃ v, L[q.1]? = some (some v) ∧ q.2 = zV ρ v := by
  obtain ⟨i, -, hi⟩ := List.mem_filterMap.mp h
  split at hi
  · rename_i v hv
    cases hi
    exact ⟨v, hv, rfl⟩
  · cases hi
theorem zL_has {nL : Nat} {ρ : Nat → Nat} {ls : Array Slot} {L : List (Option Value)} (h : zL nL ρ ls L) : lv_has ls nL (zAs ρ L) := by
  refine ⟨h.1, h.2.1, fun q hq => ?_⟩
  obtain ⟨v, h1, h2⟩ := zAs_of hq
  rw [h2]
  exact h.2.2 _ _ h1
theorem zNl_use {L : List (Option Value)} {i j : Nat} {v : Value} (h : zNl L i = true) (hj : L[j]? = some (some v)) (e : j + 1 = i) : (v.category == 2) = false := by
  subst e
  unfold zNl at h
  dsimp only at h
  rw [hj] at h
  have : v.category = 1 := by simpa using h
  rw [this]
  rfl
theorem zL_set1 {nL : Nat} {ρ : Nat → Nat} {ls' : Array Slot} {L : List (Option Value)} {i : Nat} {v : Value} (hn : zNl L i = true) (h : lv_has ls' nL ((i, zV ρ v) :: (zAs ρ L).filter (fun q => !(q.1 == i) && !(q.1 + 1 == i && q.2.category == 2)))) : zL nL ρ ls' (L.set i (some v)) := by
  refine ⟨h.1, h.2.1, fun j u hj => ?_⟩
  by_cases e : i = j
  · subst e
    have hl : i < L.length := by
      have := (List.getElem?_eq_some_iff.mp hj).1
      simpa using this
    rw [List.getElem?_set_self hl] at hj
    cases hj
    exact h.2.2 _ List.mem_cons_self
  · rw [List.getElem?_set_ne e] at hj
    refine h.2.2 (j, zV ρ u) (List.mem_cons_of_mem _ (List.mem_filter.mpr ⟨zAs_in hj, ?_⟩))
    have e2 : (j == i) = false := by simpa using fun q => e q.symm
    show (!(j == i) && !(j + 1 == i && (zV ρ u).category == 2)) = true
    rw [e2, zV_cat]
    by_cases e3 : j + 1 = i
    · rw [zNl_use hn hj e3]
      simp
    · simp [e3]
theorem zL_set2 {nL : Nat} {ρ : Nat → Nat} {ls' : Array Slot} {L : List (Option Value)} {i : Nat} {v : Value} (hn : zNl L i = true) (h : lv_has ls' nL ((i, zV ρ v) :: (zAs ρ L).filter (fun q => !(q.1 == i) && (!(q.1 == i + 1) && !(q.1 + 1 == i && q.2.category == 2))))) : zL nL ρ ls' ((L.set i (some v)).set (i + 1) none) := by
  refine ⟨h.1, h.2.1, fun j u hj => ?_⟩
  by_cases e0 : i + 1 = j
  · subst e0
    rw [List.getElem?_set] at hj
    split at hj
    · split at hj <;> cases hj
    · exact absurd rfl ‹_›
  · rw [List.getElem?_set_ne e0] at hj
    by_cases e : i = j
    · subst e
      have hl : i < L.length := by
        have := (List.getElem?_eq_some_iff.mp hj).1
        simpa using this
      rw [List.getElem?_set_self hl] at hj
      cases hj
      exact h.2.2 _ List.mem_cons_self
    · rw [List.getElem?_set_ne e] at hj
      refine h.2.2 (j, zV ρ u) (List.mem_cons_of_mem _ (List.mem_filter.mpr ⟨zAs_in hj, ?_⟩))
      have e2 : (j == i) = false := by simpa using fun q => e q.symm
      have e4 : (j == i + 1) = false := by simpa using fun q => e0 q.symm
      show (!(j == i) && (!(j == i + 1) && !(j + 1 == i && (zV ρ u).category == 2))) = true
      rw [e2, e4, zV_cat]
      by_cases e3 : j + 1 = i
      · rw [zNl_use hn hj e3]
        simp
      · simp [e3]
/-- a store into the locals -/
theorem Z.sto {pc' : Nat} {L' : List (Option Value)} {st' : List Value} (f : ∀ {p : Program} {l : Launch} {e : Env} {s : State} {m : MethodId} {args : Array Value} {below : List Frame} {meth : Method} {c : Code} {H : Heap} {locs : List Loc} {ls : Array Slot} {ρ : Nat → Nat} {Q : State → Prop}, p.tables.exec = Jvm.exec → c.code = μ.2.1 → zL μ.2.2.1 ρ ls L →
      (∀ ls' : Array Slot, zL μ.2.2.1 ρ ls' L' → W p l e (zR mc ms d) s m args below meth c H locs kc ks Q (F0 m pc' ls' (st'.map (zV ρ)))) → W p l e (zR mc ms d) s m args below meth c H locs kc ks Q (F0 m pc ls (st.map (zV ρ))))
    (k : Z mc ms d μ pc' L' st' h kc ks Post) : Z mc ms d μ pc L st h kc ks Post := by
  intro p l e s m args below meth c D cI A ρ0 n0 hC hn ρ H locs ls hR hS
  exact f hC.1 hC.2.1 hS.2.2.2.1 (fun ls' hl' => k p l e s m args below meth c D cI A ρ0 n0 hC hn ρ H locs ls' hR ⟨hS.1, hS.2.1, hS.2.2.1, hl', hS.2.2.2.2⟩)
theorem Z.iadd {x y : Int32} (hdg : decode μ.2.1 pc = .ok (.iadd, 1))  (k : Z mc ms d μ (pc + 1) L (.int (x + y) :: st) h kc ks Post) : Z mc ms d μ pc L (.int y :: .int x :: st) h kc ks Post := Z.pure (fun hx hb ho ht w => lv_iadd hx hb hdg w) k
theorem Z.isub {x y : Int32} (hdg : decode μ.2.1 pc = .ok (.isub, 1))  (k : Z mc ms d μ (pc + 1) L (.int (x - y) :: st) h kc ks Post) : Z mc ms d μ pc L (.int y :: .int x :: st) h kc ks Post := Z.pure (fun hx hb ho ht w => lv_isub hx hb hdg w) k
theorem Z.imul {x y : Int32} (hdg : decode μ.2.1 pc = .ok (.imul, 1))  (k : Z mc ms d μ (pc + 1) L (.int (x * y) :: st) h kc ks Post) : Z mc ms d μ pc L (.int y :: .int x :: st) h kc ks Post := Z.pure (fun hx hb ho ht w => lv_imul hx hb hdg w) k
theorem Z.iand {x y : Int32} (hdg : decode μ.2.1 pc = .ok (.iand, 1))  (k : Z mc ms d μ (pc + 1) L (.int (x &&& y) :: st) h kc ks Post) : Z mc ms d μ pc L (.int y :: .int x :: st) h kc ks Post := Z.pure (fun hx hb ho ht w => lv_iand hx hb hdg w) k
theorem Z.ior {x y : Int32} (hdg : decode μ.2.1 pc = .ok (.ior, 1))  (k : Z mc ms d μ (pc + 1) L (.int (x ||| y) :: st) h kc ks Post) : Z mc ms d μ pc L (.int y :: .int x :: st) h kc ks Post := Z.pure (fun hx hb ho ht w => lv_ior hx hb hdg w) k
theorem Z.ixor {x y : Int32} (hdg : decode μ.2.1 pc = .ok (.ixor, 1))  (k : Z mc ms d μ (pc + 1) L (.int (x ^^^ y) :: st) h kc ks Post) : Z mc ms d μ pc L (.int y :: .int x :: st) h kc ks Post := Z.pure (fun hx hb ho ht w => lv_ixor hx hb hdg w) k
theorem Z.ishl {x y : Int32} (hdg : decode μ.2.1 pc = .ok (.ishl, 1))  (k : Z mc ms d μ (pc + 1) L (.int (x <<< (y &&& 31)) :: st) h kc ks Post) : Z mc ms d μ pc L (.int y :: .int x :: st) h kc ks Post := Z.pure (fun hx hb ho ht w => lv_ishl hx hb hdg w) k
theorem Z.ishr {x y : Int32} (hdg : decode μ.2.1 pc = .ok (.ishr, 1))  (k : Z mc ms d μ (pc + 1) L (.int (x >>> (y &&& 31)) :: st) h kc ks Post) : Z mc ms d μ pc L (.int y :: .int x :: st) h kc ks Post := Z.pure (fun hx hb ho ht w => lv_ishr hx hb hdg w) k
theorem Z.iushr {x y : Int32} (hdg : decode μ.2.1 pc = .ok (.iushr, 1))  (k : Z mc ms d μ (pc + 1) L (.int (x.toUInt32 >>> (y.toUInt32 &&& Int32.toUInt32 31)).toInt32 :: st) h kc ks Post) : Z mc ms d μ pc L (.int y :: .int x :: st) h kc ks Post := Z.pure (fun hx hb ho ht w => lv_iushr hx hb hdg rfl w) k
theorem Z.idiv {x y : Int32} (hdg : decode μ.2.1 pc = .ok (.idiv, 1)) (hne : ¬ y = 0) (k : Z mc ms d μ (pc + 1) L (.int (x / y) :: st) h kc ks Post) : Z mc ms d μ pc L (.int y :: .int x :: st) h kc ks Post := Z.pure (fun hx hb ho ht w => lv_idiv hx hb hdg hne w) k
theorem Z.irem {x y : Int32} (hdg : decode μ.2.1 pc = .ok (.irem, 1)) (hne : ¬ y = 0) (k : Z mc ms d μ (pc + 1) L (.int (x - x / y * y) :: st) h kc ks Post) : Z mc ms d μ pc L (.int y :: .int x :: st) h kc ks Post := Z.pure (fun hx hb ho ht w => lv_irem hx hb hdg hne w) k
theorem Z.ladd {x y : Int64} (hdg : decode μ.2.1 pc = .ok (.ladd, 1))  (k : Z mc ms d μ (pc + 1) L (.long (x + y) :: st) h kc ks Post) : Z mc ms d μ pc L (.long y :: .long x :: st) h kc ks Post := Z.pure (fun hx hb ho ht w => lv_ladd hx hb hdg w) k
theorem Z.lsub {x y : Int64} (hdg : decode μ.2.1 pc = .ok (.lsub, 1))  (k : Z mc ms d μ (pc + 1) L (.long (x - y) :: st) h kc ks Post) : Z mc ms d μ pc L (.long y :: .long x :: st) h kc ks Post := Z.pure (fun hx hb ho ht w => lv_lsub hx hb hdg w) k
theorem Z.lmul {x y : Int64} (hdg : decode μ.2.1 pc = .ok (.lmul, 1))  (k : Z mc ms d μ (pc + 1) L (.long (x * y) :: st) h kc ks Post) : Z mc ms d μ pc L (.long y :: .long x :: st) h kc ks Post := Z.pure (fun hx hb ho ht w => lv_lmul hx hb hdg w) k
theorem Z.ldiv {x y : Int64} (hdg : decode μ.2.1 pc = .ok (.ldiv, 1)) (hne : ¬ y = 0) (k : Z mc ms d μ (pc + 1) L (.long (x / y) :: st) h kc ks Post) : Z mc ms d μ pc L (.long y :: .long x :: st) h kc ks Post := Z.pure (fun hx hb ho ht w => lv_ldiv hx hb hdg hne w) k
theorem Z.lrem {x y : Int64} (hdg : decode μ.2.1 pc = .ok (.lrem, 1)) (hne : ¬ y = 0) (k : Z mc ms d μ (pc + 1) L (.long (x - x / y * y) :: st) h kc ks Post) : Z mc ms d μ pc L (.long y :: .long x :: st) h kc ks Post := Z.pure (fun hx hb ho ht w => lv_lrem hx hb hdg hne w) k
theorem Z.lcmp {x y : Int64} (hdg : decode μ.2.1 pc = .ok (.lcmp, 1))  (k : Z mc ms d μ (pc + 1) L (.int (lg_cmp x y) :: st) h kc ks Post) : Z mc ms d μ pc L (.long y :: .long x :: st) h kc ks Post := Z.pure (fun hx hb ho ht w => W.lcmp hx hb hdg w) k
theorem Z.i2l {x : Int32} (hdg : decode μ.2.1 pc = .ok (.i2l, 1))  (k : Z mc ms d μ (pc + 1) L (.long x.toInt64 :: st) h kc ks Post) : Z mc ms d μ pc L (.int x :: st) h kc ks Post := Z.pure (fun hx hb ho ht w => lv_i2l hx hb hdg rfl w) k
theorem Z.l2i {x : Int64} (hdg : decode μ.2.1 pc = .ok (.l2i, 1))  (k : Z mc ms d μ (pc + 1) L (.int x.toInt32 :: st) h kc ks Post) : Z mc ms d μ pc L (.long x :: st) h kc ks Post := Z.pure (fun hx hb ho ht w => lv_l2i hx hb hdg rfl w) k
theorem Z.i2s {x : Int32} (hdg : decode μ.2.1 pc = .ok (.i2s, 1))  (k : Z mc ms d μ (pc + 1) L (.int x.toInt16.toInt32 :: st) h kc ks Post) : Z mc ms d μ pc L (.int x :: st) h kc ks Post := Z.pure (fun hx hb ho ht w => lv_i2s hx hb hdg rfl w) k
theorem Z.dup {v : Value} (hdg : decode μ.2.1 pc = .ok (.dup, 1)) (hv : v.category = 1) (k : Z mc ms d μ (pc + 1) L (v :: v :: st) h kc ks Post) : Z mc ms d μ pc L (v :: st) h kc ks Post := Z.pure (fun hx hb ho ht w => lv_dup hx hb hdg (by rw [zV_cat]; exact hv) w) k
theorem Z.dup2 {v u : Value} (hdg : decode μ.2.1 pc = .ok (.dup2, 1)) (hv : v.category = 1) (hu : u.category = 1) (k : Z mc ms d μ (pc + 1) L (v :: u :: v :: u :: st) h kc ks Post) : Z mc ms d μ pc L (v :: u :: st) h kc ks Post := Z.pure (fun hx hb ho ht w => lv_dup2_11 hx hb hdg (by rw [zV_cat]; exact hv) (by rw [zV_cat]; exact hu) w) k
theorem Z.pop {v : Value} (hdg : decode μ.2.1 pc = .ok (.pop, 1)) (hv : v.category = 1) (k : Z mc ms d μ (pc + 1) L (st) h kc ks Post) : Z mc ms d μ pc L (v :: st) h kc ks Post := Z.pure (fun hx hb ho ht w => lv_pop hx hb hdg (by rw [zV_cat]; exact hv) w) k
theorem Z.iconst {n : Int} (v : Int32) (hdg : decode μ.2.1 pc = .ok (.iconst n, 1)) (hv : Int32.ofInt n = v) (k : Z mc ms d μ (pc + 1) L (.int v :: st) h kc ks Post) : Z mc ms d μ pc L st h kc ks Post := Z.pure (fun hx hb ho ht w => lv_iconst hx hb hdg hv w) k
theorem Z.bipush {n : Int} (v : Int32) (hdg : decode μ.2.1 pc = .ok (.bipush n, 2)) (hv : (Int8.ofInt n).toInt32 = v) (k : Z mc ms d μ (pc + 2) L (.int v :: st) h kc ks Post) : Z mc ms d μ pc L st h kc ks Post := Z.pure (fun hx hb ho ht w => lv_bipush hx hb hdg hv w) k
theorem Z.sipush {n : Int} (v : Int32) (hdg : decode μ.2.1 pc = .ok (.sipush n, 3)) (hv : (Int16.ofInt n).toInt32 = v) (k : Z mc ms d μ (pc + 3) L (.int v :: st) h kc ks Post) : Z mc ms d μ pc L st h kc ks Post := Z.pure (fun hx hb ho ht w => lv_sipush hx hb hdg hv w) k
theorem Z.lconst {n : Fin 2} (v : Int64) (hdg : decode μ.2.1 pc = .ok (.lconst n, 1)) (hv : Int64.ofNat (n : Nat) = v) (k : Z mc ms d μ (pc + 1) L (.long v :: st) h kc ks Post) : Z mc ms d μ pc L st h kc ks Post := Z.pure (fun hx hb ho ht w => lv_lconst hx hb hdg hv w) k
theorem Z.ldc {index : Nat} (v : Int32) (hdg : decode μ.2.1 pc = .ok (.ldc index, 2)) (hw : Cond.constant μ.1.cls index v ∈ zWd) (k : Z mc ms d μ (pc + 2) L (.int v :: st) h kc ks Post) : Z mc ms d μ pc L st h kc ks Post := Z.pure (fun hx hb ho ht w => lv_ldc hx hb ho (ht _ hw) hdg w) k
theorem Z.ldc2 {index : Nat} (v : Int64) (hdg : decode μ.2.1 pc = .ok (.ldc2_w index, 3)) (hw : Cond.constantLong μ.1.cls index v ∈ zWd) (k : Z mc ms d μ (pc + 3) L (.long v :: st) h kc ks Post) : Z mc ms d μ pc L st h kc ks Post := Z.pure (fun hx hb ho ht w => lv_ldc2 hx hb ho (ht _ hw) hdg w) k
theorem Z.goto {off : Int} (tgt : Nat) (hdg : decode μ.2.1 pc = .ok (.goto off, 3)) (ht : (pc : Int) + off = (tgt : Int)) (k : Z mc ms d μ tgt L st h kc ks Post) : Z mc ms d μ pc L st h kc ks Post := Z.pure (fun hx hb _ _ w => lv_goto hx hb hdg ht w) k
theorem Z.tin {dflt lo hi : Int} {offs : Array Int} {len : Nat} {x : Int32} {off : Int} (tgt : Nat) (hdg : decode μ.2.1 pc = .ok (.tableswitch dflt lo hi offs, len)) (h1 : ¬ x.toInt < lo) (h2 : ¬ hi < x.toInt) (ho : offs[(x.toInt - lo).toNat]? = some off) (ht : (pc : Int) + off = (tgt : Int)) (k : Z mc ms d μ tgt L st h kc ks Post) : Z mc ms d μ pc L (.int x :: st) h kc ks Post := Z.pure (fun hx hb _ _ w => lv_tableIn hx hb hdg h1 h2 ho ht w) k
theorem Z.tout {dflt lo hi : Int} {offs : Array Int} {len : Nat} {x : Int32} (tgt : Nat) (hdg : decode μ.2.1 pc = .ok (.tableswitch dflt lo hi offs, len)) (h1 : x.toInt < lo ∨ hi < x.toInt) (ht : (pc : Int) + dflt = (tgt : Int)) (k : Z mc ms d μ tgt L st h kc ks Post) : Z mc ms d μ pc L (.int x :: st) h kc ks Post := Z.pure (fun hx hb _ _ w => lv_tableOut hx hb hdg h1 ht w) k
theorem Z.if_eq {x : Int32} {off : Int} (tgt : Nat) (hdg : decode μ.2.1 pc = .ok (.ifCond .eq off, 3)) (ht : (pc : Int) + off = (tgt : Int)) (k1 : x = 0 → Z mc ms d μ tgt L st h kc ks Post) (k2 : ¬ (x = 0) → Z mc ms d μ (pc + 3) L st h kc ks Post) : Z mc ms d μ pc L (.int x :: st) h kc ks Post := Z.br (fun hx hb w1 w2 => lv_if_eq hx hb hdg ht w1 w2) k1 k2
theorem Z.icmp_eq {x y : Int32} {off : Int} (tgt : Nat) (hdg : decode μ.2.1 pc = .ok (.if_icmp .eq off, 3)) (ht : (pc : Int) + off = (tgt : Int)) (k1 : x = y → Z mc ms d μ tgt L st h kc ks Post) (k2 : ¬ (x = y) → Z mc ms d μ (pc + 3) L st h kc ks Post) : Z mc ms d μ pc L (.int y :: .int x :: st) h kc ks Post := Z.br (fun hx hb w1 w2 => lv_icmp_eq hx hb hdg ht w1 w2) k1 k2
theorem Z.if_ne {x : Int32} {off : Int} (tgt : Nat) (hdg : decode μ.2.1 pc = .ok (.ifCond .ne off, 3)) (ht : (pc : Int) + off = (tgt : Int)) (k1 : ¬ x = 0 → Z mc ms d μ tgt L st h kc ks Post) (k2 : x = 0 → Z mc ms d μ (pc + 3) L st h kc ks Post) : Z mc ms d μ pc L (.int x :: st) h kc ks Post := Z.br (c1 := x = 0) (fun hx hb w1 w2 => lv_if_ne hx hb hdg ht w2 w1) k2 k1
theorem Z.icmp_ne {x y : Int32} {off : Int} (tgt : Nat) (hdg : decode μ.2.1 pc = .ok (.if_icmp .ne off, 3)) (ht : (pc : Int) + off = (tgt : Int)) (k1 : ¬ x = y → Z mc ms d μ tgt L st h kc ks Post) (k2 : x = y → Z mc ms d μ (pc + 3) L st h kc ks Post) : Z mc ms d μ pc L (.int y :: .int x :: st) h kc ks Post := Z.br (c1 := x = y) (fun hx hb w1 w2 => lv_icmp_ne hx hb hdg ht w2 w1) k2 k1
theorem Z.if_lt {x : Int32} {off : Int} (tgt : Nat) (hdg : decode μ.2.1 pc = .ok (.ifCond .lt off, 3)) (ht : (pc : Int) + off = (tgt : Int)) (k1 : x < 0 → Z mc ms d μ tgt L st h kc ks Post) (k2 : ¬ (x < 0) → Z mc ms d μ (pc + 3) L st h kc ks Post) : Z mc ms d μ pc L (.int x :: st) h kc ks Post := Z.br (fun hx hb w1 w2 => lv_if_lt hx hb hdg ht w1 w2) k1 k2
theorem Z.icmp_lt {x y : Int32} {off : Int} (tgt : Nat) (hdg : decode μ.2.1 pc = .ok (.if_icmp .lt off, 3)) (ht : (pc : Int) + off = (tgt : Int)) (k1 : x < y → Z mc ms d μ tgt L st h kc ks Post) (k2 : ¬ (x < y) → Z mc ms d μ (pc + 3) L st h kc ks Post) : Z mc ms d μ pc L (.int y :: .int x :: st) h kc ks Post := Z.br (fun hx hb w1 w2 => lv_icmp_lt hx hb hdg ht w1 w2) k1 k2
theorem Z.if_ge {x : Int32} {off : Int} (tgt : Nat) (hdg : decode μ.2.1 pc = .ok (.ifCond .ge off, 3)) (ht : (pc : Int) + off = (tgt : Int)) (k1 : 0 ≤ x → Z mc ms d μ tgt L st h kc ks Post) (k2 : ¬ (0 ≤ x) → Z mc ms d μ (pc + 3) L st h kc ks Post) : Z mc ms d μ pc L (.int x :: st) h kc ks Post := Z.br (fun hx hb w1 w2 => lv_if_ge hx hb hdg ht w1 w2) k1 k2
theorem Z.icmp_ge {x y : Int32} {off : Int} (tgt : Nat) (hdg : decode μ.2.1 pc = .ok (.if_icmp .ge off, 3)) (ht : (pc : Int) + off = (tgt : Int)) (k1 : y ≤ x → Z mc ms d μ tgt L st h kc ks Post) (k2 : ¬ (y ≤ x) → Z mc ms d μ (pc + 3) L st h kc ks Post) : Z mc ms d μ pc L (.int y :: .int x :: st) h kc ks Post := Z.br (fun hx hb w1 w2 => lv_icmp_ge hx hb hdg ht w1 w2) k1 k2
theorem Z.if_gt {x : Int32} {off : Int} (tgt : Nat) (hdg : decode μ.2.1 pc = .ok (.ifCond .gt off, 3)) (ht : (pc : Int) + off = (tgt : Int)) (k1 : 0 < x → Z mc ms d μ tgt L st h kc ks Post) (k2 : ¬ (0 < x) → Z mc ms d μ (pc + 3) L st h kc ks Post) : Z mc ms d μ pc L (.int x :: st) h kc ks Post := Z.br (fun hx hb w1 w2 => lv_if_gt hx hb hdg ht w1 w2) k1 k2
theorem Z.icmp_gt {x y : Int32} {off : Int} (tgt : Nat) (hdg : decode μ.2.1 pc = .ok (.if_icmp .gt off, 3)) (ht : (pc : Int) + off = (tgt : Int)) (k1 : y < x → Z mc ms d μ tgt L st h kc ks Post) (k2 : ¬ (y < x) → Z mc ms d μ (pc + 3) L st h kc ks Post) : Z mc ms d μ pc L (.int y :: .int x :: st) h kc ks Post := Z.br (fun hx hb w1 w2 => lv_icmp_gt hx hb hdg ht w1 w2) k1 k2
theorem Z.if_le {x : Int32} {off : Int} (tgt : Nat) (hdg : decode μ.2.1 pc = .ok (.ifCond .le off, 3)) (ht : (pc : Int) + off = (tgt : Int)) (k1 : x ≤ 0 → Z mc ms d μ tgt L st h kc ks Post) (k2 : ¬ (x ≤ 0) → Z mc ms d μ (pc + 3) L st h kc ks Post) : Z mc ms d μ pc L (.int x :: st) h kc ks Post := Z.br (fun hx hb w1 w2 => lv_if_le hx hb hdg ht w1 w2) k1 k2
theorem Z.icmp_le {x y : Int32} {off : Int} (tgt : Nat) (hdg : decode μ.2.1 pc = .ok (.if_icmp .le off, 3)) (ht : (pc : Int) + off = (tgt : Int)) (k1 : x ≤ y → Z mc ms d μ tgt L st h kc ks Post) (k2 : ¬ (x ≤ y) → Z mc ms d μ (pc + 3) L st h kc ks Post) : Z mc ms d μ pc L (.int y :: .int x :: st) h kc ks Post := Z.br (fun hx hb w1 w2 => lv_icmp_le hx hb hdg ht w1 w2) k1 k2
theorem Z.iload_n {q : Fin 4} {x : Int32} (hdg : decode μ.2.1 pc = .ok (.iload_n q, 1)) (hl : L[(q : Nat)]? = some (some (.int x))) (k : Z mc ms d μ (pc + 1) L (.int x :: st) h kc ks Post) : Z mc ms d μ pc L st h kc ks Post := Z.lds (fun hx hb hv w => lv_iload_n hx hb hdg rfl hv w) hl k
theorem Z.iload {i : Nat} {x : Int32} (hdg : decode μ.2.1 pc = .ok (.iload i, 2)) (hl : L[i]? = some (some (.int x))) (k : Z mc ms d μ (pc + 2) L (.int x :: st) h kc ks Post) : Z mc ms d μ pc L st h kc ks Post := Z.lds (fun hx hb hv w => lv_iload hx hb hdg hv w) hl k
theorem Z.lload_n {q : Fin 4} {x : Int64} (hdg : decode μ.2.1 pc = .ok (.lload_n q, 1)) (hl : L[(q : Nat)]? = some (some (.long x))) (k : Z mc ms d μ (pc + 1) L (.long x :: st) h kc ks Post) : Z mc ms d μ pc L st h kc ks Post := Z.lds (fun hx hb hv w => lv_lload_n hx hb hdg rfl hv w) hl k
theorem Z.lload {i : Nat} {x : Int64} (hdg : decode μ.2.1 pc = .ok (.lload i, 2)) (hl : L[i]? = some (some (.long x))) (k : Z mc ms d μ (pc + 2) L (.long x :: st) h kc ks Post) : Z mc ms d μ pc L st h kc ks Post := Z.lds (fun hx hb hv w => lv_lload hx hb hdg hv w) hl k
theorem Z.aload_n {q : Fin 4} {x : Nat} (hdg : decode μ.2.1 pc = .ok (.aload_n q, 1)) (hl : L[(q : Nat)]? = some (some (.ref x))) (k : Z mc ms d μ (pc + 1) L (.ref x :: st) h kc ks Post) : Z mc ms d μ pc L st h kc ks Post := Z.lds (fun hx hb hv w => lv_aload_n hx hb hdg rfl hv w) hl k
theorem Z.aload {i : Nat} {x : Nat} (hdg : decode μ.2.1 pc = .ok (.aload i, 2)) (hl : L[i]? = some (some (.ref x))) (k : Z mc ms d μ (pc + 2) L (.ref x :: st) h kc ks Post) : Z mc ms d μ pc L st h kc ks Post := Z.lds (fun hx hb hv w => lv_aload hx hb hdg hv w) hl k
theorem Z.istore_n {q : Fin 4} {x : Int32} (hdg : decode μ.2.1 pc = .ok (.istore_n q, 1)) (hi : (q : Nat) < μ.2.2.1) (hn : zNl L q = true) (k : Z mc ms d μ (pc + 1) (L.set q (some (.int x))) st h kc ks Post) : Z mc ms d μ pc L (.int x :: st) h kc ks Post := Z.sto (fun hx hb hL w => lv_istore_n hx hb hdg rfl (zL_has hL) hi rfl (fun ls' hl' => w ls' (zL_set1 (v := .int x) hn hl'))) k
theorem Z.istore {i : Nat} {x : Int32} (hdg : decode μ.2.1 pc = .ok (.istore i, 2)) (hi : i < μ.2.2.1) (hn : zNl L i = true) (k : Z mc ms d μ (pc + 2) (L.set i (some (.int x))) st h kc ks Post) : Z mc ms d μ pc L (.int x :: st) h kc ks Post := Z.sto (fun hx hb hL w => lv_istore hx hb hdg (zL_has hL) hi rfl (fun ls' hl' => w ls' (zL_set1 (v := .int x) hn hl'))) k
theorem Z.astore_n {q : Fin 4} {x : Nat} (hdg : decode μ.2.1 pc = .ok (.astore_n q, 1)) (hi : (q : Nat) < μ.2.2.1) (hn : zNl L q = true) (k : Z mc ms d μ (pc + 1) (L.set q (some (.ref x))) st h kc ks Post) : Z mc ms d μ pc L (.ref x :: st) h kc ks Post := Z.sto (fun hx hb hL w => lv_astore_n hx hb hdg rfl (zL_has hL) hi rfl (fun ls' hl' => w ls' (zL_set1 (v := .ref x) hn hl'))) k
theorem Z.astore {i : Nat} {x : Nat} (hdg : decode μ.2.1 pc = .ok (.astore i, 2)) (hi : i < μ.2.2.1) (hn : zNl L i = true) (k : Z mc ms d μ (pc + 2) (L.set i (some (.ref x))) st h kc ks Post) : Z mc ms d μ pc L (.ref x :: st) h kc ks Post := Z.sto (fun hx hb hL w => lv_astore hx hb hdg (zL_has hL) hi rfl (fun ls' hl' => w ls' (zL_set1 (v := .ref x) hn hl'))) k
theorem Z.lstore_n {q : Fin 4} {x : Int64} (hdg : decode μ.2.1 pc = .ok (.lstore_n q, 1)) (hi : (q : Nat) + 1 < μ.2.2.1) (hn : zNl L q = true) (k : Z mc ms d μ (pc + 1) ((L.set q (some (.long x))).set (q + 1) none) st h kc ks Post) : Z mc ms d μ pc L (.long x :: st) h kc ks Post := Z.sto (fun hx hb hL w => lv_lstore_n hx hb hdg rfl (zL_has hL) hi rfl (fun ls' hl' => w ls' (zL_set2 (v := .long x) hn hl'))) k
theorem Z.lstore {i : Nat} {x : Int64} (hdg : decode μ.2.1 pc = .ok (.lstore i, 2)) (hi : i + 1 < μ.2.2.1) (hn : zNl L i = true) (k : Z mc ms d μ (pc + 2) ((L.set i (some (.long x))).set (i + 1) none) st h kc ks Post) : Z mc ms d μ pc L (.long x :: st) h kc ks Post := Z.sto (fun hx hb hL w => lv_lstore hx hb hdg (zL_has hL) hi rfl (fun ls' hl' => w ls' (zL_set2 (v := .long x) hn hl'))) k
theorem Z.iinc {i : Nat} {n : Int} {x : Int32} (hdg : decode μ.2.1 pc = .ok (.iinc i n, 3)) (hl : L[i]? = some (some (.int x))) (hi : i < μ.2.2.1) (hn : zNl L i = true) (k : Z mc ms d μ (pc + 3) (L.set i (some (.int (x + Int32.ofInt n)))) st h kc ks Post) : Z mc ms d μ pc L st h kc ks Post := Z.sto (fun hx hb hL w => by
    obtain ⟨j, hj⟩ := List.getElem?_of_mem (zAs_in (ρ := _) hl)
    exact lv_iinc hx hb hdg (zL_has hL) hj rfl hi rfl (fun ls' hl' => w ls' (zL_set1 (v := .int (x + Int32.ofInt n)) hn hl'))) k
theorem Z.mono {Post' : Option Value → zH → Prop} (hP : ∀ r h', Post' r h' → Post r h') (k : Z mc ms d μ pc L st h kc ks Post') : Z mc ms d μ pc L st h kc ks Post := by
  intro p l e s m args below meth c D cI A ρ0 n0 hC hn ρ H locs ls hR hS
  intro T hT X
  obtain ⟨t, h1, o, h2, h3, ⟨⟨r, h', ρ', h4, h5⟩, h6⟩, h7⟩ := k p l e s m args below meth c D cI A ρ0 n0 hC hn ρ H locs ls hR hS T hT X
  exact ⟨t, h1, o, h2, h3, ⟨⟨r, h', ρ', hP r h' h4, h5⟩, h6⟩, h7⟩
/-- fewer locals are known -/
theorem Z.loc {L' : List (Option Value)} (hL : ∀ (i : Nat) (v : Value), L'[i]? = some (some v) → L[i]? = some (some v)) (k : Z mc ms d μ pc L' st h kc ks Post) : Z mc ms d μ pc L st h kc ks Post := by
  intro p l e s m args below meth c D cI A ρ0 n0 hC hn ρ H locs ls hR hS
  exact k p l e s m args below meth c D cI A ρ0 n0 hC hn ρ H locs ls hR ⟨hS.1, hS.2.1, hS.2.2.1, ⟨hS.2.2.2.1.1, hS.2.2.2.1.2.1, fun i v hv => hS.2.2.2.1.2.2 i v (hL i v hv)⟩, hS.2.2.2.2⟩
end ZI
end
section
section ZH
variable {mc ms d : Nat} {μ : zU} {pc : Nat} {L : List (Option Value)} {st : List Value} {h : zH} {kc ks : Nat} {Post : Option Value → zH → Prop}
def zCl (ci : Nat) (C : String) (T : u_T) (N : Nat) : Prop := vwCl[ci]? = some (C, T, N) ∧ (∀ w ∈ u_ws C T N, w ∈ zWd) ∧ (∃ ty0 : Nat → FieldType, ∀ k, k < N → parseFieldDescriptor (T k).2.2.1 = some (ty0 k)) ∧ (∀ a, a < N → ∀ b, b < N → a ≠ b → (T a).2.1 ≠ (T b).2.1) ∧ ∀ k, k < N → (T k).1 = C
def zFl (own : String) (idx ci k : Nat) : Prop := ∃ (C : String) (T : u_T) (N : Nat), zCl ci C T N ∧ k < N ∧ (Cond.fieldLink own idx C (T k).2.1 (T k).2.2.1 ∈ zWd ∨ ∃ host : String, Cond.fieldLinkNest own idx C (T k).2.1 (T k).2.2.1 host ∈ zNs)
/-- a field that may be written: its type, whether it is final (then in its class's constructor alone) -/
def zFp (own : String) (idx ci k : Nat) (ty : FieldType) (fin : Bool) : Prop := ∃ (C : String) (T : u_T) (N : Nat), zCl ci C T N ∧ k < N ∧ (Cond.fieldLink own idx C (T k).2.1 (T k).2.2.1 ∈ zWd ∨ (fin = false ∧ ∃ host : String, Cond.fieldLinkNest own idx C (T k).2.1 (T k).2.2.1 host ∈ zNs)) ∧ (T k).2.2.2 = fin ∧ parseFieldDescriptor (T k).2.2.1 = some ty ∧ (fin = true → C = own)
set_option maxHeartbeats 1000000 in
theorem Z.getf {idx : Nat} {ci k : Nat} {o : Nat} {fs : List Value} {v : Value} (hdg : decode μ.2.1 pc = .ok (.getfield idx, 3)) (hf : zFl μ.1.cls idx ci k) (he : h[o]? = some (.inr (ci, fs))) (hv : fs[k]? = some v) (k9 : Z mc ms d μ (pc + 3) L (v :: st) h kc ks Post) : Z mc ms d μ pc L (.ref o :: st) h kc ks Post := by
  intro p l e s m args below meth c D cI A ρ0 n0 hC hn ρ H locs ls hR hS
  obtain ⟨hx, hb, hml, hr0, hlk, hnm, hown, hts, hNw, hK, hA⟩ := id hC
  obtain ⟨hP, hD, hSS, hLL, hT⟩ := id hS
  obtain ⟨C, T, N, ⟨h1, h2, ⟨ty0, h3⟩, h4, h5⟩, hkN, hlink⟩ := hf
  have w := k9 p l e s m args below meth c D cI A ρ0 n0 hC hn ρ H locs ls hR hS
  have hv' : (fs.map (zV ρ))[k]? = some (zV ρ v) := by rw [List.getElem?_map, hv]; rfl
  rcases hlink with hl | ⟨host, hl⟩
  · exact va_get (D := D) (ci := ci) (v := zV ρ v) (C := C) (T := T) (N := N) hx hb hts h2 hown hK hP o (zw_at he) h1 k hkN (hts _ hl) (fun x hx9 => by rw [h5 k hkN] at hx9; exact hx9) hv' hdg w
  · exact va_getN (D := D) (ci := ci) (v := zV ρ v) (C := C) (T := T) (N := N) (host := host) hx hb hts h2 hown hK hP o (zw_at he) h1 k hkN (va_Nw.use rfl (hNw _ hl)) (fun x hx9 => by rw [h5 k hkN] at hx9; exact hx9) hv' hdg w
theorem zSt.set {D : va_G} {cI : FieldType → ClassId} {A : Nat → Prop} {s : State} {ρ : Nat → Nat} {H H1 : Heap} {locs locs1 : List Loc} {ls : Array Slot} {k : Nat} {e : zE} (hS : zSt μ D cI A s h L ρ H locs ls) (h1 : va_P D vwCl ((zw cI ρ h).set k (ρ k, zM cI ρ e)) H1) (h2 : va_D A ((zw cI ρ h).set k (ρ k, zM cI ρ e))) (h3 : va_S A s.heap H1 locs1) : zSt μ D cI A s (h.set k e) L ρ H1 locs1 ls := by
  rw [zw_set] at h1 h2
  exact ⟨h1, h2, h3, hS.2.2.2.1, hS.2.2.2.2⟩
set_option maxHeartbeats 1000000 in
theorem Z.putf {idx : Nat} {ci k : Nat} {o : Nat} {fs : List Value} {v : Value} {ty : FieldType} (hdg : decode μ.2.1 pc = .ok (.putfield idx, 3)) (hf : zFp μ.1.cls idx ci k ty false) (he : h[o]? = some (.inr (ci, fs))) (hl : k < fs.length) (hnf : ∀ ρ : Nat → Nat, narrow ty (zV ρ v) = zV ρ v ∧ fits ty (zV ρ v) = true) (k9 : Z mc ms d μ (pc + 3) L st (h.set o (.inr (ci, fs.set k v))) kc ks Post) : Z mc ms d μ pc L (v :: .ref o :: st) h kc ks Post := by
  intro p l e s m args below meth c D cI A ρ0 n0 hC hn ρ H locs ls hR hS
  obtain ⟨hx, hb, hml, hr0, hlk, hnm, hown, hts, hNw, hK, hA⟩ := id hC
  obtain ⟨hP, hD, hSS, hLL, hT⟩ := id hS
  obtain ⟨C, T, N, ⟨h1, h2, ⟨ty0, h3⟩, h4, h5⟩, hkN, hlink, hfin, hty, -⟩ := hf
  have hl' : k < (fs.map (zV ρ)).length := by rw [List.length_map]; exact hl
  have e9 : (zM cI ρ (.inr (ci, fs.set k v))) = .inr (ci, (fs.map (zV ρ)).set k (zV ρ v)) := by
    show Sum.inr (ci, (fs.set k v).map (zV ρ)) = _
    rw [List.map_set]
  have w : ∀ (H1 : Heap) (locs1 : List Loc), va_P D vwCl ((zw cI ρ h).set o (ρ o, .inr (ci, (fs.map (zV ρ)).set k (zV ρ v)))) H1 → va_D A ((zw cI ρ h).set o (ρ o, .inr (ci, (fs.map (zV ρ)).set k (zV ρ v)))) → va_S A s.heap H1 locs1 → W p l e (zR mc ms d) s m args below meth c H1 locs1 kc ks (MQ below (zQ D cI ρ0 n0 mc A Post) args s mc ms A) (F0 m (pc + 3) ls (st.map (zV ρ))) := fun H1 locs1 q1 q2 q3 => by
    rw [← e9] at q1 q2
    exact k9 p l e s m args below meth c D cI A ρ0 n0 hC (by rw [List.length_set]; exact hn) ρ H1 locs1 ls hR (hS.set q1 q2 q3)
  rcases hlink with hl9 | ⟨-, host, hl9⟩
  · exact va_put (D := D) (ci := ci) (v := zV ρ v) (ty := ty) (C := C) (T := T) (N := N) hx hb hts h2 ty0 h3 h4 hown hK hP hD hSS o (zw_at he) h1 k hkN (hts _ hl9) (fun x hx9 => by rw [h5 k hkN] at hx9; exact hx9) hfin hty (hnf ρ).1 (hnf ρ).2 hl' hdg w
  · exact va_putN (D := D) (ci := ci) (v := zV ρ v) (ty := ty) (C := C) (T := T) (N := N) (host := host) hx hb hts h2 ty0 h3 h4 hown hK hP hD hSS o (zw_at he) h1 k hkN (va_Nw.use rfl (hNw _ hl9)) (fun x hx9 => by rw [h5 k hkN] at hx9; exact hx9) hfin hty (hnf ρ).1 (hnf ρ).2 hl' hdg w
set_option maxHeartbeats 1000000 in
theorem Z.putF {idx : Nat} {ci k : Nat} {o : Nat} {fs : List Value} {v : Value} {ty : FieldType} (hdg : decode μ.2.1 pc = .ok (.putfield idx, 3)) (hf : zFp μ.1.cls idx ci k ty true) (hini : μ.1.name = "<init>") (he : h[o]? = some (.inr (ci, fs))) (hl : k < fs.length) (hnf : ∀ ρ : Nat → Nat, narrow ty (zV ρ v) = zV ρ v ∧ fits ty (zV ρ v) = true) (k9 : Z mc ms d μ (pc + 3) L st (h.set o (.inr (ci, fs.set k v))) kc ks Post) : Z mc ms d μ pc L (v :: .ref o :: st) h kc ks Post := by
  intro p l e s m args below meth c D cI A ρ0 n0 hC hn ρ H locs ls hR hS
  obtain ⟨hx, hb, hml, hr0, hlk, hnm, hown, hts, hNw, hK, hA⟩ := id hC
  obtain ⟨hP, hD, hSS, hLL, hT⟩ := id hS
  obtain ⟨C, T, N, ⟨h1, h2, ⟨ty0, h3⟩, h4, h5⟩, hkN, hlink, hfin, hty, hCo⟩ := hf
  have hl' : k < (fs.map (zV ρ)).length := by rw [List.length_map]; exact hl
  have e9 : (zM cI ρ (.inr (ci, fs.set k v))) = .inr (ci, (fs.map (zV ρ)).set k (zV ρ v)) := by
    show Sum.inr (ci, (fs.set k v).map (zV ρ)) = _
    rw [List.map_set]
  have w : ∀ (H1 : Heap) (locs1 : List Loc), va_P D vwCl ((zw cI ρ h).set o (ρ o, .inr (ci, (fs.map (zV ρ)).set k (zV ρ v)))) H1 → va_D A ((zw cI ρ h).set o (ρ o, .inr (ci, (fs.map (zV ρ)).set k (zV ρ v)))) → va_S A s.heap H1 locs1 → W p l e (zR mc ms d) s m args below meth c H1 locs1 kc ks (MQ below (zQ D cI ρ0 n0 mc A Post) args s mc ms A) (F0 m (pc + 3) ls (st.map (zV ρ))) := fun H1 locs1 q1 q2 q3 => by
    rw [← e9] at q1 q2
    exact k9 p l e s m args below meth c D cI A ρ0 n0 hC (by rw [List.length_set]; exact hn) ρ H1 locs1 ls hR (hS.set q1 q2 q3)
  rcases hlink with hl9 | ⟨q9, -⟩
  · exact va_putF (D := D) (ci := ci) (v := zV ρ v) (ty := ty) (C := C) (T := T) (N := N) hx hb hts h2 ty0 h3 h4 hown hK hP hD hSS o (zw_at he) h1 k hkN (hts _ hl9) (fun x hx9 => by rw [h5 k hkN] at hx9; exact hx9) hfin (by rw [hnm]; exact hini) (by rw [h5 k hkN]; exact hCo rfl) hty (hnf ρ).1 (hnf ρ).2 hl' hdg w
  · cases q9
theorem Z.iald {a n : Nat} {f : Nat → Int32} {i : Int32} (hdg : decode μ.2.1 pc = .ok (.iaload, 1)) (he : h[a]? = some (.inl (.int, n, .inl f))) (hin : vp_in i n) (k9 : Z mc ms d μ (pc + 1) L (.int (f i.toNatClampNeg) :: st) h kc ks Post) : Z mc ms d μ pc L (.int i :: .ref a :: st) h kc ks Post := by
  intro p l e s m args below meth c D cI A ρ0 n0 hC hn ρ H locs ls hR hS
  obtain ⟨hx, hb, hml, hr0, hlk, hnm, hown, hts, hNw, hK, hA⟩ := id hC
  obtain ⟨hP, hD, hSS, hLL, hT⟩ := id hS
  exact va_iald (D := D) hx hb hK hP a 0 (zw_at he) rfl hin hdg (k9 p l e s m args below meth c D cI A ρ0 n0 hC hn ρ H locs ls hR hS)
theorem Z.lald {a n : Nat} {f : Nat → Int64} {i : Int32} (hdg : decode μ.2.1 pc = .ok (.laload, 1)) (he : h[a]? = some (.inl (.long, n, .inr (.inl f)))) (hin : vp_in i n) (k9 : Z mc ms d μ (pc + 1) L (.long (f i.toNatClampNeg) :: st) h kc ks Post) : Z mc ms d μ pc L (.int i :: .ref a :: st) h kc ks Post := by
  intro p l e s m args below meth c D cI A ρ0 n0 hC hn ρ H locs ls hR hS
  obtain ⟨hx, hb, hml, hr0, hlk, hnm, hown, hts, hNw, hK, hA⟩ := id hC
  obtain ⟨hP, hD, hSS, hLL, hT⟩ := id hS
  exact va_lald (D := D) hx hb hK hP a 1 (zw_at he) rfl hin hdg (k9 p l e s m args below meth c D cI A ρ0 n0 hC hn ρ H locs ls hR hS)
theorem Z.iast {a n : Nat} {f : Nat → Int32} {i x : Int32} (hdg : decode μ.2.1 pc = .ok (.iastore, 1)) (he : h[a]? = some (.inl (.int, n, .inl f))) (hin : vp_in i n) (k9 : Z mc ms d μ (pc + 1) L st (h.set a (.inl (.int, n, .inl (upd f i.toNatClampNeg x)))) kc ks Post) : Z mc ms d μ pc L (.int x :: .int i :: .ref a :: st) h kc ks Post := by
  intro p l e s m args below meth c D cI A ρ0 n0 hC hn ρ H locs ls hR hS
  obtain ⟨hx, hb, hml, hr0, hlk, hnm, hown, hts, hNw, hK, hA⟩ := id hC
  obtain ⟨hP, hD, hSS, hLL, hT⟩ := id hS
  exact va_iast (D := D) hx hb hK hP hD hSS a 0 (zw_at he) rfl hin hdg (fun H1 locs1 q1 q2 q3 => k9 p l e s m args below meth c D cI A ρ0 n0 hC (by rw [List.length_set]; exact hn) ρ H1 locs1 ls hR (hS.set q1 q2 q3))
theorem Z.last {a n : Nat} {f : Nat → Int64} {i : Int32} {x : Int64} (hdg : decode μ.2.1 pc = .ok (.lastore, 1)) (he : h[a]? = some (.inl (.long, n, .inr (.inl f)))) (hin : vp_in i n) (k9 : Z mc ms d μ (pc + 1) L st (h.set a (.inl (.long, n, .inr (.inl (vp_updL f i.toNatClampNeg x))))) kc ks Post) : Z mc ms d μ pc L (.long x :: .int i :: .ref a :: st) h kc ks Post := by
  intro p l e s m args below meth c D cI A ρ0 n0 hC hn ρ H locs ls hR hS
  obtain ⟨hx, hb, hml, hr0, hlk, hnm, hown, hts, hNw, hK, hA⟩ := id hC
  obtain ⟨hP, hD, hSS, hLL, hT⟩ := id hS
  exact va_last (D := D) hx hb hK hP hD hSS a 1 (zw_at he) rfl hin hdg (fun H1 locs1 q1 q2 q3 => k9 p l e s m args below meth c D cI A ρ0 n0 hC (by rw [List.length_set]; exact hn) ρ H1 locs1 ls hR (hS.set q1 q2 q3))
theorem Z.aald {a n t0 : Nat} {ty : FieldType} {q : List (Option Nat)} {i : Int32} {r : Nat} (hdg : decode μ.2.1 pc = .ok (.aaload, 1)) (ht : (t0 = 2 ∧ ty = .array .int) ∨ (t0 = 3 ∧ ty = .object "OffsetChains$Sheet")) (he : h[a]? = some (.inl (ty, n, .inr (.inr q)))) (hin : vp_in i n) (hq : q[i.toNatClampNeg]? = some (some r)) (k9 : Z mc ms d μ (pc + 1) L (.ref r :: st) h kc ks Post) : Z mc ms d μ pc L (.int i :: .ref a :: st) h kc ks Post := by
  intro p l e s m args below meth c D cI A ρ0 n0 hC hn ρ H locs ls hR hS
  obtain ⟨hx, hb, hml, hr0, hlk, hnm, hown, hts, hNw, hK, hA⟩ := id hC
  obtain ⟨hP, hD, hSS, hLL, hT⟩ := id hS
  have hlt : i.toNatClampNeg < n := Nat.not_le.mp fun q => hin (Or.inr q)
  have w := k9 p l e s m args below meth c D cI A ρ0 n0 hC hn ρ H locs ls hR hS
  have hz := hP a _ (zw_at he)
  have e1 : va_rf ((q.getD i.toNatClampNeg none).map ρ) = .ref (ρ r) := by rw [List.getD_eq_getElem?_getD, hq]; rfl
  rcases ht with ⟨rfl, rfl⟩ | ⟨rfl, rfl⟩
  · exact W.aald (v := .ref (ρ r)) (ty := .array .int) hx hb hz ((hK.2 2 (cI (.array .int), .array .int) rfl).1 n (fun j => va_rf ((q.getD j none).map ρ))) rfl (fun q => by cases q) (by show ¬ (i < 0 ∨ (arrV _ _ _).slots.size ≤ _); rw [arrV_size]; exact hin) (by show (arrV _ _ _).slots[_]? = _; rw [arrV_read _ _ hlt, e1]) rfl rfl hdg w
  · exact W.aald (v := .ref (ρ r)) (ty := .object "OffsetChains$Sheet") hx hb hz ((hK.2 3 (cI (.object "OffsetChains$Sheet"), .object "OffsetChains$Sheet") rfl).1 n (fun j => va_rf ((q.getD j none).map ρ))) rfl (fun q => by cases q) (by show ¬ (i < 0 ∨ (arrV _ _ _).slots.size ≤ _); rw [arrV_size]; exact hin) (by show (arrV _ _ _).slots[_]? = _; rw [arrV_read _ _ hlt, e1]) rfl rfl hdg w
theorem Z.alen {a n t0 : Nat} {ty : FieldType} {x : zA} {v : Int32} (hdg : decode μ.2.1 pc = .ok (.arraylength, 1)) (ht : (t0 = 0 ∧ ty = .int) ∨ (t0 = 1 ∧ ty = .long)) (he : h[a]? = some (.inl (ty, n, x))) (hv : Int32.ofNat n = v) (k9 : Z mc ms d μ (pc + 1) L (.int v :: st) h kc ks Post) : Z mc ms d μ pc L (.ref a :: st) h kc ks Post := by
  intro p l e s m args below meth c D cI A ρ0 n0 hC hn ρ H locs ls hR hS
  obtain ⟨hx, hb, hml, hr0, hlk, hnm, hown, hts, hNw, hK, hA⟩ := id hC
  obtain ⟨hP, hD, hSS, hLL, hT⟩ := id hS
  have w := k9 p l e s m args below meth c D cI A ρ0 n0 hC hn ρ H locs ls hR hS
  rcases ht with ⟨rfl, rfl⟩ | ⟨rfl, rfl⟩
  · exact va_alen (D := D) hx hb hK hP a 0 (zw_at he) (ty := .int) rfl hv hdg w
  · exact va_alen (D := D) hx hb hK hP a 1 (zw_at he) (ty := .long) rfl hv hdg w
theorem Z.gets {idx t : Nat} (hdg : decode μ.2.1 pc = .ok (.getstatic idx, 3)) (ht : t < 4) (hw : Cond.fieldLink μ.1.cls idx "OffsetChains" (zTn t) "[I" ∈ zWd) (k9 : Z mc ms d μ (pc + 3) L (.ref (9000 + t) :: st) h kc ks Post) : Z mc ms d μ pc L st h kc ks Post := by
  intro p l e s m args below meth c D cI A ρ0 n0 hC hn ρ H locs ls hR hS
  obtain ⟨hx, hb, hml, hr0, hlk, hnm, hown, hts, hNw, hK, hA⟩ := id hC
  obtain ⟨hP, hD, hSS, hLL, hT⟩ := id hS
  exact va_gets hx hb (hT t ht).1 hSS hown (hts _ hw) (fun _ h => h) hdg (k9 p l e s m args below meth c D cI A ρ0 n0 hC hn ρ H locs ls hR hS)
theorem Z.tld {t : Nat} {i : Int32} (hdg : decode μ.2.1 pc = .ok (.iaload, 1)) (ht : t < 4) (hin : vp_in i (zTl t)) (k9 : Z mc ms d μ (pc + 1) L (.int (zTf t i.toNatClampNeg) :: st) h kc ks Post) : Z mc ms d μ pc L (.int i :: .ref (9000 + t) :: st) h kc ks Post := by
  intro p l e s m args below meth c D cI A ρ0 n0 hC hn ρ H locs ls hR hS
  obtain ⟨hx, hb, hml, hr0, hlk, hnm, hown, hts, hNw, hK, hA⟩ := id hC
  obtain ⟨hP, hD, hSS, hLL, hT⟩ := id hS
  exact va_ti hx hb (hT t ht).2 hSS hin rfl hdg (k9 p l e s m args below meth c D cI A ρ0 n0 hC hn ρ H locs ls hR hS)
theorem zSt.end {D : va_G} {cI : FieldType → ClassId} {A : Nat → Prop} {s t : State} {ρ0 ρ : Nat → Nat} {n0 : Nat} {H : Heap} {locs : List Loc} {ls : Array Slot} {r : Option Value} {as : Array Value} (hS : zSt μ D cI A s h L ρ H locs ls) (hR : zRel mc n0 ρ0 ρ) (hn : n0 ≤ h.length) (hp : Post r h) (ht : t.heap = H) : zQ D cI ρ0 n0 mc A Post as s (.returned (r.map (zV ρ))) t :=
  ⟨⟨r, h, ρ, hp, rfl, hR, hn, by rw [ht]; exact hS.1, hS.2.1⟩, hS.2.2.1.F ht⟩
theorem Z.iret {v : Int32} (hdg : decode μ.2.1 pc = .ok (.ireturn, 1)) (hr : ∃ ty : FieldType, μ.2.2.2 = some ty ∧ narrow ty (.int v) = .int v) (hk : kc ≤ mc ∧ ks ≤ ms) (hp : Post (some (.int v)) h) : Z mc ms d μ pc L [.int v] h kc ks Post := by
  intro p l e s m args below meth c D cI A ρ0 n0 hC hn ρ H locs ls hR hS
  obtain ⟨hx, hb, hml, hr0, hlk, hnm, hown, hts, hNw, hK, hA⟩ := id hC
  obtain ⟨hP, hD, hSS, hLL, hT⟩ := id hS
  obtain ⟨ty, hr1, hr2⟩ := hr
  refine W.widen hk.1 hk.2 ?_
  exact W.zret (v := v) (ty := ty) hx hb (hr0.trans hr1) hr2 (fun t ht _ => hS.end hR hn hp ht) (fun q hq => hSS.2.2 q hq) hdg hlk
theorem Z.lret {v : Int64} (hdg : decode μ.2.1 pc = .ok (.lreturn, 1)) (hr : μ.2.2.2 = some .long) (hk : kc ≤ mc ∧ ks ≤ ms) (hp : Post (some (.long v)) h) : Z mc ms d μ pc L [.long v] h kc ks Post := by
  intro p l e s m args below meth c D cI A ρ0 n0 hC hn ρ H locs ls hR hS
  obtain ⟨hx, hb, hml, hr0, hlk, hnm, hown, hts, hNw, hK, hA⟩ := id hC
  obtain ⟨hP, hD, hSS, hLL, hT⟩ := id hS
  refine W.widen hk.1 hk.2 ?_
  exact W.lret (v := v) hx hb (hr0.trans hr) (fun t ht _ => hS.end hR hn hp ht) (fun q hq => hSS.2.2 q hq) hdg hlk
theorem Z.vret (hdg : decode μ.2.1 pc = .ok (.return_, 1)) (hr : μ.2.2.2 = none) (hk : kc ≤ mc ∧ ks ≤ ms) (hp : Post none h) : Z mc ms d μ pc L [] h kc ks Post := by
  intro p l e s m args below meth c D cI A ρ0 n0 hC hn ρ H locs ls hR hS
  obtain ⟨hx, hb, hml, hr0, hlk, hnm, hown, hts, hNw, hK, hA⟩ := id hC
  obtain ⟨hP, hD, hSS, hLL, hT⟩ := id hS
  refine W.widen hk.1 hk.2 ?_
  exact W.vret hx hb (hr0.trans hr) (fun t ht _ => hS.end hR hn hp ht) (fun q hq => hSS.2.2 q hq) hdg hlk

end ZH
end
section
section ZC
def zWfV (n : Nat) : Value → Bool
  | .ref k => decide (k < n) || decide (9000 ≤ k)
  | _ => true
theorem zWfV_use {mc n : Nat} {ρ ρ' : Nat → Nat} {v : Value} (hR : zRel mc n ρ ρ') (h : zWfV n v = true) : zV ρ' v = zV ρ v := by
  cases v with
  | ref k =>
    have h1 : k < n ∨ 9000 ≤ k := by simpa [zWfV] using h
    show Value.ref (ρ' k) = .ref (ρ k)
    rw [hR.2 k h1]
  | _ => rfl
def zWfL (n : Nat) (L : List (Option Value)) : Bool := L.all (fun x => match x with
  | some v => zWfV n v
  | none => true)
def zWfS (n : Nat) (st : List Value) : Bool := st.all (zWfV n)
theorem zWfS_use {mc n : Nat} {ρ ρ' : Nat → Nat} {st : List Value} (hR : zRel mc n ρ ρ') (h : zWfS n st = true) : st.map (zV ρ') = st.map (zV ρ) :=
  List.map_congr_left (fun v hv => zWfV_use hR (List.all_eq_true.mp h v hv))
theorem zWfL_use {mc n nL : Nat} {ρ ρ' : Nat → Nat} {ls : Array Slot} {L : List (Option Value)} (hR : zRel mc n ρ ρ') (h : zWfL n L = true) (hl : zL nL ρ ls L) : zL nL ρ' ls L := by
  refine ⟨hl.1, hl.2.1, fun i v hv => ?_⟩
  have h1 := List.all_eq_true.mp h _ (List.mem_of_getElem? hv)
  rw [zWfV_use hR h1]
  exact hl.2.2 i v hv
theorem zT.rel {mc n : Nat} {ρ ρ' : Nat → Nat} {A : Nat → Prop} {U : State} {H : Heap} (hR : zRel mc n ρ ρ') (h : zT ρ A U H) : zT ρ' A U H := by
  intro i hi
  rw [hR.2 (9000 + i) (Or.inr (Nat.le_add_right _ _))]
  exact h i hi
theorem zT.pass {ρ : Nat → Nat} {A B : Nat → Prop} {s U : State} {H : Heap} {locs : List Loc} (h : zT ρ A s s.heap) (hS : va_S A s.heap H locs) (hAB : ∀ q, B q → A q) (hvm : s.vm.Alike U.vm) (hU : U.heap = H) : zT ρ B U U.heap := by
  intro i hi
  obtain ⟨h1, h2⟩ := h i hi
  rw [hU]
  exact ⟨va_Z.moved hvm (va_Z.narrow (va_Z.kept h1 (fun a h9 h8 => hS.2.1 a h9 h8)) hAB), va_T.moved hvm (va_T.narrow (va_T.kept h2 (fun a h9 h8 => hS.2.1 a h9 h8)) hAB)⟩
theorem z_back {p : Program} {l : Launch} {e : Env} {R : Room} {s : State} {m : MethodId} {args : Array Value} {below : List Frame} {meth : Method} {c : Code} {H : Heap} {locs : List Loc} {cells slots : Nat} {Q : State → Prop} {pc : Nat} {ls : Array Slot} {rest st0 : List Value} {a : Array Value} {A0 A1 : Nat → Prop} {H0 : Heap} {mc' ms' n' : Nat} {D : va_G} {cI : FieldType → ClassId} {ρ : Nat → Nat} {Post' : Option Value → zH → Prop}
    (hr : va_Run p l e R s m args below meth c H locs cells slots mc' ms' (F0 m pc ls st0) rest (zQ D cI ρ n' mc' A1 Post' a) A1) (hS : va_S A0 H0 H locs) (hA : ∀ q, A1 q → A0 q)
    (kk : ∀ (r : Option Value) (h' : zH) (ρ' : Nat → Nat) (H1 : Heap) (locs1 : List Loc), Post' r h' → zRel mc' n' ρ ρ' → n' ≤ h'.length → va_P D vwCl (zw cI ρ' h') H1 → va_D A1 (zw cI ρ' h') → va_S A0 H0 H1 locs1 → W p l e R s m args below meth c H1 locs1 (cells + mc') (slots + ms') Q (F0 m (pc + 3) ls ((r.map (zV ρ')).toList ++ rest))) : W p l e R s m args below meth c H locs cells slots Q (F0 m pc ls st0) := by
  intro T hT X
  obtain ⟨v, st₀, t, T', L, h0, X', hL, e1, e2, ⟨⟨r, h', ρ', hp, hv, hrel, hn, hP, hD⟩, hz, hk⟩, st⟩ := hr T hT X
  cases hv
  rw [h0] at hz hk
  obtain ⟨t2, a1, b1⟩ := kk r h' ρ' T'.heap (locs ++ L) hp hrel hn (by rw [e1]; exact hP) hD
    ⟨Nat.le_trans hS.1 (by rw [e1]; exact hz), fun q h1 h2 => by rw [e1, hk q (Nat.lt_of_lt_of_le h1 hS.1) (fun z => h2 (hA q z))]; exact hS.2.1 q h1 h2, fun q hq => by
      rcases List.mem_append.mp hq with h | h
      · exact hS.2.2 q h
      · exact hA _ (hL q h)⟩ T' rfl X'
  exact ⟨t2, st t2 a1, b1⟩
/-- a method that the tables know -/
def zMk (μ : zU) (n : Nat) : Prop := Cond.code μ.1 μ.2.1 μ.2.2.1 μ.2.2.2 ∈ zWd ∧ Cond.initialized μ.1.cls ∈ zWd ∧ (μ.1.cls ≠ "java/lang/invoke/MethodHandle" ∧ μ.1.cls ≠ "java/lang/invoke/VarHandle" ∧ (parseMethodDescriptor μ.1.desc).map (fun d => d.parameters.length) = some n) ∧ μ.2.2.1 ≤ 24
variable {mc ms d : Nat} {μ : zU} {pc : Nat} {L : List (Option Value)} {st : List Value} {h : zH} {kc ks : Nat} {Post : Option Value → zH → Prop} {mc' ms' hd idx n : Nat} {ν : zU} {Post' : Option Value → zH → Prop}
/-- what a call's landing asks: the caller goes on with the callee's end -/
def zOn (mc ms d : Nat) (μ : zU) (pc : Nat) (L : List (Option Value)) (rest : List Value) (h : zH) (kc ks mc' ms' : Nat) (Post' Post : Option Value → zH → Prop) : Prop :=
  (mc' = 0 ∨ (zWfL h.length L = true ∧ zWfS h.length rest = true)) ∧ kc + mc' ≤ mc ∧ ks + ms' ≤ ms ∧ ∀ r h', Post' r h' → Z mc ms d μ (pc + 3) L (r.toList ++ rest) h' (kc + mc') (ks + ms') Post
set_option maxHeartbeats 1000000 in
theorem z_land {p : Program} {l : Launch} {e : Env} {s : State} {m : MethodId} {args : Array Value} {below : List Frame} {meth : Method} {c : Code} {D : va_G} {cI : FieldType → ClassId} {A : Nat → Prop} {ρ0 ρ : Nat → Nat} {n0 : Nat} {H : Heap} {locs : List Loc} {ls : Array Slot} {rest st0 : List Value} {a : Array Value} (hon : zOn mc ms d μ pc L rest h kc ks mc' ms' Post' Post)
    (hC : zCx μ p s m args meth c D cI A) (hn : n0 ≤ h.length) (hR : zRel mc n0 ρ0 ρ) (hS : zSt μ D cI A s h L ρ H locs ls)
    (hr : va_Run p l e (zR mc ms d) s m args below meth c H locs kc ks mc' ms' (F0 m pc ls st0) (rest.map (zV ρ)) (zQ D cI ρ h.length mc' (va_A (zw cI ρ h) H.size) Post' a) (va_A (zw cI ρ h) H.size)) :
    W p l e (zR mc ms d) s m args below meth c H locs kc ks (MQ below (zQ D cI ρ0 n0 mc A Post) args s mc ms A) (F0 m pc ls st0) := by
  obtain ⟨hx, hb, hml, hr0, hlk, hnm, hown, hts, hNw, hK, hA⟩ := id hC
  obtain ⟨hP, hD, hSS, hLL, hT⟩ := id hS
  obtain ⟨hwf, hkc, hks, hk⟩ := hon
  have hAA : ∀ q, va_A (zw cI ρ h) H.size q → A q := fun q hq => by
    rcases hq with ⟨k, e9, h9⟩ | h9
    · exact hD.2 k (q, e9) h9
    · exact hA q (Nat.le_trans hSS.1 h9)
  refine z_back hr hSS hAA (fun r h' ρ' H1 locs1 hp hrel hn' hP1 hD1 hS1 => ?_)
  have hL2 : zL μ.2.2.1 ρ' ls L ∧ rest.map (zV ρ') = rest.map (zV ρ) := by
    rcases hwf with h9 | ⟨h9, h8⟩
    · rw [hrel.1 h9]
      exact ⟨hLL, rfl⟩
    · exact ⟨zWfL_use hrel h9 hLL, zWfS_use hrel h8⟩
  have hR2 : zRel mc n0 ρ0 ρ' := by
    refine ⟨fun h9 => ?_, fun k hk9 => ?_⟩
    · have h8 : mc' = 0 := by omega
      rw [hrel.1 h8]
      exact hR.1 h9
    · rw [hrel.2 k (by omega), hR.2 k hk9]
  have w := hk r h' hp p l e s m args below meth c D cI A ρ0 n0 hC (by omega) ρ' H1 locs1 ls hR2 ⟨hP1, hD1.weaken (fun _ q _ h9 => hAA q.1 h9), hS1, hL2.1, hT.rel hrel⟩
  have e9 : (r.toList ++ rest).map (zV ρ') = (r.map (zV ρ')).toList ++ rest.map (zV ρ) := by
    rw [List.map_append, hL2.2]
    cases r <;> rfl
  rw [e9] at w
  exact w
theorem z_pre {p : Program} {s : State} {m : MethodId} {args : Array Value} {meth : Method} {c : Code} {D : va_G} {cI : FieldType → ClassId} {A : Nat → Prop} {ρ : Nat → Nat} {H : Heap} {locs : List Loc} {ls : Array Slot} (avs : List Value) (hC : zCx μ p s m args meth c D cI A) (hS : zSt μ D cI A s h L ρ H locs ls) :
    PreS s H (va_Pc (avs.map (zV ρ)) (fun U => U.heap.size = H.size ∧ va_P D vwCl (zw cI ρ h) U.heap ∧ va_K D vwCl (zTys cI) U ∧ va_D (fun _ => True) (zw cI ρ h) ∧ zNw U ∧ zT ρ (va_A (zw cI ρ h) H.size) U U.heap)) (avs.map (zV ρ)) := by
  obtain ⟨hx, hb, hml, hr0, hlk, hnm, hown, hts, hNw, hK, hA⟩ := id hC
  obtain ⟨hP, hD, hSS, hLL, hT⟩ := id hS
  have hAA : ∀ q, va_A (zw cI ρ h) H.size q → A q := fun q hq => by
    rcases hq with ⟨k, e9, h9⟩ | h9
    · exact hD.2 k (q, e9) h9
    · exact hA q (Nat.le_trans hSS.1 h9)
  refine ⟨fun a U g mk q => ?_, fun U hU hW => ⟨rfl, by rw [hU], by rw [hU]; exact hP, va_K.moved hW.alike hK, hD.weaken (fun _ _ _ _ => trivial), hNw.warm hW, hT.pass hSS hAA hW.alike hU⟩⟩
  obtain ⟨q0, q1, qP, qK, qD, qN, qT⟩ := q
  refine ⟨q0, q1, qP, va_K.moved (u := U) (U := U.calling g mk a) (Vm.Alike.refl U.vm) qK, qD, zNw.same (u := U) (U := U.calling g mk a) rfl qN, fun i hi => ?_⟩
  obtain ⟨t1, t2⟩ := qT i hi
  exact ⟨va_Z.moved (u := U) (U := U.calling g mk a) (Vm.Alike.refl U.vm) t1, va_T.moved (u := U) (U := U.calling g mk a) (Vm.Alike.refl U.vm) t2⟩
theorem z_room {mc ms mc' ms' d k : Nat} (hd : 1 ≤ d) (hk : k ≤ 24) : (zR mc' ms' (d - 1)).frames + 1 ≤ (zR mc ms d).frames ∧ 8 + (k + 11) + (zR mc' ms' (d - 1)).locals ≤ (zR mc ms d).locals := by
  constructor
  · show d - 1 + 1 ≤ d
    omega
  · show 8 + (k + 11) + 43 * (d - 1) ≤ 43 * d
    omega
def zSV (own : String) (idx : Nat) (ν : zU) : Prop := Cond.methodLink own idx ν.1 ∈ zWd ∧ Cond.instanceMethod ν.1 ∈ zWd ∧ Cond.selects ν.1.cls ν.1 ν.1 ∈ zWd
def zSS (own : String) (idx : Nat) (ν : zU) : Prop := (Cond.methodLink own idx ν.1 ∈ zWd ∨ ∃ host : String, Cond.methodLinkNest own idx ν.1 host ∈ zNs) ∧ Cond.static ν.1 ∈ zWd
def zSI (own : String) (idx : Nat) (ν : zU) : Prop := (Cond.methodLink own idx ν.1 ∈ zWd ∨ ∃ host : String, Cond.methodLinkNest own idx ν.1 host ∈ zNs) ∧ Cond.instanceMethod ν.1 ∈ zWd ∧ ν.1.name = "<init>" ∧ ν.2.2.2 = none
set_option maxHeartbeats 1000000 in
theorem Z.callV {b ci : Nat} {fs : List Value} {As rest : List Value} (hdg : decode μ.2.1 pc = .ok (.invokevirtual idx, 3)) (hm : zMk ν n) (hs : zSV μ.1.cls idx ν) (hc : zC mc' ms' hd ν (.ref b :: As) h Post') (hd1 : hd + 1 ≤ d) (he : h[b]? = some (.inr (ci, fs))) (hci : ∃ q : vw_C, vwCl[ci]? = some q ∧ q.1 = ν.1.cls) (hAn : As.length = n) (hst : st = As.reverse ++ .ref b :: rest) (hcat : (rest.map fun v => v.category).sum ≤ 8) (hon : zOn mc ms d μ pc L rest h kc ks mc' ms' Post' Post) : Z mc ms d μ pc L st h kc ks Post := by
  intro p l e s m args below meth c D cI A ρ0 n0 hC hn ρ H locs ls hR hS
  obtain ⟨hx, hb, hml, hr0, hlk, hnm, hown, hts, hNw, hK, hA⟩ := id hC
  obtain ⟨hP, hD, hSS, hLL, hT⟩ := id hS
  obtain ⟨q, hq1, hq2⟩ := hci
  obtain ⟨hm1, hm2, hm3, hm4⟩ := hm
  obtain ⟨hs1, hs2, hs3⟩ := hs
  have hM := hc (d - 1) (by omega) l D cI ρ H.size
  have hp := z_pre (.ref b :: As) hC hS
  have hrecv := va_recv hK hP (ci := ci) hq1 (zw_at he)
  rw [hq2] at hrecv
  refine z_land (a := ((Value.ref b :: As).map (zV ρ)).toArray) (rest := rest) hon hC hn hR hS ?_
  exact va_runV (As := As.map (zV ρ)) (rest := rest.map (zV ρ)) (b := ρ b) (C := ν.1.cls) (own := μ.1.cls) (n := n) (index := idx) ⟨hx, hb, hml, hown, hts⟩ hM ⟨callB_of n hts (zWd_good hm1) rfl rfl rfl (hts _ hm2) (hts _ hs1) hm3 (z_room (by omega) hm4), hts _ hs2, hts _ hs3⟩ ⟨hp.1, hrecv, hp.2⟩ rfl (by rw [List.length_map]; exact hAn) hLL.1 (by rw [hst]; simp [zV, F0]) (lv_room (by rw [zV_cats]; exact hcat)) hdg ⟨hon.2.1, hon.2.2.1⟩
set_option maxHeartbeats 1000000 in
theorem Z.callS {As rest : List Value} (hdg : decode μ.2.1 pc = .ok (.invokestatic idx, 3)) (hm : zMk ν n) (hs : zSS μ.1.cls idx ν) (hc : zC mc' ms' hd ν As h Post') (hd1 : hd + 1 ≤ d) (hAn : As.length = n) (hst : st = As.reverse ++ rest) (hcat : (rest.map fun v => v.category).sum ≤ 8) (hon : zOn mc ms d μ pc L rest h kc ks mc' ms' Post' Post) : Z mc ms d μ pc L st h kc ks Post := by
  intro p l e s m args below meth c D cI A ρ0 n0 hC hn ρ H locs ls hR hS
  obtain ⟨hx, hb, hml, hr0, hlk, hnm, hown, hts, hNw, hK, hA⟩ := id hC
  obtain ⟨hP, hD, hSS, hLL, hT⟩ := id hS
  obtain ⟨hm1, hm2, hm3, hm4⟩ := hm
  obtain ⟨hs1, hs2⟩ := hs
  have hM := hc (d - 1) (by omega) l D cI ρ H.size
  have hp := z_pre As hC hS
  refine z_land (a := (As.map (zV ρ)).toArray) (rest := rest) hon hC hn hR hS ?_
  rcases hs1 with hs1 | ⟨host, hs1⟩
  · exact va_runS (As := As.map (zV ρ)) (rest := rest.map (zV ρ)) (own := μ.1.cls) (n := n) (index := idx) ⟨hx, hb, hml, hown, hts⟩ hM ⟨callB_of n hts (zWd_good hm1) rfl rfl rfl (hts _ hm2) (hts _ hs1) hm3 (z_room (by omega) hm4), hts _ hs2⟩ hp rfl (by rw [List.length_map]; exact hAn) hLL.1 (by rw [hst]; simp [F0]) (lv_room (by rw [zV_cats]; exact hcat)) hdg ⟨hon.2.1, hon.2.2.1⟩
  · exact va_runSN (As := As.map (zV ρ)) (rest := rest.map (zV ρ)) (own := μ.1.cls) (host := host) (n := n) (index := idx) ⟨hx, hb, hml, hown, hts⟩ hM ⟨va_cnB n hts (zWd_good hm1) rfl rfl rfl (hNw _ hs1) (hts _ hm2) hm3 (z_room (by omega) hm4), hts _ hs2, trivial⟩ hp rfl (by rw [List.length_map]; exact hAn) hLL.1 (by rw [hst]; simp [F0]) (lv_room (by rw [zV_cats]; exact hcat)) hdg ⟨hon.2.1, hon.2.2.1⟩
set_option maxHeartbeats 1000000 in
theorem Z.callI {b : Nat} {As rest : List Value} (hdg : decode μ.2.1 pc = .ok (.invokespecial idx, 3)) (hm : zMk ν n) (hs : zSI μ.1.cls idx ν) (hc : zC mc' ms' hd ν (.ref b :: As) h Post') (hd1 : hd + 1 ≤ d) (hAn : As.length = n) (hst : st = As.reverse ++ .ref b :: rest) (hcat : (rest.map fun v => v.category).sum ≤ 8) (hon : zOn mc ms d μ pc L rest h kc ks mc' ms' Post' Post) : Z mc ms d μ pc L st h kc ks Post := by
  intro p l e s m args below meth c D cI A ρ0 n0 hC hn ρ H locs ls hR hS
  obtain ⟨hx, hb, hml, hr0, hlk, hnm, hown, hts, hNw, hK, hA⟩ := id hC
  obtain ⟨hP, hD, hSS, hLL, hT⟩ := id hS
  obtain ⟨hm1, hm2, hm3, hm4⟩ := hm
  obtain ⟨hs1, hs2, hs3, hs4⟩ := hs
  obtain ⟨ny, ncc, nn, nr⟩ := ν
  dsimp only at hs4
  subst hs4
  have hM := hc (d - 1) (by omega) l D cI ρ H.size
  have hp := z_pre (.ref b :: As) hC hS
  refine z_land (a := ((Value.ref b :: As).map (zV ρ)).toArray) (rest := rest) hon hC hn hR hS ?_
  rcases hs1 with hs1 | ⟨host, hs1⟩
  · exact va_runI (As := As.map (zV ρ)) (rest := rest.map (zV ρ)) (b := ρ b) (own := μ.1.cls) (n := n) (index := idx) ⟨hx, hb, hml, hown, hts⟩ hM ⟨callB_of n hts (zWd_good hm1) rfl rfl rfl (hts _ hm2) (hts _ hs1) hm3 (z_room (by omega) hm4), hs3, hts _ hs2⟩ hp rfl (by rw [List.length_map]; exact hAn) hLL.1 (by rw [hst]; simp [zV, F0]) (lv_room (by rw [zV_cats]; exact hcat)) hdg ⟨hon.2.1, hon.2.2.1⟩
  · exact va_runIN (As := As.map (zV ρ)) (rest := rest.map (zV ρ)) (b := ρ b) (own := μ.1.cls) (host := host) (n := n) (index := idx) ⟨hx, hb, hml, hown, hts⟩ hM ⟨va_cnB n hts (zWd_good hm1) rfl rfl rfl (hNw _ hs1) (hts _ hm2) hm3 (z_room (by omega) hm4), hs3, hts _ hs2⟩ hp rfl (by rw [List.length_map]; exact hAn) hLL.1 (by rw [hst]; simp [zV, F0]) (lv_room (by rw [zV_cats]; exact hcat)) hdg ⟨hon.2.1, hon.2.2.1⟩
end ZC
end
section
section ZN
variable {mc ms d : Nat} {μ : zU} {pc : Nat} {L : List (Option Value)} {st : List Value} {h : zH} {kc ks : Nat} {Post : Option Value → zH → Prop} {idx : Nat}
theorem Z.mmax {x y : Int32} (hdg : decode μ.2.1 pc = .ok (.invokestatic idx, 3)) (hw : Cond.methodLink μ.1.cls idx Lib.Math.max.name ∈ zWd ∧ Cond.static Lib.Math.max.name ∈ zWd ∧ Cond.initialized "java/lang/Math" ∈ zWd ∧ Cond.code Lib.Math.max.name Lib.Math.max.code 2 (some .int) ∈ zWd) (hd1 : 1 ≤ d) (hcat : (st.map fun v => v.category).sum ≤ 8) (hk : kc ≤ mc ∧ ks ≤ ms) (k9 : Z mc ms d μ (pc + 3) L (.int (if x < y then y else x) :: st) h kc ks Post) : Z mc ms d μ pc L (.int y :: .int x :: st) h kc ks Post := by
  intro p l e s m args below meth c D cI A ρ0 n0 hC hn ρ H locs ls hR hS
  obtain ⟨hx, hb, hml, hr0, hlk, hnm, hown, hts, hNw, hK, hA⟩ := id hC
  obtain ⟨hP, hD, hSS, hLL, hT⟩ := id hS
  exact va_mmax hx hb (hml.trans hLL.1.symm) hown (hts _ hw.1) (hts _ hw.2.1) (hts _ hw.2.2.1) (hts _ hw.2.2.2) (show 1 ≤ d from hd1) (by rw [zV_cats]; show _ ≤ 43 * d; omega) hk.1 hk.2 hdg (k9 p l e s m args below meth c D cI A ρ0 n0 hC hn ρ H locs ls hR hS)
theorem Z.mmin {x y : Int32} (hdg : decode μ.2.1 pc = .ok (.invokestatic idx, 3)) (hw : Cond.methodLink μ.1.cls idx Lib.Math.min.name ∈ zWd ∧ Cond.static Lib.Math.min.name ∈ zWd ∧ Cond.initialized "java/lang/Math" ∈ zWd ∧ Cond.code Lib.Math.min.name Lib.Math.min.code 2 (some .int) ∈ zWd) (hd1 : 1 ≤ d) (hcat : (st.map fun v => v.category).sum ≤ 8) (hk : kc ≤ mc ∧ ks ≤ ms) (k9 : Z mc ms d μ (pc + 3) L (.int (if y < x then y else x) :: st) h kc ks Post) : Z mc ms d μ pc L (.int y :: .int x :: st) h kc ks Post := by
  intro p l e s m args below meth c D cI A ρ0 n0 hC hn ρ H locs ls hR hS
  obtain ⟨hx, hb, hml, hr0, hlk, hnm, hown, hts, hNw, hK, hA⟩ := id hC
  obtain ⟨hP, hD, hSS, hLL, hT⟩ := id hS
  exact va_mmin hx hb (hml.trans hLL.1.symm) hown (hts _ hw.1) (hts _ hw.2.1) (hts _ hw.2.2.1) (hts _ hw.2.2.2) (show 1 ≤ d from hd1) (by rw [zV_cats]; show _ ≤ 43 * d; omega) hk.1 hk.2 hdg (k9 p l e s m args below meth c D cI A ρ0 n0 hC hn ρ H locs ls hR hS)
theorem Z.copyl {a0 a n0 n1 : Nat} {f g : Nat → Int64} {sp dp n : Int32} (hdg : decode μ.2.1 pc = .ok (.invokestatic idx, 3)) (hw : Cond.methodLink μ.1.cls idx arraycopyName ∈ zWd ∧ Cond.native arraycopyName ∈ zWd ∧ Cond.static arraycopyName ∈ zWd ∧ Cond.initialized "java/lang/System" ∈ zWd) (he0 : h[a0]? = some (.inl (.long, n0, .inr (.inl f)))) (he1 : h[a]? = some (.inl (.long, n1, .inr (.inl g)))) (h1 : ¬ sp < 0) (h2 : ¬ dp < 0) (h3 : ¬ n < 0) (h4 : sp.toNatClampNeg + n.toNatClampNeg ≤ n0) (h5 : dp.toNatClampNeg + n.toNatClampNeg ≤ n1) (hd1 : 2 ≤ d) (hcat : (st.map fun v => v.category).sum ≤ 8)
    (k9 : Z mc ms d μ (pc + 3) L st (h.set a (.inl (.long, n1, .inr (.inl (va_cpy f g sp.toNatClampNeg dp.toNatClampNeg n.toNatClampNeg))))) kc ks Post) : Z mc ms d μ pc L (.int n :: .int dp :: .ref a :: .int sp :: .ref a0 :: st) h kc ks Post := by
  intro p l e s m args below meth c D cI A ρ0 m0 hC hn ρ H locs ls hR hS
  obtain ⟨hx, hb, hml, hr0, hlk, hnm, hown, hts, hNw, hK, hA⟩ := id hC
  obtain ⟨hP, hD, hSS, hLL, hT⟩ := id hS
  exact va_copyl hx hb (hml.trans hLL.1.symm) hown (hts _ hw.1) (hts _ hw.2.1) (hts _ hw.2.2.1) (hts _ hw.2.2.2) hK hP hD hSS a0 a 1 1 (zw_at he0) (zw_at he1) rfl rfl rfl h1 h2 h3 h4 h5 (fun _ _ => rfl) (show 1 ≤ d by omega) (by
    rw [zV_cats]
    have e : nativeFrameWords "java/lang/System" "arraycopy" 5 + 11 ≤ 70 := by decide +kernel
    show _ ≤ 43 * d
    omega) hdg (fun H1 locs1 q1 q2 q3 => k9 p l e s m args below meth c D cI A ρ0 m0 hC (by rw [List.length_set]; exact hn) ρ H1 locs1 ls hR (hS.set q1 q2 q3))
end ZN
end
section
section ZY
def zi (a : Int) : Int32 := Int32.ofInt a
def zl (a : Int) : Int64 := Int64.ofInt a
abbrev zB (a : Int) : Prop := -2147483648 ≤ a ∧ a < 2147483648
abbrev zB64 (a : Int) : Prop := -9223372036854775808 ≤ a ∧ a < 9223372036854775808
theorem zi_toInt {a : Int} (h : zB a) : (zi a).toInt = a := Int32.toInt_ofInt_of_le (by omega) (by omega)
theorem zl_toInt {a : Int} (h : zB64 a) : (zl a).toInt = a := Int64.toInt_ofInt_of_le (by omega) (by omega)
theorem zi_of (x : Int32) : ∃ a : Int, zB a ∧ x = zi a := ⟨x.toInt, ⟨Int32.le_toInt x, Int32.toInt_lt x⟩, (Int32.ofInt_toInt x).symm⟩
theorem zi_add (a b : Int) : zi a + zi b = zi (a + b) := (Int32.ofInt_add a b).symm
theorem zi_sub (a b : Int) : zi a - zi b = zi (a - b) := (Int32.ofInt_sub a b).symm
theorem zi_mul (a b : Int) : zi a * zi b = zi (a * b) := (Int32.ofInt_mul a b).symm
theorem zl_add (a b : Int) : zl a + zl b = zl (a + b) := (Int64.ofInt_add a b).symm
theorem zl_sub (a b : Int) : zl a - zl b = zl (a - b) := (Int64.ofInt_sub a b).symm
theorem zl_mul (a b : Int) : zl a * zl b = zl (a * b) := (Int64.ofInt_mul a b).symm
theorem zi_div {a b : Int} (ha : zB a) (hb : zB b) : zi a / zi b = zi (a.tdiv b) := by
  unfold zi
  exact (Int32.ofInt_tdiv (by show (-2147483648 : Int) ≤ a; omega) (by show a ≤ 2147483647; omega) (by show (-2147483648 : Int) ≤ b; omega) (by show b ≤ 2147483647; omega)).symm
theorem zl_div {a b : Int} (ha : zB64 a) (hb : zB64 b) : zl a / zl b = zl (a.tdiv b) := by
  unfold zl
  exact (Int64.ofInt_tdiv (by show (-9223372036854775808 : Int) ≤ a; omega) (by show a ≤ 9223372036854775807; omega) (by show (-9223372036854775808 : Int) ≤ b; omega) (by show b ≤ 9223372036854775807; omega)).symm
theorem zi_rem {a b : Int} (ha : zB a) (hb : zB b) : zi a - zi a / zi b * zi b = zi (a.tmod b) := by
  rw [zi_div ha hb, zi_mul, zi_sub]
  congr 1
  have := Int.tmod_add_mul_tdiv a b
  rw [Int.mul_comm] at this
  omega
theorem zl_rem {a b : Int} (ha : zB64 a) (hb : zB64 b) : zl a - zl a / zl b * zl b = zl (a.tmod b) := by
  rw [zl_div ha hb, zl_mul, zl_sub]
  congr 1
  have := Int.tmod_add_mul_tdiv a b
  rw [Int.mul_comm] at this
  omega
theorem zi_lt {a b : Int} (ha : zB a) (hb : zB b) : zi a < zi b ↔ a < b := by rw [Int32.lt_iff_toInt_lt, zi_toInt ha, zi_toInt hb]
theorem zi_le {a b : Int} (ha : zB a) (hb : zB b) : zi a ≤ zi b ↔ a ≤ b := by rw [Int32.le_iff_toInt_le, zi_toInt ha, zi_toInt hb]
theorem zi_eq {a b : Int} (ha : zB a) (hb : zB b) : zi a = zi b ↔ a = b := by rw [← Int32.toInt_inj, zi_toInt ha, zi_toInt hb]
theorem zl_lt {a b : Int} (ha : zB64 a) (hb : zB64 b) : zl a < zl b ↔ a < b := by rw [Int64.lt_iff_toInt_lt, zl_toInt ha, zl_toInt hb]
theorem zl_eq {a b : Int} (ha : zB64 a) (hb : zB64 b) : zl a = zl b ↔ a = b := by rw [← Int64.toInt_inj, zl_toInt ha, zl_toInt hb]
theorem zi_long {a : Int} (h : zB a) : (zi a).toInt64 = zl a := Int32.toInt64_ofInt (by show (-2147483648 : Int) ≤ a; omega) (by show a ≤ 2147483647; omega)
theorem zl_int (a : Int) : (zl a).toInt32 = zi a := Int64.toInt32_ofInt
theorem zl_cmp {a b : Int} (ha : zB64 a) (hb : zB64 b) : lg_cmp (zl a) (zl b) = zi (if b < a then 1 else if a = b then 0 else -1) := by
  unfold lg_cmp
  have e1 : (zl a > zl b) ↔ b < a := zl_lt hb ha
  have e2 : (zl a = zl b) ↔ a = b := zl_eq ha hb
  by_cases h1 : b < a
  · rw [if_pos (e1.mpr h1), if_pos h1]; rfl
  · rw [if_neg (fun q => h1 (e1.mp q)), if_neg h1]
    by_cases h2 : a = b
    · rw [if_pos (e2.mpr h2), if_pos h2]; rfl
    · rw [if_neg (fun q => h2 (e2.mp q)), if_neg h2]; rfl
theorem zi_cl {a : Int} (ha : zB a) : (zi a).toNatClampNeg = a.toNat := Int32.toNatClampNeg_ofInt_of_le (by omega) (by omega)
theorem zi_in {a : Int} {n : Nat} (h0 : 0 ≤ a) (hn : a < n) (hN : n < 2147483648) : vp_in (zi a) n := by
  have hB : zB a := ⟨by omega, by omega⟩
  rw [vp_in_iff, zi_toInt hB]
  exact ⟨h0, hn⟩
/-- the world behind the constructors: ints and longs, by cell and place -/
abbrev zS : Type := (Nat → Int → Int) × (Nat → Int → Int)
def zu (σ : zS) (c : Nat) (i v : Int) : zS := (fun c' => if c' = c then (fun i' => if i' = i then v else σ.1 c i') else σ.1 c', σ.2)
def zul (σ : zS) (c : Nat) (i v : Int) : zS := (σ.1, fun c' => if c' = c then (fun i' => if i' = i then v else σ.2 c i') else σ.2 c')
theorem zu_eq {σ : zS} {c : Nat} {i v : Int} : (zu σ c i v).1 c i = v := by simp [zu]
theorem zu_ne {σ : zS} {c : Nat} {i j v : Int} (h : j ≠ i) : (zu σ c i v).1 c j = σ.1 c j := by simp [zu, h]
theorem zu_nc {σ : zS} {c c' : Nat} {i v : Int} (h : c' ≠ c) : (zu σ c i v).1 c' = σ.1 c' := by simp [zu, h]
theorem zu_l {σ : zS} {c : Nat} {i v : Int} : (zu σ c i v).2 = σ.2 := rfl
theorem zul_i {σ : zS} {c : Nat} {i v : Int} : (zul σ c i v).1 = σ.1 := rfl
theorem zul_eq {σ : zS} {c : Nat} {i v : Int} : (zul σ c i v).2 c i = v := by simp [zul]
theorem zul_ne {σ : zS} {c : Nat} {i j v : Int} (h : j ≠ i) : (zul σ c i v).2 c j = σ.2 c j := by simp [zul, h]
theorem zul_nc {σ : zS} {c c' : Nat} {i v : Int} (h : c' ≠ c) : (zul σ c i v).2 c' = σ.2 c' := by simp [zul, h]

def zHp (σ : zS) : zH := [
  .inr (4, [.ref 1, .ref 14, .ref 26, .ref 38, .ref 58, .int (zi (σ.1 0 5))]),
  .inr (2, [.ref 2, .ref 8, .ref 13]),
  .inl (.array .int, 5, .inr (.inr [some 3, some 4, some 5, some 6, some 7])),
  .inl (.int, 3, .inl (fun j => zi (σ.1 3 j))),
  .inl (.int, 3, .inl (fun j => zi (σ.1 4 j))),
  .inl (.int, 3, .inl (fun j => zi (σ.1 5 j))),
  .inl (.int, 3, .inl (fun j => zi (σ.1 6 j))),
  .inl (.int, 3, .inl (fun j => zi (σ.1 7 j))),
  .inl (.array .int, 4, .inr (.inr [some 9, some 10, some 11, some 12])),
  .inl (.int, 9, .inl (fun j => zi (σ.1 9 j))),
  .inl (.int, 9, .inl (fun j => zi (σ.1 10 j))),
  .inl (.int, 9, .inl (fun j => zi (σ.1 11 j))),
  .inl (.int, 9, .inl (fun j => zi (σ.1 12 j))),
  .inl (.int, 3, .inl (fun j => zi (σ.1 13 j))),
  .inr (0, [.ref 1, .ref 15, .ref 16, .ref 17, .ref 18, .ref 19, .ref 20, .ref 21, .ref 22, .ref 23, .ref 24, .ref 25, .int (zi (σ.1 14 12)), .int (zi (σ.1 14 13)), .int (zi (σ.1 14 14)), .int (zi (σ.1 14 15)), .int (zi (σ.1 14 16)), .int (zi (σ.1 14 17))]),
  .inl (.int, 3, .inl (fun j => zi (σ.1 15 j))),
  .inl (.int, 9, .inl (fun j => zi (σ.1 16 j))),
  .inl (.int, 9, .inl (fun j => zi (σ.1 17 j))),
  .inl (.int, 9, .inl (fun j => zi (σ.1 18 j))),
  .inl (.int, 9, .inl (fun j => zi (σ.1 19 j))),
  .inl (.int, 9, .inl (fun j => zi (σ.1 20 j))),
  .inl (.int, 27, .inl (fun j => zi (σ.1 21 j))),
  .inl (.int, 27, .inl (fun j => zi (σ.1 22 j))),
  .inl (.int, 9, .inl (fun j => zi (σ.1 23 j))),
  .inl (.int, 3, .inl (fun j => zi (σ.1 24 j))),
  .inl (.int, 3, .inl (fun j => zi (σ.1 25 j))),
  .inr (0, [.ref 1, .ref 27, .ref 28, .ref 29, .ref 30, .ref 31, .ref 32, .ref 33, .ref 34, .ref 35, .ref 36, .ref 37, .int (zi (σ.1 26 12)), .int (zi (σ.1 26 13)), .int (zi (σ.1 26 14)), .int (zi (σ.1 26 15)), .int (zi (σ.1 26 16)), .int (zi (σ.1 26 17))]),
  .inl (.int, 3, .inl (fun j => zi (σ.1 27 j))),
  .inl (.int, 9, .inl (fun j => zi (σ.1 28 j))),
  .inl (.int, 9, .inl (fun j => zi (σ.1 29 j))),
  .inl (.int, 9, .inl (fun j => zi (σ.1 30 j))),
  .inl (.int, 9, .inl (fun j => zi (σ.1 31 j))),
  .inl (.int, 9, .inl (fun j => zi (σ.1 32 j))),
  .inl (.int, 27, .inl (fun j => zi (σ.1 33 j))),
  .inl (.int, 27, .inl (fun j => zi (σ.1 34 j))),
  .inl (.int, 9, .inl (fun j => zi (σ.1 35 j))),
  .inl (.int, 3, .inl (fun j => zi (σ.1 36 j))),
  .inl (.int, 3, .inl (fun j => zi (σ.1 37 j))),
  .inr (1, [.int (zi (σ.1 38 0)), .int (zi (σ.1 38 1)), .ref 39, .ref 40, .ref 43, .ref 44, .ref 45, .ref 46, .ref 47, .ref 57]),
  .inl (.int, 2, .inl (fun j => zi (σ.1 39 j))),
  .inl (.array .int, 2, .inr (.inr [some 41, some 42])),
  .inl (.int, 300, .inl (fun j => zi (σ.1 41 j))),
  .inl (.int, 300, .inl (fun j => zi (σ.1 42 j))),
  .inl (.int, 9, .inl (fun j => zi (σ.1 43 j))),
  .inl (.int, 9, .inl (fun j => zi (σ.1 44 j))),
  .inl (.int, 9, .inl (fun j => zi (σ.1 45 j))),
  .inl (.int, 9, .inl (fun j => zi (σ.1 46 j))),
  .inl (.array .int, 9, .inr (.inr [some 48, some 49, some 50, some 51, some 52, some 53, some 54, some 55, some 56])),
  .inl (.int, 60, .inl (fun j => zi (σ.1 48 j))),
  .inl (.int, 60, .inl (fun j => zi (σ.1 49 j))),
  .inl (.int, 60, .inl (fun j => zi (σ.1 50 j))),
  .inl (.int, 60, .inl (fun j => zi (σ.1 51 j))),
  .inl (.int, 60, .inl (fun j => zi (σ.1 52 j))),
  .inl (.int, 60, .inl (fun j => zi (σ.1 53 j))),
  .inl (.int, 60, .inl (fun j => zi (σ.1 54 j))),
  .inl (.int, 60, .inl (fun j => zi (σ.1 55 j))),
  .inl (.int, 60, .inl (fun j => zi (σ.1 56 j))),
  .inl (.int, 3, .inl (fun j => zi (σ.1 57 j))),
  .inl (.object "OffsetChains$Sheet", 4, .inr (.inr [some 59, some 61, some 63, some 65])),
  .inr (3, [.int (zi (σ.1 59 0)), .int (zi (σ.1 59 1)), .int (zi (σ.1 59 2)), .ref 60]),
  .inl (.long, 60, .inr (.inl (fun j => zl (σ.2 60 j)))),
  .inr (3, [.int (zi (σ.1 61 0)), .int (zi (σ.1 61 1)), .int (zi (σ.1 61 2)), .ref 62]),
  .inl (.long, 60, .inr (.inl (fun j => zl (σ.2 62 j)))),
  .inr (3, [.int (zi (σ.1 63 0)), .int (zi (σ.1 63 1)), .int (zi (σ.1 63 2)), .ref 64]),
  .inl (.long, 60, .inr (.inl (fun j => zl (σ.2 64 j)))),
  .inr (3, [.int (zi (σ.1 65 0)), .int (zi (σ.1 65 1)), .int (zi (σ.1 65 2)), .ref 66]),
  .inl (.long, 60, .inr (.inl (fun j => zl (σ.2 66 j)))),
  .inr (5, [.ref 68, .ref 69, .ref 70, .ref 71, .int (zi (σ.1 67 4)), .ref 72, .ref 73, .ref 74, .ref 75, .ref 76, .ref 77, .ref 78, .ref 79, .ref 80, .ref 81, .long (zl (σ.2 67 15)), .long (zl (σ.2 67 16)), .ref 82, .ref 83, .int (zi (σ.1 67 19)), .int (zi (σ.1 67 20)), .int (zi (σ.1 67 21)), .int (zi (σ.1 67 22)), .ref 84, .ref 85, .ref 86, .ref 87, .int (zi (σ.1 67 27)), .int (zi (σ.1 67 28)), .ref 88, .ref 89, .ref 90, .ref 91, .ref 92, .ref 93, .int (zi (σ.1 67 35))]),
  .inl (.int, 4, .inl (fun j => zi (σ.1 68 j))),
  .inl (.int, 4, .inl (fun j => zi (σ.1 69 j))),
  .inl (.long, 240, .inr (.inl (fun j => zl (σ.2 70 j)))),
  .inl (.long, 60, .inr (.inl (fun j => zl (σ.2 71 j)))),
  .inl (.int, 3, .inl (fun j => zi (σ.1 72 j))),
  .inl (.int, 3, .inl (fun j => zi (σ.1 73 j))),
  .inl (.int, 3, .inl (fun j => zi (σ.1 74 j))),
  .inl (.int, 3, .inl (fun j => zi (σ.1 75 j))),
  .inl (.int, 3, .inl (fun j => zi (σ.1 76 j))),
  .inl (.int, 3, .inl (fun j => zi (σ.1 77 j))),
  .inl (.int, 9, .inl (fun j => zi (σ.1 78 j))),
  .inl (.int, 9, .inl (fun j => zi (σ.1 79 j))),
  .inl (.int, 9, .inl (fun j => zi (σ.1 80 j))),
  .inl (.int, 9, .inl (fun j => zi (σ.1 81 j))),
  .inl (.int, 9, .inl (fun j => zi (σ.1 82 j))),
  .inl (.int, 3, .inl (fun j => zi (σ.1 83 j))),
  .inl (.int, 9, .inl (fun j => zi (σ.1 84 j))),
  .inl (.int, 9, .inl (fun j => zi (σ.1 85 j))),
  .inl (.int, 9, .inl (fun j => zi (σ.1 86 j))),
  .inl (.int, 9, .inl (fun j => zi (σ.1 87 j))),
  .inl (.int, 576, .inl (fun j => zi (σ.1 88 j))),
  .inl (.int, 576, .inl (fun j => zi (σ.1 89 j))),
  .inl (.int, 9, .inl (fun j => zi (σ.1 90 j))),
  .inl (.int, 9, .inl (fun j => zi (σ.1 91 j))),
  .inl (.int, 9, .inl (fun j => zi (σ.1 92 j))),
  .inl (.int, 600, .inl (fun j => zi (σ.1 93 j)))]
theorem zHp_len (σ : zS) : (zHp σ).length = 94 := rfl
def zIA (a n : Nat) : Prop := n < 2147483648 ∧ (∀ σ : zS, (zHp σ)[a]? = some (.inl (.int, n, .inl (fun j => zi (σ.1 a j))))) ∧ ∀ (σ : zS) (i v : Int), (zHp σ).set a (.inl (.int, n, .inl (fun j => zi ((zu σ a i v).1 a j)))) = zHp (zu σ a i v)
def zLA (a n : Nat) : Prop := n < 2147483648 ∧ (∀ σ : zS, (zHp σ)[a]? = some (.inl (.long, n, .inr (.inl (fun j => zl (σ.2 a j)))))) ∧ ∀ (σ : zS) (i v : Int), (zHp σ).set a (.inl (.long, n, .inr (.inl (fun j => zl ((zul σ a i v).2 a j))))) = zHp (zul σ a i v)
def zRA (a n : Nat) (ty : FieldType) (q : List (Option Nat)) : Prop := n < 2147483648 ∧ ∀ σ : zS, (zHp σ)[a]? = some (.inl (ty, n, .inr (.inr q)))
def zOB (o ci : Nat) (fs : zS → List Value) : Prop := ∀ σ : zS, (zHp σ)[o]? = some (.inr (ci, fs σ))
def zOS (o ci k : Nat) (fs : zS → List Value) : Prop := ∀ (σ : zS) (v : Int), (zHp σ).set o (.inr (ci, (fs σ).set k (.int (zi v)))) = zHp (zu σ o k v)
def zOL (o ci k : Nat) (fs : zS → List Value) : Prop := ∀ (σ : zS) (v : Int), (zHp σ).set o (.inr (ci, (fs σ).set k (.long (zl v)))) = zHp (zul σ o k v)

abbrev fs0 : zS → List Value := fun σ => [.ref 1, .ref 14, .ref 26, .ref 38, .ref 58, .int (zi (σ.1 0 5))]
theorem ob0 : zOB 0 4 fs0 := fun _ => rfl
theorem os0_5 : zOS 0 4 5 fs0 := fun _ _ => rfl
abbrev fs1 : zS → List Value := fun σ => [.ref 2, .ref 8, .ref 13]
theorem ob1 : zOB 1 2 fs1 := fun _ => rfl
theorem ra2 : zRA 2 5 (.array .int) [some 3, some 4, some 5, some 6, some 7] := ⟨by decide, fun _ => rfl⟩
theorem ia3 : zIA 3 3 := ⟨by decide, fun _ => rfl, fun _ _ _ => rfl⟩
theorem ia4 : zIA 4 3 := ⟨by decide, fun _ => rfl, fun _ _ _ => rfl⟩
theorem ia5 : zIA 5 3 := ⟨by decide, fun _ => rfl, fun _ _ _ => rfl⟩
theorem ia6 : zIA 6 3 := ⟨by decide, fun _ => rfl, fun _ _ _ => rfl⟩
theorem ia7 : zIA 7 3 := ⟨by decide, fun _ => rfl, fun _ _ _ => rfl⟩
theorem ra8 : zRA 8 4 (.array .int) [some 9, some 10, some 11, some 12] := ⟨by decide, fun _ => rfl⟩
theorem ia9 : zIA 9 9 := ⟨by decide, fun _ => rfl, fun _ _ _ => rfl⟩
theorem ia10 : zIA 10 9 := ⟨by decide, fun _ => rfl, fun _ _ _ => rfl⟩
theorem ia11 : zIA 11 9 := ⟨by decide, fun _ => rfl, fun _ _ _ => rfl⟩
theorem ia12 : zIA 12 9 := ⟨by decide, fun _ => rfl, fun _ _ _ => rfl⟩
theorem ia13 : zIA 13 3 := ⟨by decide, fun _ => rfl, fun _ _ _ => rfl⟩
abbrev fs14 : zS → List Value := fun σ => [.ref 1, .ref 15, .ref 16, .ref 17, .ref 18, .ref 19, .ref 20, .ref 21, .ref 22, .ref 23, .ref 24, .ref 25, .int (zi (σ.1 14 12)), .int (zi (σ.1 14 13)), .int (zi (σ.1 14 14)), .int (zi (σ.1 14 15)), .int (zi (σ.1 14 16)), .int (zi (σ.1 14 17))]
theorem ob14 : zOB 14 0 fs14 := fun _ => rfl
theorem os14_12 : zOS 14 0 12 fs14 := fun _ _ => rfl
theorem os14_13 : zOS 14 0 13 fs14 := fun _ _ => rfl
theorem os14_14 : zOS 14 0 14 fs14 := fun _ _ => rfl
theorem os14_15 : zOS 14 0 15 fs14 := fun _ _ => rfl
theorem os14_16 : zOS 14 0 16 fs14 := fun _ _ => rfl
theorem os14_17 : zOS 14 0 17 fs14 := fun _ _ => rfl
theorem ia15 : zIA 15 3 := ⟨by decide, fun _ => rfl, fun _ _ _ => rfl⟩
theorem ia16 : zIA 16 9 := ⟨by decide, fun _ => rfl, fun _ _ _ => rfl⟩
theorem ia17 : zIA 17 9 := ⟨by decide, fun _ => rfl, fun _ _ _ => rfl⟩
theorem ia18 : zIA 18 9 := ⟨by decide, fun _ => rfl, fun _ _ _ => rfl⟩
theorem ia19 : zIA 19 9 := ⟨by decide, fun _ => rfl, fun _ _ _ => rfl⟩
theorem ia20 : zIA 20 9 := ⟨by decide, fun _ => rfl, fun _ _ _ => rfl⟩
theorem ia21 : zIA 21 27 := ⟨by decide, fun _ => rfl, fun _ _ _ => rfl⟩
theorem ia22 : zIA 22 27 := ⟨by decide, fun _ => rfl, fun _ _ _ => rfl⟩
theorem ia23 : zIA 23 9 := ⟨by decide, fun _ => rfl, fun _ _ _ => rfl⟩
theorem ia24 : zIA 24 3 := ⟨by decide, fun _ => rfl, fun _ _ _ => rfl⟩
theorem ia25 : zIA 25 3 := ⟨by decide, fun _ => rfl, fun _ _ _ => rfl⟩
abbrev fs26 : zS → List Value := fun σ => [.ref 1, .ref 27, .ref 28, .ref 29, .ref 30, .ref 31, .ref 32, .ref 33, .ref 34, .ref 35, .ref 36, .ref 37, .int (zi (σ.1 26 12)), .int (zi (σ.1 26 13)), .int (zi (σ.1 26 14)), .int (zi (σ.1 26 15)), .int (zi (σ.1 26 16)), .int (zi (σ.1 26 17))]
theorem ob26 : zOB 26 0 fs26 := fun _ => rfl
theorem os26_12 : zOS 26 0 12 fs26 := fun _ _ => rfl
theorem os26_13 : zOS 26 0 13 fs26 := fun _ _ => rfl
theorem os26_14 : zOS 26 0 14 fs26 := fun _ _ => rfl
theorem os26_15 : zOS 26 0 15 fs26 := fun _ _ => rfl
theorem os26_16 : zOS 26 0 16 fs26 := fun _ _ => rfl
theorem os26_17 : zOS 26 0 17 fs26 := fun _ _ => rfl
theorem ia27 : zIA 27 3 := ⟨by decide, fun _ => rfl, fun _ _ _ => rfl⟩
theorem ia28 : zIA 28 9 := ⟨by decide, fun _ => rfl, fun _ _ _ => rfl⟩
theorem ia29 : zIA 29 9 := ⟨by decide, fun _ => rfl, fun _ _ _ => rfl⟩
theorem ia30 : zIA 30 9 := ⟨by decide, fun _ => rfl, fun _ _ _ => rfl⟩
theorem ia31 : zIA 31 9 := ⟨by decide, fun _ => rfl, fun _ _ _ => rfl⟩
theorem ia32 : zIA 32 9 := ⟨by decide, fun _ => rfl, fun _ _ _ => rfl⟩
theorem ia33 : zIA 33 27 := ⟨by decide, fun _ => rfl, fun _ _ _ => rfl⟩
theorem ia34 : zIA 34 27 := ⟨by decide, fun _ => rfl, fun _ _ _ => rfl⟩
theorem ia35 : zIA 35 9 := ⟨by decide, fun _ => rfl, fun _ _ _ => rfl⟩
theorem ia36 : zIA 36 3 := ⟨by decide, fun _ => rfl, fun _ _ _ => rfl⟩
theorem ia37 : zIA 37 3 := ⟨by decide, fun _ => rfl, fun _ _ _ => rfl⟩
abbrev fs38 : zS → List Value := fun σ => [.int (zi (σ.1 38 0)), .int (zi (σ.1 38 1)), .ref 39, .ref 40, .ref 43, .ref 44, .ref 45, .ref 46, .ref 47, .ref 57]
theorem ob38 : zOB 38 1 fs38 := fun _ => rfl
theorem os38_0 : zOS 38 1 0 fs38 := fun _ _ => rfl
theorem os38_1 : zOS 38 1 1 fs38 := fun _ _ => rfl
theorem ia39 : zIA 39 2 := ⟨by decide, fun _ => rfl, fun _ _ _ => rfl⟩
theorem ra40 : zRA 40 2 (.array .int) [some 41, some 42] := ⟨by decide, fun _ => rfl⟩
theorem ia41 : zIA 41 300 := ⟨by decide, fun _ => rfl, fun _ _ _ => rfl⟩
theorem ia42 : zIA 42 300 := ⟨by decide, fun _ => rfl, fun _ _ _ => rfl⟩
theorem ia43 : zIA 43 9 := ⟨by decide, fun _ => rfl, fun _ _ _ => rfl⟩
theorem ia44 : zIA 44 9 := ⟨by decide, fun _ => rfl, fun _ _ _ => rfl⟩
theorem ia45 : zIA 45 9 := ⟨by decide, fun _ => rfl, fun _ _ _ => rfl⟩
theorem ia46 : zIA 46 9 := ⟨by decide, fun _ => rfl, fun _ _ _ => rfl⟩
theorem ra47 : zRA 47 9 (.array .int) [some 48, some 49, some 50, some 51, some 52, some 53, some 54, some 55, some 56] := ⟨by decide, fun _ => rfl⟩
theorem ia48 : zIA 48 60 := ⟨by decide, fun _ => rfl, fun _ _ _ => rfl⟩
theorem ia49 : zIA 49 60 := ⟨by decide, fun _ => rfl, fun _ _ _ => rfl⟩
theorem ia50 : zIA 50 60 := ⟨by decide, fun _ => rfl, fun _ _ _ => rfl⟩
theorem ia51 : zIA 51 60 := ⟨by decide, fun _ => rfl, fun _ _ _ => rfl⟩
theorem ia52 : zIA 52 60 := ⟨by decide, fun _ => rfl, fun _ _ _ => rfl⟩
theorem ia53 : zIA 53 60 := ⟨by decide, fun _ => rfl, fun _ _ _ => rfl⟩
theorem ia54 : zIA 54 60 := ⟨by decide, fun _ => rfl, fun _ _ _ => rfl⟩
theorem ia55 : zIA 55 60 := ⟨by decide, fun _ => rfl, fun _ _ _ => rfl⟩
theorem ia56 : zIA 56 60 := ⟨by decide, fun _ => rfl, fun _ _ _ => rfl⟩
theorem ia57 : zIA 57 3 := ⟨by decide, fun _ => rfl, fun _ _ _ => rfl⟩
theorem ra58 : zRA 58 4 (.object "OffsetChains$Sheet") [some 59, some 61, some 63, some 65] := ⟨by decide, fun _ => rfl⟩
abbrev fs59 : zS → List Value := fun σ => [.int (zi (σ.1 59 0)), .int (zi (σ.1 59 1)), .int (zi (σ.1 59 2)), .ref 60]
theorem ob59 : zOB 59 3 fs59 := fun _ => rfl
theorem os59_0 : zOS 59 3 0 fs59 := fun _ _ => rfl
theorem os59_1 : zOS 59 3 1 fs59 := fun _ _ => rfl
theorem os59_2 : zOS 59 3 2 fs59 := fun _ _ => rfl
theorem la60 : zLA 60 60 := ⟨by decide, fun _ => rfl, fun _ _ _ => rfl⟩
abbrev fs61 : zS → List Value := fun σ => [.int (zi (σ.1 61 0)), .int (zi (σ.1 61 1)), .int (zi (σ.1 61 2)), .ref 62]
theorem ob61 : zOB 61 3 fs61 := fun _ => rfl
theorem os61_0 : zOS 61 3 0 fs61 := fun _ _ => rfl
theorem os61_1 : zOS 61 3 1 fs61 := fun _ _ => rfl
theorem os61_2 : zOS 61 3 2 fs61 := fun _ _ => rfl
theorem la62 : zLA 62 60 := ⟨by decide, fun _ => rfl, fun _ _ _ => rfl⟩
abbrev fs63 : zS → List Value := fun σ => [.int (zi (σ.1 63 0)), .int (zi (σ.1 63 1)), .int (zi (σ.1 63 2)), .ref 64]
theorem ob63 : zOB 63 3 fs63 := fun _ => rfl
theorem os63_0 : zOS 63 3 0 fs63 := fun _ _ => rfl
theorem os63_1 : zOS 63 3 1 fs63 := fun _ _ => rfl
theorem os63_2 : zOS 63 3 2 fs63 := fun _ _ => rfl
theorem la64 : zLA 64 60 := ⟨by decide, fun _ => rfl, fun _ _ _ => rfl⟩
abbrev fs65 : zS → List Value := fun σ => [.int (zi (σ.1 65 0)), .int (zi (σ.1 65 1)), .int (zi (σ.1 65 2)), .ref 66]
theorem ob65 : zOB 65 3 fs65 := fun _ => rfl
theorem os65_0 : zOS 65 3 0 fs65 := fun _ _ => rfl
theorem os65_1 : zOS 65 3 1 fs65 := fun _ _ => rfl
theorem os65_2 : zOS 65 3 2 fs65 := fun _ _ => rfl
theorem la66 : zLA 66 60 := ⟨by decide, fun _ => rfl, fun _ _ _ => rfl⟩
abbrev fs67 : zS → List Value := fun σ => [.ref 68, .ref 69, .ref 70, .ref 71, .int (zi (σ.1 67 4)), .ref 72, .ref 73, .ref 74, .ref 75, .ref 76, .ref 77, .ref 78, .ref 79, .ref 80, .ref 81, .long (zl (σ.2 67 15)), .long (zl (σ.2 67 16)), .ref 82, .ref 83, .int (zi (σ.1 67 19)), .int (zi (σ.1 67 20)), .int (zi (σ.1 67 21)), .int (zi (σ.1 67 22)), .ref 84, .ref 85, .ref 86, .ref 87, .int (zi (σ.1 67 27)), .int (zi (σ.1 67 28)), .ref 88, .ref 89, .ref 90, .ref 91, .ref 92, .ref 93, .int (zi (σ.1 67 35))]
theorem ob67 : zOB 67 5 fs67 := fun _ => rfl
theorem os67_4 : zOS 67 5 4 fs67 := fun _ _ => rfl
theorem ol67_15 : zOL 67 5 15 fs67 := fun _ _ => rfl
theorem ol67_16 : zOL 67 5 16 fs67 := fun _ _ => rfl
theorem os67_19 : zOS 67 5 19 fs67 := fun _ _ => rfl
theorem os67_20 : zOS 67 5 20 fs67 := fun _ _ => rfl
theorem os67_21 : zOS 67 5 21 fs67 := fun _ _ => rfl
theorem os67_22 : zOS 67 5 22 fs67 := fun _ _ => rfl
theorem os67_27 : zOS 67 5 27 fs67 := fun _ _ => rfl
theorem os67_28 : zOS 67 5 28 fs67 := fun _ _ => rfl
theorem os67_35 : zOS 67 5 35 fs67 := fun _ _ => rfl
theorem ia68 : zIA 68 4 := ⟨by decide, fun _ => rfl, fun _ _ _ => rfl⟩
theorem ia69 : zIA 69 4 := ⟨by decide, fun _ => rfl, fun _ _ _ => rfl⟩
theorem la70 : zLA 70 240 := ⟨by decide, fun _ => rfl, fun _ _ _ => rfl⟩
theorem la71 : zLA 71 60 := ⟨by decide, fun _ => rfl, fun _ _ _ => rfl⟩
theorem ia72 : zIA 72 3 := ⟨by decide, fun _ => rfl, fun _ _ _ => rfl⟩
theorem ia73 : zIA 73 3 := ⟨by decide, fun _ => rfl, fun _ _ _ => rfl⟩
theorem ia74 : zIA 74 3 := ⟨by decide, fun _ => rfl, fun _ _ _ => rfl⟩
theorem ia75 : zIA 75 3 := ⟨by decide, fun _ => rfl, fun _ _ _ => rfl⟩
theorem ia76 : zIA 76 3 := ⟨by decide, fun _ => rfl, fun _ _ _ => rfl⟩
theorem ia77 : zIA 77 3 := ⟨by decide, fun _ => rfl, fun _ _ _ => rfl⟩
theorem ia78 : zIA 78 9 := ⟨by decide, fun _ => rfl, fun _ _ _ => rfl⟩
theorem ia79 : zIA 79 9 := ⟨by decide, fun _ => rfl, fun _ _ _ => rfl⟩
theorem ia80 : zIA 80 9 := ⟨by decide, fun _ => rfl, fun _ _ _ => rfl⟩
theorem ia81 : zIA 81 9 := ⟨by decide, fun _ => rfl, fun _ _ _ => rfl⟩
theorem ia82 : zIA 82 9 := ⟨by decide, fun _ => rfl, fun _ _ _ => rfl⟩
theorem ia83 : zIA 83 3 := ⟨by decide, fun _ => rfl, fun _ _ _ => rfl⟩
theorem ia84 : zIA 84 9 := ⟨by decide, fun _ => rfl, fun _ _ _ => rfl⟩
theorem ia85 : zIA 85 9 := ⟨by decide, fun _ => rfl, fun _ _ _ => rfl⟩
theorem ia86 : zIA 86 9 := ⟨by decide, fun _ => rfl, fun _ _ _ => rfl⟩
theorem ia87 : zIA 87 9 := ⟨by decide, fun _ => rfl, fun _ _ _ => rfl⟩
theorem ia88 : zIA 88 576 := ⟨by decide, fun _ => rfl, fun _ _ _ => rfl⟩
theorem ia89 : zIA 89 576 := ⟨by decide, fun _ => rfl, fun _ _ _ => rfl⟩
theorem ia90 : zIA 90 9 := ⟨by decide, fun _ => rfl, fun _ _ _ => rfl⟩
theorem ia91 : zIA 91 9 := ⟨by decide, fun _ => rfl, fun _ _ _ => rfl⟩
theorem ia92 : zIA 92 9 := ⟨by decide, fun _ => rfl, fun _ _ _ => rfl⟩
theorem ia93 : zIA 93 600 := ⟨by decide, fun _ => rfl, fun _ _ _ => rfl⟩
def zAb (b : Nat) : Prop := b = 14 ∨ b = 26
theorem iaA1 {b : Nat} (hb : zAb b) : zIA (b + 1) 3 := by rcases hb with rfl | rfl <;> first | exact ia15 | exact ia27
theorem iaA2 {b : Nat} (hb : zAb b) : zIA (b + 2) 9 := by rcases hb with rfl | rfl <;> first | exact ia16 | exact ia28
theorem iaA3 {b : Nat} (hb : zAb b) : zIA (b + 3) 9 := by rcases hb with rfl | rfl <;> first | exact ia17 | exact ia29
theorem iaA4 {b : Nat} (hb : zAb b) : zIA (b + 4) 9 := by rcases hb with rfl | rfl <;> first | exact ia18 | exact ia30
theorem iaA5 {b : Nat} (hb : zAb b) : zIA (b + 5) 9 := by rcases hb with rfl | rfl <;> first | exact ia19 | exact ia31
theorem iaA6 {b : Nat} (hb : zAb b) : zIA (b + 6) 9 := by rcases hb with rfl | rfl <;> first | exact ia20 | exact ia32
theorem iaA7 {b : Nat} (hb : zAb b) : zIA (b + 7) 27 := by rcases hb with rfl | rfl <;> first | exact ia21 | exact ia33
theorem iaA8 {b : Nat} (hb : zAb b) : zIA (b + 8) 27 := by rcases hb with rfl | rfl <;> first | exact ia22 | exact ia34
theorem iaA9 {b : Nat} (hb : zAb b) : zIA (b + 9) 9 := by rcases hb with rfl | rfl <;> first | exact ia23 | exact ia35
theorem iaA10 {b : Nat} (hb : zAb b) : zIA (b + 10) 3 := by rcases hb with rfl | rfl <;> first | exact ia24 | exact ia36
theorem iaA11 {b : Nat} (hb : zAb b) : zIA (b + 11) 3 := by rcases hb with rfl | rfl <;> first | exact ia25 | exact ia37
abbrev fsA (b : Nat) : zS → List Value := fun σ => [.ref 1, .ref (b + 1), .ref (b + 2), .ref (b + 3), .ref (b + 4), .ref (b + 5), .ref (b + 6), .ref (b + 7), .ref (b + 8), .ref (b + 9), .ref (b + 10), .ref (b + 11), .int (zi (σ.1 b 12)), .int (zi (σ.1 b 13)), .int (zi (σ.1 b 14)), .int (zi (σ.1 b 15)), .int (zi (σ.1 b 16)), .int (zi (σ.1 b 17))]
theorem obA {b : Nat} (hb : zAb b) : zOB b 0 (fsA b) := by rcases hb with rfl | rfl <;> exact fun _ => rfl
theorem osA_12 {b : Nat} (hb : zAb b) : zOS b 0 12 (fsA b) := by rcases hb with rfl | rfl <;> exact fun _ _ => rfl
theorem osA_13 {b : Nat} (hb : zAb b) : zOS b 0 13 (fsA b) := by rcases hb with rfl | rfl <;> exact fun _ _ => rfl
theorem osA_14 {b : Nat} (hb : zAb b) : zOS b 0 14 (fsA b) := by rcases hb with rfl | rfl <;> exact fun _ _ => rfl
theorem osA_15 {b : Nat} (hb : zAb b) : zOS b 0 15 (fsA b) := by rcases hb with rfl | rfl <;> exact fun _ _ => rfl
theorem osA_16 {b : Nat} (hb : zAb b) : zOS b 0 16 (fsA b) := by rcases hb with rfl | rfl <;> exact fun _ _ => rfl
theorem osA_17 {b : Nat} (hb : zAb b) : zOS b 0 17 (fsA b) := by rcases hb with rfl | rfl <;> exact fun _ _ => rfl
theorem zs4 {s : Nat} (h : s < 4) : s = 0 ∨ s = 1 ∨ s = 2 ∨ s = 3 := by omega
abbrev fsS (s : Nat) : zS → List Value := fun σ => [.int (zi (σ.1 (59 + 2 * s) 0)), .int (zi (σ.1 (59 + 2 * s) 1)), .int (zi (σ.1 (59 + 2 * s) 2)), .ref (60 + 2 * s)]
theorem obS {s : Nat} (h : s < 4) : zOB (59 + 2 * s) 3 (fsS s) := by rcases zs4 h with rfl | rfl | rfl | rfl <;> exact fun _ => rfl
theorem osS_0 {s : Nat} (h : s < 4) : zOS (59 + 2 * s) 3 0 (fsS s) := by rcases zs4 h with rfl | rfl | rfl | rfl <;> exact fun _ _ => rfl
theorem osS_1 {s : Nat} (h : s < 4) : zOS (59 + 2 * s) 3 1 (fsS s) := by rcases zs4 h with rfl | rfl | rfl | rfl <;> exact fun _ _ => rfl
theorem osS_2 {s : Nat} (h : s < 4) : zOS (59 + 2 * s) 3 2 (fsS s) := by rcases zs4 h with rfl | rfl | rfl | rfl <;> exact fun _ _ => rfl
theorem laS {s : Nat} (h : s < 4) : zLA (60 + 2 * s) 60 := by rcases zs4 h with rfl | rfl | rfl | rfl <;> first | exact la60 | exact la62 | exact la64 | exact la66
theorem iaT {k : Nat} (h : k < 5) : zIA (3 + k) 3 := by
  rcases (show k = 0 ∨ k = 1 ∨ k = 2 ∨ k = 3 ∨ k = 4 by omega) with rfl | rfl | rfl | rfl | rfl <;> first | exact ia3 | exact ia4 | exact ia5 | exact ia6 | exact ia7
theorem iaM {k : Nat} (h : k < 4) : zIA (9 + k) 9 := by
  rcases zs4 h with rfl | rfl | rfl | rfl <;> first | exact ia9 | exact ia10 | exact ia11 | exact ia12
theorem iaD {k : Nat} (h : k < 2) : zIA (41 + k) 300 := by
  rcases (show k = 0 ∨ k = 1 by omega) with rfl | rfl <;> first | exact ia41 | exact ia42
theorem iaE {k : Nat} (h : k < 9) : zIA (48 + k) 60 := by
  rcases (show k = 0 ∨ k = 1 ∨ k = 2 ∨ k = 3 ∨ k = 4 ∨ k = 5 ∨ k = 6 ∨ k = 7 ∨ k = 8 by omega) with rfl | rfl | rfl | rfl | rfl | rfl | rfl | rfl | rfl <;> first | exact ia48 | exact ia49 | exact ia50 | exact ia51 | exact ia52 | exact ia53 | exact ia54 | exact ia55 | exact ia56
end ZY
end
section
section YR
/-- from pc on, in the world σ, with no cell made -/
def Y (d : Nat) (μ : zU) (pc : Nat) (L : List (Option Value)) (st : List Value) (σ : zS) (P : Option Value → zS → Prop) : Prop := Z 0 0 d μ pc L st (zHp σ) 0 0 (fun r h => ∃ σ', h = zHp σ' ∧ P r σ')
def YC (hd : Nat) (μ : zU) (avs : List Value) (σ : zS) (P : Option Value → zS → Prop) : Prop := zC 0 0 hd μ avs (zHp σ) (fun r h => ∃ σ', h = zHp σ' ∧ P r σ')
variable {hd hd' d : Nat} {μ ν : zU} {pc : Nat} {L : List (Option Value)} {st : List Value} {σ : zS} {P P' : Option Value → zS → Prop} {avs : List Value} {idx : Nat}
theorem YC.of (hpl : plainName μ.1.cls = true) (hsl : (lg_sl avs).length ≤ μ.2.2.1) (k : ∀ d : Nat, hd ≤ d → Y d μ 0 (zEnt avs μ.2.2.1) [] σ P) : YC hd μ avs σ P := zC.of hpl hsl k
theorem YC.up (h : YC hd μ avs σ P) (h1 : hd ≤ hd') : YC hd' μ avs σ P := fun d h2 => h d (Nat.le_trans h1 h2)
theorem Y.mono (hP : ∀ r σ', P' r σ' → P r σ') (k : Y d μ pc L st σ P') : Y d μ pc L st σ P := Z.mono (fun r h' ⟨σ', h1, h2⟩ => ⟨σ', h1, hP r σ' h2⟩) k
theorem YC.mono (hpl : plainName μ.1.cls = true) (hP : ∀ r σ', P' r σ' → P r σ') (k : YC hd μ avs σ P') : YC hd μ avs σ P := by
  intro d h2 l D cI ρ0 sz
  intro p e h1 h3 h4 s m args below h5 h6 h7 h8
  obtain ⟨n, o, a1, a2, a3, a4, a5⟩ := k d h2 l D cI ρ0 sz p e h1 h3 h4 s m args below h5 h6 h7 h8
  refine ⟨n, o, a1, a2, a3, ?_, a5⟩
  obtain ⟨⟨r, h', ρ', ⟨σ', b1, b2⟩, b3⟩, b4⟩ := a4
  exact ⟨⟨r, h', ρ', ⟨σ', b1, hP r σ' b2⟩, b3⟩, b4⟩
/-- an answer that is an int, and the world behind it -/
abbrev YI (hd : Nat) (μ : zU) (avs : List Value) (σ : zS) (v : Int) (σ' : zS) : Prop := YC hd μ avs σ (fun r s => r = some (.int (zi v)) ∧ s = σ')
abbrev YV (hd : Nat) (μ : zU) (avs : List Value) (σ σ' : zS) : Prop := YC hd μ avs σ (fun r s => r = none ∧ s = σ')
abbrev YJ (hd : Nat) (μ : zU) (avs : List Value) (σ : zS) (v : Int) (σ' : zS) : Prop := YC hd μ avs σ (fun r s => r = some (.long (zl v)) ∧ s = σ')
theorem Y.loc {L' : List (Option Value)} (k : Y d μ pc L' st σ P) (hL : ∀ (i : Nat) (v : Value), L'[i]? = some (some v) → L[i]? = some (some v)) : Y d μ pc L st σ P := Z.loc hL k
theorem zi0 : (0 : Int32) = zi 0 := rfl
theorem zl0 : (0 : Int64) = zl 0 := rfl
theorem zB0 : zB 0 := ⟨by decide, by decide⟩
theorem zi_n0 {a : Int} (ha : zB a) (h : ¬ a = 0) : ¬ zi a = 0 := by rw [zi0, zi_eq ha zB0]; exact h
theorem zl_n0 {a : Int} (ha : zB64 a) (h : ¬ a = 0) : ¬ zl a = 0 := by rw [zl0, zl_eq ha ⟨by decide, by decide⟩]; exact h
theorem Y.iadd {a b : Int} (hdg : decode μ.2.1 pc = .ok (.iadd, 1)) (k : Y d μ (pc + 1) L (.int (zi (a + b)) :: st) σ P) : Y d μ pc L (.int (zi b) :: .int (zi a) :: st) σ P := Z.iadd hdg (by rw [zi_add]; exact k)
theorem Y.isub {a b : Int} (hdg : decode μ.2.1 pc = .ok (.isub, 1)) (k : Y d μ (pc + 1) L (.int (zi (a - b)) :: st) σ P) : Y d μ pc L (.int (zi b) :: .int (zi a) :: st) σ P := Z.isub hdg (by rw [zi_sub]; exact k)
theorem Y.imul {a b : Int} (hdg : decode μ.2.1 pc = .ok (.imul, 1)) (k : Y d μ (pc + 1) L (.int (zi (a * b)) :: st) σ P) : Y d μ pc L (.int (zi b) :: .int (zi a) :: st) σ P := Z.imul hdg (by rw [zi_mul]; exact k)
theorem Y.ladd {a b : Int} (hdg : decode μ.2.1 pc = .ok (.ladd, 1)) (k : Y d μ (pc + 1) L (.long (zl (a + b)) :: st) σ P) : Y d μ pc L (.long (zl b) :: .long (zl a) :: st) σ P := Z.ladd hdg (by rw [zl_add]; exact k)
theorem Y.lsub {a b : Int} (hdg : decode μ.2.1 pc = .ok (.lsub, 1)) (k : Y d μ (pc + 1) L (.long (zl (a - b)) :: st) σ P) : Y d μ pc L (.long (zl b) :: .long (zl a) :: st) σ P := Z.lsub hdg (by rw [zl_sub]; exact k)
theorem Y.lmul {a b : Int} (hdg : decode μ.2.1 pc = .ok (.lmul, 1)) (k : Y d μ (pc + 1) L (.long (zl (a * b)) :: st) σ P) : Y d μ pc L (.long (zl b) :: .long (zl a) :: st) σ P := Z.lmul hdg (by rw [zl_mul]; exact k)
theorem Y.idiv {a b : Int} (hdg : decode μ.2.1 pc = .ok (.idiv, 1)) (ha : zB a) (hb : zB b) (h0 : ¬ b = 0) (k : Y d μ (pc + 1) L (.int (zi (a.tdiv b)) :: st) σ P) : Y d μ pc L (.int (zi b) :: .int (zi a) :: st) σ P := Z.idiv hdg (zi_n0 hb h0) (by rw [zi_div ha hb]; exact k)
theorem Y.irem {a b : Int} (hdg : decode μ.2.1 pc = .ok (.irem, 1)) (ha : zB a) (hb : zB b) (h0 : ¬ b = 0) (k : Y d μ (pc + 1) L (.int (zi (a.tmod b)) :: st) σ P) : Y d μ pc L (.int (zi b) :: .int (zi a) :: st) σ P := Z.irem hdg (zi_n0 hb h0) (by rw [zi_rem ha hb]; exact k)
theorem Y.ldiv {a b : Int} (hdg : decode μ.2.1 pc = .ok (.ldiv, 1)) (ha : zB64 a) (hb : zB64 b) (h0 : ¬ b = 0) (k : Y d μ (pc + 1) L (.long (zl (a.tdiv b)) :: st) σ P) : Y d μ pc L (.long (zl b) :: .long (zl a) :: st) σ P := Z.ldiv hdg (zl_n0 hb h0) (by rw [zl_div ha hb]; exact k)
theorem Y.lrem {a b : Int} (hdg : decode μ.2.1 pc = .ok (.lrem, 1)) (ha : zB64 a) (hb : zB64 b) (h0 : ¬ b = 0) (k : Y d μ (pc + 1) L (.long (zl (a.tmod b)) :: st) σ P) : Y d μ pc L (.long (zl b) :: .long (zl a) :: st) σ P := Z.lrem hdg (zl_n0 hb h0) (by rw [zl_rem ha hb]; exact k)
theorem Y.lcmp {a b : Int} (hdg : decode μ.2.1 pc = .ok (.lcmp, 1)) (ha : zB64 a) (hb : zB64 b) (k : ∀ c : Int, zB c → (c < 0 ↔ a < b) → (c = 0 ↔ a = b) → Y d μ (pc + 1) L (.int (zi c) :: st) σ P) : Y d μ pc L (.long (zl b) :: .long (zl a) :: st) σ P := by
  refine Z.lcmp hdg ?_
  rw [zl_cmp ha hb]
  refine k _ ?_ ?_ ?_ <;> (split <;> try split) <;> omega
theorem Y.i2l {a : Int} (hdg : decode μ.2.1 pc = .ok (.i2l, 1)) (ha : zB a) (k : Y d μ (pc + 1) L (.long (zl a) :: st) σ P) : Y d μ pc L (.int (zi a) :: st) σ P := Z.i2l hdg (by rw [zi_long ha]; exact k)
theorem Y.l2i {a : Int} (hdg : decode μ.2.1 pc = .ok (.l2i, 1)) (k : Y d μ (pc + 1) L (.int (zi a) :: st) σ P) : Y d μ pc L (.long (zl a) :: st) σ P := Z.l2i hdg (by rw [zl_int]; exact k)
/-- what a short keeps -/
def zsh (a : Int) : Int := ((zi a).toInt16.toInt32).toInt
theorem zsh_eq (a : Int) : (zi a).toInt16.toInt32 = zi (zsh a) := (Int32.ofInt_toInt _).symm
theorem zsh_B (a : Int) : zB (zsh a) := ⟨Int32.le_toInt _, Int32.toInt_lt _⟩
theorem Y.i2s {a : Int} (hdg : decode μ.2.1 pc = .ok (.i2s, 1)) (k : Y d μ (pc + 1) L (.int (zi (zsh a)) :: st) σ P) : Y d μ pc L (.int (zi a) :: st) σ P := Z.i2s hdg (by rw [zsh_eq]; exact k)
theorem Y.iconst {n : Int} (hdg : decode μ.2.1 pc = .ok (.iconst n, 1)) (k : Y d μ (pc + 1) L (.int (zi n) :: st) σ P) : Y d μ pc L st σ P := Z.iconst (zi n) hdg rfl k
theorem Y.bipush {n : Int} (hdg : decode μ.2.1 pc = .ok (.bipush n, 2)) (hv : (Int8.ofInt n).toInt32 = zi n) (k : Y d μ (pc + 2) L (.int (zi n) :: st) σ P) : Y d μ pc L st σ P := Z.bipush (zi n) hdg hv k
theorem Y.sipush {n : Int} (hdg : decode μ.2.1 pc = .ok (.sipush n, 3)) (hv : (Int16.ofInt n).toInt32 = zi n) (k : Y d μ (pc + 3) L (.int (zi n) :: st) σ P) : Y d μ pc L st σ P := Z.sipush (zi n) hdg hv k
theorem Y.lconst {n : Fin 2} (v : Int) (hdg : decode μ.2.1 pc = .ok (.lconst n, 1)) (hv : Int64.ofNat (n : Nat) = zl v) (k : Y d μ (pc + 1) L (.long (zl v) :: st) σ P) : Y d μ pc L st σ P := Z.lconst (zl v) hdg hv k
theorem Y.ldc2 (v : Int) (hdg : decode μ.2.1 pc = .ok (.ldc2_w idx, 3)) (hw : Cond.constantLong μ.1.cls idx (zl v) ∈ zWd) (k : Y d μ (pc + 3) L (.long (zl v) :: st) σ P) : Y d μ pc L st σ P := Z.ldc2 (zl v) hdg hw k
theorem Y.dup {v : Value} (hdg : decode μ.2.1 pc = .ok (.dup, 1)) (hv : v.category = 1) (k : Y d μ (pc + 1) L (v :: v :: st) σ P) : Y d μ pc L (v :: st) σ P := Z.dup hdg hv k
theorem Y.dup2 {v u : Value} (hdg : decode μ.2.1 pc = .ok (.dup2, 1)) (hv : v.category = 1) (hu : u.category = 1) (k : Y d μ (pc + 1) L (v :: u :: v :: u :: st) σ P) : Y d μ pc L (v :: u :: st) σ P := Z.dup2 hdg hv hu k
theorem Y.pop {v : Value} (hdg : decode μ.2.1 pc = .ok (.pop, 1)) (hv : v.category = 1) (k : Y d μ (pc + 1) L st σ P) : Y d μ pc L (v :: st) σ P := Z.pop hdg hv k
theorem Y.goto {off : Int} (tgt : Nat) (hdg : decode μ.2.1 pc = .ok (.goto off, 3)) (ht : (pc : Int) + off = (tgt : Int)) (k : Y d μ tgt L st σ P) : Y d μ pc L st σ P := Z.goto tgt hdg ht k
theorem Y.tin {dflt lo hi : Int} {offs : Array Int} {len : Nat} {a off : Int} (tgt : Nat) (hdg : decode μ.2.1 pc = .ok (.tableswitch dflt lo hi offs, len)) (ha : zB a) (h1 : lo ≤ a) (h2 : a ≤ hi) (ho : offs[(a - lo).toNat]? = some off) (ht : (pc : Int) + off = (tgt : Int)) (k : Y d μ tgt L st σ P) : Y d μ pc L (.int (zi a) :: st) σ P := Z.tin tgt hdg (by rw [zi_toInt ha]; omega) (by rw [zi_toInt ha]; omega) (by rw [zi_toInt ha]; exact ho) ht k
theorem Y.tout {dflt lo hi : Int} {offs : Array Int} {len : Nat} {a : Int} (tgt : Nat) (hdg : decode μ.2.1 pc = .ok (.tableswitch dflt lo hi offs, len)) (ha : zB a) (h1 : a < lo ∨ hi < a) (ht : (pc : Int) + dflt = (tgt : Int)) (k : Y d μ tgt L st σ P) : Y d μ pc L (.int (zi a) :: st) σ P := Z.tout tgt hdg (by rw [zi_toInt ha]; exact h1) ht k
theorem Y.if_eq {a off : Int} (tgt : Nat) (hdg : decode μ.2.1 pc = .ok (.ifCond .eq off, 3)) (ht : (pc : Int) + off = (tgt : Int)) (ha : zB a) (k1 : a = 0 → Y d μ tgt L st σ P) (k2 : ¬ (a = 0) → Y d μ (pc + 3) L st σ P) : Y d μ pc L (.int (zi a) :: st) σ P := Z.if_eq tgt hdg ht (fun q => k1 ((zi_eq ha zB0).mp q)) (fun q => k2 (fun q2 => q ((zi_eq ha zB0).mpr q2)))
theorem Y.icmp_eq {a b off : Int} (tgt : Nat) (hdg : decode μ.2.1 pc = .ok (.if_icmp .eq off, 3)) (ht : (pc : Int) + off = (tgt : Int)) (ha : zB a) (hb : zB b) (k1 : a = b → Y d μ tgt L st σ P) (k2 : ¬ (a = b) → Y d μ (pc + 3) L st σ P) : Y d μ pc L (.int (zi b) :: .int (zi a) :: st) σ P := Z.icmp_eq tgt hdg ht (fun q => k1 ((zi_eq ha hb).mp q)) (fun q => k2 (fun q2 => q ((zi_eq ha hb).mpr q2)))
theorem Y.if_lt {a off : Int} (tgt : Nat) (hdg : decode μ.2.1 pc = .ok (.ifCond .lt off, 3)) (ht : (pc : Int) + off = (tgt : Int)) (ha : zB a) (k1 : a < 0 → Y d μ tgt L st σ P) (k2 : ¬ (a < 0) → Y d μ (pc + 3) L st σ P) : Y d μ pc L (.int (zi a) :: st) σ P := Z.if_lt tgt hdg ht (fun q => k1 ((zi_lt ha zB0).mp q)) (fun q => k2 (fun q2 => q ((zi_lt ha zB0).mpr q2)))
theorem Y.icmp_lt {a b off : Int} (tgt : Nat) (hdg : decode μ.2.1 pc = .ok (.if_icmp .lt off, 3)) (ht : (pc : Int) + off = (tgt : Int)) (ha : zB a) (hb : zB b) (k1 : a < b → Y d μ tgt L st σ P) (k2 : ¬ (a < b) → Y d μ (pc + 3) L st σ P) : Y d μ pc L (.int (zi b) :: .int (zi a) :: st) σ P := Z.icmp_lt tgt hdg ht (fun q => k1 ((zi_lt ha hb).mp q)) (fun q => k2 (fun q2 => q ((zi_lt ha hb).mpr q2)))
theorem Y.if_ge {a off : Int} (tgt : Nat) (hdg : decode μ.2.1 pc = .ok (.ifCond .ge off, 3)) (ht : (pc : Int) + off = (tgt : Int)) (ha : zB a) (k1 : 0 ≤ a → Y d μ tgt L st σ P) (k2 : ¬ (0 ≤ a) → Y d μ (pc + 3) L st σ P) : Y d μ pc L (.int (zi a) :: st) σ P := Z.if_ge tgt hdg ht (fun q => k1 ((zi_le zB0 ha).mp q)) (fun q => k2 (fun q2 => q ((zi_le zB0 ha).mpr q2)))
theorem Y.icmp_ge {a b off : Int} (tgt : Nat) (hdg : decode μ.2.1 pc = .ok (.if_icmp .ge off, 3)) (ht : (pc : Int) + off = (tgt : Int)) (ha : zB a) (hb : zB b) (k1 : b ≤ a → Y d μ tgt L st σ P) (k2 : ¬ (b ≤ a) → Y d μ (pc + 3) L st σ P) : Y d μ pc L (.int (zi b) :: .int (zi a) :: st) σ P := Z.icmp_ge tgt hdg ht (fun q => k1 ((zi_le hb ha).mp q)) (fun q => k2 (fun q2 => q ((zi_le hb ha).mpr q2)))
theorem Y.if_gt {a off : Int} (tgt : Nat) (hdg : decode μ.2.1 pc = .ok (.ifCond .gt off, 3)) (ht : (pc : Int) + off = (tgt : Int)) (ha : zB a) (k1 : 0 < a → Y d μ tgt L st σ P) (k2 : ¬ (0 < a) → Y d μ (pc + 3) L st σ P) : Y d μ pc L (.int (zi a) :: st) σ P := Z.if_gt tgt hdg ht (fun q => k1 ((zi_lt zB0 ha).mp q)) (fun q => k2 (fun q2 => q ((zi_lt zB0 ha).mpr q2)))
theorem Y.icmp_gt {a b off : Int} (tgt : Nat) (hdg : decode μ.2.1 pc = .ok (.if_icmp .gt off, 3)) (ht : (pc : Int) + off = (tgt : Int)) (ha : zB a) (hb : zB b) (k1 : b < a → Y d μ tgt L st σ P) (k2 : ¬ (b < a) → Y d μ (pc + 3) L st σ P) : Y d μ pc L (.int (zi b) :: .int (zi a) :: st) σ P := Z.icmp_gt tgt hdg ht (fun q => k1 ((zi_lt hb ha).mp q)) (fun q => k2 (fun q2 => q ((zi_lt hb ha).mpr q2)))
theorem Y.if_le {a off : Int} (tgt : Nat) (hdg : decode μ.2.1 pc = .ok (.ifCond .le off, 3)) (ht : (pc : Int) + off = (tgt : Int)) (ha : zB a) (k1 : a ≤ 0 → Y d μ tgt L st σ P) (k2 : ¬ (a ≤ 0) → Y d μ (pc + 3) L st σ P) : Y d μ pc L (.int (zi a) :: st) σ P := Z.if_le tgt hdg ht (fun q => k1 ((zi_le ha zB0).mp q)) (fun q => k2 (fun q2 => q ((zi_le ha zB0).mpr q2)))
theorem Y.icmp_le {a b off : Int} (tgt : Nat) (hdg : decode μ.2.1 pc = .ok (.if_icmp .le off, 3)) (ht : (pc : Int) + off = (tgt : Int)) (ha : zB a) (hb : zB b) (k1 : a ≤ b → Y d μ tgt L st σ P) (k2 : ¬ (a ≤ b) → Y d μ (pc + 3) L st σ P) : Y d μ pc L (.int (zi b) :: .int (zi a) :: st) σ P := Z.icmp_le tgt hdg ht (fun q => k1 ((zi_le ha hb).mp q)) (fun q => k2 (fun q2 => q ((zi_le ha hb).mpr q2)))
theorem Y.if_ne {a off : Int} (tgt : Nat) (hdg : decode μ.2.1 pc = .ok (.ifCond .ne off, 3)) (ht : (pc : Int) + off = (tgt : Int)) (ha : zB a) (k1 : ¬ a = 0 → Y d μ tgt L st σ P) (k2 : a = 0 → Y d μ (pc + 3) L st σ P) : Y d μ pc L (.int (zi a) :: st) σ P := Z.if_ne tgt hdg ht (fun q => k1 (fun q2 => q ((zi_eq ha zB0).mpr q2))) (fun q => k2 ((zi_eq ha zB0).mp q))
theorem Y.icmp_ne {a b off : Int} (tgt : Nat) (hdg : decode μ.2.1 pc = .ok (.if_icmp .ne off, 3)) (ht : (pc : Int) + off = (tgt : Int)) (ha : zB a) (hb : zB b) (k1 : ¬ a = b → Y d μ tgt L st σ P) (k2 : a = b → Y d μ (pc + 3) L st σ P) : Y d μ pc L (.int (zi b) :: .int (zi a) :: st) σ P := Z.icmp_ne tgt hdg ht (fun q => k1 (fun q2 => q ((zi_eq ha hb).mpr q2))) (fun q => k2 ((zi_eq ha hb).mp q))
theorem Y.iload_n {q : Fin 4} {x : Int32} (hdg : decode μ.2.1 pc = .ok (.iload_n q, 1)) (hl : L[(q : Nat)]? = some (some (.int x))) (k : Y d μ (pc + 1) L (.int x :: st) σ P) : Y d μ pc L st σ P := Z.iload_n hdg hl k
theorem Y.iload {i : Nat} {x : Int32} (hdg : decode μ.2.1 pc = .ok (.iload i, 2)) (hl : L[i]? = some (some (.int x))) (k : Y d μ (pc + 2) L (.int x :: st) σ P) : Y d μ pc L st σ P := Z.iload hdg hl k
theorem Y.lload_n {q : Fin 4} {x : Int64} (hdg : decode μ.2.1 pc = .ok (.lload_n q, 1)) (hl : L[(q : Nat)]? = some (some (.long x))) (k : Y d μ (pc + 1) L (.long x :: st) σ P) : Y d μ pc L st σ P := Z.lload_n hdg hl k
theorem Y.lload {i : Nat} {x : Int64} (hdg : decode μ.2.1 pc = .ok (.lload i, 2)) (hl : L[i]? = some (some (.long x))) (k : Y d μ (pc + 2) L (.long x :: st) σ P) : Y d μ pc L st σ P := Z.lload hdg hl k
theorem Y.aload_n {q : Fin 4} {x : Nat} (hdg : decode μ.2.1 pc = .ok (.aload_n q, 1)) (hl : L[(q : Nat)]? = some (some (.ref x))) (k : Y d μ (pc + 1) L (.ref x :: st) σ P) : Y d μ pc L st σ P := Z.aload_n hdg hl k
theorem Y.aload {i : Nat} {x : Nat} (hdg : decode μ.2.1 pc = .ok (.aload i, 2)) (hl : L[i]? = some (some (.ref x))) (k : Y d μ (pc + 2) L (.ref x :: st) σ P) : Y d μ pc L st σ P := Z.aload hdg hl k
theorem Y.istore_n {q : Fin 4} {x : Int32} (hdg : decode μ.2.1 pc = .ok (.istore_n q, 1)) (hi : (q : Nat) < μ.2.2.1) (hn : zNl L q = true) (k : Y d μ (pc + 1) (L.set q (some (.int x))) st σ P) : Y d μ pc L (.int x :: st) σ P := Z.istore_n hdg hi hn k
theorem Y.istore {i : Nat} {x : Int32} (hdg : decode μ.2.1 pc = .ok (.istore i, 2)) (hi : i < μ.2.2.1) (hn : zNl L i = true) (k : Y d μ (pc + 2) (L.set i (some (.int x))) st σ P) : Y d μ pc L (.int x :: st) σ P := Z.istore hdg hi hn k
theorem Y.astore_n {q : Fin 4} {x : Nat} (hdg : decode μ.2.1 pc = .ok (.astore_n q, 1)) (hi : (q : Nat) < μ.2.2.1) (hn : zNl L q = true) (k : Y d μ (pc + 1) (L.set q (some (.ref x))) st σ P) : Y d μ pc L (.ref x :: st) σ P := Z.astore_n hdg hi hn k
theorem Y.astore {i : Nat} {x : Nat} (hdg : decode μ.2.1 pc = .ok (.astore i, 2)) (hi : i < μ.2.2.1) (hn : zNl L i = true) (k : Y d μ (pc + 2) (L.set i (some (.ref x))) st σ P) : Y d μ pc L (.ref x :: st) σ P := Z.astore hdg hi hn k
theorem Y.lstore_n {q : Fin 4} {x : Int64} (hdg : decode μ.2.1 pc = .ok (.lstore_n q, 1)) (hi : (q : Nat) + 1 < μ.2.2.1) (hn : zNl L q = true) (k : Y d μ (pc + 1) ((L.set q (some (.long x))).set (q + 1) none) st σ P) : Y d μ pc L (.long x :: st) σ P := Z.lstore_n hdg hi hn k
theorem Y.lstore {i : Nat} {x : Int64} (hdg : decode μ.2.1 pc = .ok (.lstore i, 2)) (hi : i + 1 < μ.2.2.1) (hn : zNl L i = true) (k : Y d μ (pc + 2) ((L.set i (some (.long x))).set (i + 1) none) st σ P) : Y d μ pc L (.long x :: st) σ P := Z.lstore hdg hi hn k
theorem Y.iinc {i : Nat} {n a : Int} (hdg : decode μ.2.1 pc = .ok (.iinc i n, 3)) (hl : L[i]? = some (some (.int (zi a)))) (hi : i < μ.2.2.1) (hn : zNl L i = true) (k : Y d μ (pc + 3) (L.set i (some (.int (zi (a + n))))) st σ P) : Y d μ pc L st σ P := Z.iinc hdg hl hi hn (by rw [show Int32.ofInt n = zi n from rfl, zi_add]; exact k)
theorem Y.getf {ci k o : Nat} {fs : zS → List Value} {v : Value} (hdg : decode μ.2.1 pc = .ok (.getfield idx, 3)) (hf : zFl μ.1.cls idx ci k) (ho : zOB o ci fs) (hv : (fs σ)[k]? = some v) (k9 : Y d μ (pc + 3) L (v :: st) σ P) : Y d μ pc L (.ref o :: st) σ P := Z.getf hdg hf (ho σ) hv k9
theorem Y.putf {ci k o : Nat} {fs : zS → List Value} {v : Int} {ty : FieldType} (hdg : decode μ.2.1 pc = .ok (.putfield idx, 3)) (hf : zFp μ.1.cls idx ci k ty false) (ho : zOB o ci fs) (hs : zOS o ci k fs) (hl : k < (fs σ).length) (hty : ty = .int ∨ (ty = .boolean ∧ (v = 0 ∨ v = 1))) (k9 : Y d μ (pc + 3) L st (zu σ o k v) P) : Y d μ pc L (.int (zi v) :: .ref o :: st) σ P :=
  Z.putf hdg hf (ho σ) hl (fun ρ => by
    rcases hty with rfl | ⟨rfl, rfl | rfl⟩ <;> exact ⟨rfl, rfl⟩) (by rw [hs]; exact k9)
theorem Y.putl {ci k o : Nat} {fs : zS → List Value} {v : Int} (hdg : decode μ.2.1 pc = .ok (.putfield idx, 3)) (hf : zFp μ.1.cls idx ci k .long false) (ho : zOB o ci fs) (hs : zOL o ci k fs) (hl : k < (fs σ).length) (k9 : Y d μ (pc + 3) L st (zul σ o k v) P) : Y d μ pc L (.long (zl v) :: .ref o :: st) σ P :=
  Z.putf hdg hf (ho σ) hl (fun ρ => ⟨rfl, rfl⟩) (by rw [hs]; exact k9)
theorem zInt {i : Int} (h : 0 ≤ i) : ((i.toNat : Nat) : Int) = i := Int.toNat_of_nonneg h
theorem Y.iald {a n : Nat} {i : Int} (hdg : decode μ.2.1 pc = .ok (.iaload, 1)) (hc : zIA a n) (h0 : 0 ≤ i) (h1 : i < n) (k9 : Y d μ (pc + 1) L (.int (zi (σ.1 a i)) :: st) σ P) : Y d μ pc L (.int (zi i) :: .ref a :: st) σ P :=
  Z.iald hdg (hc.2.1 σ) (zi_in h0 h1 hc.1) (by
    have hn := hc.1
    rw [zi_cl ⟨by omega, by omega⟩, zInt h0]
    exact k9)
theorem Y.lald {a n : Nat} {i : Int} (hdg : decode μ.2.1 pc = .ok (.laload, 1)) (hc : zLA a n) (h0 : 0 ≤ i) (h1 : i < n) (k9 : Y d μ (pc + 1) L (.long (zl (σ.2 a i)) :: st) σ P) : Y d μ pc L (.int (zi i) :: .ref a :: st) σ P :=
  Z.lald hdg (hc.2.1 σ) (zi_in h0 h1 hc.1) (by
    have hn := hc.1
    rw [zi_cl ⟨by omega, by omega⟩, zInt h0]
    exact k9)
theorem zupd {a : Nat} {i v : Int} (h0 : 0 ≤ i) (h1 : i < 2147483648) : upd (fun j : Nat => zi (σ.1 a j)) (zi i).toNatClampNeg (zi v) = fun j : Nat => zi ((zu σ a i v).1 a j) := by
  funext j
  rw [zi_cl ⟨by omega, by omega⟩]
  unfold upd
  by_cases hj : j = i.toNat
  · rw [if_pos hj, show (j : Int) = i by omega, zu_eq]
  · rw [if_neg hj, zu_ne (by omega)]
theorem zupdL {a : Nat} {i v : Int} (h0 : 0 ≤ i) (h1 : i < 2147483648) : vp_updL (fun j : Nat => zl (σ.2 a j)) (zi i).toNatClampNeg (zl v) = fun j : Nat => zl ((zul σ a i v).2 a j) := by
  funext j
  rw [zi_cl ⟨by omega, by omega⟩]
  unfold vp_updL
  by_cases hj : j = i.toNat
  · rw [if_pos hj, show (j : Int) = i by omega, zul_eq]
  · rw [if_neg hj, zul_ne (by omega)]
theorem Y.iast {a n : Nat} {i v : Int} (hdg : decode μ.2.1 pc = .ok (.iastore, 1)) (hc : zIA a n) (h0 : 0 ≤ i) (h1 : i < n) (k9 : Y d μ (pc + 1) L st (zu σ a i v) P) : Y d μ pc L (.int (zi v) :: .int (zi i) :: .ref a :: st) σ P :=
  Z.iast hdg (hc.2.1 σ) (zi_in h0 h1 hc.1) (by
    have hn := hc.1
    rw [zupd h0 (by omega), hc.2.2]
    exact k9)
theorem Y.last {a n : Nat} {i v : Int} (hdg : decode μ.2.1 pc = .ok (.lastore, 1)) (hc : zLA a n) (h0 : 0 ≤ i) (h1 : i < n) (k9 : Y d μ (pc + 1) L st (zul σ a i v) P) : Y d μ pc L (.long (zl v) :: .int (zi i) :: .ref a :: st) σ P :=
  Z.last hdg (hc.2.1 σ) (zi_in h0 h1 hc.1) (by
    have hn := hc.1
    rw [zupdL h0 (by omega), hc.2.2]
    exact k9)
theorem Y.aald {a n : Nat} {ty : FieldType} {q : List (Option Nat)} {i : Int} {r : Nat} (hdg : decode μ.2.1 pc = .ok (.aaload, 1)) (hc : zRA a n ty q) (ht : ty = .array .int ∨ ty = .object "OffsetChains$Sheet") (h0 : 0 ≤ i) (h1 : i < n) (hq : q[i.toNat]? = some (some r)) (k9 : Y d μ (pc + 1) L (.ref r :: st) σ P) : Y d μ pc L (.int (zi i) :: .ref a :: st) σ P :=
  Z.aald (t0 := if ty = .array .int then 2 else 3) hdg (by
    rcases ht with rfl | rfl
    · exact Or.inl ⟨rfl, rfl⟩
    · exact Or.inr ⟨rfl, rfl⟩) (hc.2 σ) (zi_in h0 h1 hc.1) (by
    have hn := hc.1
    rw [zi_cl ⟨by omega, by omega⟩]
    exact hq) k9
theorem Y.aleni {a n : Nat} (hdg : decode μ.2.1 pc = .ok (.arraylength, 1)) (hc : zIA a n) (k9 : Y d μ (pc + 1) L (.int (zi n) :: st) σ P) : Y d μ pc L (.ref a :: st) σ P := Z.alen (t0 := 0) hdg (Or.inl ⟨rfl, rfl⟩) (hc.2.1 σ) rfl k9
theorem Y.alenl {a n : Nat} (hdg : decode μ.2.1 pc = .ok (.arraylength, 1)) (hc : zLA a n) (k9 : Y d μ (pc + 1) L (.int (zi n) :: st) σ P) : Y d μ pc L (.ref a :: st) σ P := Z.alen (t0 := 1) hdg (Or.inr ⟨rfl, rfl⟩) (hc.2.1 σ) rfl k9
theorem Y.gets {t : Nat} (hdg : decode μ.2.1 pc = .ok (.getstatic idx, 3)) (ht : t < 4) (hw : Cond.fieldLink μ.1.cls idx "OffsetChains" (zTn t) "[I" ∈ zWd) (k9 : Y d μ (pc + 3) L (.ref (9000 + t) :: st) σ P) : Y d μ pc L st σ P := Z.gets hdg ht hw k9
def zTi (t : Nat) (i : Int) : Int := (zTf t i.toNat).toInt
theorem Y.tld {t : Nat} {i : Int} (hdg : decode μ.2.1 pc = .ok (.iaload, 1)) (ht : t < 4) (h0 : 0 ≤ i) (h1 : i < zTl t) (k9 : Y d μ (pc + 1) L (.int (zi (zTi t i)) :: st) σ P) : Y d μ pc L (.int (zi i) :: .ref (9000 + t) :: st) σ P := by
  have hn : zTl t ≤ 5 := by
    rcases (show t = 0 ∨ t = 1 ∨ t = 2 ∨ t = 3 by omega) with rfl | rfl | rfl | rfl <;> decide
  refine Z.tld hdg ht (zi_in h0 h1 (by omega)) ?_
  rw [zi_cl ⟨by omega, by omega⟩, show zTf t i.toNat = zi (zTi t i) from (Int32.ofInt_toInt _).symm]
  exact k9
theorem Y.iret {v : Int} (hdg : decode μ.2.1 pc = .ok (.ireturn, 1)) (hr : μ.2.2.2 = some .int) (hp : P (some (.int (zi v))) σ) : Y d μ pc L [.int (zi v)] σ P := Z.iret hdg ⟨.int, hr, rfl⟩ ⟨Nat.le_refl _, Nat.le_refl _⟩ ⟨σ, rfl, hp⟩
theorem Y.zret {v : Int} (hdg : decode μ.2.1 pc = .ok (.ireturn, 1)) (hr : μ.2.2.2 = some .boolean) (hv : v = 0 ∨ v = 1) (hp : P (some (.int (zi v))) σ) : Y d μ pc L [.int (zi v)] σ P := Z.iret hdg ⟨.boolean, hr, by rcases hv with rfl | rfl <;> rfl⟩ ⟨Nat.le_refl _, Nat.le_refl _⟩ ⟨σ, rfl, hp⟩
theorem Y.lret {v : Int} (hdg : decode μ.2.1 pc = .ok (.lreturn, 1)) (hr : μ.2.2.2 = some .long) (hp : P (some (.long (zl v))) σ) : Y d μ pc L [.long (zl v)] σ P := Z.lret hdg hr ⟨Nat.le_refl _, Nat.le_refl _⟩ ⟨σ, rfl, hp⟩
theorem Y.vret (hdg : decode μ.2.1 pc = .ok (.return_, 1)) (hr : μ.2.2.2 = none) (hp : P none σ) : Y d μ pc L [] σ P := Z.vret hdg hr ⟨Nat.le_refl _, Nat.le_refl _⟩ ⟨σ, rfl, hp⟩
theorem Y.on {rest : List Value} (k : ∀ r σ', P' r σ' → Y d μ (pc + 3) L (r.toList ++ rest) σ' P) : zOn 0 0 d μ pc L rest (zHp σ) 0 0 0 0 (fun r h => ∃ σ', h = zHp σ' ∧ P' r σ') (fun r h => ∃ σ', h = zHp σ' ∧ P r σ') :=
  ⟨Or.inl rfl, Nat.le_refl _, Nat.le_refl _, fun r h' ⟨σ', h1, h2⟩ => by rw [h1]; exact k r σ' h2⟩
theorem Y.callV {b ci n : Nat} {fs : zS → List Value} {As rest : List Value} (hdg : decode μ.2.1 pc = .ok (.invokevirtual idx, 3)) (hm : zMk ν n) (hs : zSV μ.1.cls idx ν) (ho : zOB b ci fs) (hci : ∃ q : vw_C, vwCl[ci]? = some q ∧ q.1 = ν.1.cls) (hc : YC hd ν (.ref b :: As) σ P') (hd1 : hd + 1 ≤ d) (hAn : As.length = n) (hst : st = As.reverse ++ .ref b :: rest) (hcat : (rest.map fun v => v.category).sum ≤ 8) (k : ∀ r σ', P' r σ' → Y d μ (pc + 3) L (r.toList ++ rest) σ' P) : Y d μ pc L st σ P :=
  Z.callV hdg hm hs hc hd1 (ho σ) hci hAn hst hcat (Y.on k)
theorem Y.callS {n : Nat} {As rest : List Value} (hdg : decode μ.2.1 pc = .ok (.invokestatic idx, 3)) (hm : zMk ν n) (hs : zSS μ.1.cls idx ν) (hc : YC hd ν As σ P') (hd1 : hd + 1 ≤ d) (hAn : As.length = n) (hst : st = As.reverse ++ rest) (hcat : (rest.map fun v => v.category).sum ≤ 8) (k : ∀ r σ', P' r σ' → Y d μ (pc + 3) L (r.toList ++ rest) σ' P) : Y d μ pc L st σ P :=
  Z.callS hdg hm hs hc hd1 hAn hst hcat (Y.on k)
theorem Y.mmax {a b : Int} (hdg : decode μ.2.1 pc = .ok (.invokestatic idx, 3)) (hw : Cond.methodLink μ.1.cls idx Lib.Math.max.name ∈ zWd ∧ Cond.static Lib.Math.max.name ∈ zWd ∧ Cond.initialized "java/lang/Math" ∈ zWd ∧ Cond.code Lib.Math.max.name Lib.Math.max.code 2 (some .int) ∈ zWd) (hd1 : 1 ≤ d) (hcat : (st.map fun v => v.category).sum ≤ 8) (ha : zB a) (hb : zB b) (k9 : Y d μ (pc + 3) L (.int (zi (max a b)) :: st) σ P) : Y d μ pc L (.int (zi b) :: .int (zi a) :: st) σ P := by
  refine Z.mmax hdg hw hd1 hcat ⟨Nat.le_refl _, Nat.le_refl _⟩ ?_
  have e : (if zi a < zi b then zi b else zi a) = zi (max a b) := by
    by_cases h : a < b
    · rw [if_pos ((zi_lt ha hb).mpr h)]; congr 1; omega
    · rw [if_neg (fun q => h ((zi_lt ha hb).mp q))]; congr 1; omega
  rw [e]
  exact k9
theorem Y.mmin {a b : Int} (hdg : decode μ.2.1 pc = .ok (.invokestatic idx, 3)) (hw : Cond.methodLink μ.1.cls idx Lib.Math.min.name ∈ zWd ∧ Cond.static Lib.Math.min.name ∈ zWd ∧ Cond.initialized "java/lang/Math" ∈ zWd ∧ Cond.code Lib.Math.min.name Lib.Math.min.code 2 (some .int) ∈ zWd) (hd1 : 1 ≤ d) (hcat : (st.map fun v => v.category).sum ≤ 8) (ha : zB a) (hb : zB b) (k9 : Y d μ (pc + 3) L (.int (zi (min a b)) :: st) σ P) : Y d μ pc L (.int (zi b) :: .int (zi a) :: st) σ P := by
  refine Z.mmin hdg hw hd1 hcat ⟨Nat.le_refl _, Nat.le_refl _⟩ ?_
  have e : (if zi b < zi a then zi b else zi a) = zi (min a b) := by
    by_cases h : b < a
    · rw [if_pos ((zi_lt hb ha).mpr h)]; congr 1; omega
    · rw [if_neg (fun q => h ((zi_lt hb ha).mp q))]; congr 1; omega
  rw [e]
  exact k9
end YR
end
section
section ZF
set_option maxRecDepth 20000 in
theorem clX0 : zCl 0 RX0 TX0 18 := ⟨rfl, fun w h => zWd_of (inX0 w h) ((by decide +kernel : ∀ w ∈ wsX00, goodWord w = true) w h), ⟨tyX0, tyX0_ok⟩, nmX0, by decide +kernel⟩
set_option maxRecDepth 20000 in
theorem clX1 : zCl 1 RX1 TX1 10 := ⟨rfl, fun w h => zWd_of (inX1 w h) ((by decide +kernel : ∀ w ∈ wsX10, goodWord w = true) w h), ⟨tyX1, tyX1_ok⟩, nmX1, by decide +kernel⟩
set_option maxRecDepth 20000 in
theorem clX2 : zCl 2 RX2 TX2 3 := ⟨rfl, fun w h => zWd_of (inX2 w h) ((by decide +kernel : ∀ w ∈ wsX20, goodWord w = true) w h), ⟨tyX2, tyX2_ok⟩, nmX2, by decide +kernel⟩
set_option maxRecDepth 20000 in
theorem clX3 : zCl 3 RX3 TX3 4 := ⟨rfl, fun w h => zWd_of (inX3 w h) ((by decide +kernel : ∀ w ∈ wsX30, goodWord w = true) w h), ⟨tyX3, tyX3_ok⟩, nmX3, by decide +kernel⟩
set_option maxRecDepth 20000 in
theorem clX4 : zCl 4 RX4 TX4 6 := ⟨rfl, fun w h => zWd_of (inX4 w h) ((by decide +kernel : ∀ w ∈ wsX40, goodWord w = true) w h), ⟨tyX4, tyX4_ok⟩, nmX4, by decide +kernel⟩
set_option maxRecDepth 20000 in
theorem clX5 : zCl 5 RX5 TX5 36 := ⟨rfl, fun w h => zWd_of (inX5 w h) ((by decide +kernel : ∀ w ∈ wsX50, goodWord w = true) w h), ⟨tyX5, tyX5_ok⟩, nmX5, by decide +kernel⟩
theorem flX2_11 : zFl RX2 11 2 0 := ⟨RX2, TX2, 3, clX2, by decide, Or.inl (zWd_in 101 (by decide +kernel) rfl)⟩
theorem fpX2_11 : zFp RX2 11 2 0 (.array (.array .int)) true := ⟨RX2, TX2, 3, clX2, by decide, Or.inl (zWd_in 101 (by decide +kernel) rfl), rfl, by decide +kernel, fun _ => rfl⟩
theorem flX4_61 : zFl RX4 61 2 0 := ⟨RX2, TX2, 3, clX2, by decide, Or.inl (zWd_in 102 (by decide +kernel) rfl)⟩
theorem flX0_63 : zFl RX0 63 2 0 := ⟨RX2, TX2, 3, clX2, by decide, Or.inl (zWd_in 103 (by decide +kernel) rfl)⟩
theorem flX1_65 : zFl RX1 65 2 0 := ⟨RX2, TX2, 3, clX2, by decide, Or.inl (zWd_in 104 (by decide +kernel) rfl)⟩
theorem flX2_16 : zFl RX2 16 2 1 := ⟨RX2, TX2, 3, clX2, by decide, Or.inl (zWd_in 105 (by decide +kernel) rfl)⟩
theorem fpX2_16 : zFp RX2 16 2 1 (.array (.array .int)) true := ⟨RX2, TX2, 3, clX2, by decide, Or.inl (zWd_in 105 (by decide +kernel) rfl), rfl, by decide +kernel, fun _ => rfl⟩
theorem flX1_79 : zFl RX1 79 2 1 := ⟨RX2, TX2, 3, clX2, by decide, Or.inl (zWd_in 106 (by decide +kernel) rfl)⟩
theorem flX4_84 : zFl RX4 84 2 1 := ⟨RX2, TX2, 3, clX2, by decide, Or.inl (zWd_in 107 (by decide +kernel) rfl)⟩
theorem flX0_98 : zFl RX0 98 2 1 := ⟨RX2, TX2, 3, clX2, by decide, Or.inl (zWd_in 108 (by decide +kernel) rfl)⟩
theorem flX2_19 : zFl RX2 19 2 2 := ⟨RX2, TX2, 3, clX2, by decide, Or.inl (zWd_in 109 (by decide +kernel) rfl)⟩
theorem fpX2_19 : zFp RX2 19 2 2 (.array .int) true := ⟨RX2, TX2, 3, clX2, by decide, Or.inl (zWd_in 109 (by decide +kernel) rfl), rfl, by decide +kernel, fun _ => rfl⟩
theorem flX4_73 : zFl RX4 73 2 2 := ⟨RX2, TX2, 3, clX2, by decide, Or.inl (zWd_in 110 (by decide +kernel) rfl)⟩
theorem flX0_129 : zFl RX0 129 2 2 := ⟨RX2, TX2, 3, clX2, by decide, Or.inl (zWd_in 111 (by decide +kernel) rfl)⟩
theorem flX0_45 : zFl RX0 45 0 0 := ⟨RX0, TX0, 18, clX0, by decide, Or.inl (zWd_in 126 (by decide +kernel) rfl)⟩
theorem fpX0_45 : zFp RX0 45 0 0 (.object "OffsetChains$Plan") true := ⟨RX0, TX0, 18, clX0, by decide, Or.inl (zWd_in 126 (by decide +kernel) rfl), rfl, by decide +kernel, fun _ => rfl⟩
theorem flX0_9 : zFl RX0 9 0 1 := ⟨RX0, TX0, 18, clX0, by decide, Or.inl (zWd_in 127 (by decide +kernel) rfl)⟩
theorem fpX0_9 : zFp RX0 9 0 1 (.array .int) true := ⟨RX0, TX0, 18, clX0, by decide, Or.inl (zWd_in 127 (by decide +kernel) rfl), rfl, by decide +kernel, fun _ => rfl⟩
theorem flX0_15 : zFl RX0 15 0 2 := ⟨RX0, TX0, 18, clX0, by decide, Or.inl (zWd_in 128 (by decide +kernel) rfl)⟩
theorem fpX0_15 : zFp RX0 15 0 2 (.array .int) true := ⟨RX0, TX0, 18, clX0, by decide, Or.inl (zWd_in 128 (by decide +kernel) rfl), rfl, by decide +kernel, fun _ => rfl⟩
theorem flX0_18 : zFl RX0 18 0 3 := ⟨RX0, TX0, 18, clX0, by decide, Or.inl (zWd_in 129 (by decide +kernel) rfl)⟩
theorem fpX0_18 : zFp RX0 18 0 3 (.array .int) true := ⟨RX0, TX0, 18, clX0, by decide, Or.inl (zWd_in 129 (by decide +kernel) rfl), rfl, by decide +kernel, fun _ => rfl⟩
theorem flX0_21 : zFl RX0 21 0 4 := ⟨RX0, TX0, 18, clX0, by decide, Or.inl (zWd_in 130 (by decide +kernel) rfl)⟩
theorem fpX0_21 : zFp RX0 21 0 4 (.array .int) true := ⟨RX0, TX0, 18, clX0, by decide, Or.inl (zWd_in 130 (by decide +kernel) rfl), rfl, by decide +kernel, fun _ => rfl⟩
theorem flX0_24 : zFl RX0 24 0 5 := ⟨RX0, TX0, 18, clX0, by decide, Or.inl (zWd_in 131 (by decide +kernel) rfl)⟩
theorem fpX0_24 : zFp RX0 24 0 5 (.array .int) true := ⟨RX0, TX0, 18, clX0, by decide, Or.inl (zWd_in 131 (by decide +kernel) rfl), rfl, by decide +kernel, fun _ => rfl⟩
theorem flX0_27 : zFl RX0 27 0 6 := ⟨RX0, TX0, 18, clX0, by decide, Or.inl (zWd_in 132 (by decide +kernel) rfl)⟩
theorem fpX0_27 : zFp RX0 27 0 6 (.array .int) true := ⟨RX0, TX0, 18, clX0, by decide, Or.inl (zWd_in 132 (by decide +kernel) rfl), rfl, by decide +kernel, fun _ => rfl⟩
theorem flX0_30 : zFl RX0 30 0 7 := ⟨RX0, TX0, 18, clX0, by decide, Or.inl (zWd_in 133 (by decide +kernel) rfl)⟩
theorem fpX0_30 : zFp RX0 30 0 7 (.array .int) true := ⟨RX0, TX0, 18, clX0, by decide, Or.inl (zWd_in 133 (by decide +kernel) rfl), rfl, by decide +kernel, fun _ => rfl⟩
theorem flX0_33 : zFl RX0 33 0 8 := ⟨RX0, TX0, 18, clX0, by decide, Or.inl (zWd_in 134 (by decide +kernel) rfl)⟩
theorem fpX0_33 : zFp RX0 33 0 8 (.array .int) true := ⟨RX0, TX0, 18, clX0, by decide, Or.inl (zWd_in 134 (by decide +kernel) rfl), rfl, by decide +kernel, fun _ => rfl⟩
theorem flX0_36 : zFl RX0 36 0 9 := ⟨RX0, TX0, 18, clX0, by decide, Or.inl (zWd_in 135 (by decide +kernel) rfl)⟩
theorem fpX0_36 : zFp RX0 36 0 9 (.array .int) true := ⟨RX0, TX0, 18, clX0, by decide, Or.inl (zWd_in 135 (by decide +kernel) rfl), rfl, by decide +kernel, fun _ => rfl⟩
theorem flX0_39 : zFl RX0 39 0 10 := ⟨RX0, TX0, 18, clX0, by decide, Or.inl (zWd_in 136 (by decide +kernel) rfl)⟩
theorem fpX0_39 : zFp RX0 39 0 10 (.array .int) true := ⟨RX0, TX0, 18, clX0, by decide, Or.inl (zWd_in 136 (by decide +kernel) rfl), rfl, by decide +kernel, fun _ => rfl⟩
theorem flX0_42 : zFl RX0 42 0 11 := ⟨RX0, TX0, 18, clX0, by decide, Or.inl (zWd_in 137 (by decide +kernel) rfl)⟩
theorem fpX0_42 : zFp RX0 42 0 11 (.array .int) true := ⟨RX0, TX0, 18, clX0, by decide, Or.inl (zWd_in 137 (by decide +kernel) rfl), rfl, by decide +kernel, fun _ => rfl⟩
theorem flX0_89 : zFl RX0 89 0 12 := ⟨RX0, TX0, 18, clX0, by decide, Or.inl (zWd_in 138 (by decide +kernel) rfl)⟩
theorem fpX0_89 : zFp RX0 89 0 12 .int false := ⟨RX0, TX0, 18, clX0, by decide, Or.inl (zWd_in 138 (by decide +kernel) rfl), rfl, by decide +kernel, fun h => by cases h⟩
theorem flX0_120 : zFl RX0 120 0 13 := ⟨RX0, TX0, 18, clX0, by decide, Or.inl (zWd_in 139 (by decide +kernel) rfl)⟩
theorem fpX0_120 : zFp RX0 120 0 13 .int false := ⟨RX0, TX0, 18, clX0, by decide, Or.inl (zWd_in 139 (by decide +kernel) rfl), rfl, by decide +kernel, fun h => by cases h⟩
theorem flX0_123 : zFl RX0 123 0 14 := ⟨RX0, TX0, 18, clX0, by decide, Or.inl (zWd_in 140 (by decide +kernel) rfl)⟩
theorem fpX0_123 : zFp RX0 123 0 14 .int false := ⟨RX0, TX0, 18, clX0, by decide, Or.inl (zWd_in 140 (by decide +kernel) rfl), rfl, by decide +kernel, fun h => by cases h⟩
theorem flX0_126 : zFl RX0 126 0 15 := ⟨RX0, TX0, 18, clX0, by decide, Or.inl (zWd_in 141 (by decide +kernel) rfl)⟩
theorem fpX0_126 : zFp RX0 126 0 15 .int false := ⟨RX0, TX0, 18, clX0, by decide, Or.inl (zWd_in 141 (by decide +kernel) rfl), rfl, by decide +kernel, fun h => by cases h⟩
theorem flX0_49 : zFl RX0 49 0 16 := ⟨RX0, TX0, 18, clX0, by decide, Or.inl (zWd_in 142 (by decide +kernel) rfl)⟩
theorem fpX0_49 : zFp RX0 49 0 16 .int false := ⟨RX0, TX0, 18, clX0, by decide, Or.inl (zWd_in 142 (by decide +kernel) rfl), rfl, by decide +kernel, fun h => by cases h⟩
theorem flX4_129 : zFl RX4 129 0 16 := ⟨RX0, TX0, 18, clX0, by decide, Or.inr ⟨"OffsetChains", zNs_in 143 (by decide +kernel) rfl⟩⟩
theorem fpX4_129 : zFp RX4 129 0 16 .int false := ⟨RX0, TX0, 18, clX0, by decide, Or.inr ⟨rfl, "OffsetChains", zNs_in 143 (by decide +kernel) rfl⟩, rfl, by decide +kernel, fun h => by cases h⟩
theorem flX0_53 : zFl RX0 53 0 17 := ⟨RX0, TX0, 18, clX0, by decide, Or.inl (zWd_in 144 (by decide +kernel) rfl)⟩
theorem fpX0_53 : zFp RX0 53 0 17 .boolean false := ⟨RX0, TX0, 18, clX0, by decide, Or.inl (zWd_in 144 (by decide +kernel) rfl), rfl, by decide +kernel, fun h => by cases h⟩
theorem flX4_65 : zFl RX4 65 0 17 := ⟨RX0, TX0, 18, clX0, by decide, Or.inr ⟨"OffsetChains", zNs_in 145 (by decide +kernel) rfl⟩⟩
theorem fpX4_65 : zFp RX4 65 0 17 .boolean false := ⟨RX0, TX0, 18, clX0, by decide, Or.inr ⟨rfl, "OffsetChains", zNs_in 145 (by decide +kernel) rfl⟩, rfl, by decide +kernel, fun h => by cases h⟩
theorem flX1_41 : zFl RX1 41 1 0 := ⟨RX1, TX1, 10, clX1, by decide, Or.inl (zWd_in 195 (by decide +kernel) rfl)⟩
theorem fpX1_41 : zFp RX1 41 1 0 .int false := ⟨RX1, TX1, 10, clX1, by decide, Or.inl (zWd_in 195 (by decide +kernel) rfl), rfl, by decide +kernel, fun h => by cases h⟩
theorem flX4_231 : zFl RX4 231 1 0 := ⟨RX1, TX1, 10, clX1, by decide, Or.inr ⟨"OffsetChains", zNs_in 196 (by decide +kernel) rfl⟩⟩
theorem fpX4_231 : zFp RX4 231 1 0 .int false := ⟨RX1, TX1, 10, clX1, by decide, Or.inr ⟨rfl, "OffsetChains", zNs_in 196 (by decide +kernel) rfl⟩, rfl, by decide +kernel, fun h => by cases h⟩
theorem flX1_45 : zFl RX1 45 1 1 := ⟨RX1, TX1, 10, clX1, by decide, Or.inl (zWd_in 197 (by decide +kernel) rfl)⟩
theorem fpX1_45 : zFp RX1 45 1 1 .int false := ⟨RX1, TX1, 10, clX1, by decide, Or.inl (zWd_in 197 (by decide +kernel) rfl), rfl, by decide +kernel, fun h => by cases h⟩
theorem flX4_149 : zFl RX4 149 1 1 := ⟨RX1, TX1, 10, clX1, by decide, Or.inr ⟨"OffsetChains", zNs_in 198 (by decide +kernel) rfl⟩⟩
theorem fpX4_149 : zFp RX4 149 1 1 .int false := ⟨RX1, TX1, 10, clX1, by decide, Or.inr ⟨rfl, "OffsetChains", zNs_in 198 (by decide +kernel) rfl⟩, rfl, by decide +kernel, fun h => by cases h⟩
theorem flX1_9 : zFl RX1 9 1 2 := ⟨RX1, TX1, 10, clX1, by decide, Or.inl (zWd_in 199 (by decide +kernel) rfl)⟩
theorem fpX1_9 : zFp RX1 9 1 2 (.array .int) true := ⟨RX1, TX1, 10, clX1, by decide, Or.inl (zWd_in 199 (by decide +kernel) rfl), rfl, by decide +kernel, fun _ => rfl⟩
theorem flX4_228 : zFl RX4 228 1 2 := ⟨RX1, TX1, 10, clX1, by decide, Or.inr ⟨"OffsetChains", zNs_in 200 (by decide +kernel) rfl⟩⟩
theorem flX1_17 : zFl RX1 17 1 3 := ⟨RX1, TX1, 10, clX1, by decide, Or.inl (zWd_in 201 (by decide +kernel) rfl)⟩
theorem fpX1_17 : zFp RX1 17 1 3 (.array (.array .int)) true := ⟨RX1, TX1, 10, clX1, by decide, Or.inl (zWd_in 201 (by decide +kernel) rfl), rfl, by decide +kernel, fun _ => rfl⟩
theorem flX4_155 : zFl RX4 155 1 3 := ⟨RX1, TX1, 10, clX1, by decide, Or.inr ⟨"OffsetChains", zNs_in 202 (by decide +kernel) rfl⟩⟩
theorem flX1_20 : zFl RX1 20 1 4 := ⟨RX1, TX1, 10, clX1, by decide, Or.inl (zWd_in 203 (by decide +kernel) rfl)⟩
theorem fpX1_20 : zFp RX1 20 1 4 (.array .int) true := ⟨RX1, TX1, 10, clX1, by decide, Or.inl (zWd_in 203 (by decide +kernel) rfl), rfl, by decide +kernel, fun _ => rfl⟩
theorem flX1_23 : zFl RX1 23 1 5 := ⟨RX1, TX1, 10, clX1, by decide, Or.inl (zWd_in 204 (by decide +kernel) rfl)⟩
theorem fpX1_23 : zFp RX1 23 1 5 (.array .int) true := ⟨RX1, TX1, 10, clX1, by decide, Or.inl (zWd_in 204 (by decide +kernel) rfl), rfl, by decide +kernel, fun _ => rfl⟩
theorem flX1_26 : zFl RX1 26 1 6 := ⟨RX1, TX1, 10, clX1, by decide, Or.inl (zWd_in 205 (by decide +kernel) rfl)⟩
theorem fpX1_26 : zFp RX1 26 1 6 (.array .int) true := ⟨RX1, TX1, 10, clX1, by decide, Or.inl (zWd_in 205 (by decide +kernel) rfl), rfl, by decide +kernel, fun _ => rfl⟩
theorem flX1_29 : zFl RX1 29 1 7 := ⟨RX1, TX1, 10, clX1, by decide, Or.inl (zWd_in 206 (by decide +kernel) rfl)⟩
theorem fpX1_29 : zFp RX1 29 1 7 (.array .int) true := ⟨RX1, TX1, 10, clX1, by decide, Or.inl (zWd_in 206 (by decide +kernel) rfl), rfl, by decide +kernel, fun _ => rfl⟩
theorem flX1_32 : zFl RX1 32 1 8 := ⟨RX1, TX1, 10, clX1, by decide, Or.inl (zWd_in 207 (by decide +kernel) rfl)⟩
theorem fpX1_32 : zFp RX1 32 1 8 (.array (.array .int)) true := ⟨RX1, TX1, 10, clX1, by decide, Or.inl (zWd_in 207 (by decide +kernel) rfl), rfl, by decide +kernel, fun _ => rfl⟩
theorem flX1_35 : zFl RX1 35 1 9 := ⟨RX1, TX1, 10, clX1, by decide, Or.inl (zWd_in 208 (by decide +kernel) rfl)⟩
theorem fpX1_35 : zFp RX1 35 1 9 (.array .int) true := ⟨RX1, TX1, 10, clX1, by decide, Or.inl (zWd_in 208 (by decide +kernel) rfl), rfl, by decide +kernel, fun _ => rfl⟩
theorem flX3_9 : zFl RX3 9 3 0 := ⟨RX3, TX3, 4, clX3, by decide, Or.inl (zWd_in 237 (by decide +kernel) rfl)⟩
theorem fpX3_9 : zFp RX3 9 3 0 .boolean false := ⟨RX3, TX3, 4, clX3, by decide, Or.inl (zWd_in 237 (by decide +kernel) rfl), rfl, by decide +kernel, fun h => by cases h⟩
theorem flX4_90 : zFl RX4 90 3 0 := ⟨RX3, TX3, 4, clX3, by decide, Or.inr ⟨"OffsetChains", zNs_in 238 (by decide +kernel) rfl⟩⟩
theorem fpX4_90 : zFp RX4 90 3 0 .boolean false := ⟨RX3, TX3, 4, clX3, by decide, Or.inr ⟨rfl, "OffsetChains", zNs_in 238 (by decide +kernel) rfl⟩, rfl, by decide +kernel, fun h => by cases h⟩
theorem flX3_19 : zFl RX3 19 3 1 := ⟨RX3, TX3, 4, clX3, by decide, Or.inl (zWd_in 239 (by decide +kernel) rfl)⟩
theorem fpX3_19 : zFp RX3 19 3 1 .int false := ⟨RX3, TX3, 4, clX3, by decide, Or.inl (zWd_in 239 (by decide +kernel) rfl), rfl, by decide +kernel, fun h => by cases h⟩
theorem flX4_178 : zFl RX4 178 3 1 := ⟨RX3, TX3, 4, clX3, by decide, Or.inr ⟨"OffsetChains", zNs_in 240 (by decide +kernel) rfl⟩⟩
theorem fpX4_178 : zFp RX4 178 3 1 .int false := ⟨RX3, TX3, 4, clX3, by decide, Or.inr ⟨rfl, "OffsetChains", zNs_in 240 (by decide +kernel) rfl⟩, rfl, by decide +kernel, fun h => by cases h⟩
theorem flX3_23 : zFl RX3 23 3 2 := ⟨RX3, TX3, 4, clX3, by decide, Or.inl (zWd_in 241 (by decide +kernel) rfl)⟩
theorem fpX3_23 : zFp RX3 23 3 2 .int false := ⟨RX3, TX3, 4, clX3, by decide, Or.inl (zWd_in 241 (by decide +kernel) rfl), rfl, by decide +kernel, fun h => by cases h⟩
theorem flX4_97 : zFl RX4 97 3 2 := ⟨RX3, TX3, 4, clX3, by decide, Or.inr ⟨"OffsetChains", zNs_in 242 (by decide +kernel) rfl⟩⟩
theorem fpX4_97 : zFp RX4 97 3 2 .int false := ⟨RX3, TX3, 4, clX3, by decide, Or.inr ⟨rfl, "OffsetChains", zNs_in 242 (by decide +kernel) rfl⟩, rfl, by decide +kernel, fun h => by cases h⟩
theorem flX3_15 : zFl RX3 15 3 3 := ⟨RX3, TX3, 4, clX3, by decide, Or.inl (zWd_in 243 (by decide +kernel) rfl)⟩
theorem fpX3_15 : zFp RX3 15 3 3 (.array .long) true := ⟨RX3, TX3, 4, clX3, by decide, Or.inl (zWd_in 243 (by decide +kernel) rfl), rfl, by decide +kernel, fun _ => rfl⟩
theorem flX4_104 : zFl RX4 104 3 3 := ⟨RX3, TX3, 4, clX3, by decide, Or.inr ⟨"OffsetChains", zNs_in 244 (by decide +kernel) rfl⟩⟩
theorem flX4_12 : zFl RX4 12 4 0 := ⟨RX4, TX4, 6, clX4, by decide, Or.inl (zWd_in 255 (by decide +kernel) rfl)⟩
theorem fpX4_12 : zFp RX4 12 4 0 (.object "OffsetChains$Plan") true := ⟨RX4, TX4, 6, clX4, by decide, Or.inl (zWd_in 255 (by decide +kernel) rfl), rfl, by decide +kernel, fun _ => rfl⟩
theorem flX4_21 : zFl RX4 21 4 1 := ⟨RX4, TX4, 6, clX4, by decide, Or.inl (zWd_in 256 (by decide +kernel) rfl)⟩
theorem fpX4_21 : zFp RX4 21 4 1 (.object "OffsetChains$Answers") true := ⟨RX4, TX4, 6, clX4, by decide, Or.inl (zWd_in 256 (by decide +kernel) rfl), rfl, by decide +kernel, fun _ => rfl⟩
theorem flX4_25 : zFl RX4 25 4 2 := ⟨RX4, TX4, 6, clX4, by decide, Or.inl (zWd_in 257 (by decide +kernel) rfl)⟩
theorem fpX4_25 : zFp RX4 25 4 2 (.object "OffsetChains$Answers") true := ⟨RX4, TX4, 6, clX4, by decide, Or.inl (zWd_in 257 (by decide +kernel) rfl), rfl, by decide +kernel, fun _ => rfl⟩
theorem flX4_31 : zFl RX4 31 4 3 := ⟨RX4, TX4, 6, clX4, by decide, Or.inl (zWd_in 258 (by decide +kernel) rfl)⟩
theorem fpX4_31 : zFp RX4 31 4 3 (.object "OffsetChains$Course") true := ⟨RX4, TX4, 6, clX4, by decide, Or.inl (zWd_in 258 (by decide +kernel) rfl), rfl, by decide +kernel, fun _ => rfl⟩
theorem flX4_37 : zFl RX4 37 4 4 := ⟨RX4, TX4, 6, clX4, by decide, Or.inl (zWd_in 259 (by decide +kernel) rfl)⟩
theorem fpX4_37 : zFp RX4 37 4 4 (.array (.object "OffsetChains$Sheet")) true := ⟨RX4, TX4, 6, clX4, by decide, Or.inl (zWd_in 259 (by decide +kernel) rfl), rfl, by decide +kernel, fun _ => rfl⟩
theorem flX4_42 : zFl RX4 42 4 5 := ⟨RX4, TX4, 6, clX4, by decide, Or.inl (zWd_in 260 (by decide +kernel) rfl)⟩
theorem fpX4_42 : zFp RX4 42 4 5 .int false := ⟨RX4, TX4, 6, clX4, by decide, Or.inl (zWd_in 260 (by decide +kernel) rfl), rfl, by decide +kernel, fun h => by cases h⟩
theorem stX4_54 : Cond.fieldLink RX4 54 "OffsetChains" (zTn 0) "[I" ∈ zWd := zWd_in 284 (by decide +kernel) rfl
theorem stX4_58 : Cond.fieldLink RX4 58 "OffsetChains" (zTn 1) "[I" ∈ zWd := zWd_in 286 (by decide +kernel) rfl
theorem stX4_205 : Cond.fieldLink RX4 205 "OffsetChains" (zTn 2) "[I" ∈ zWd := zWd_in 295 (by decide +kernel) rfl
theorem stX4_208 : Cond.fieldLink RX4 208 "OffsetChains" (zTn 3) "[I" ∈ zWd := zWd_in 297 (by decide +kernel) rfl
theorem flX5_7 : zFl RX5 7 5 0 := ⟨RX5, TX5, 36, clX5, by decide, Or.inl (zWd_in 651 (by decide +kernel) rfl)⟩
theorem fpX5_7 : zFp RX5 7 5 0 (.array .int) true := ⟨RX5, TX5, 36, clX5, by decide, Or.inl (zWd_in 651 (by decide +kernel) rfl), rfl, by decide +kernel, fun _ => rfl⟩
theorem flX5_13 : zFl RX5 13 5 1 := ⟨RX5, TX5, 36, clX5, by decide, Or.inl (zWd_in 652 (by decide +kernel) rfl)⟩
theorem fpX5_13 : zFp RX5 13 5 1 (.array .int) true := ⟨RX5, TX5, 36, clX5, by decide, Or.inl (zWd_in 652 (by decide +kernel) rfl), rfl, by decide +kernel, fun _ => rfl⟩
theorem flX5_16 : zFl RX5 16 5 2 := ⟨RX5, TX5, 36, clX5, by decide, Or.inl (zWd_in 653 (by decide +kernel) rfl)⟩
theorem fpX5_16 : zFp RX5 16 5 2 (.array .long) true := ⟨RX5, TX5, 36, clX5, by decide, Or.inl (zWd_in 653 (by decide +kernel) rfl), rfl, by decide +kernel, fun _ => rfl⟩
theorem flX5_20 : zFl RX5 20 5 3 := ⟨RX5, TX5, 36, clX5, by decide, Or.inl (zWd_in 654 (by decide +kernel) rfl)⟩
theorem fpX5_20 : zFp RX5 20 5 3 (.array .long) true := ⟨RX5, TX5, 36, clX5, by decide, Or.inl (zWd_in 654 (by decide +kernel) rfl), rfl, by decide +kernel, fun _ => rfl⟩
theorem flX5_95 : zFl RX5 95 5 4 := ⟨RX5, TX5, 36, clX5, by decide, Or.inl (zWd_in 655 (by decide +kernel) rfl)⟩
theorem fpX5_95 : zFp RX5 95 5 4 .int false := ⟨RX5, TX5, 36, clX5, by decide, Or.inl (zWd_in 655 (by decide +kernel) rfl), rfl, by decide +kernel, fun h => by cases h⟩
theorem flX5_23 : zFl RX5 23 5 5 := ⟨RX5, TX5, 36, clX5, by decide, Or.inl (zWd_in 656 (by decide +kernel) rfl)⟩
theorem fpX5_23 : zFp RX5 23 5 5 (.array .int) true := ⟨RX5, TX5, 36, clX5, by decide, Or.inl (zWd_in 656 (by decide +kernel) rfl), rfl, by decide +kernel, fun _ => rfl⟩
theorem flX5_26 : zFl RX5 26 5 6 := ⟨RX5, TX5, 36, clX5, by decide, Or.inl (zWd_in 657 (by decide +kernel) rfl)⟩
theorem fpX5_26 : zFp RX5 26 5 6 (.array .int) true := ⟨RX5, TX5, 36, clX5, by decide, Or.inl (zWd_in 657 (by decide +kernel) rfl), rfl, by decide +kernel, fun _ => rfl⟩
theorem flX5_29 : zFl RX5 29 5 7 := ⟨RX5, TX5, 36, clX5, by decide, Or.inl (zWd_in 658 (by decide +kernel) rfl)⟩
theorem fpX5_29 : zFp RX5 29 5 7 (.array .int) true := ⟨RX5, TX5, 36, clX5, by decide, Or.inl (zWd_in 658 (by decide +kernel) rfl), rfl, by decide +kernel, fun _ => rfl⟩
theorem flX5_32 : zFl RX5 32 5 8 := ⟨RX5, TX5, 36, clX5, by decide, Or.inl (zWd_in 659 (by decide +kernel) rfl)⟩
theorem fpX5_32 : zFp RX5 32 5 8 (.array .int) true := ⟨RX5, TX5, 36, clX5, by decide, Or.inl (zWd_in 659 (by decide +kernel) rfl), rfl, by decide +kernel, fun _ => rfl⟩
theorem flX5_35 : zFl RX5 35 5 9 := ⟨RX5, TX5, 36, clX5, by decide, Or.inl (zWd_in 660 (by decide +kernel) rfl)⟩
theorem fpX5_35 : zFp RX5 35 5 9 (.array .int) true := ⟨RX5, TX5, 36, clX5, by decide, Or.inl (zWd_in 660 (by decide +kernel) rfl), rfl, by decide +kernel, fun _ => rfl⟩
theorem flX5_38 : zFl RX5 38 5 10 := ⟨RX5, TX5, 36, clX5, by decide, Or.inl (zWd_in 661 (by decide +kernel) rfl)⟩
theorem fpX5_38 : zFp RX5 38 5 10 (.array .int) true := ⟨RX5, TX5, 36, clX5, by decide, Or.inl (zWd_in 661 (by decide +kernel) rfl), rfl, by decide +kernel, fun _ => rfl⟩
theorem flX5_41 : zFl RX5 41 5 11 := ⟨RX5, TX5, 36, clX5, by decide, Or.inl (zWd_in 662 (by decide +kernel) rfl)⟩
theorem fpX5_41 : zFp RX5 41 5 11 (.array .int) true := ⟨RX5, TX5, 36, clX5, by decide, Or.inl (zWd_in 662 (by decide +kernel) rfl), rfl, by decide +kernel, fun _ => rfl⟩
theorem flX5_44 : zFl RX5 44 5 12 := ⟨RX5, TX5, 36, clX5, by decide, Or.inl (zWd_in 663 (by decide +kernel) rfl)⟩
theorem fpX5_44 : zFp RX5 44 5 12 (.array .int) true := ⟨RX5, TX5, 36, clX5, by decide, Or.inl (zWd_in 663 (by decide +kernel) rfl), rfl, by decide +kernel, fun _ => rfl⟩
theorem flX5_47 : zFl RX5 47 5 13 := ⟨RX5, TX5, 36, clX5, by decide, Or.inl (zWd_in 664 (by decide +kernel) rfl)⟩
theorem fpX5_47 : zFp RX5 47 5 13 (.array .int) true := ⟨RX5, TX5, 36, clX5, by decide, Or.inl (zWd_in 664 (by decide +kernel) rfl), rfl, by decide +kernel, fun _ => rfl⟩
theorem flX5_50 : zFl RX5 50 5 14 := ⟨RX5, TX5, 36, clX5, by decide, Or.inl (zWd_in 665 (by decide +kernel) rfl)⟩
theorem fpX5_50 : zFp RX5 50 5 14 (.array .int) true := ⟨RX5, TX5, 36, clX5, by decide, Or.inl (zWd_in 665 (by decide +kernel) rfl), rfl, by decide +kernel, fun _ => rfl⟩
theorem flX5_170 : zFl RX5 170 5 15 := ⟨RX5, TX5, 36, clX5, by decide, Or.inl (zWd_in 666 (by decide +kernel) rfl)⟩
theorem fpX5_170 : zFp RX5 170 5 15 .long false := ⟨RX5, TX5, 36, clX5, by decide, Or.inl (zWd_in 666 (by decide +kernel) rfl), rfl, by decide +kernel, fun h => by cases h⟩
theorem flX5_166 : zFl RX5 166 5 16 := ⟨RX5, TX5, 36, clX5, by decide, Or.inl (zWd_in 667 (by decide +kernel) rfl)⟩
theorem fpX5_166 : zFp RX5 166 5 16 .long false := ⟨RX5, TX5, 36, clX5, by decide, Or.inl (zWd_in 667 (by decide +kernel) rfl), rfl, by decide +kernel, fun h => by cases h⟩
theorem flX5_53 : zFl RX5 53 5 17 := ⟨RX5, TX5, 36, clX5, by decide, Or.inl (zWd_in 668 (by decide +kernel) rfl)⟩
theorem fpX5_53 : zFp RX5 53 5 17 (.array .int) true := ⟨RX5, TX5, 36, clX5, by decide, Or.inl (zWd_in 668 (by decide +kernel) rfl), rfl, by decide +kernel, fun _ => rfl⟩
theorem flX5_56 : zFl RX5 56 5 18 := ⟨RX5, TX5, 36, clX5, by decide, Or.inl (zWd_in 669 (by decide +kernel) rfl)⟩
theorem fpX5_56 : zFp RX5 56 5 18 (.array .int) true := ⟨RX5, TX5, 36, clX5, by decide, Or.inl (zWd_in 669 (by decide +kernel) rfl), rfl, by decide +kernel, fun _ => rfl⟩
theorem flX5_204 : zFl RX5 204 5 19 := ⟨RX5, TX5, 36, clX5, by decide, Or.inl (zWd_in 670 (by decide +kernel) rfl)⟩
theorem fpX5_204 : zFp RX5 204 5 19 .int false := ⟨RX5, TX5, 36, clX5, by decide, Or.inl (zWd_in 670 (by decide +kernel) rfl), rfl, by decide +kernel, fun h => by cases h⟩
theorem flX5_214 : zFl RX5 214 5 20 := ⟨RX5, TX5, 36, clX5, by decide, Or.inl (zWd_in 671 (by decide +kernel) rfl)⟩
theorem fpX5_214 : zFp RX5 214 5 20 .int false := ⟨RX5, TX5, 36, clX5, by decide, Or.inl (zWd_in 671 (by decide +kernel) rfl), rfl, by decide +kernel, fun h => by cases h⟩
theorem flX5_217 : zFl RX5 217 5 21 := ⟨RX5, TX5, 36, clX5, by decide, Or.inl (zWd_in 672 (by decide +kernel) rfl)⟩
theorem fpX5_217 : zFp RX5 217 5 21 .int false := ⟨RX5, TX5, 36, clX5, by decide, Or.inl (zWd_in 672 (by decide +kernel) rfl), rfl, by decide +kernel, fun h => by cases h⟩
theorem flX5_220 : zFl RX5 220 5 22 := ⟨RX5, TX5, 36, clX5, by decide, Or.inl (zWd_in 673 (by decide +kernel) rfl)⟩
theorem fpX5_220 : zFp RX5 220 5 22 .int false := ⟨RX5, TX5, 36, clX5, by decide, Or.inl (zWd_in 673 (by decide +kernel) rfl), rfl, by decide +kernel, fun h => by cases h⟩
theorem flX5_59 : zFl RX5 59 5 23 := ⟨RX5, TX5, 36, clX5, by decide, Or.inl (zWd_in 674 (by decide +kernel) rfl)⟩
theorem fpX5_59 : zFp RX5 59 5 23 (.array .int) true := ⟨RX5, TX5, 36, clX5, by decide, Or.inl (zWd_in 674 (by decide +kernel) rfl), rfl, by decide +kernel, fun _ => rfl⟩
theorem flX5_62 : zFl RX5 62 5 24 := ⟨RX5, TX5, 36, clX5, by decide, Or.inl (zWd_in 675 (by decide +kernel) rfl)⟩
theorem fpX5_62 : zFp RX5 62 5 24 (.array .int) true := ⟨RX5, TX5, 36, clX5, by decide, Or.inl (zWd_in 675 (by decide +kernel) rfl), rfl, by decide +kernel, fun _ => rfl⟩
theorem flX5_65 : zFl RX5 65 5 25 := ⟨RX5, TX5, 36, clX5, by decide, Or.inl (zWd_in 676 (by decide +kernel) rfl)⟩
theorem fpX5_65 : zFp RX5 65 5 25 (.array .int) true := ⟨RX5, TX5, 36, clX5, by decide, Or.inl (zWd_in 676 (by decide +kernel) rfl), rfl, by decide +kernel, fun _ => rfl⟩
theorem flX5_68 : zFl RX5 68 5 26 := ⟨RX5, TX5, 36, clX5, by decide, Or.inl (zWd_in 677 (by decide +kernel) rfl)⟩
theorem fpX5_68 : zFp RX5 68 5 26 (.array .int) true := ⟨RX5, TX5, 36, clX5, by decide, Or.inl (zWd_in 677 (by decide +kernel) rfl), rfl, by decide +kernel, fun _ => rfl⟩
theorem flX5_232 : zFl RX5 232 5 27 := ⟨RX5, TX5, 36, clX5, by decide, Or.inl (zWd_in 678 (by decide +kernel) rfl)⟩
theorem fpX5_232 : zFp RX5 232 5 27 .boolean false := ⟨RX5, TX5, 36, clX5, by decide, Or.inl (zWd_in 678 (by decide +kernel) rfl), rfl, by decide +kernel, fun h => by cases h⟩
theorem flX5_240 : zFl RX5 240 5 28 := ⟨RX5, TX5, 36, clX5, by decide, Or.inl (zWd_in 679 (by decide +kernel) rfl)⟩
theorem fpX5_240 : zFp RX5 240 5 28 .int false := ⟨RX5, TX5, 36, clX5, by decide, Or.inl (zWd_in 679 (by decide +kernel) rfl), rfl, by decide +kernel, fun h => by cases h⟩
theorem flX5_71 : zFl RX5 71 5 29 := ⟨RX5, TX5, 36, clX5, by decide, Or.inl (zWd_in 680 (by decide +kernel) rfl)⟩
theorem fpX5_71 : zFp RX5 71 5 29 (.array .int) true := ⟨RX5, TX5, 36, clX5, by decide, Or.inl (zWd_in 680 (by decide +kernel) rfl), rfl, by decide +kernel, fun _ => rfl⟩
theorem flX5_74 : zFl RX5 74 5 30 := ⟨RX5, TX5, 36, clX5, by decide, Or.inl (zWd_in 681 (by decide +kernel) rfl)⟩
theorem fpX5_74 : zFp RX5 74 5 30 (.array .int) true := ⟨RX5, TX5, 36, clX5, by decide, Or.inl (zWd_in 681 (by decide +kernel) rfl), rfl, by decide +kernel, fun _ => rfl⟩
theorem flX5_77 : zFl RX5 77 5 31 := ⟨RX5, TX5, 36, clX5, by decide, Or.inl (zWd_in 682 (by decide +kernel) rfl)⟩
theorem fpX5_77 : zFp RX5 77 5 31 (.array .int) true := ⟨RX5, TX5, 36, clX5, by decide, Or.inl (zWd_in 682 (by decide +kernel) rfl), rfl, by decide +kernel, fun _ => rfl⟩
theorem flX5_80 : zFl RX5 80 5 32 := ⟨RX5, TX5, 36, clX5, by decide, Or.inl (zWd_in 683 (by decide +kernel) rfl)⟩
theorem fpX5_80 : zFp RX5 80 5 32 (.array .int) true := ⟨RX5, TX5, 36, clX5, by decide, Or.inl (zWd_in 683 (by decide +kernel) rfl), rfl, by decide +kernel, fun _ => rfl⟩
theorem flX5_83 : zFl RX5 83 5 33 := ⟨RX5, TX5, 36, clX5, by decide, Or.inl (zWd_in 684 (by decide +kernel) rfl)⟩
theorem fpX5_83 : zFp RX5 83 5 33 (.array .int) true := ⟨RX5, TX5, 36, clX5, by decide, Or.inl (zWd_in 684 (by decide +kernel) rfl), rfl, by decide +kernel, fun _ => rfl⟩
theorem flX5_86 : zFl RX5 86 5 34 := ⟨RX5, TX5, 36, clX5, by decide, Or.inl (zWd_in 685 (by decide +kernel) rfl)⟩
theorem fpX5_86 : zFp RX5 86 5 34 (.array .int) true := ⟨RX5, TX5, 36, clX5, by decide, Or.inl (zWd_in 685 (by decide +kernel) rfl), rfl, by decide +kernel, fun _ => rfl⟩
theorem flX5_308 : zFl RX5 308 5 35 := ⟨RX5, TX5, 36, clX5, by decide, Or.inl (zWd_in 686 (by decide +kernel) rfl)⟩
theorem fpX5_308 : zFp RX5 308 5 35 .int false := ⟨RX5, TX5, 36, clX5, by decide, Or.inl (zWd_in 686 (by decide +kernel) rfl), rfl, by decide +kernel, fun h => by cases h⟩
abbrev μX4_init : zU := (yX4_init, cX4_init, 2, none)
set_option maxRecDepth 20000 in
theorem mkX4_init : zMk μX4_init 0 := ⟨zWd_in 86 rfl rfl, zWd_in 72 (by decide +kernel) rfl, ⟨by decide +kernel, by decide +kernel, by decide +kernel⟩, by decide⟩
abbrev μX2_init : zU := (yX2_init, cX2_init, 1, none)
set_option maxRecDepth 20000 in
theorem mkX2_init : zMk μX2_init 0 := ⟨zWd_in 94 rfl rfl, zWd_in 73 (by decide +kernel) rfl, ⟨by decide +kernel, by decide +kernel, by decide +kernel⟩, by decide⟩
abbrev μJ7_fill_53178 : zU := (yJ7_fill_53178, cJ7_fill_53178, 4, none)
set_option maxRecDepth 20000 in
theorem mkJ7_fill_53178 : zMk μJ7_fill_53178 2 := ⟨zWd_in 100 rfl rfl, zWd_in 74 (by decide +kernel) rfl, ⟨by decide +kernel, by decide +kernel, by decide +kernel⟩, by decide⟩
abbrev μX0_init : zU := (yX0_init, cX0_init, 2, none)
set_option maxRecDepth 20000 in
theorem mkX0_init : zMk μX0_init 1 := ⟨zWd_in 124 rfl rfl, zWd_in 75 (by decide +kernel) rfl, ⟨by decide +kernel, by decide +kernel, by decide +kernel⟩, by decide⟩
abbrev μX1_init : zU := (yX1_init, cX1_init, 1, none)
set_option maxRecDepth 20000 in
theorem mkX1_init : zMk μX1_init 0 := ⟨zWd_in 187 rfl rfl, zWd_in 76 (by decide +kernel) rfl, ⟨by decide +kernel, by decide +kernel, by decide +kernel⟩, by decide⟩
abbrev μX1_clear : zU := (yX1_clear, cX1_clear, 2, none)
set_option maxRecDepth 20000 in
theorem mkX1_clear : zMk μX1_clear 0 := ⟨zWd_in 193 rfl rfl, zWd_in 76 (by decide +kernel) rfl, ⟨by decide +kernel, by decide +kernel, by decide +kernel⟩, by decide⟩
abbrev μX3_init : zU := (yX3_init, cX3_init, 1, none)
set_option maxRecDepth 20000 in
theorem mkX3_init : zMk μX3_init 0 := ⟨zWd_in 235 rfl rfl, zWd_in 77 (by decide +kernel) rfl, ⟨by decide +kernel, by decide +kernel, by decide +kernel⟩, by decide⟩
abbrev μX4_chain : zU := (yX4_chain, cX4_chain, 5, some .int)
set_option maxRecDepth 20000 in
theorem mkX4_chain : zMk μX4_chain 3 := ⟨zWd_in 277 rfl rfl, zWd_in 72 (by decide +kernel) rfl, ⟨by decide +kernel, by decide +kernel, by decide +kernel⟩, by decide⟩
abbrev μX4_isChain : zU := (yX4_isChain, cX4_isChain, 1, some .boolean)
set_option maxRecDepth 20000 in
theorem mkX4_isChain : zMk μX4_isChain 1 := ⟨zWd_in 280 rfl rfl, zWd_in 72 (by decide +kernel) rfl, ⟨by decide +kernel, by decide +kernel, by decide +kernel⟩, by decide⟩
abbrev μX4_within : zU := (yX4_within, cX4_within, 4, some .boolean)
set_option maxRecDepth 20000 in
theorem mkX4_within : zMk μX4_within 3 := ⟨zWd_in 283 rfl rfl, zWd_in 72 (by decide +kernel) rfl, ⟨by decide +kernel, by decide +kernel, by decide +kernel⟩, by decide⟩
abbrev μX4_step : zU := (yX4_step, cX4_step, 6, some .int)
set_option maxRecDepth 20000 in
theorem mkX4_step : zMk μX4_step 5 := ⟨zWd_in 291 rfl rfl, zWd_in 72 (by decide +kernel) rfl, ⟨by decide +kernel, by decide +kernel, by decide +kernel⟩, by decide⟩
abbrev μX4_isMark : zU := (yX4_isMark, cX4_isMark, 3, some .boolean)
set_option maxRecDepth 20000 in
theorem mkX4_isMark : zMk μX4_isMark 2 := ⟨zWd_in 294 rfl rfl, zWd_in 72 (by decide +kernel) rfl, ⟨by decide +kernel, by decide +kernel, by decide +kernel⟩, by decide⟩
abbrev μX2_append : zU := (yX2_append, cX2_append, 8, some .int)
set_option maxRecDepth 20000 in
theorem mkX2_append : zMk μX2_append 5 := ⟨zWd_in 302 rfl rfl, zWd_in 73 (by decide +kernel) rfl, ⟨by decide +kernel, by decide +kernel, by decide +kernel⟩, by decide⟩
abbrev μX4_back : zU := (yX4_back, cX4_back, 2, some .int)
set_option maxRecDepth 20000 in
theorem mkX4_back : zMk μX4_back 1 := ⟨zWd_in 306 rfl rfl, zWd_in 72 (by decide +kernel) rfl, ⟨by decide +kernel, by decide +kernel, by decide +kernel⟩, by decide⟩
abbrev μX4_tune : zU := (yX4_tune, cX4_tune, 7, some .int)
set_option maxRecDepth 20000 in
theorem mkX4_tune : zMk μX4_tune 4 := ⟨zWd_in 310 rfl rfl, zWd_in 72 (by decide +kernel) rfl, ⟨by decide +kernel, by decide +kernel, by decide +kernel⟩, by decide⟩
abbrev μX2_numberOf : zU := (yX2_numberOf, cX2_numberOf, 3, some .int)
set_option maxRecDepth 20000 in
theorem mkX2_numberOf : zMk μX2_numberOf 2 := ⟨zWd_in 314 rfl rfl, zWd_in 73 (by decide +kernel) rfl, ⟨by decide +kernel, by decide +kernel, by decide +kernel⟩, by decide⟩
abbrev μX4_read : zU := (yX4_read, cX4_read, 7, some .int)
set_option maxRecDepth 20000 in
theorem mkX4_read : zMk μX4_read 2 := ⟨zWd_in 320 rfl rfl, zWd_in 72 (by decide +kernel) rfl, ⟨by decide +kernel, by decide +kernel, by decide +kernel⟩, by decide⟩
abbrev μX4_isSheet : zU := (yX4_isSheet, cX4_isSheet, 1, some .boolean)
set_option maxRecDepth 20000 in
theorem mkX4_isSheet : zMk μX4_isSheet 1 := ⟨zWd_in 323 rfl rfl, zWd_in 72 (by decide +kernel) rfl, ⟨by decide +kernel, by decide +kernel, by decide +kernel⟩, by decide⟩
abbrev μX4_found : zU := (yX4_found, cX4_found, 2, some .int)
set_option maxRecDepth 20000 in
theorem mkX4_found : zMk μX4_found 1 := ⟨zWd_in 327 rfl rfl, zWd_in 72 (by decide +kernel) rfl, ⟨by decide +kernel, by decide +kernel, by decide +kernel⟩, by decide⟩
abbrev μX4_holdsStep : zU := (yX4_holdsStep, cX4_holdsStep, 3, some .boolean)
set_option maxRecDepth 20000 in
theorem mkX4_holdsStep : zMk μX4_holdsStep 2 := ⟨zWd_in 330 rfl rfl, zWd_in 72 (by decide +kernel) rfl, ⟨by decide +kernel, by decide +kernel, by decide +kernel⟩, by decide⟩
abbrev μX4_has : zU := (yX4_has, cX4_has, 3, some .int)
set_option maxRecDepth 20000 in
theorem mkX4_has : zMk μX4_has 2 := ⟨zWd_in 334 rfl rfl, zWd_in 72 (by decide +kernel) rfl, ⟨by decide +kernel, by decide +kernel, by decide +kernel⟩, by decide⟩
abbrev μX4_traitOf : zU := (yX4_traitOf, cX4_traitOf, 3, some .int)
set_option maxRecDepth 20000 in
theorem mkX4_traitOf : zMk μX4_traitOf 2 := ⟨zWd_in 338 rfl rfl, zWd_in 72 (by decide +kernel) rfl, ⟨by decide +kernel, by decide +kernel, by decide +kernel⟩, by decide⟩
abbrev μX4_info : zU := (yX4_info, cX4_info, 5, some .int)
set_option maxRecDepth 20000 in
theorem mkX4_info : zMk μX4_info 3 := ⟨zWd_in 342 rfl rfl, zWd_in 72 (by decide +kernel) rfl, ⟨by decide +kernel, by decide +kernel, by decide +kernel⟩, by decide⟩
abbrev μX0_settle : zU := (yX0_settle, cX0_settle, 2, none)
set_option maxRecDepth 20000 in
theorem mkX0_settle : zMk μX0_settle 0 := ⟨zWd_in 346 rfl rfl, zWd_in 75 (by decide +kernel) rfl, ⟨by decide +kernel, by decide +kernel, by decide +kernel⟩, by decide⟩
abbrev μX2_periodOf : zU := (yX2_periodOf, cX2_periodOf, 2, some .int)
set_option maxRecDepth 20000 in
theorem mkX2_periodOf : zMk μX2_periodOf 1 := ⟨zWd_in 350 rfl rfl, zWd_in 73 (by decide +kernel) rfl, ⟨by decide +kernel, by decide +kernel, by decide +kernel⟩, by decide⟩
abbrev μJ9_max_7cf53 : zU := (yJ9_max_7cf53, cJ9_max_7cf53, 2, some .int)
set_option maxRecDepth 20000 in
theorem mkJ9_max_7cf53 : zMk μJ9_max_7cf53 2 := ⟨zWd_in 353 rfl rfl, zWd_in 79 (by decide +kernel) rfl, ⟨by decide +kernel, by decide +kernel, by decide +kernel⟩, by decide⟩
abbrev μX0_boundAll : zU := (yX0_boundAll, cX0_boundAll, 2, some .boolean)
set_option maxRecDepth 20000 in
theorem mkX0_boundAll : zMk μX0_boundAll 0 := ⟨zWd_in 357 rfl rfl, zWd_in 75 (by decide +kernel) rfl, ⟨by decide +kernel, by decide +kernel, by decide +kernel⟩, by decide⟩
abbrev μX0_placeComings : zU := (yX0_placeComings, cX0_placeComings, 8, none)
set_option maxRecDepth 20000 in
theorem mkX0_placeComings : zMk μX0_placeComings 0 := ⟨zWd_in 361 rfl rfl, zWd_in 75 (by decide +kernel) rfl, ⟨by decide +kernel, by decide +kernel, by decide +kernel⟩, by decide⟩
abbrev μX2_isStep : zU := (yX2_isStep, cX2_isStep, 2, some .boolean)
set_option maxRecDepth 20000 in
theorem mkX2_isStep : zMk μX2_isStep 1 := ⟨zWd_in 365 rfl rfl, zWd_in 73 (by decide +kernel) rfl, ⟨by decide +kernel, by decide +kernel, by decide +kernel⟩, by decide⟩
abbrev μX2_earliestOf : zU := (yX2_earliestOf, cX2_earliestOf, 4, some .int)
set_option maxRecDepth 20000 in
theorem mkX2_earliestOf : zMk μX2_earliestOf 1 := ⟨zWd_in 369 rfl rfl, zWd_in 73 (by decide +kernel) rfl, ⟨by decide +kernel, by decide +kernel, by decide +kernel⟩, by decide⟩
abbrev μJ9_floorMod_7cf53 : zU := (yJ9_floorMod_7cf53, cJ9_floorMod_7cf53, 3, some .int)
set_option maxRecDepth 20000 in
theorem mkJ9_floorMod_7cf53 : zMk μJ9_floorMod_7cf53 2 := ⟨zWd_in 372 rfl rfl, zWd_in 79 (by decide +kernel) rfl, ⟨by decide +kernel, by decide +kernel, by decide +kernel⟩, by decide⟩
abbrev μX0_gatherRivals : zU := (yX0_gatherRivals, cX0_gatherRivals, 4, none)
set_option maxRecDepth 20000 in
theorem mkX0_gatherRivals : zMk μX0_gatherRivals 1 := ⟨zWd_in 376 rfl rfl, zWd_in 75 (by decide +kernel) rfl, ⟨by decide +kernel, by decide +kernel, by decide +kernel⟩, by decide⟩
abbrev μX2_isRival : zU := (yX2_isRival, cX2_isRival, 3, some .boolean)
set_option maxRecDepth 20000 in
theorem mkX2_isRival : zMk μX2_isRival 2 := ⟨zWd_in 380 rfl rfl, zWd_in 73 (by decide +kernel) rfl, ⟨by decide +kernel, by decide +kernel, by decide +kernel⟩, by decide⟩
abbrev μX2_isOverloaded : zU := (yX2_isOverloaded, cX2_isOverloaded, 2, some .boolean)
set_option maxRecDepth 20000 in
theorem mkX2_isOverloaded : zMk μX2_isOverloaded 1 := ⟨zWd_in 385 rfl rfl, zWd_in 73 (by decide +kernel) rfl, ⟨by decide +kernel, by decide +kernel, by decide +kernel⟩, by decide⟩
abbrev μX2_loadAbove : zU := (yX2_loadAbove, cX2_loadAbove, 5, some .int)
set_option maxRecDepth 20000 in
theorem mkX2_loadAbove : zMk μX2_loadAbove 1 := ⟨zWd_in 389 rfl rfl, zWd_in 73 (by decide +kernel) rfl, ⟨by decide +kernel, by decide +kernel, by decide +kernel⟩, by decide⟩
abbrev μX2_loadBelow : zU := (yX2_loadBelow, cX2_loadBelow, 1, some .int)
set_option maxRecDepth 20000 in
theorem mkX2_loadBelow : zMk μX2_loadBelow 0 := ⟨zWd_in 393 rfl rfl, zWd_in 73 (by decide +kernel) rfl, ⟨by decide +kernel, by decide +kernel, by decide +kernel⟩, by decide⟩
abbrev μX0_findLongest : zU := (yX0_findLongest, cX0_findLongest, 14, some .boolean)
set_option maxRecDepth 20000 in
theorem mkX0_findLongest : zMk μX0_findLongest 1 := ⟨zWd_in 399 rfl rfl, zWd_in 75 (by decide +kernel) rfl, ⟨by decide +kernel, by decide +kernel, by decide +kernel⟩, by decide⟩
abbrev μX0_leastTime : zU := (yX0_leastTime, cX0_leastTime, 8, some .int)
set_option maxRecDepth 20000 in
theorem mkX0_leastTime : zMk μX0_leastTime 4 := ⟨zWd_in 403 rfl rfl, zWd_in 75 (by decide +kernel) rfl, ⟨by decide +kernel, by decide +kernel, by decide +kernel⟩, by decide⟩
abbrev μX0_quickNeeded : zU := (yX0_quickNeeded, cX0_quickNeeded, 9, some .int)
set_option maxRecDepth 20000 in
theorem mkX0_quickNeeded : zMk μX0_quickNeeded 3 := ⟨zWd_in 407 rfl rfl, zWd_in 75 (by decide +kernel) rfl, ⟨by decide +kernel, by decide +kernel, by decide +kernel⟩, by decide⟩
abbrev μX0_quickComes : zU := (yX0_quickComes, cX0_quickComes, 4, some .int)
set_option maxRecDepth 20000 in
theorem mkX0_quickComes : zMk μX0_quickComes 2 := ⟨zWd_in 411 rfl rfl, zWd_in 75 (by decide +kernel) rfl, ⟨by decide +kernel, by decide +kernel, by decide +kernel⟩, by decide⟩
abbrev μX0_needed : zU := (yX0_needed, cX0_needed, 12, some .int)
set_option maxRecDepth 20000 in
theorem mkX0_needed : zMk μX0_needed 4 := ⟨zWd_in 415 rfl rfl, zWd_in 75 (by decide +kernel) rfl, ⟨by decide +kernel, by decide +kernel, by decide +kernel⟩, by decide⟩
abbrev μX0_comes : zU := (yX0_comes, cX0_comes, 6, some .int)
set_option maxRecDepth 20000 in
theorem mkX0_comes : zMk μX0_comes 3 := ⟨zWd_in 419 rfl rfl, zWd_in 75 (by decide +kernel) rfl, ⟨by decide +kernel, by decide +kernel, by decide +kernel⟩, by decide⟩
abbrev μX0_work : zU := (yX0_work, cX0_work, 7, some .int)
set_option maxRecDepth 20000 in
theorem mkX0_work : zMk μX0_work 3 := ⟨zWd_in 423 rfl rfl, zWd_in 75 (by decide +kernel) rfl, ⟨by decide +kernel, by decide +kernel, by decide +kernel⟩, by decide⟩
abbrev μX0_passLateness : zU := (yX0_passLateness, cX0_passLateness, 4, some .boolean)
set_option maxRecDepth 20000 in
theorem mkX0_passLateness : zMk μX0_passLateness 0 := ⟨zWd_in 428 rfl rfl, zWd_in 75 (by decide +kernel) rfl, ⟨by decide +kernel, by decide +kernel, by decide +kernel⟩, by decide⟩
abbrev μX4_infoOf : zU := (yX4_infoOf, cX4_infoOf, 3, some .int)
set_option maxRecDepth 20000 in
theorem mkX4_infoOf : zMk μX4_infoOf 2 := ⟨zWd_in 432 rfl rfl, zWd_in 72 (by decide +kernel) rfl, ⟨by decide +kernel, by decide +kernel, by decide +kernel⟩, by decide⟩
abbrev μX0_lateOf : zU := (yX0_lateOf, cX0_lateOf, 2, some .int)
set_option maxRecDepth 20000 in
theorem mkX0_lateOf : zMk μX0_lateOf 1 := ⟨zWd_in 437 rfl rfl, zWd_in 75 (by decide +kernel) rfl, ⟨by decide +kernel, by decide +kernel, by decide +kernel⟩, by decide⟩
abbrev μX2_rivalsOf : zU := (yX2_rivalsOf, cX2_rivalsOf, 4, some .int)
set_option maxRecDepth 20000 in
theorem mkX2_rivalsOf : zMk μX2_rivalsOf 1 := ⟨zWd_in 441 rfl rfl, zWd_in 73 (by decide +kernel) rfl, ⟨by decide +kernel, by decide +kernel, by decide +kernel⟩, by decide⟩
abbrev μX4_load : zU := (yX4_load, cX4_load, 5, some .int)
set_option maxRecDepth 20000 in
theorem mkX4_load : zMk μX4_load 3 := ⟨zWd_in 445 rfl rfl, zWd_in 72 (by decide +kernel) rfl, ⟨by decide +kernel, by decide +kernel, by decide +kernel⟩, by decide⟩
abbrev μX2_loadPart : zU := (yX2_loadPart, cX2_loadPart, 6, some .int)
set_option maxRecDepth 20000 in
theorem mkX2_loadPart : zMk μX2_loadPart 2 := ⟨zWd_in 449 rfl rfl, zWd_in 73 (by decide +kernel) rfl, ⟨by decide +kernel, by decide +kernel, by decide +kernel⟩, by decide⟩
abbrev μX2_greatestDivisor : zU := (yX2_greatestDivisor, cX2_greatestDivisor, 6, some .int)
set_option maxRecDepth 20000 in
theorem mkX2_greatestDivisor : zMk μX2_greatestDivisor 2 := ⟨zWd_in 452 rfl rfl, zWd_in 73 (by decide +kernel) rfl, ⟨by decide +kernel, by decide +kernel, by decide +kernel⟩, by decide⟩
abbrev μX4_bound : zU := (yX4_bound, cX4_bound, 4, some .int)
set_option maxRecDepth 20000 in
theorem mkX4_bound : zMk μX4_bound 2 := ⟨zWd_in 456 rfl rfl, zWd_in 72 (by decide +kernel) rfl, ⟨by decide +kernel, by decide +kernel, by decide +kernel⟩, by decide⟩
abbrev μX0_boundOf : zU := (yX0_boundOf, cX0_boundOf, 2, some .int)
set_option maxRecDepth 20000 in
theorem mkX0_boundOf : zMk μX0_boundOf 1 := ⟨zWd_in 460 rfl rfl, zWd_in 75 (by decide +kernel) rfl, ⟨by decide +kernel, by decide +kernel, by decide +kernel⟩, by decide⟩
abbrev μX4_searched : zU := (yX4_searched, cX4_searched, 4, some .int)
set_option maxRecDepth 20000 in
theorem mkX4_searched : zMk μX4_searched 2 := ⟨zWd_in 464 rfl rfl, zWd_in 72 (by decide +kernel) rfl, ⟨by decide +kernel, by decide +kernel, by decide +kernel⟩, by decide⟩
abbrev μX0_searchedOf : zU := (yX0_searchedOf, cX0_searchedOf, 7, some .int)
set_option maxRecDepth 20000 in
theorem mkX0_searchedOf : zMk μX0_searchedOf 1 := ⟨zWd_in 468 rfl rfl, zWd_in 75 (by decide +kernel) rfl, ⟨by decide +kernel, by decide +kernel, by decide +kernel⟩, by decide⟩
abbrev μX4_quick : zU := (yX4_quick, cX4_quick, 4, some .int)
set_option maxRecDepth 20000 in
theorem mkX4_quick : zMk μX4_quick 2 := ⟨zWd_in 472 rfl rfl, zWd_in 72 (by decide +kernel) rfl, ⟨by decide +kernel, by decide +kernel, by decide +kernel⟩, by decide⟩
abbrev μX0_quickOf : zU := (yX0_quickOf, cX0_quickOf, 9, some .int)
set_option maxRecDepth 20000 in
theorem mkX0_quickOf : zMk μX0_quickOf 1 := ⟨zWd_in 476 rfl rfl, zWd_in 75 (by decide +kernel) rfl, ⟨by decide +kernel, by decide +kernel, by decide +kernel⟩, by decide⟩
abbrev μX4_rounds : zU := (yX4_rounds, cX4_rounds, 1, some .int)
set_option maxRecDepth 20000 in
theorem mkX4_rounds : zMk μX4_rounds 0 := ⟨zWd_in 480 rfl rfl, zWd_in 72 (by decide +kernel) rfl, ⟨by decide +kernel, by decide +kernel, by decide +kernel⟩, by decide⟩
abbrev μX4_worst : zU := (yX4_worst, cX4_worst, 5, some .int)
set_option maxRecDepth 20000 in
theorem mkX4_worst : zMk μX4_worst 3 := ⟨zWd_in 484 rfl rfl, zWd_in 72 (by decide +kernel) rfl, ⟨by decide +kernel, by decide +kernel, by decide +kernel⟩, by decide⟩
abbrev μX0_worstOf : zU := (yX0_worstOf, cX0_worstOf, 3, some .int)
set_option maxRecDepth 20000 in
theorem mkX0_worstOf : zMk μX0_worstOf 2 := ⟨zWd_in 488 rfl rfl, zWd_in 75 (by decide +kernel) rfl, ⟨by decide +kernel, by decide +kernel, by decide +kernel⟩, by decide⟩
abbrev μX4_meets : zU := (yX4_meets, cX4_meets, 1, some .int)
set_option maxRecDepth 20000 in
theorem mkX4_meets : zMk μX4_meets 0 := ⟨zWd_in 492 rfl rfl, zWd_in 72 (by decide +kernel) rfl, ⟨by decide +kernel, by decide +kernel, by decide +kernel⟩, by decide⟩
abbrev μX0_meetingBits : zU := (yX0_meetingBits, cX0_meetingBits, 4, some .int)
set_option maxRecDepth 20000 in
theorem mkX0_meetingBits : zMk μX0_meetingBits 0 := ⟨zWd_in 496 rfl rfl, zWd_in 75 (by decide +kernel) rfl, ⟨by decide +kernel, by decide +kernel, by decide +kernel⟩, by decide⟩
abbrev μX2_dueBits : zU := (yX2_dueBits, cX2_dueBits, 3, some .int)
set_option maxRecDepth 20000 in
theorem mkX2_dueBits : zMk μX2_dueBits 0 := ⟨zWd_in 500 rfl rfl, zWd_in 73 (by decide +kernel) rfl, ⟨by decide +kernel, by decide +kernel, by decide +kernel⟩, by decide⟩
abbrev μX2_lastOf : zU := (yX2_lastOf, cX2_lastOf, 2, some .int)
set_option maxRecDepth 20000 in
theorem mkX2_lastOf : zMk μX2_lastOf 1 := ⟨zWd_in 504 rfl rfl, zWd_in 73 (by decide +kernel) rfl, ⟨by decide +kernel, by decide +kernel, by decide +kernel⟩, by decide⟩
abbrev μX4_margin : zU := (yX4_margin, cX4_margin, 8, some .int)
set_option maxRecDepth 20000 in
theorem mkX4_margin : zMk μX4_margin 2 := ⟨zWd_in 508 rfl rfl, zWd_in 72 (by decide +kernel) rfl, ⟨by decide +kernel, by decide +kernel, by decide +kernel⟩, by decide⟩
abbrev μX4_better : zU := (yX4_better, cX4_better, 11, some .int)
set_option maxRecDepth 20000 in
theorem mkX4_better : zMk μX4_better 3 := ⟨zWd_in 513 rfl rfl, zWd_in 72 (by decide +kernel) rfl, ⟨by decide +kernel, by decide +kernel, by decide +kernel⟩, by decide⟩
abbrev μX4_run : zU := (yX4_run, cX4_run, 2, some .int)
set_option maxRecDepth 20000 in
theorem mkX4_run : zMk μX4_run 1 := ⟨zWd_in 518 rfl rfl, zWd_in 72 (by decide +kernel) rfl, ⟨by decide +kernel, by decide +kernel, by decide +kernel⟩, by decide⟩
abbrev μX1_go : zU := (yX1_go, cX1_go, 6, none)
set_option maxRecDepth 20000 in
theorem mkX1_go : zMk μX1_go 2 := ⟨zWd_in 522 rfl rfl, zWd_in 76 (by decide +kernel) rfl, ⟨by decide +kernel, by decide +kernel, by decide +kernel⟩, by decide⟩
abbrev μX1_firstReady : zU := (yX1_firstReady, cX1_firstReady, 4, some .int)
set_option maxRecDepth 20000 in
theorem mkX1_firstReady : zMk μX1_firstReady 3 := ⟨zWd_in 525 rfl rfl, zWd_in 76 (by decide +kernel) rfl, ⟨by decide +kernel, by decide +kernel, by decide +kernel⟩, by decide⟩
abbrev μX1_released : zU := (yX1_released, cX1_released, 3, some .int)
set_option maxRecDepth 20000 in
theorem mkX1_released : zMk μX1_released 3 := ⟨zWd_in 529 rfl rfl, zWd_in 76 (by decide +kernel) rfl, ⟨by decide +kernel, by decide +kernel, by decide +kernel⟩, by decide⟩
abbrev μX1_mostUrgent : zU := (yX1_mostUrgent, cX1_mostUrgent, 6, some .int)
set_option maxRecDepth 20000 in
theorem mkX1_mostUrgent : zMk μX1_mostUrgent 3 := ⟨zWd_in 533 rfl rfl, zWd_in 76 (by decide +kernel) rfl, ⟨by decide +kernel, by decide +kernel, by decide +kernel⟩, by decide⟩
abbrev μX1_isReady : zU := (yX1_isReady, cX1_isReady, 5, some .boolean)
set_option maxRecDepth 20000 in
theorem mkX1_isReady : zMk μX1_isReady 3 := ⟨zWd_in 538 rfl rfl, zWd_in 76 (by decide +kernel) rfl, ⟨by decide +kernel, by decide +kernel, by decide +kernel⟩, by decide⟩
abbrev μX1_doTick : zU := (yX1_doTick, cX1_doTick, 7, none)
set_option maxRecDepth 20000 in
theorem mkX1_doTick : zMk μX1_doTick 3 := ⟨zWd_in 542 rfl rfl, zWd_in 76 (by decide +kernel) rfl, ⟨by decide +kernel, by decide +kernel, by decide +kernel⟩, by decide⟩
abbrev μJ9_min_7cf53 : zU := (yJ9_min_7cf53, cJ9_min_7cf53, 2, some .int)
set_option maxRecDepth 20000 in
theorem mkJ9_min_7cf53 : zMk μJ9_min_7cf53 2 := ⟨zWd_in 545 rfl rfl, zWd_in 79 (by decide +kernel) rfl, ⟨by decide +kernel, by decide +kernel, by decide +kernel⟩, by decide⟩
abbrev μX4_seen : zU := (yX4_seen, cX4_seen, 5, some .int)
set_option maxRecDepth 20000 in
theorem mkX4_seen : zMk μX4_seen 3 := ⟨zWd_in 549 rfl rfl, zWd_in 72 (by decide +kernel) rfl, ⟨by decide +kernel, by decide +kernel, by decide +kernel⟩, by decide⟩
abbrev μX1_seenOf : zU := (yX1_seenOf, cX1_seenOf, 3, some .int)
set_option maxRecDepth 20000 in
theorem mkX1_seenOf : zMk μX1_seenOf 2 := ⟨zWd_in 553 rfl rfl, zWd_in 76 (by decide +kernel) rfl, ⟨by decide +kernel, by decide +kernel, by decide +kernel⟩, by decide⟩
abbrev μX4_tick : zU := (yX4_tick, cX4_tick, 3, some .int)
set_option maxRecDepth 20000 in
theorem mkX4_tick : zMk μX4_tick 2 := ⟨zWd_in 557 rfl rfl, zWd_in 72 (by decide +kernel) rfl, ⟨by decide +kernel, by decide +kernel, by decide +kernel⟩, by decide⟩
abbrev μX4_sheet : zU := (yX4_sheet, cX4_sheet, 4, some .int)
set_option maxRecDepth 20000 in
theorem mkX4_sheet : zMk μX4_sheet 3 := ⟨zWd_in 561 rfl rfl, zWd_in 72 (by decide +kernel) rfl, ⟨by decide +kernel, by decide +kernel, by decide +kernel⟩, by decide⟩
abbrev μX4_isForm : zU := (yX4_isForm, cX4_isForm, 1, some .boolean)
set_option maxRecDepth 20000 in
theorem mkX4_isForm : zMk μX4_isForm 1 := ⟨zWd_in 564 rfl rfl, zWd_in 72 (by decide +kernel) rfl, ⟨by decide +kernel, by decide +kernel, by decide +kernel⟩, by decide⟩
abbrev μX3_begin : zU := (yX3_begin, cX3_begin, 3, none)
set_option maxRecDepth 20000 in
theorem mkX3_begin : zMk μX3_begin 2 := ⟨zWd_in 568 rfl rfl, zWd_in 77 (by decide +kernel) rfl, ⟨by decide +kernel, by decide +kernel, by decide +kernel⟩, by decide⟩
abbrev μJ7_fill_d0a16 : zU := (yJ7_fill_d0a16, cJ7_fill_d0a16, 5, none)
set_option maxRecDepth 20000 in
theorem mkJ7_fill_d0a16 : zMk μJ7_fill_d0a16 2 := ⟨zWd_in 571 rfl rfl, zWd_in 74 (by decide +kernel) rfl, ⟨by decide +kernel, by decide +kernel, by decide +kernel⟩, by decide⟩
abbrev μX4_lose : zU := (yX4_lose, cX4_lose, 2, some .int)
set_option maxRecDepth 20000 in
theorem mkX4_lose : zMk μX4_lose 1 := ⟨zWd_in 575 rfl rfl, zWd_in 72 (by decide +kernel) rfl, ⟨by decide +kernel, by decide +kernel, by decide +kernel⟩, by decide⟩
abbrev μX4_lay : zU := (yX4_lay, cX4_lay, 6, some .int)
set_option maxRecDepth 20000 in
theorem mkX4_lay : zMk μX4_lay 4 := ⟨zWd_in 579 rfl rfl, zWd_in 72 (by decide +kernel) rfl, ⟨by decide +kernel, by decide +kernel, by decide +kernel⟩, by decide⟩
abbrev μX3_troubleAt : zU := (yX3_troubleAt, cX3_troubleAt, 3, some .int)
set_option maxRecDepth 20000 in
theorem mkX3_troubleAt : zMk μX3_troubleAt 2 := ⟨zWd_in 583 rfl rfl, zWd_in 77 (by decide +kernel) rfl, ⟨by decide +kernel, by decide +kernel, by decide +kernel⟩, by decide⟩
abbrev μX3_put : zU := (yX3_put, cX3_put, 4, none)
set_option maxRecDepth 20000 in
theorem mkX3_put : zMk μX3_put 2 := ⟨zWd_in 589 rfl rfl, zWd_in 77 (by decide +kernel) rfl, ⟨by decide +kernel, by decide +kernel, by decide +kernel⟩, by decide⟩
abbrev μX4_get : zU := (yX4_get, cX4_get, 5, some .long)
set_option maxRecDepth 20000 in
theorem mkX4_get : zMk μX4_get 3 := ⟨zWd_in 593 rfl rfl, zWd_in 72 (by decide +kernel) rfl, ⟨by decide +kernel, by decide +kernel, by decide +kernel⟩, by decide⟩
abbrev μX4_copy : zU := (yX4_copy, cX4_copy, 8, some .int)
set_option maxRecDepth 20000 in
theorem mkX4_copy : zMk μX4_copy 5 := ⟨zWd_in 599 rfl rfl, zWd_in 72 (by decide +kernel) rfl, ⟨by decide +kernel, by decide +kernel, by decide +kernel⟩, by decide⟩
abbrev μX3_hasRange : zU := (yX3_hasRange, cX3_hasRange, 3, some .boolean)
set_option maxRecDepth 20000 in
theorem mkX3_hasRange : zMk μX3_hasRange 2 := ⟨zWd_in 603 rfl rfl, zWd_in 77 (by decide +kernel) rfl, ⟨by decide +kernel, by decide +kernel, by decide +kernel⟩, by decide⟩
abbrev μX4_write : zU := (yX4_write, cX4_write, 5, some .int)
set_option maxRecDepth 20000 in
theorem mkX4_write : zMk μX4_write 1 := ⟨zWd_in 610 rfl rfl, zWd_in 72 (by decide +kernel) rfl, ⟨by decide +kernel, by decide +kernel, by decide +kernel⟩, by decide⟩
abbrev μX4_count : zU := (yX4_count, cX4_count, 2, some .int)
set_option maxRecDepth 20000 in
theorem mkX4_count : zMk μX4_count 1 := ⟨zWd_in 615 rfl rfl, zWd_in 72 (by decide +kernel) rfl, ⟨by decide +kernel, by decide +kernel, by decide +kernel⟩, by decide⟩
abbrev μX4_countOf : zU := (yX4_countOf, cX4_countOf, 2, some .int)
set_option maxRecDepth 20000 in
theorem mkX4_countOf : zMk μX4_countOf 1 := ⟨zWd_in 619 rfl rfl, zWd_in 72 (by decide +kernel) rfl, ⟨by decide +kernel, by decide +kernel, by decide +kernel⟩, by decide⟩
abbrev μX2_stepsInAll : zU := (yX2_stepsInAll, cX2_stepsInAll, 1, some .int)
set_option maxRecDepth 20000 in
theorem mkX2_stepsInAll : zMk μX2_stepsInAll 0 := ⟨zWd_in 623 rfl rfl, zWd_in 73 (by decide +kernel) rfl, ⟨by decide +kernel, by decide +kernel, by decide +kernel⟩, by decide⟩
abbrev μJ6_bitCount_0f7a4 : zU := (yJ6_bitCount_0f7a4, cJ6_bitCount_0f7a4, 1, some .int)
set_option maxRecDepth 20000 in
theorem mkJ6_bitCount_0f7a4 : zMk μJ6_bitCount_0f7a4 1 := ⟨zWd_in 626 rfl rfl, zWd_in 81 (by decide +kernel) rfl, ⟨by decide +kernel, by decide +kernel, by decide +kernel⟩, by decide⟩
abbrev μX2_overloadedSteps : zU := (yX2_overloadedSteps, cX2_overloadedSteps, 3, some .int)
set_option maxRecDepth 20000 in
theorem mkX2_overloadedSteps : zMk μX2_overloadedSteps 0 := ⟨zWd_in 633 rfl rfl, zWd_in 73 (by decide +kernel) rfl, ⟨by decide +kernel, by decide +kernel, by decide +kernel⟩, by decide⟩
abbrev μX4_digest : zU := (yX4_digest, cX4_digest, 5, some .long)
set_option maxRecDepth 20000 in
theorem mkX4_digest : zMk μX4_digest 0 := ⟨zWd_in 638 rfl rfl, zWd_in 72 (by decide +kernel) rfl, ⟨by decide +kernel, by decide +kernel, by decide +kernel⟩, by decide⟩
abbrev μX4_withStep : zU := (yX4_withStep, cX4_withStep, 7, some .long)
set_option maxRecDepth 20000 in
theorem mkX4_withStep : zMk μX4_withStep 2 := ⟨zWd_in 644 rfl rfl, zWd_in 72 (by decide +kernel) rfl, ⟨by decide +kernel, by decide +kernel, by decide +kernel⟩, by decide⟩
abbrev μX5_init : zU := (yX5_init, cX5_init, 2, none)
set_option maxRecDepth 20000 in
theorem mkX5_init : zMk μX5_init 0 := ⟨zWd_in 649 rfl rfl, zWd_in 78 (by decide +kernel) rfl, ⟨by decide +kernel, by decide +kernel, by decide +kernel⟩, by decide⟩
abbrev μX5_sheet : zU := (yX5_sheet, cX5_sheet, 5, some .int)
set_option maxRecDepth 20000 in
theorem mkX5_sheet : zMk μX5_sheet 3 := ⟨zWd_in 763 rfl rfl, zWd_in 78 (by decide +kernel) rfl, ⟨by decide +kernel, by decide +kernel, by decide +kernel⟩, by decide⟩
abbrev μX5_isSheet : zU := (yX5_isSheet, cX5_isSheet, 1, some .boolean)
set_option maxRecDepth 20000 in
theorem mkX5_isSheet : zMk μX5_isSheet 1 := ⟨zWd_in 766 rfl rfl, zWd_in 78 (by decide +kernel) rfl, ⟨by decide +kernel, by decide +kernel, by decide +kernel⟩, by decide⟩
abbrev μX5_in : zU := (yX5_in, cX5_in, 6, some .boolean)
set_option maxRecDepth 20000 in
theorem mkX5_in : zMk μX5_in 3 := ⟨zWd_in 770 rfl rfl, zWd_in 78 (by decide +kernel) rfl, ⟨by decide +kernel, by decide +kernel, by decide +kernel⟩, by decide⟩
abbrev μX5_finds : zU := (yX5_finds, cX5_finds, 2, some .int)
set_option maxRecDepth 20000 in
theorem mkX5_finds : zMk μX5_finds 1 := ⟨zWd_in 775 rfl rfl, zWd_in 78 (by decide +kernel) rfl, ⟨by decide +kernel, by decide +kernel, by decide +kernel⟩, by decide⟩
abbrev μX5_lose : zU := (yX5_lose, cX5_lose, 2, some .int)
set_option maxRecDepth 20000 in
theorem mkX5_lose : zMk μX5_lose 1 := ⟨zWd_in 779 rfl rfl, zWd_in 78 (by decide +kernel) rfl, ⟨by decide +kernel, by decide +kernel, by decide +kernel⟩, by decide⟩
abbrev μX5_lay : zU := (yX5_lay, cX5_lay, 6, some .int)
set_option maxRecDepth 20000 in
theorem mkX5_lay : zMk μX5_lay 4 := ⟨zWd_in 783 rfl rfl, zWd_in 78 (by decide +kernel) rfl, ⟨by decide +kernel, by decide +kernel, by decide +kernel⟩, by decide⟩
abbrev μX5_lacks : zU := (yX5_lacks, cX5_lacks, 4, some .int)
set_option maxRecDepth 20000 in
theorem mkX5_lacks : zMk μX5_lacks 3 := ⟨zWd_in 787 rfl rfl, zWd_in 78 (by decide +kernel) rfl, ⟨by decide +kernel, by decide +kernel, by decide +kernel⟩, by decide⟩
abbrev μX5_get : zU := (yX5_get, cX5_get, 5, some .long)
set_option maxRecDepth 20000 in
theorem mkX5_get : zMk μX5_get 3 := ⟨zWd_in 792 rfl rfl, zWd_in 78 (by decide +kernel) rfl, ⟨by decide +kernel, by decide +kernel, by decide +kernel⟩, by decide⟩
abbrev μX5_no : zU := (yX5_no, cX5_no, 1, some .long)
set_option maxRecDepth 20000 in
theorem mkX5_no : zMk μX5_no 1 := ⟨zWd_in 795 rfl rfl, zWd_in 78 (by decide +kernel) rfl, ⟨by decide +kernel, by decide +kernel, by decide +kernel⟩, by decide⟩
abbrev μX5_copy : zU := (yX5_copy, cX5_copy, 7, some .int)
set_option maxRecDepth 20000 in
theorem mkX5_copy : zMk μX5_copy 5 := ⟨zWd_in 800 rfl rfl, zWd_in 78 (by decide +kernel) rfl, ⟨by decide +kernel, by decide +kernel, by decide +kernel⟩, by decide⟩
abbrev μX5_chain : zU := (yX5_chain, cX5_chain, 5, some .int)
set_option maxRecDepth 20000 in
theorem mkX5_chain : zMk μX5_chain 3 := ⟨zWd_in 804 rfl rfl, zWd_in 78 (by decide +kernel) rfl, ⟨by decide +kernel, by decide +kernel, by decide +kernel⟩, by decide⟩
abbrev μX5_isChain : zU := (yX5_isChain, cX5_isChain, 1, some .boolean)
set_option maxRecDepth 20000 in
theorem mkX5_isChain : zMk μX5_isChain 1 := ⟨zWd_in 807 rfl rfl, zWd_in 78 (by decide +kernel) rfl, ⟨by decide +kernel, by decide +kernel, by decide +kernel⟩, by decide⟩
abbrev μX5_mayChain : zU := (yX5_mayChain, cX5_mayChain, 2, some .boolean)
set_option maxRecDepth 20000 in
theorem mkX5_mayChain : zMk μX5_mayChain 2 := ⟨zWd_in 810 rfl rfl, zWd_in 78 (by decide +kernel) rfl, ⟨by decide +kernel, by decide +kernel, by decide +kernel⟩, by decide⟩
abbrev μX5_hasBy : zU := (yX5_hasBy, cX5_hasBy, 3, some .int)
set_option maxRecDepth 20000 in
theorem mkX5_hasBy : zMk μX5_hasBy 2 := ⟨zWd_in 820 rfl rfl, zWd_in 78 (by decide +kernel) rfl, ⟨by decide +kernel, by decide +kernel, by decide +kernel⟩, by decide⟩
abbrev μX5_step : zU := (yX5_step, cX5_step, 7, some .int)
set_option maxRecDepth 20000 in
theorem mkX5_step : zMk μX5_step 5 := ⟨zWd_in 824 rfl rfl, zWd_in 78 (by decide +kernel) rfl, ⟨by decide +kernel, by decide +kernel, by decide +kernel⟩, by decide⟩
abbrev μX5_mayStep : zU := (yX5_mayStep, cX5_mayStep, 3, some .boolean)
set_option maxRecDepth 20000 in
theorem mkX5_mayStep : zMk μX5_mayStep 2 := ⟨zWd_in 827 rfl rfl, zWd_in 78 (by decide +kernel) rfl, ⟨by decide +kernel, by decide +kernel, by decide +kernel⟩, by decide⟩
abbrev μX5_tells : zU := (yX5_tells, cX5_tells, 4, none)
set_option maxRecDepth 20000 in
theorem mkX5_tells : zMk μX5_tells 3 := ⟨zWd_in 832 rfl rfl, zWd_in 78 (by decide +kernel) rfl, ⟨by decide +kernel, by decide +kernel, by decide +kernel⟩, by decide⟩
abbrev μX5_back : zU := (yX5_back, cX5_back, 2, some .int)
set_option maxRecDepth 20000 in
theorem mkX5_back : zMk μX5_back 1 := ⟨zWd_in 836 rfl rfl, zWd_in 78 (by decide +kernel) rfl, ⟨by decide +kernel, by decide +kernel, by decide +kernel⟩, by decide⟩
abbrev μX5_tune : zU := (yX5_tune, cX5_tune, 6, some .int)
set_option maxRecDepth 20000 in
theorem mkX5_tune : zMk μX5_tune 4 := ⟨zWd_in 840 rfl rfl, zWd_in 78 (by decide +kernel) rfl, ⟨by decide +kernel, by decide +kernel, by decide +kernel⟩, by decide⟩
abbrev μX5_isStep : zU := (yX5_isStep, cX5_isStep, 3, some .boolean)
set_option maxRecDepth 20000 in
theorem mkX5_isStep : zMk μX5_isStep 2 := ⟨zWd_in 844 rfl rfl, zWd_in 78 (by decide +kernel) rfl, ⟨by decide +kernel, by decide +kernel, by decide +kernel⟩, by decide⟩
abbrev μX5_toldBy : zU := (yX5_toldBy, cX5_toldBy, 3, some .int)
set_option maxRecDepth 20000 in
theorem mkX5_toldBy : zMk μX5_toldBy 2 := ⟨zWd_in 848 rfl rfl, zWd_in 78 (by decide +kernel) rfl, ⟨by decide +kernel, by decide +kernel, by decide +kernel⟩, by decide⟩
abbrev μX5_read : zU := (yX5_read, cX5_read, 7, some .int)
set_option maxRecDepth 20000 in
theorem mkX5_read : zMk μX5_read 2 := ⟨zWd_in 852 rfl rfl, zWd_in 78 (by decide +kernel) rfl, ⟨by decide +kernel, by decide +kernel, by decide +kernel⟩, by decide⟩
abbrev μX5_has : zU := (yX5_has, cX5_has, 3, some .int)
set_option maxRecDepth 20000 in
theorem mkX5_has : zMk μX5_has 2 := ⟨zWd_in 856 rfl rfl, zWd_in 78 (by decide +kernel) rfl, ⟨by decide +kernel, by decide +kernel, by decide +kernel⟩, by decide⟩
abbrev μX5_load : zU := (yX5_load, cX5_load, 4, some .int)
set_option maxRecDepth 20000 in
theorem mkX5_load : zMk μX5_load 3 := ⟨zWd_in 860 rfl rfl, zWd_in 78 (by decide +kernel) rfl, ⟨by decide +kernel, by decide +kernel, by decide +kernel⟩, by decide⟩
abbrev μX5_isTwo : zU := (yX5_isTwo, cX5_isTwo, 1, some .boolean)
set_option maxRecDepth 20000 in
theorem mkX5_isTwo : zMk μX5_isTwo 1 := ⟨zWd_in 863 rfl rfl, zWd_in 78 (by decide +kernel) rfl, ⟨by decide +kernel, by decide +kernel, by decide +kernel⟩, by decide⟩
abbrev μX5_loadBy : zU := (yX5_loadBy, cX5_loadBy, 3, some .int)
set_option maxRecDepth 20000 in
theorem mkX5_loadBy : zMk μX5_loadBy 2 := ⟨zWd_in 867 rfl rfl, zWd_in 78 (by decide +kernel) rfl, ⟨by decide +kernel, by decide +kernel, by decide +kernel⟩, by decide⟩
abbrev μX5_loads : zU := (yX5_loads, cX5_loads, 9, none)
set_option maxRecDepth 20000 in
theorem mkX5_loads : zMk μX5_loads 1 := ⟨zWd_in 871 rfl rfl, zWd_in 78 (by decide +kernel) rfl, ⟨by decide +kernel, by decide +kernel, by decide +kernel⟩, by decide⟩
abbrev μX5_isRival : zU := (yX5_isRival, cX5_isRival, 3, some .boolean)
set_option maxRecDepth 20000 in
theorem mkX5_isRival : zMk μX5_isRival 2 := ⟨zWd_in 875 rfl rfl, zWd_in 78 (by decide +kernel) rfl, ⟨by decide +kernel, by decide +kernel, by decide +kernel⟩, by decide⟩
abbrev μX5_isThere : zU := (yX5_isThere, cX5_isThere, 2, some .boolean)
set_option maxRecDepth 20000 in
theorem mkX5_isThere : zMk μX5_isThere 1 := ⟨zWd_in 879 rfl rfl, zWd_in 78 (by decide +kernel) rfl, ⟨by decide +kernel, by decide +kernel, by decide +kernel⟩, by decide⟩
abbrev μX5_info : zU := (yX5_info, cX5_info, 4, some .int)
set_option maxRecDepth 20000 in
theorem mkX5_info : zMk μX5_info 3 := ⟨zWd_in 883 rfl rfl, zWd_in 78 (by decide +kernel) rfl, ⟨by decide +kernel, by decide +kernel, by decide +kernel⟩, by decide⟩
abbrev μX5_settles : zU := (yX5_settles, cX5_settles, 6, none)
set_option maxRecDepth 20000 in
theorem mkX5_settles : zMk μX5_settles 0 := ⟨zWd_in 888 rfl rfl, zWd_in 78 (by decide +kernel) rfl, ⟨by decide +kernel, by decide +kernel, by decide +kernel⟩, by decide⟩
abbrev μX5_picksAll : zU := (yX5_picksAll, cX5_picksAll, 2, none)
set_option maxRecDepth 20000 in
theorem mkX5_picksAll : zMk μX5_picksAll 0 := ⟨zWd_in 892 rfl rfl, zWd_in 78 (by decide +kernel) rfl, ⟨by decide +kernel, by decide +kernel, by decide +kernel⟩, by decide⟩
abbrev μX5_boundsAll : zU := (yX5_boundsAll, cX5_boundsAll, 2, some .boolean)
set_option maxRecDepth 20000 in
theorem mkX5_boundsAll : zMk μX5_boundsAll 0 := ⟨zWd_in 896 rfl rfl, zWd_in 78 (by decide +kernel) rfl, ⟨by decide +kernel, by decide +kernel, by decide +kernel⟩, by decide⟩
abbrev μX5_isOver : zU := (yX5_isOver, cX5_isOver, 2, some .boolean)
set_option maxRecDepth 20000 in
theorem mkX5_isOver : zMk μX5_isOver 1 := ⟨zWd_in 900 rfl rfl, zWd_in 78 (by decide +kernel) rfl, ⟨by decide +kernel, by decide +kernel, by decide +kernel⟩, by decide⟩
abbrev μX5_answers : zU := (yX5_answers, cX5_answers, 5, some .boolean)
set_option maxRecDepth 20000 in
theorem mkX5_answers : zMk μX5_answers 1 := ⟨zWd_in 904 rfl rfl, zWd_in 78 (by decide +kernel) rfl, ⟨by decide +kernel, by decide +kernel, by decide +kernel⟩, by decide⟩
abbrev μX5_holds : zU := (yX5_holds, cX5_holds, 7, some .int)
set_option maxRecDepth 20000 in
theorem mkX5_holds : zMk μX5_holds 3 := ⟨zWd_in 908 rfl rfl, zWd_in 78 (by decide +kernel) rfl, ⟨by decide +kernel, by decide +kernel, by decide +kernel⟩, by decide⟩
abbrev μX5_comes : zU := (yX5_comes, cX5_comes, 6, some .int)
set_option maxRecDepth 20000 in
theorem mkX5_comes : zMk μX5_comes 3 := ⟨zWd_in 912 rfl rfl, zWd_in 78 (by decide +kernel) rfl, ⟨by decide +kernel, by decide +kernel, by decide +kernel⟩, by decide⟩
abbrev μX5_phi : zU := (yX5_phi, cX5_phi, 5, some .int)
set_option maxRecDepth 20000 in
theorem mkX5_phi : zMk μX5_phi 2 := ⟨zWd_in 916 rfl rfl, zWd_in 78 (by decide +kernel) rfl, ⟨by decide +kernel, by decide +kernel, by decide +kernel⟩, by decide⟩
abbrev μX5_earliest : zU := (yX5_earliest, cX5_earliest, 4, some .int)
set_option maxRecDepth 20000 in
theorem mkX5_earliest : zMk μX5_earliest 1 := ⟨zWd_in 920 rfl rfl, zWd_in 78 (by decide +kernel) rfl, ⟨by decide +kernel, by decide +kernel, by decide +kernel⟩, by decide⟩
abbrev μX5_up : zU := (yX5_up, cX5_up, 2, some .int)
set_option maxRecDepth 20000 in
theorem mkX5_up : zMk μX5_up 2 := ⟨zWd_in 923 rfl rfl, zWd_in 78 (by decide +kernel) rfl, ⟨by decide +kernel, by decide +kernel, by decide +kernel⟩, by decide⟩
abbrev μX5_work : zU := (yX5_work, cX5_work, 6, some .int)
set_option maxRecDepth 20000 in
theorem mkX5_work : zMk μX5_work 3 := ⟨zWd_in 927 rfl rfl, zWd_in 78 (by decide +kernel) rfl, ⟨by decide +kernel, by decide +kernel, by decide +kernel⟩, by decide⟩
abbrev μX5_others : zU := (yX5_others, cX5_others, 7, some .int)
set_option maxRecDepth 20000 in
theorem mkX5_others : zMk μX5_others 2 := ⟨zWd_in 931 rfl rfl, zWd_in 78 (by decide +kernel) rfl, ⟨by decide +kernel, by decide +kernel, by decide +kernel⟩, by decide⟩
abbrev μX5_greater : zU := (yX5_greater, cX5_greater, 2, some .int)
set_option maxRecDepth 20000 in
theorem mkX5_greater : zMk μX5_greater 2 := ⟨zWd_in 934 rfl rfl, zWd_in 78 (by decide +kernel) rfl, ⟨by decide +kernel, by decide +kernel, by decide +kernel⟩, by decide⟩
abbrev μX5_answersBy : zU := (yX5_answersBy, cX5_answersBy, 11, some .boolean)
set_option maxRecDepth 20000 in
theorem mkX5_answersBy : zMk μX5_answersBy 3 := ⟨zWd_in 938 rfl rfl, zWd_in 78 (by decide +kernel) rfl, ⟨by decide +kernel, by decide +kernel, by decide +kernel⟩, by decide⟩
abbrev μX5_infoBy : zU := (yX5_infoBy, cX5_infoBy, 3, some .int)
set_option maxRecDepth 20000 in
theorem mkX5_infoBy : zMk μX5_infoBy 2 := ⟨zWd_in 942 rfl rfl, zWd_in 78 (by decide +kernel) rfl, ⟨by decide +kernel, by decide +kernel, by decide +kernel⟩, by decide⟩
abbrev μX5_rivals : zU := (yX5_rivals, cX5_rivals, 4, some .int)
set_option maxRecDepth 20000 in
theorem mkX5_rivals : zMk μX5_rivals 1 := ⟨zWd_in 946 rfl rfl, zWd_in 78 (by decide +kernel) rfl, ⟨by decide +kernel, by decide +kernel, by decide +kernel⟩, by decide⟩
abbrev μX5_bound : zU := (yX5_bound, cX5_bound, 3, some .int)
set_option maxRecDepth 20000 in
theorem mkX5_bound : zMk μX5_bound 2 := ⟨zWd_in 950 rfl rfl, zWd_in 78 (by decide +kernel) rfl, ⟨by decide +kernel, by decide +kernel, by decide +kernel⟩, by decide⟩
abbrev μX5_boundBy : zU := (yX5_boundBy, cX5_boundBy, 2, some .int)
set_option maxRecDepth 20000 in
theorem mkX5_boundBy : zMk μX5_boundBy 1 := ⟨zWd_in 954 rfl rfl, zWd_in 78 (by decide +kernel) rfl, ⟨by decide +kernel, by decide +kernel, by decide +kernel⟩, by decide⟩
abbrev μX5_searched : zU := (yX5_searched, cX5_searched, 3, some .int)
set_option maxRecDepth 20000 in
theorem mkX5_searched : zMk μX5_searched 2 := ⟨zWd_in 958 rfl rfl, zWd_in 78 (by decide +kernel) rfl, ⟨by decide +kernel, by decide +kernel, by decide +kernel⟩, by decide⟩
abbrev μX5_searchedBy : zU := (yX5_searchedBy, cX5_searchedBy, 9, some .int)
set_option maxRecDepth 20000 in
theorem mkX5_searchedBy : zMk μX5_searchedBy 1 := ⟨zWd_in 962 rfl rfl, zWd_in 78 (by decide +kernel) rfl, ⟨by decide +kernel, by decide +kernel, by decide +kernel⟩, by decide⟩
abbrev μX5_momentOf : zU := (yX5_momentOf, cX5_momentOf, 6, some .int)
set_option maxRecDepth 20000 in
theorem mkX5_momentOf : zMk μX5_momentOf 3 := ⟨zWd_in 966 rfl rfl, zWd_in 78 (by decide +kernel) rfl, ⟨by decide +kernel, by decide +kernel, by decide +kernel⟩, by decide⟩
abbrev μX5_quick : zU := (yX5_quick, cX5_quick, 3, some .int)
set_option maxRecDepth 20000 in
theorem mkX5_quick : zMk μX5_quick 2 := ⟨zWd_in 970 rfl rfl, zWd_in 78 (by decide +kernel) rfl, ⟨by decide +kernel, by decide +kernel, by decide +kernel⟩, by decide⟩
abbrev μX5_quickBy : zU := (yX5_quickBy, cX5_quickBy, 7, some .int)
set_option maxRecDepth 20000 in
theorem mkX5_quickBy : zMk μX5_quickBy 1 := ⟨zWd_in 974 rfl rfl, zWd_in 78 (by decide +kernel) rfl, ⟨by decide +kernel, by decide +kernel, by decide +kernel⟩, by decide⟩
abbrev μX5_holdsQuick : zU := (yX5_holdsQuick, cX5_holdsQuick, 7, some .int)
set_option maxRecDepth 20000 in
theorem mkX5_holdsQuick : zMk μX5_holdsQuick 2 := ⟨zWd_in 978 rfl rfl, zWd_in 78 (by decide +kernel) rfl, ⟨by decide +kernel, by decide +kernel, by decide +kernel⟩, by decide⟩
abbrev μX5_comesQuick : zU := (yX5_comesQuick, cX5_comesQuick, 3, some .int)
set_option maxRecDepth 20000 in
theorem mkX5_comesQuick : zMk μX5_comesQuick 2 := ⟨zWd_in 982 rfl rfl, zWd_in 78 (by decide +kernel) rfl, ⟨by decide +kernel, by decide +kernel, by decide +kernel⟩, by decide⟩
abbrev μX5_rounds : zU := (yX5_rounds, cX5_rounds, 1, some .int)
set_option maxRecDepth 20000 in
theorem mkX5_rounds : zMk μX5_rounds 0 := ⟨zWd_in 986 rfl rfl, zWd_in 78 (by decide +kernel) rfl, ⟨by decide +kernel, by decide +kernel, by decide +kernel⟩, by decide⟩
abbrev μX5_roundsNow : zU := (yX5_roundsNow, cX5_roundsNow, 1, some .int)
set_option maxRecDepth 20000 in
theorem mkX5_roundsNow : zMk μX5_roundsNow 0 := ⟨zWd_in 990 rfl rfl, zWd_in 78 (by decide +kernel) rfl, ⟨by decide +kernel, by decide +kernel, by decide +kernel⟩, by decide⟩
abbrev μX5_worst : zU := (yX5_worst, cX5_worst, 4, some .int)
set_option maxRecDepth 20000 in
theorem mkX5_worst : zMk μX5_worst 3 := ⟨zWd_in 994 rfl rfl, zWd_in 78 (by decide +kernel) rfl, ⟨by decide +kernel, by decide +kernel, by decide +kernel⟩, by decide⟩
abbrev μX5_worstBy : zU := (yX5_worstBy, cX5_worstBy, 3, some .int)
set_option maxRecDepth 20000 in
theorem mkX5_worstBy : zMk μX5_worstBy 2 := ⟨zWd_in 998 rfl rfl, zWd_in 78 (by decide +kernel) rfl, ⟨by decide +kernel, by decide +kernel, by decide +kernel⟩, by decide⟩
abbrev μX5_meets : zU := (yX5_meets, cX5_meets, 1, some .int)
set_option maxRecDepth 20000 in
theorem mkX5_meets : zMk μX5_meets 0 := ⟨zWd_in 1002 rfl rfl, zWd_in 78 (by decide +kernel) rfl, ⟨by decide +kernel, by decide +kernel, by decide +kernel⟩, by decide⟩
abbrev μX5_meetsNow : zU := (yX5_meetsNow, cX5_meetsNow, 3, some .int)
set_option maxRecDepth 20000 in
theorem mkX5_meetsNow : zMk μX5_meetsNow 0 := ⟨zWd_in 1006 rfl rfl, zWd_in 78 (by decide +kernel) rfl, ⟨by decide +kernel, by decide +kernel, by decide +kernel⟩, by decide⟩
abbrev μX5_isMet : zU := (yX5_isMet, cX5_isMet, 2, some .boolean)
set_option maxRecDepth 20000 in
theorem mkX5_isMet : zMk μX5_isMet 1 := ⟨zWd_in 1010 rfl rfl, zWd_in 78 (by decide +kernel) rfl, ⟨by decide +kernel, by decide +kernel, by decide +kernel⟩, by decide⟩
abbrev μX5_isAsked : zU := (yX5_isAsked, cX5_isAsked, 2, some .boolean)
set_option maxRecDepth 20000 in
theorem mkX5_isAsked : zMk μX5_isAsked 1 := ⟨zWd_in 1014 rfl rfl, zWd_in 78 (by decide +kernel) rfl, ⟨by decide +kernel, by decide +kernel, by decide +kernel⟩, by decide⟩
abbrev μX5_margin : zU := (yX5_margin, cX5_margin, 3, some .int)
set_option maxRecDepth 20000 in
theorem mkX5_margin : zMk μX5_margin 2 := ⟨zWd_in 1018 rfl rfl, zWd_in 78 (by decide +kernel) rfl, ⟨by decide +kernel, by decide +kernel, by decide +kernel⟩, by decide⟩
abbrev μX5_marginBy : zU := (yX5_marginBy, cX5_marginBy, 5, some .int)
set_option maxRecDepth 20000 in
theorem mkX5_marginBy : zMk μX5_marginBy 1 := ⟨zWd_in 1022 rfl rfl, zWd_in 78 (by decide +kernel) rfl, ⟨by decide +kernel, by decide +kernel, by decide +kernel⟩, by decide⟩
abbrev μX5_allMeet : zU := (yX5_allMeet, cX5_allMeet, 3, some .boolean)
set_option maxRecDepth 20000 in
theorem mkX5_allMeet : zMk μX5_allMeet 0 := ⟨zWd_in 1026 rfl rfl, zWd_in 78 (by decide +kernel) rfl, ⟨by decide +kernel, by decide +kernel, by decide +kernel⟩, by decide⟩
abbrev μX5_better : zU := (yX5_better, cX5_better, 4, some .int)
set_option maxRecDepth 20000 in
theorem mkX5_better : zMk μX5_better 3 := ⟨zWd_in 1030 rfl rfl, zWd_in 78 (by decide +kernel) rfl, ⟨by decide +kernel, by decide +kernel, by decide +kernel⟩, by decide⟩
abbrev μX5_betterBy : zU := (yX5_betterBy, cX5_betterBy, 9, some .int)
set_option maxRecDepth 20000 in
theorem mkX5_betterBy : zMk μX5_betterBy 2 := ⟨zWd_in 1034 rfl rfl, zWd_in 78 (by decide +kernel) rfl, ⟨by decide +kernel, by decide +kernel, by decide +kernel⟩, by decide⟩
abbrev μX5_run : zU := (yX5_run, cX5_run, 5, some .int)
set_option maxRecDepth 20000 in
theorem mkX5_run : zMk μX5_run 1 := ⟨zWd_in 1038 rfl rfl, zWd_in 78 (by decide +kernel) rfl, ⟨by decide +kernel, by decide +kernel, by decide +kernel⟩, by decide⟩
abbrev μX5_begins : zU := (yX5_begins, cX5_begins, 6, none)
set_option maxRecDepth 20000 in
theorem mkX5_begins : zMk μX5_begins 0 := ⟨zWd_in 1043 rfl rfl, zWd_in 78 (by decide +kernel) rfl, ⟨by decide +kernel, by decide +kernel, by decide +kernel⟩, by decide⟩
abbrev μX5_releaseOf : zU := (yX5_releaseOf, cX5_releaseOf, 3, some .int)
set_option maxRecDepth 20000 in
theorem mkX5_releaseOf : zMk μX5_releaseOf 2 := ⟨zWd_in 1047 rfl rfl, zWd_in 78 (by decide +kernel) rfl, ⟨by decide +kernel, by decide +kernel, by decide +kernel⟩, by decide⟩
abbrev μX5_does : zU := (yX5_does, cX5_does, 8, some .int)
set_option maxRecDepth 20000 in
theorem mkX5_does : zMk μX5_does 2 := ⟨zWd_in 1051 rfl rfl, zWd_in 78 (by decide +kernel) rfl, ⟨by decide +kernel, by decide +kernel, by decide +kernel⟩, by decide⟩
abbrev μX5_ends : zU := (yX5_ends, cX5_ends, 6, none)
set_option maxRecDepth 20000 in
theorem mkX5_ends : zMk μX5_ends 2 := ⟨zWd_in 1055 rfl rfl, zWd_in 78 (by decide +kernel) rfl, ⟨by decide +kernel, by decide +kernel, by decide +kernel⟩, by decide⟩
abbrev μX5_lesser : zU := (yX5_lesser, cX5_lesser, 2, some .int)
set_option maxRecDepth 20000 in
theorem mkX5_lesser : zMk μX5_lesser 2 := ⟨zWd_in 1058 rfl rfl, zWd_in 78 (by decide +kernel) rfl, ⟨by decide +kernel, by decide +kernel, by decide +kernel⟩, by decide⟩
abbrev μX5_endedNow : zU := (yX5_endedNow, cX5_endedNow, 3, some .int)
set_option maxRecDepth 20000 in
theorem mkX5_endedNow : zMk μX5_endedNow 0 := ⟨zWd_in 1062 rfl rfl, zWd_in 78 (by decide +kernel) rfl, ⟨by decide +kernel, by decide +kernel, by decide +kernel⟩, by decide⟩
abbrev μX5_seen : zU := (yX5_seen, cX5_seen, 4, some .int)
set_option maxRecDepth 20000 in
theorem mkX5_seen : zMk μX5_seen 3 := ⟨zWd_in 1066 rfl rfl, zWd_in 78 (by decide +kernel) rfl, ⟨by decide +kernel, by decide +kernel, by decide +kernel⟩, by decide⟩
abbrev μX5_seenBy : zU := (yX5_seenBy, cX5_seenBy, 3, some .int)
set_option maxRecDepth 20000 in
theorem mkX5_seenBy : zMk μX5_seenBy 2 := ⟨zWd_in 1070 rfl rfl, zWd_in 78 (by decide +kernel) rfl, ⟨by decide +kernel, by decide +kernel, by decide +kernel⟩, by decide⟩
abbrev μX5_tick : zU := (yX5_tick, cX5_tick, 3, some .int)
set_option maxRecDepth 20000 in
theorem mkX5_tick : zMk μX5_tick 2 := ⟨zWd_in 1074 rfl rfl, zWd_in 78 (by decide +kernel) rfl, ⟨by decide +kernel, by decide +kernel, by decide +kernel⟩, by decide⟩
abbrev μX5_tickBy : zU := (yX5_tickBy, cX5_tickBy, 3, some .int)
set_option maxRecDepth 20000 in
theorem mkX5_tickBy : zMk μX5_tickBy 2 := ⟨zWd_in 1079 rfl rfl, zWd_in 78 (by decide +kernel) rfl, ⟨by decide +kernel, by decide +kernel, by decide +kernel⟩, by decide⟩
abbrev μX5_write : zU := (yX5_write, cX5_write, 4, some .int)
set_option maxRecDepth 20000 in
theorem mkX5_write : zMk μX5_write 1 := ⟨zWd_in 1083 rfl rfl, zWd_in 78 (by decide +kernel) rfl, ⟨by decide +kernel, by decide +kernel, by decide +kernel⟩, by decide⟩
abbrev μX5_count : zU := (yX5_count, cX5_count, 2, some .int)
set_option maxRecDepth 20000 in
theorem mkX5_count : zMk μX5_count 1 := ⟨zWd_in 1087 rfl rfl, zWd_in 78 (by decide +kernel) rfl, ⟨by decide +kernel, by decide +kernel, by decide +kernel⟩, by decide⟩
abbrev μX5_countBy : zU := (yX5_countBy, cX5_countBy, 2, some .int)
set_option maxRecDepth 20000 in
theorem mkX5_countBy : zMk μX5_countBy 1 := ⟨zWd_in 1091 rfl rfl, zWd_in 78 (by decide +kernel) rfl, ⟨by decide +kernel, by decide +kernel, by decide +kernel⟩, by decide⟩
abbrev μX5_idle : zU := (yX5_idle, cX5_idle, 4, some .int)
set_option maxRecDepth 20000 in
theorem mkX5_idle : zMk μX5_idle 1 := ⟨zWd_in 1095 rfl rfl, zWd_in 78 (by decide +kernel) rfl, ⟨by decide +kernel, by decide +kernel, by decide +kernel⟩, by decide⟩
abbrev μX5_over : zU := (yX5_over, cX5_over, 3, some .int)
set_option maxRecDepth 20000 in
theorem mkX5_over : zMk μX5_over 0 := ⟨zWd_in 1099 rfl rfl, zWd_in 78 (by decide +kernel) rfl, ⟨by decide +kernel, by decide +kernel, by decide +kernel⟩, by decide⟩
abbrev μX5_digest : zU := (yX5_digest, cX5_digest, 5, some .long)
set_option maxRecDepth 20000 in
theorem mkX5_digest : zMk μX5_digest 0 := ⟨zWd_in 1103 rfl rfl, zWd_in 78 (by decide +kernel) rfl, ⟨by decide +kernel, by decide +kernel, by decide +kernel⟩, by decide⟩
abbrev μX5_stepTells : zU := (yX5_stepTells, cX5_stepTells, 7, some .long)
set_option maxRecDepth 20000 in
theorem mkX5_stepTells : zMk μX5_stepTells 2 := ⟨zWd_in 1109 rfl rfl, zWd_in 78 (by decide +kernel) rfl, ⟨by decide +kernel, by decide +kernel, by decide +kernel⟩, by decide⟩
theorem csL_9 : zSI RL 9 μX4_init := ⟨Or.inl (zWd_in 84 (by decide +kernel) rfl), zWd_in 85 (by decide +kernel) rfl, rfl, rfl⟩
theorem csX4_11 : zSI RX4 11 μX2_init := ⟨Or.inl (zWd_in 92 (by decide +kernel) rfl), zWd_in 93 (by decide +kernel) rfl, rfl, rfl⟩
theorem csX2_23 : zSS RX2 23 μJ7_fill_53178 := ⟨Or.inl (zWd_in 98 (by decide +kernel) rfl), zWd_in 99 (by decide +kernel) rfl⟩
theorem csX4_18 : zSI RX4 18 μX0_init := ⟨Or.inl (zWd_in 122 (by decide +kernel) rfl), zWd_in 123 (by decide +kernel) rfl, rfl, rfl⟩
theorem csX4_30 : zSI RX4 30 μX1_init := ⟨Or.inl (zWd_in 185 (by decide +kernel) rfl), zWd_in 186 (by decide +kernel) rfl, rfl, rfl⟩
theorem csX1_38 : zSV RX1 38 μX1_clear := ⟨zWd_in 190 (by decide +kernel) rfl, zWd_in 192 (by decide +kernel) rfl, zWd_in 0 (by decide +kernel) rfl⟩
theorem csX1_48 : zSS RX1 48 μJ7_fill_53178 := ⟨Or.inl (zWd_in 194 (by decide +kernel) rfl), zWd_in 99 (by decide +kernel) rfl⟩
theorem csX4_41 : zSI RX4 41 μX3_init := ⟨Or.inr ⟨"OffsetChains", zNs_in 233 (by decide +kernel) rfl⟩, zWd_in 234 (by decide +kernel) rfl, rfl, rfl⟩
theorem csL_13 : zSV RL 13 μX4_chain := ⟨zWd_in 274 (by decide +kernel) rfl, zWd_in 275 (by decide +kernel) rfl, zWd_in 276 (by decide +kernel) rfl⟩
theorem csX4_46 : zSS RX4 46 μX4_isChain := ⟨Or.inl (zWd_in 278 (by decide +kernel) rfl), zWd_in 279 (by decide +kernel) rfl⟩
theorem csX4_50 : zSS RX4 50 μX4_within := ⟨Or.inl (zWd_in 281 (by decide +kernel) rfl), zWd_in 282 (by decide +kernel) rfl⟩
theorem csL_18 : zSV RL 18 μX4_step := ⟨zWd_in 288 (by decide +kernel) rfl, zWd_in 289 (by decide +kernel) rfl, zWd_in 290 (by decide +kernel) rfl⟩
theorem csX4_69 : zSS RX4 69 μX4_isMark := ⟨Or.inl (zWd_in 292 (by decide +kernel) rfl), zWd_in 293 (by decide +kernel) rfl⟩
theorem csX4_76 : zSV RX4 76 μX2_append := ⟨zWd_in 299 (by decide +kernel) rfl, zWd_in 300 (by decide +kernel) rfl, zWd_in 301 (by decide +kernel) rfl⟩
theorem csL_23 : zSV RL 23 μX4_back := ⟨zWd_in 303 (by decide +kernel) rfl, zWd_in 304 (by decide +kernel) rfl, zWd_in 305 (by decide +kernel) rfl⟩
theorem csL_28 : zSV RL 28 μX4_tune := ⟨zWd_in 307 (by decide +kernel) rfl, zWd_in 308 (by decide +kernel) rfl, zWd_in 309 (by decide +kernel) rfl⟩
theorem csX4_80 : zSV RX4 80 μX2_numberOf := ⟨zWd_in 311 (by decide +kernel) rfl, zWd_in 312 (by decide +kernel) rfl, zWd_in 313 (by decide +kernel) rfl⟩
theorem csX2_29 : zSS RX2 29 μX4_isChain := ⟨Or.inr ⟨"OffsetChains", zNs_in 315 (by decide +kernel) rfl⟩, zWd_in 279 (by decide +kernel) rfl⟩
theorem csX2_33 : zSS RX2 33 μX4_within := ⟨Or.inr ⟨"OffsetChains", zNs_in 316 (by decide +kernel) rfl⟩, zWd_in 282 (by decide +kernel) rfl⟩
theorem csL_33 : zSV RL 33 μX4_read := ⟨zWd_in 317 (by decide +kernel) rfl, zWd_in 318 (by decide +kernel) rfl, zWd_in 319 (by decide +kernel) rfl⟩
theorem csX4_87 : zSS RX4 87 μX4_isSheet := ⟨Or.inl (zWd_in 321 (by decide +kernel) rfl), zWd_in 322 (by decide +kernel) rfl⟩
theorem csX4_93 : zSV RX4 93 μX4_found := ⟨zWd_in 324 (by decide +kernel) rfl, zWd_in 326 (by decide +kernel) rfl, zWd_in 1 (by decide +kernel) rfl⟩
theorem csX4_100 : zSS RX4 100 μX4_holdsStep := ⟨Or.inl (zWd_in 328 (by decide +kernel) rfl), zWd_in 329 (by decide +kernel) rfl⟩
theorem csL_38 : zSV RL 38 μX4_has := ⟨zWd_in 331 (by decide +kernel) rfl, zWd_in 332 (by decide +kernel) rfl, zWd_in 333 (by decide +kernel) rfl⟩
theorem csX4_108 : zSV RX4 108 μX4_traitOf := ⟨zWd_in 335 (by decide +kernel) rfl, zWd_in 337 (by decide +kernel) rfl, zWd_in 2 (by decide +kernel) rfl⟩
theorem csL_42 : zSV RL 42 μX4_info := ⟨zWd_in 339 (by decide +kernel) rfl, zWd_in 340 (by decide +kernel) rfl, zWd_in 341 (by decide +kernel) rfl⟩
theorem csX4_111 : zSV RX4 111 μX0_settle := ⟨zWd_in 343 (by decide +kernel) rfl, zWd_in 344 (by decide +kernel) rfl, zWd_in 345 (by decide +kernel) rfl⟩
theorem csX0_57 : zSV RX0 57 μX2_periodOf := ⟨zWd_in 347 (by decide +kernel) rfl, zWd_in 348 (by decide +kernel) rfl, zWd_in 349 (by decide +kernel) rfl⟩
set_option maxRecDepth 20000 in
theorem csX2_37 : Cond.methodLink RX2 37 Lib.Math.max.name ∈ zWd ∧ Cond.static Lib.Math.max.name ∈ zWd ∧ Cond.initialized "java/lang/Math" ∈ zWd ∧ Cond.code Lib.Math.max.name Lib.Math.max.code 2 (some .int) ∈ zWd := ⟨zWd_in 351 (by decide +kernel) rfl, zWd_in 352 (by decide +kernel) rfl, zWd_in 79 (by decide +kernel) rfl, zWd_in 353 rfl rfl⟩
theorem csX0_67 : zSV RX0 67 μX0_boundAll := ⟨zWd_in 354 (by decide +kernel) rfl, zWd_in 356 (by decide +kernel) rfl, zWd_in 3 (by decide +kernel) rfl⟩
theorem csX0_111 : zSV RX0 111 μX0_placeComings := ⟨zWd_in 358 (by decide +kernel) rfl, zWd_in 360 (by decide +kernel) rfl, zWd_in 4 (by decide +kernel) rfl⟩
theorem csX0_114 : zSV RX0 114 μX2_isStep := ⟨zWd_in 362 (by decide +kernel) rfl, zWd_in 363 (by decide +kernel) rfl, zWd_in 364 (by decide +kernel) rfl⟩
theorem csX0_108 : zSV RX0 108 μX2_earliestOf := ⟨zWd_in 366 (by decide +kernel) rfl, zWd_in 367 (by decide +kernel) rfl, zWd_in 368 (by decide +kernel) rfl⟩
theorem csX0_132 : zSS RX0 132 μJ9_floorMod_7cf53 := ⟨Or.inl (zWd_in 370 (by decide +kernel) rfl), zWd_in 371 (by decide +kernel) rfl⟩
theorem csX0_81 : zSV RX0 81 μX0_gatherRivals := ⟨zWd_in 373 (by decide +kernel) rfl, zWd_in 375 (by decide +kernel) rfl, zWd_in 5 (by decide +kernel) rfl⟩
theorem csX0_135 : zSV RX0 135 μX2_isRival := ⟨zWd_in 377 (by decide +kernel) rfl, zWd_in 378 (by decide +kernel) rfl, zWd_in 379 (by decide +kernel) rfl⟩
theorem csX2_43 : zSV RX2 43 μX2_isStep := ⟨zWd_in 381 (by decide +kernel) rfl, zWd_in 363 (by decide +kernel) rfl, zWd_in 364 (by decide +kernel) rfl⟩
theorem csX0_117 : zSV RX0 117 μX2_isOverloaded := ⟨zWd_in 382 (by decide +kernel) rfl, zWd_in 383 (by decide +kernel) rfl, zWd_in 384 (by decide +kernel) rfl⟩
theorem csX2_58 : zSV RX2 58 μX2_loadAbove := ⟨zWd_in 386 (by decide +kernel) rfl, zWd_in 388 (by decide +kernel) rfl, zWd_in 6 (by decide +kernel) rfl⟩
theorem csX2_54 : zSV RX2 54 μX2_loadBelow := ⟨zWd_in 390 (by decide +kernel) rfl, zWd_in 392 (by decide +kernel) rfl, zWd_in 7 (by decide +kernel) rfl⟩
theorem csX2_50 : zSV RX2 50 μX2_periodOf := ⟨zWd_in 394 (by decide +kernel) rfl, zWd_in 348 (by decide +kernel) rfl, zWd_in 349 (by decide +kernel) rfl⟩
theorem csX2_46 : zSV RX2 46 μX2_isRival := ⟨zWd_in 395 (by decide +kernel) rfl, zWd_in 378 (by decide +kernel) rfl, zWd_in 379 (by decide +kernel) rfl⟩
theorem csX0_85 : zSV RX0 85 μX0_findLongest := ⟨zWd_in 396 (by decide +kernel) rfl, zWd_in 398 (by decide +kernel) rfl, zWd_in 8 (by decide +kernel) rfl⟩
theorem csX0_101 : zSV RX0 101 μX0_leastTime := ⟨zWd_in 400 (by decide +kernel) rfl, zWd_in 402 (by decide +kernel) rfl, zWd_in 9 (by decide +kernel) rfl⟩
theorem csX0_143 : zSV RX0 143 μX0_quickNeeded := ⟨zWd_in 404 (by decide +kernel) rfl, zWd_in 406 (by decide +kernel) rfl, zWd_in 10 (by decide +kernel) rfl⟩
theorem csX0_105 : zSV RX0 105 μX0_quickComes := ⟨zWd_in 408 (by decide +kernel) rfl, zWd_in 410 (by decide +kernel) rfl, zWd_in 11 (by decide +kernel) rfl⟩
theorem csX0_146 : zSV RX0 146 μX0_needed := ⟨zWd_in 412 (by decide +kernel) rfl, zWd_in 414 (by decide +kernel) rfl, zWd_in 12 (by decide +kernel) rfl⟩
theorem csX0_139 : zSV RX0 139 μX0_comes := ⟨zWd_in 416 (by decide +kernel) rfl, zWd_in 418 (by decide +kernel) rfl, zWd_in 13 (by decide +kernel) rfl⟩
theorem csX0_149 : zSV RX0 149 μX0_work := ⟨zWd_in 420 (by decide +kernel) rfl, zWd_in 422 (by decide +kernel) rfl, zWd_in 14 (by decide +kernel) rfl⟩
set_option maxRecDepth 20000 in
theorem csX0_92 : Cond.methodLink RX0 92 Lib.Math.max.name ∈ zWd ∧ Cond.static Lib.Math.max.name ∈ zWd ∧ Cond.initialized "java/lang/Math" ∈ zWd ∧ Cond.code Lib.Math.max.name Lib.Math.max.code 2 (some .int) ∈ zWd := ⟨zWd_in 424 (by decide +kernel) rfl, zWd_in 352 (by decide +kernel) rfl, zWd_in 79 (by decide +kernel) rfl, zWd_in 353 rfl rfl⟩
theorem csX0_71 : zSV RX0 71 μX0_passLateness := ⟨zWd_in 425 (by decide +kernel) rfl, zWd_in 427 (by decide +kernel) rfl, zWd_in 15 (by decide +kernel) rfl⟩
theorem csX4_114 : zSV RX4 114 μX4_infoOf := ⟨zWd_in 429 (by decide +kernel) rfl, zWd_in 431 (by decide +kernel) rfl, zWd_in 16 (by decide +kernel) rfl⟩
theorem csX4_211 : zSV RX4 211 μX2_earliestOf := ⟨zWd_in 433 (by decide +kernel) rfl, zWd_in 367 (by decide +kernel) rfl, zWd_in 368 (by decide +kernel) rfl⟩
theorem csX4_214 : zSV RX4 214 μX0_lateOf := ⟨zWd_in 434 (by decide +kernel) rfl, zWd_in 435 (by decide +kernel) rfl, zWd_in 436 (by decide +kernel) rfl⟩
theorem csX4_217 : zSV RX4 217 μX2_rivalsOf := ⟨zWd_in 438 (by decide +kernel) rfl, zWd_in 439 (by decide +kernel) rfl, zWd_in 440 (by decide +kernel) rfl⟩
theorem csL_46 : zSV RL 46 μX4_load := ⟨zWd_in 442 (by decide +kernel) rfl, zWd_in 443 (by decide +kernel) rfl, zWd_in 444 (by decide +kernel) rfl⟩
theorem csX4_117 : zSV RX4 117 μX2_loadPart := ⟨zWd_in 446 (by decide +kernel) rfl, zWd_in 447 (by decide +kernel) rfl, zWd_in 448 (by decide +kernel) rfl⟩
theorem csX2_64 : zSS RX2 64 μX2_greatestDivisor := ⟨Or.inl (zWd_in 450 (by decide +kernel) rfl), zWd_in 451 (by decide +kernel) rfl⟩
theorem csL_50 : zSV RL 50 μX4_bound := ⟨zWd_in 453 (by decide +kernel) rfl, zWd_in 454 (by decide +kernel) rfl, zWd_in 455 (by decide +kernel) rfl⟩
theorem csX4_120 : zSV RX4 120 μX0_boundOf := ⟨zWd_in 457 (by decide +kernel) rfl, zWd_in 458 (by decide +kernel) rfl, zWd_in 459 (by decide +kernel) rfl⟩
theorem csL_54 : zSV RL 54 μX4_searched := ⟨zWd_in 461 (by decide +kernel) rfl, zWd_in 462 (by decide +kernel) rfl, zWd_in 463 (by decide +kernel) rfl⟩
theorem csX4_123 : zSV RX4 123 μX0_searchedOf := ⟨zWd_in 465 (by decide +kernel) rfl, zWd_in 466 (by decide +kernel) rfl, zWd_in 467 (by decide +kernel) rfl⟩
theorem csL_58 : zSV RL 58 μX4_quick := ⟨zWd_in 469 (by decide +kernel) rfl, zWd_in 470 (by decide +kernel) rfl, zWd_in 471 (by decide +kernel) rfl⟩
theorem csX4_126 : zSV RX4 126 μX0_quickOf := ⟨zWd_in 473 (by decide +kernel) rfl, zWd_in 474 (by decide +kernel) rfl, zWd_in 475 (by decide +kernel) rfl⟩
theorem csL_62 : zSV RL 62 μX4_rounds := ⟨zWd_in 477 (by decide +kernel) rfl, zWd_in 478 (by decide +kernel) rfl, zWd_in 479 (by decide +kernel) rfl⟩
theorem csL_67 : zSV RL 67 μX4_worst := ⟨zWd_in 481 (by decide +kernel) rfl, zWd_in 482 (by decide +kernel) rfl, zWd_in 483 (by decide +kernel) rfl⟩
theorem csX4_132 : zSV RX4 132 μX0_worstOf := ⟨zWd_in 485 (by decide +kernel) rfl, zWd_in 486 (by decide +kernel) rfl, zWd_in 487 (by decide +kernel) rfl⟩
theorem csL_71 : zSV RL 71 μX4_meets := ⟨zWd_in 489 (by decide +kernel) rfl, zWd_in 490 (by decide +kernel) rfl, zWd_in 491 (by decide +kernel) rfl⟩
theorem csX4_135 : zSV RX4 135 μX0_meetingBits := ⟨zWd_in 493 (by decide +kernel) rfl, zWd_in 494 (by decide +kernel) rfl, zWd_in 495 (by decide +kernel) rfl⟩
theorem csX0_74 : zSV RX0 74 μX2_dueBits := ⟨zWd_in 497 (by decide +kernel) rfl, zWd_in 498 (by decide +kernel) rfl, zWd_in 499 (by decide +kernel) rfl⟩
theorem csX0_78 : zSV RX0 78 μX2_lastOf := ⟨zWd_in 501 (by decide +kernel) rfl, zWd_in 502 (by decide +kernel) rfl, zWd_in 503 (by decide +kernel) rfl⟩
theorem csL_75 : zSV RL 75 μX4_margin := ⟨zWd_in 505 (by decide +kernel) rfl, zWd_in 506 (by decide +kernel) rfl, zWd_in 507 (by decide +kernel) rfl⟩
theorem csX4_139 : zSV RX4 139 μX2_dueBits := ⟨zWd_in 509 (by decide +kernel) rfl, zWd_in 498 (by decide +kernel) rfl, zWd_in 499 (by decide +kernel) rfl⟩
theorem csL_79 : zSV RL 79 μX4_better := ⟨zWd_in 510 (by decide +kernel) rfl, zWd_in 511 (by decide +kernel) rfl, zWd_in 512 (by decide +kernel) rfl⟩
theorem csX4_142 : zSV RX4 142 μX2_lastOf := ⟨zWd_in 514 (by decide +kernel) rfl, zWd_in 502 (by decide +kernel) rfl, zWd_in 503 (by decide +kernel) rfl⟩
theorem csL_83 : zSV RL 83 μX4_run := ⟨zWd_in 515 (by decide +kernel) rfl, zWd_in 516 (by decide +kernel) rfl, zWd_in 517 (by decide +kernel) rfl⟩
theorem csX4_145 : zSV RX4 145 μX1_go := ⟨zWd_in 519 (by decide +kernel) rfl, zWd_in 520 (by decide +kernel) rfl, zWd_in 521 (by decide +kernel) rfl⟩
theorem csX1_54 : zSS RX1 54 μX1_firstReady := ⟨Or.inl (zWd_in 523 (by decide +kernel) rfl), zWd_in 524 (by decide +kernel) rfl⟩
set_option maxRecDepth 20000 in
theorem csX1_70 : Cond.methodLink RX1 70 Lib.Math.max.name ∈ zWd ∧ Cond.static Lib.Math.max.name ∈ zWd ∧ Cond.initialized "java/lang/Math" ∈ zWd ∧ Cond.code Lib.Math.max.name Lib.Math.max.code 2 (some .int) ∈ zWd := ⟨zWd_in 526 (by decide +kernel) rfl, zWd_in 352 (by decide +kernel) rfl, zWd_in 79 (by decide +kernel) rfl, zWd_in 353 rfl rfl⟩
theorem csX1_76 : zSS RX1 76 μX1_released := ⟨Or.inl (zWd_in 527 (by decide +kernel) rfl), zWd_in 528 (by decide +kernel) rfl⟩
theorem csX1_58 : zSV RX1 58 μX1_mostUrgent := ⟨zWd_in 530 (by decide +kernel) rfl, zWd_in 532 (by decide +kernel) rfl, zWd_in 17 (by decide +kernel) rfl⟩
theorem csX1_82 : zSV RX1 82 μX2_isStep := ⟨zWd_in 534 (by decide +kernel) rfl, zWd_in 363 (by decide +kernel) rfl, zWd_in 364 (by decide +kernel) rfl⟩
theorem csX1_86 : zSV RX1 86 μX1_isReady := ⟨zWd_in 535 (by decide +kernel) rfl, zWd_in 537 (by decide +kernel) rfl, zWd_in 18 (by decide +kernel) rfl⟩
theorem csX1_61 : zSV RX1 61 μX1_doTick := ⟨zWd_in 539 (by decide +kernel) rfl, zWd_in 541 (by decide +kernel) rfl, zWd_in 19 (by decide +kernel) rfl⟩
set_option maxRecDepth 20000 in
theorem csX1_90 : Cond.methodLink RX1 90 Lib.Math.min.name ∈ zWd ∧ Cond.static Lib.Math.min.name ∈ zWd ∧ Cond.initialized "java/lang/Math" ∈ zWd ∧ Cond.code Lib.Math.min.name Lib.Math.min.code 2 (some .int) ∈ zWd := ⟨zWd_in 543 (by decide +kernel) rfl, zWd_in 544 (by decide +kernel) rfl, zWd_in 79 (by decide +kernel) rfl, zWd_in 545 rfl rfl⟩
theorem csL_87 : zSV RL 87 μX4_seen := ⟨zWd_in 546 (by decide +kernel) rfl, zWd_in 547 (by decide +kernel) rfl, zWd_in 548 (by decide +kernel) rfl⟩
theorem csX4_152 : zSV RX4 152 μX1_seenOf := ⟨zWd_in 550 (by decide +kernel) rfl, zWd_in 551 (by decide +kernel) rfl, zWd_in 552 (by decide +kernel) rfl⟩
theorem csL_91 : zSV RL 91 μX4_tick := ⟨zWd_in 554 (by decide +kernel) rfl, zWd_in 555 (by decide +kernel) rfl, zWd_in 556 (by decide +kernel) rfl⟩
theorem csL_95 : zSV RL 95 μX4_sheet := ⟨zWd_in 558 (by decide +kernel) rfl, zWd_in 559 (by decide +kernel) rfl, zWd_in 560 (by decide +kernel) rfl⟩
theorem csX4_158 : zSS RX4 158 μX4_isForm := ⟨Or.inl (zWd_in 562 (by decide +kernel) rfl), zWd_in 563 (by decide +kernel) rfl⟩
theorem csX4_161 : zSV RX4 161 μX3_begin := ⟨zWd_in 565 (by decide +kernel) rfl, zWd_in 566 (by decide +kernel) rfl, zWd_in 567 (by decide +kernel) rfl⟩
theorem csX3_26 : zSS RX3 26 μJ7_fill_d0a16 := ⟨Or.inl (zWd_in 569 (by decide +kernel) rfl), zWd_in 570 (by decide +kernel) rfl⟩
theorem csL_99 : zSV RL 99 μX4_lose := ⟨zWd_in 572 (by decide +kernel) rfl, zWd_in 573 (by decide +kernel) rfl, zWd_in 574 (by decide +kernel) rfl⟩
theorem csL_103 : zSV RL 103 μX4_lay := ⟨zWd_in 576 (by decide +kernel) rfl, zWd_in 577 (by decide +kernel) rfl, zWd_in 578 (by decide +kernel) rfl⟩
theorem csX4_165 : zSV RX4 165 μX3_troubleAt := ⟨zWd_in 580 (by decide +kernel) rfl, zWd_in 581 (by decide +kernel) rfl, zWd_in 582 (by decide +kernel) rfl⟩
theorem csX3_32 : zSS RX3 32 μX4_within := ⟨Or.inr ⟨"OffsetChains", zNs_in 584 (by decide +kernel) rfl⟩, zWd_in 282 (by decide +kernel) rfl⟩
theorem kX4_168 : Cond.constantLong RX4 168 (zl (100000007)) ∈ zWd := zWd_in 585 (by decide +kernel) rfl
theorem csX4_170 : zSV RX4 170 μX3_put := ⟨zWd_in 586 (by decide +kernel) rfl, zWd_in 587 (by decide +kernel) rfl, zWd_in 588 (by decide +kernel) rfl⟩
theorem csL_107 : zSV RL 107 μX4_get := ⟨zWd_in 590 (by decide +kernel) rfl, zWd_in 591 (by decide +kernel) rfl, zWd_in 592 (by decide +kernel) rfl⟩
theorem kX4_174 : Cond.constantLong RX4 174 (zl (-9223372036854775806)) ∈ zWd := zWd_in 594 (by decide +kernel) rfl
theorem kX4_176 : Cond.constantLong RX4 176 (zl (-9223372036854775808)) ∈ zWd := zWd_in 595 (by decide +kernel) rfl
theorem csL_112 : zSV RL 112 μX4_copy := ⟨zWd_in 596 (by decide +kernel) rfl, zWd_in 597 (by decide +kernel) rfl, zWd_in 598 (by decide +kernel) rfl⟩
theorem csX4_181 : zSV RX4 181 μX3_hasRange := ⟨zWd_in 600 (by decide +kernel) rfl, zWd_in 601 (by decide +kernel) rfl, zWd_in 602 (by decide +kernel) rfl⟩
theorem csX4_185 : Cond.methodLink RX4 185 arraycopyName ∈ zWd ∧ Cond.native arraycopyName ∈ zWd ∧ Cond.static arraycopyName ∈ zWd ∧ Cond.initialized "java/lang/System" ∈ zWd := ⟨zWd_in 604 (by decide +kernel) rfl, zWd_in 606 (by decide +kernel) rfl, zWd_in 605 (by decide +kernel) rfl, zWd_in 80 (by decide +kernel) rfl⟩
theorem csL_116 : zSV RL 116 μX4_write := ⟨zWd_in 607 (by decide +kernel) rfl, zWd_in 608 (by decide +kernel) rfl, zWd_in 609 (by decide +kernel) rfl⟩
theorem csX4_191 : zSV RX4 191 μX2_isStep := ⟨zWd_in 611 (by decide +kernel) rfl, zWd_in 363 (by decide +kernel) rfl, zWd_in 364 (by decide +kernel) rfl⟩
theorem csL_120 : zSV RL 120 μX4_count := ⟨zWd_in 612 (by decide +kernel) rfl, zWd_in 613 (by decide +kernel) rfl, zWd_in 614 (by decide +kernel) rfl⟩
theorem csX4_194 : zSV RX4 194 μX4_countOf := ⟨zWd_in 616 (by decide +kernel) rfl, zWd_in 618 (by decide +kernel) rfl, zWd_in 20 (by decide +kernel) rfl⟩
theorem csX4_220 : zSV RX4 220 μX2_stepsInAll := ⟨zWd_in 620 (by decide +kernel) rfl, zWd_in 621 (by decide +kernel) rfl, zWd_in 622 (by decide +kernel) rfl⟩
theorem csX4_223 : zSS RX4 223 μJ6_bitCount_0f7a4 := ⟨Or.inl (zWd_in 624 (by decide +kernel) rfl), zWd_in 625 (by decide +kernel) rfl⟩
theorem kJ6_265 : Cond.constant RJ6 265 (zi (1431655765)) ∈ zWd := zWd_in 627 (by decide +kernel) rfl
theorem kJ6_266 : Cond.constant RJ6 266 (zi (858993459)) ∈ zWd := zWd_in 628 (by decide +kernel) rfl
theorem kJ6_267 : Cond.constant RJ6 267 (zi (252645135)) ∈ zWd := zWd_in 629 (by decide +kernel) rfl
theorem csX4_234 : zSV RX4 234 μX2_overloadedSteps := ⟨zWd_in 630 (by decide +kernel) rfl, zWd_in 631 (by decide +kernel) rfl, zWd_in 632 (by decide +kernel) rfl⟩
theorem csX2_61 : zSV RX2 61 μX2_isOverloaded := ⟨zWd_in 634 (by decide +kernel) rfl, zWd_in 383 (by decide +kernel) rfl, zWd_in 384 (by decide +kernel) rfl⟩
theorem csL_124 : zSV RL 124 μX4_digest := ⟨zWd_in 635 (by decide +kernel) rfl, zWd_in 636 (by decide +kernel) rfl, zWd_in 637 (by decide +kernel) rfl⟩
theorem kX4_197 : Cond.constantLong RX4 197 (zl (17)) ∈ zWd := zWd_in 639 (by decide +kernel) rfl
theorem kX4_199 : Cond.constantLong RX4 199 (zl (31)) ∈ zWd := zWd_in 640 (by decide +kernel) rfl
theorem csX4_201 : zSV RX4 201 μX4_withStep := ⟨zWd_in 641 (by decide +kernel) rfl, zWd_in 643 (by decide +kernel) rfl, zWd_in 21 (by decide +kernel) rfl⟩
theorem csL_12 : zSI RL 12 μX5_init := ⟨Or.inl (zWd_in 647 (by decide +kernel) rfl), zWd_in 648 (by decide +kernel) rfl, rfl, rfl⟩
theorem csL_98 : zSV RL 98 μX5_sheet := ⟨zWd_in 760 (by decide +kernel) rfl, zWd_in 761 (by decide +kernel) rfl, zWd_in 762 (by decide +kernel) rfl⟩
theorem csX5_101 : zSS RX5 101 μX5_isSheet := ⟨Or.inl (zWd_in 764 (by decide +kernel) rfl), zWd_in 765 (by decide +kernel) rfl⟩
theorem kX5_99 : Cond.constantLong RX5 99 (zl (3)) ∈ zWd := zWd_in 767 (by decide +kernel) rfl
theorem csX5_89 : zSS RX5 89 μX5_in := ⟨Or.inl (zWd_in 768 (by decide +kernel) rfl), zWd_in 769 (by decide +kernel) rfl⟩
theorem kX5_105 : Cond.constantLong RX5 105 (zl (2)) ∈ zWd := zWd_in 771 (by decide +kernel) rfl
theorem csX5_107 : zSV RX5 107 μX5_finds := ⟨zWd_in 772 (by decide +kernel) rfl, zWd_in 774 (by decide +kernel) rfl, zWd_in 22 (by decide +kernel) rfl⟩
theorem csL_102 : zSV RL 102 μX5_lose := ⟨zWd_in 776 (by decide +kernel) rfl, zWd_in 777 (by decide +kernel) rfl, zWd_in 778 (by decide +kernel) rfl⟩
theorem csL_106 : zSV RL 106 μX5_lay := ⟨zWd_in 780 (by decide +kernel) rfl, zWd_in 781 (by decide +kernel) rfl, zWd_in 782 (by decide +kernel) rfl⟩
theorem csX5_111 : zSV RX5 111 μX5_lacks := ⟨zWd_in 784 (by decide +kernel) rfl, zWd_in 786 (by decide +kernel) rfl, zWd_in 23 (by decide +kernel) rfl⟩
theorem kX5_115 : Cond.constantLong RX5 115 (zl (100000007)) ∈ zWd := zWd_in 788 (by decide +kernel) rfl
theorem csL_111 : zSV RL 111 μX5_get := ⟨zWd_in 789 (by decide +kernel) rfl, zWd_in 790 (by decide +kernel) rfl, zWd_in 791 (by decide +kernel) rfl⟩
theorem csX5_117 : zSS RX5 117 μX5_no := ⟨Or.inl (zWd_in 793 (by decide +kernel) rfl), zWd_in 794 (by decide +kernel) rfl⟩
theorem kX5_93 : Cond.constantLong RX5 93 (zl (-9223372036854775808)) ∈ zWd := zWd_in 796 (by decide +kernel) rfl
theorem csL_115 : zSV RL 115 μX5_copy := ⟨zWd_in 797 (by decide +kernel) rfl, zWd_in 798 (by decide +kernel) rfl, zWd_in 799 (by decide +kernel) rfl⟩
theorem csL_17 : zSV RL 17 μX5_chain := ⟨zWd_in 801 (by decide +kernel) rfl, zWd_in 802 (by decide +kernel) rfl, zWd_in 803 (by decide +kernel) rfl⟩
theorem csX5_121 : zSS RX5 121 μX5_isChain := ⟨Or.inl (zWd_in 805 (by decide +kernel) rfl), zWd_in 806 (by decide +kernel) rfl⟩
theorem csX5_136 : zSS RX5 136 μX5_mayChain := ⟨Or.inl (zWd_in 808 (by decide +kernel) rfl), zWd_in 809 (by decide +kernel) rfl⟩
theorem kX5_124 : Cond.constantLong RX5 124 (zl (5)) ∈ zWd := zWd_in 811 (by decide +kernel) rfl
theorem kX5_126 : Cond.constantLong RX5 126 (zl (100)) ∈ zWd := zWd_in 812 (by decide +kernel) rfl
theorem kX5_128 : Cond.constantLong RX5 128 (zl (30)) ∈ zWd := zWd_in 813 (by decide +kernel) rfl
theorem kX5_130 : Cond.constantLong RX5 130 (zl (200)) ∈ zWd := zWd_in 814 (by decide +kernel) rfl
theorem kX5_132 : Cond.constantLong RX5 132 (zl (99)) ∈ zWd := zWd_in 815 (by decide +kernel) rfl
theorem kX5_134 : Cond.constantLong RX5 134 (zl (9)) ∈ zWd := zWd_in 816 (by decide +kernel) rfl
theorem csX5_140 : zSV RX5 140 μX5_hasBy := ⟨zWd_in 817 (by decide +kernel) rfl, zWd_in 819 (by decide +kernel) rfl, zWd_in 24 (by decide +kernel) rfl⟩
theorem csL_22 : zSV RL 22 μX5_step := ⟨zWd_in 821 (by decide +kernel) rfl, zWd_in 822 (by decide +kernel) rfl, zWd_in 823 (by decide +kernel) rfl⟩
theorem csX5_146 : zSS RX5 146 μX5_mayStep := ⟨Or.inl (zWd_in 825 (by decide +kernel) rfl), zWd_in 826 (by decide +kernel) rfl⟩
theorem kX5_144 : Cond.constantLong RX5 144 (zl (20)) ∈ zWd := zWd_in 828 (by decide +kernel) rfl
theorem csX5_150 : zSV RX5 150 μX5_tells := ⟨zWd_in 829 (by decide +kernel) rfl, zWd_in 831 (by decide +kernel) rfl, zWd_in 25 (by decide +kernel) rfl⟩
theorem csL_27 : zSV RL 27 μX5_back := ⟨zWd_in 833 (by decide +kernel) rfl, zWd_in 834 (by decide +kernel) rfl, zWd_in 835 (by decide +kernel) rfl⟩
theorem csL_32 : zSV RL 32 μX5_tune := ⟨zWd_in 837 (by decide +kernel) rfl, zWd_in 838 (by decide +kernel) rfl, zWd_in 839 (by decide +kernel) rfl⟩
theorem csX5_154 : zSV RX5 154 μX5_isStep := ⟨zWd_in 841 (by decide +kernel) rfl, zWd_in 843 (by decide +kernel) rfl, zWd_in 26 (by decide +kernel) rfl⟩
theorem csX5_157 : zSV RX5 157 μX5_toldBy := ⟨zWd_in 845 (by decide +kernel) rfl, zWd_in 847 (by decide +kernel) rfl, zWd_in 27 (by decide +kernel) rfl⟩
theorem csL_37 : zSV RL 37 μX5_read := ⟨zWd_in 849 (by decide +kernel) rfl, zWd_in 850 (by decide +kernel) rfl, zWd_in 851 (by decide +kernel) rfl⟩
theorem csL_41 : zSV RL 41 μX5_has := ⟨zWd_in 853 (by decide +kernel) rfl, zWd_in 854 (by decide +kernel) rfl, zWd_in 855 (by decide +kernel) rfl⟩
theorem csL_49 : zSV RL 49 μX5_load := ⟨zWd_in 857 (by decide +kernel) rfl, zWd_in 858 (by decide +kernel) rfl, zWd_in 859 (by decide +kernel) rfl⟩
theorem csX5_177 : zSS RX5 177 μX5_isTwo := ⟨Or.inl (zWd_in 861 (by decide +kernel) rfl), zWd_in 862 (by decide +kernel) rfl⟩
theorem csX5_180 : zSV RX5 180 μX5_loadBy := ⟨zWd_in 864 (by decide +kernel) rfl, zWd_in 866 (by decide +kernel) rfl, zWd_in 28 (by decide +kernel) rfl⟩
theorem csX5_173 : zSV RX5 173 μX5_loads := ⟨zWd_in 868 (by decide +kernel) rfl, zWd_in 870 (by decide +kernel) rfl, zWd_in 29 (by decide +kernel) rfl⟩
theorem csX5_163 : zSV RX5 163 μX5_isRival := ⟨zWd_in 872 (by decide +kernel) rfl, zWd_in 874 (by decide +kernel) rfl, zWd_in 30 (by decide +kernel) rfl⟩
theorem csX5_160 : zSV RX5 160 μX5_isThere := ⟨zWd_in 876 (by decide +kernel) rfl, zWd_in 878 (by decide +kernel) rfl, zWd_in 31 (by decide +kernel) rfl⟩
theorem csL_45 : zSV RL 45 μX5_info := ⟨zWd_in 880 (by decide +kernel) rfl, zWd_in 881 (by decide +kernel) rfl, zWd_in 882 (by decide +kernel) rfl⟩
theorem kX5_246 : Cond.constantLong RX5 246 (zl (6)) ∈ zWd := zWd_in 884 (by decide +kernel) rfl
theorem csX5_248 : zSV RX5 248 μX5_settles := ⟨zWd_in 885 (by decide +kernel) rfl, zWd_in 887 (by decide +kernel) rfl, zWd_in 32 (by decide +kernel) rfl⟩
theorem csX5_229 : zSV RX5 229 μX5_picksAll := ⟨zWd_in 889 (by decide +kernel) rfl, zWd_in 891 (by decide +kernel) rfl, zWd_in 33 (by decide +kernel) rfl⟩
theorem csX5_236 : zSV RX5 236 μX5_boundsAll := ⟨zWd_in 893 (by decide +kernel) rfl, zWd_in 895 (by decide +kernel) rfl, zWd_in 34 (by decide +kernel) rfl⟩
theorem csX5_223 : zSV RX5 223 μX5_isOver := ⟨zWd_in 897 (by decide +kernel) rfl, zWd_in 899 (by decide +kernel) rfl, zWd_in 35 (by decide +kernel) rfl⟩
theorem csX5_226 : zSV RX5 226 μX5_answers := ⟨zWd_in 901 (by decide +kernel) rfl, zWd_in 903 (by decide +kernel) rfl, zWd_in 36 (by decide +kernel) rfl⟩
theorem csX5_207 : zSV RX5 207 μX5_holds := ⟨zWd_in 905 (by decide +kernel) rfl, zWd_in 907 (by decide +kernel) rfl, zWd_in 37 (by decide +kernel) rfl⟩
theorem csX5_192 : zSV RX5 192 μX5_comes := ⟨zWd_in 909 (by decide +kernel) rfl, zWd_in 911 (by decide +kernel) rfl, zWd_in 38 (by decide +kernel) rfl⟩
theorem csX5_186 : zSV RX5 186 μX5_phi := ⟨zWd_in 913 (by decide +kernel) rfl, zWd_in 915 (by decide +kernel) rfl, zWd_in 39 (by decide +kernel) rfl⟩
theorem csX5_183 : zSV RX5 183 μX5_earliest := ⟨zWd_in 917 (by decide +kernel) rfl, zWd_in 919 (by decide +kernel) rfl, zWd_in 40 (by decide +kernel) rfl⟩
theorem csX5_189 : zSS RX5 189 μX5_up := ⟨Or.inl (zWd_in 921 (by decide +kernel) rfl), zWd_in 922 (by decide +kernel) rfl⟩
theorem csX5_195 : zSV RX5 195 μX5_work := ⟨zWd_in 924 (by decide +kernel) rfl, zWd_in 926 (by decide +kernel) rfl, zWd_in 41 (by decide +kernel) rfl⟩
theorem csX5_201 : zSV RX5 201 μX5_others := ⟨zWd_in 928 (by decide +kernel) rfl, zWd_in 930 (by decide +kernel) rfl, zWd_in 42 (by decide +kernel) rfl⟩
theorem csX5_198 : zSS RX5 198 μX5_greater := ⟨Or.inl (zWd_in 932 (by decide +kernel) rfl), zWd_in 933 (by decide +kernel) rfl⟩
theorem csX5_210 : zSV RX5 210 μX5_answersBy := ⟨zWd_in 935 (by decide +kernel) rfl, zWd_in 937 (by decide +kernel) rfl, zWd_in 43 (by decide +kernel) rfl⟩
theorem csX5_251 : zSV RX5 251 μX5_infoBy := ⟨zWd_in 939 (by decide +kernel) rfl, zWd_in 941 (by decide +kernel) rfl, zWd_in 44 (by decide +kernel) rfl⟩
theorem csX5_243 : zSV RX5 243 μX5_rivals := ⟨zWd_in 943 (by decide +kernel) rfl, zWd_in 945 (by decide +kernel) rfl, zWd_in 45 (by decide +kernel) rfl⟩
theorem csL_53 : zSV RL 53 μX5_bound := ⟨zWd_in 947 (by decide +kernel) rfl, zWd_in 948 (by decide +kernel) rfl, zWd_in 949 (by decide +kernel) rfl⟩
theorem csX5_254 : zSV RX5 254 μX5_boundBy := ⟨zWd_in 951 (by decide +kernel) rfl, zWd_in 953 (by decide +kernel) rfl, zWd_in 46 (by decide +kernel) rfl⟩
theorem csL_57 : zSV RL 57 μX5_searched := ⟨zWd_in 955 (by decide +kernel) rfl, zWd_in 956 (by decide +kernel) rfl, zWd_in 957 (by decide +kernel) rfl⟩
theorem csX5_260 : zSV RX5 260 μX5_searchedBy := ⟨zWd_in 959 (by decide +kernel) rfl, zWd_in 961 (by decide +kernel) rfl, zWd_in 47 (by decide +kernel) rfl⟩
theorem csX5_257 : zSV RX5 257 μX5_momentOf := ⟨zWd_in 963 (by decide +kernel) rfl, zWd_in 965 (by decide +kernel) rfl, zWd_in 48 (by decide +kernel) rfl⟩
theorem csL_61 : zSV RL 61 μX5_quick := ⟨zWd_in 967 (by decide +kernel) rfl, zWd_in 968 (by decide +kernel) rfl, zWd_in 969 (by decide +kernel) rfl⟩
theorem csX5_269 : zSV RX5 269 μX5_quickBy := ⟨zWd_in 971 (by decide +kernel) rfl, zWd_in 973 (by decide +kernel) rfl, zWd_in 49 (by decide +kernel) rfl⟩
theorem csX5_266 : zSV RX5 266 μX5_holdsQuick := ⟨zWd_in 975 (by decide +kernel) rfl, zWd_in 977 (by decide +kernel) rfl, zWd_in 50 (by decide +kernel) rfl⟩
theorem csX5_263 : zSV RX5 263 μX5_comesQuick := ⟨zWd_in 979 (by decide +kernel) rfl, zWd_in 981 (by decide +kernel) rfl, zWd_in 51 (by decide +kernel) rfl⟩
theorem csL_66 : zSV RL 66 μX5_rounds := ⟨zWd_in 983 (by decide +kernel) rfl, zWd_in 984 (by decide +kernel) rfl, zWd_in 985 (by decide +kernel) rfl⟩
theorem csX5_272 : zSV RX5 272 μX5_roundsNow := ⟨zWd_in 987 (by decide +kernel) rfl, zWd_in 989 (by decide +kernel) rfl, zWd_in 52 (by decide +kernel) rfl⟩
theorem csL_70 : zSV RL 70 μX5_worst := ⟨zWd_in 991 (by decide +kernel) rfl, zWd_in 992 (by decide +kernel) rfl, zWd_in 993 (by decide +kernel) rfl⟩
theorem csX5_276 : zSV RX5 276 μX5_worstBy := ⟨zWd_in 995 (by decide +kernel) rfl, zWd_in 997 (by decide +kernel) rfl, zWd_in 53 (by decide +kernel) rfl⟩
theorem csL_74 : zSV RL 74 μX5_meets := ⟨zWd_in 999 (by decide +kernel) rfl, zWd_in 1000 (by decide +kernel) rfl, zWd_in 1001 (by decide +kernel) rfl⟩
theorem csX5_285 : zSV RX5 285 μX5_meetsNow := ⟨zWd_in 1003 (by decide +kernel) rfl, zWd_in 1005 (by decide +kernel) rfl, zWd_in 54 (by decide +kernel) rfl⟩
theorem csX5_282 : zSV RX5 282 μX5_isMet := ⟨zWd_in 1007 (by decide +kernel) rfl, zWd_in 1009 (by decide +kernel) rfl, zWd_in 55 (by decide +kernel) rfl⟩
theorem csX5_279 : zSV RX5 279 μX5_isAsked := ⟨zWd_in 1011 (by decide +kernel) rfl, zWd_in 1013 (by decide +kernel) rfl, zWd_in 56 (by decide +kernel) rfl⟩
theorem csL_78 : zSV RL 78 μX5_margin := ⟨zWd_in 1015 (by decide +kernel) rfl, zWd_in 1016 (by decide +kernel) rfl, zWd_in 1017 (by decide +kernel) rfl⟩
theorem csX5_291 : zSV RX5 291 μX5_marginBy := ⟨zWd_in 1019 (by decide +kernel) rfl, zWd_in 1021 (by decide +kernel) rfl, zWd_in 57 (by decide +kernel) rfl⟩
theorem csX5_288 : zSV RX5 288 μX5_allMeet := ⟨zWd_in 1023 (by decide +kernel) rfl, zWd_in 1025 (by decide +kernel) rfl, zWd_in 58 (by decide +kernel) rfl⟩
theorem csL_82 : zSV RL 82 μX5_better := ⟨zWd_in 1027 (by decide +kernel) rfl, zWd_in 1028 (by decide +kernel) rfl, zWd_in 1029 (by decide +kernel) rfl⟩
theorem csX5_294 : zSV RX5 294 μX5_betterBy := ⟨zWd_in 1031 (by decide +kernel) rfl, zWd_in 1033 (by decide +kernel) rfl, zWd_in 59 (by decide +kernel) rfl⟩
theorem csL_86 : zSV RL 86 μX5_run := ⟨zWd_in 1035 (by decide +kernel) rfl, zWd_in 1036 (by decide +kernel) rfl, zWd_in 1037 (by decide +kernel) rfl⟩
theorem kX5_303 : Cond.constantLong RX5 303 (zl (300)) ∈ zWd := zWd_in 1039 (by decide +kernel) rfl
theorem csX5_305 : zSV RX5 305 μX5_begins := ⟨zWd_in 1040 (by decide +kernel) rfl, zWd_in 1042 (by decide +kernel) rfl, zWd_in 60 (by decide +kernel) rfl⟩
theorem csX5_297 : zSV RX5 297 μX5_releaseOf := ⟨zWd_in 1044 (by decide +kernel) rfl, zWd_in 1046 (by decide +kernel) rfl, zWd_in 61 (by decide +kernel) rfl⟩
theorem csX5_311 : zSV RX5 311 μX5_does := ⟨zWd_in 1048 (by decide +kernel) rfl, zWd_in 1050 (by decide +kernel) rfl, zWd_in 62 (by decide +kernel) rfl⟩
theorem csX5_314 : zSV RX5 314 μX5_ends := ⟨zWd_in 1052 (by decide +kernel) rfl, zWd_in 1054 (by decide +kernel) rfl, zWd_in 63 (by decide +kernel) rfl⟩
theorem csX5_300 : zSS RX5 300 μX5_lesser := ⟨Or.inl (zWd_in 1056 (by decide +kernel) rfl), zWd_in 1057 (by decide +kernel) rfl⟩
theorem csX5_318 : zSV RX5 318 μX5_endedNow := ⟨zWd_in 1059 (by decide +kernel) rfl, zWd_in 1061 (by decide +kernel) rfl, zWd_in 64 (by decide +kernel) rfl⟩
theorem csL_90 : zSV RL 90 μX5_seen := ⟨zWd_in 1063 (by decide +kernel) rfl, zWd_in 1064 (by decide +kernel) rfl, zWd_in 1065 (by decide +kernel) rfl⟩
theorem csX5_321 : zSV RX5 321 μX5_seenBy := ⟨zWd_in 1067 (by decide +kernel) rfl, zWd_in 1069 (by decide +kernel) rfl, zWd_in 65 (by decide +kernel) rfl⟩
theorem csL_94 : zSV RL 94 μX5_tick := ⟨zWd_in 1071 (by decide +kernel) rfl, zWd_in 1072 (by decide +kernel) rfl, zWd_in 1073 (by decide +kernel) rfl⟩
theorem kX5_324 : Cond.constantLong RX5 324 (zl (299)) ∈ zWd := zWd_in 1075 (by decide +kernel) rfl
theorem csX5_326 : zSV RX5 326 μX5_tickBy := ⟨zWd_in 1076 (by decide +kernel) rfl, zWd_in 1078 (by decide +kernel) rfl, zWd_in 66 (by decide +kernel) rfl⟩
theorem csL_119 : zSV RL 119 μX5_write := ⟨zWd_in 1080 (by decide +kernel) rfl, zWd_in 1081 (by decide +kernel) rfl, zWd_in 1082 (by decide +kernel) rfl⟩
theorem csL_123 : zSV RL 123 μX5_count := ⟨zWd_in 1084 (by decide +kernel) rfl, zWd_in 1085 (by decide +kernel) rfl, zWd_in 1086 (by decide +kernel) rfl⟩
theorem csX5_335 : zSV RX5 335 μX5_countBy := ⟨zWd_in 1088 (by decide +kernel) rfl, zWd_in 1090 (by decide +kernel) rfl, zWd_in 67 (by decide +kernel) rfl⟩
theorem csX5_329 : zSV RX5 329 μX5_idle := ⟨zWd_in 1092 (by decide +kernel) rfl, zWd_in 1094 (by decide +kernel) rfl, zWd_in 68 (by decide +kernel) rfl⟩
theorem csX5_332 : zSV RX5 332 μX5_over := ⟨zWd_in 1096 (by decide +kernel) rfl, zWd_in 1098 (by decide +kernel) rfl, zWd_in 69 (by decide +kernel) rfl⟩
theorem csL_128 : zSV RL 128 μX5_digest := ⟨zWd_in 1100 (by decide +kernel) rfl, zWd_in 1101 (by decide +kernel) rfl, zWd_in 1102 (by decide +kernel) rfl⟩
theorem kX5_340 : Cond.constantLong RX5 340 (zl (17)) ∈ zWd := zWd_in 1104 (by decide +kernel) rfl
theorem kX5_338 : Cond.constantLong RX5 338 (zl (31)) ∈ zWd := zWd_in 1105 (by decide +kernel) rfl
theorem csX5_342 : zSV RX5 342 μX5_stepTells := ⟨zWd_in 1106 (by decide +kernel) rfl, zWd_in 1108 (by decide +kernel) rfl, zWd_in 70 (by decide +kernel) rfl⟩
end ZF
end
section
section YX
variable {hd d : Nat} {μ ν : zU} {pc : Nat} {L : List (Option Value)} {st : List Value} {σ σ' : zS} {P P' : Option Value → zS → Prop} {idx n b ci : Nat} {fs : zS → List Value} {As rest : List Value} {v : Int}
theorem Y.cVI (hdg : decode μ.2.1 pc = .ok (.invokevirtual idx, 3)) (hm : zMk ν n) (hs : zSV μ.1.cls idx ν) (ho : zOB b ci fs) (hci : ∃ q : vw_C, vwCl[ci]? = some q ∧ q.1 = ν.1.cls) (hc : YI hd ν (.ref b :: As) σ v σ') (hd1 : hd + 1 ≤ d) (hAn : As.length = n) (hst : st = As.reverse ++ .ref b :: rest) (hcat : (rest.map fun v => v.category).sum ≤ 8) (k : Y d μ (pc + 3) L (.int (zi v) :: rest) σ' P) : Y d μ pc L st σ P :=
  Y.callV hdg hm hs ho hci hc hd1 hAn hst hcat (fun r s h => by rw [h.1, h.2]; exact k)
theorem Y.cVV (hdg : decode μ.2.1 pc = .ok (.invokevirtual idx, 3)) (hm : zMk ν n) (hs : zSV μ.1.cls idx ν) (ho : zOB b ci fs) (hci : ∃ q : vw_C, vwCl[ci]? = some q ∧ q.1 = ν.1.cls) (hc : YV hd ν (.ref b :: As) σ σ') (hd1 : hd + 1 ≤ d) (hAn : As.length = n) (hst : st = As.reverse ++ .ref b :: rest) (hcat : (rest.map fun v => v.category).sum ≤ 8) (k : Y d μ (pc + 3) L rest σ' P) : Y d μ pc L st σ P :=
  Y.callV hdg hm hs ho hci hc hd1 hAn hst hcat (fun r s h => by rw [h.1, h.2]; exact k)
theorem Y.cVJ (hdg : decode μ.2.1 pc = .ok (.invokevirtual idx, 3)) (hm : zMk ν n) (hs : zSV μ.1.cls idx ν) (ho : zOB b ci fs) (hci : ∃ q : vw_C, vwCl[ci]? = some q ∧ q.1 = ν.1.cls) (hc : YJ hd ν (.ref b :: As) σ v σ') (hd1 : hd + 1 ≤ d) (hAn : As.length = n) (hst : st = As.reverse ++ .ref b :: rest) (hcat : (rest.map fun v => v.category).sum ≤ 8) (k : Y d μ (pc + 3) L (.long (zl v) :: rest) σ' P) : Y d μ pc L st σ P :=
  Y.callV hdg hm hs ho hci hc hd1 hAn hst hcat (fun r s h => by rw [h.1, h.2]; exact k)
theorem Y.cSI (hdg : decode μ.2.1 pc = .ok (.invokestatic idx, 3)) (hm : zMk ν n) (hs : zSS μ.1.cls idx ν) (hc : YI hd ν As σ v σ') (hd1 : hd + 1 ≤ d) (hAn : As.length = n) (hst : st = As.reverse ++ rest) (hcat : (rest.map fun v => v.category).sum ≤ 8) (k : Y d μ (pc + 3) L (.int (zi v) :: rest) σ' P) : Y d μ pc L st σ P :=
  Y.callS hdg hm hs hc hd1 hAn hst hcat (fun r s h => by rw [h.1, h.2]; exact k)
theorem Y.cSV (hdg : decode μ.2.1 pc = .ok (.invokestatic idx, 3)) (hm : zMk ν n) (hs : zSS μ.1.cls idx ν) (hc : YV hd ν As σ σ') (hd1 : hd + 1 ≤ d) (hAn : As.length = n) (hst : st = As.reverse ++ rest) (hcat : (rest.map fun v => v.category).sum ≤ 8) (k : Y d μ (pc + 3) L rest σ' P) : Y d μ pc L st σ P :=
  Y.callS hdg hm hs hc hd1 hAn hst hcat (fun r s h => by rw [h.1, h.2]; exact k)
theorem Y.cSJ (hdg : decode μ.2.1 pc = .ok (.invokestatic idx, 3)) (hm : zMk ν n) (hs : zSS μ.1.cls idx ν) (hc : YJ hd ν As σ v σ') (hd1 : hd + 1 ≤ d) (hAn : As.length = n) (hst : st = As.reverse ++ rest) (hcat : (rest.map fun v => v.category).sum ≤ 8) (k : Y d μ (pc + 3) L (.long (zl v) :: rest) σ' P) : Y d μ pc L st σ P :=
  Y.callS hdg hm hs hc hd1 hAn hst hcat (fun r s h => by rw [h.1, h.2]; exact k)
/-- a truth value as an int -/
noncomputable def zb (p : Prop) : Int := @ite Int p (Classical.propDecidable p) 1 0
theorem zb_t {p : Prop} (h : p) : zb p = 1 := if_pos h
theorem zb_f {p : Prop} (h : ¬ p) : zb p = 0 := if_neg h
theorem zb_0 {p : Prop} : zb p = 0 ↔ ¬ p := by
  by_cases h : p
  · rw [zb_t h]; exact ⟨fun q => by omega, fun q => absurd h q⟩
  · rw [zb_f h]; exact ⟨fun _ => h, fun _ => rfl⟩
theorem zb_1 {p : Prop} : zb p = 1 ↔ p := by
  by_cases h : p
  · rw [zb_t h]; exact ⟨fun _ => h, fun _ => rfl⟩
  · rw [zb_f h]; exact ⟨fun q => by omega, fun q => absurd q h⟩
theorem zb_01 {p : Prop} : zb p = 0 ∨ zb p = 1 := by
  by_cases h : p
  · exact Or.inr (zb_t h)
  · exact Or.inl (zb_f h)
theorem zb_B {p : Prop} : zB (zb p) := by rcases zb_01 (p := p) with h | h <;> rw [h] <;> exact ⟨by decide, by decide⟩
theorem zb_c {p q : Prop} (h : p ↔ q) : zb p = zb q := by
  by_cases hp : p
  · rw [zb_t hp, zb_t (h.mp hp)]
  · rw [zb_f hp, zb_f (fun x => hp (h.mpr x))]
theorem Y.ifz_eq {p : Prop} {off : Int} (tgt : Nat) (hdg : decode μ.2.1 pc = .ok (.ifCond .eq off, 3)) (ht : (pc : Int) + off = (tgt : Int)) (k1 : ¬ p → Y d μ tgt L st σ P) (k2 : p → Y d μ (pc + 3) L st σ P) : Y d μ pc L (.int (zi (zb p)) :: st) σ P :=
  Y.if_eq tgt hdg ht zb_B (fun h => k1 (zb_0.mp h)) (fun h => k2 (Classical.byContradiction fun q => h (zb_0.mpr q)))
theorem Y.ifz_ne {p : Prop} {off : Int} (tgt : Nat) (hdg : decode μ.2.1 pc = .ok (.ifCond .ne off, 3)) (ht : (pc : Int) + off = (tgt : Int)) (k1 : p → Y d μ tgt L st σ P) (k2 : ¬ p → Y d μ (pc + 3) L st σ P) : Y d μ pc L (.int (zi (zb p)) :: st) σ P :=
  Y.if_ne tgt hdg ht zb_B (fun h => k1 (Classical.byContradiction fun q => h (zb_0.mpr q))) (fun h => k2 (zb_0.mp h))
theorem Y.idivp {a b : Int} (hdg : decode μ.2.1 pc = .ok (.idiv, 1)) (ha : zB a) (hb : zB b) (h0 : 0 ≤ a) (h1 : 0 < b) (k : Y d μ (pc + 1) L (.int (zi (a / b)) :: st) σ P) : Y d μ pc L (.int (zi b) :: .int (zi a) :: st) σ P :=
  Y.idiv hdg ha hb (by omega) (by rw [Int.tdiv_eq_ediv_of_nonneg h0]; exact k)
theorem Y.iremp {a b : Int} (hdg : decode μ.2.1 pc = .ok (.irem, 1)) (ha : zB a) (hb : zB b) (h0 : 0 ≤ a) (h1 : 0 < b) (k : Y d μ (pc + 1) L (.int (zi (a % b)) :: st) σ P) : Y d μ pc L (.int (zi b) :: .int (zi a) :: st) σ P :=
  Y.irem hdg ha hb (by omega) (by rw [Int.tmod_eq_emod_of_nonneg h0]; exact k)
theorem Y.ldivp {a b : Int} (hdg : decode μ.2.1 pc = .ok (.ldiv, 1)) (ha : zB64 a) (hb : zB64 b) (h0 : 0 ≤ a) (h1 : 0 < b) (k : Y d μ (pc + 1) L (.long (zl (a / b)) :: st) σ P) : Y d μ pc L (.long (zl b) :: .long (zl a) :: st) σ P :=
  Y.ldiv hdg ha hb (by omega) (by rw [Int.tdiv_eq_ediv_of_nonneg h0]; exact k)
theorem Y.lremp {a b : Int} (hdg : decode μ.2.1 pc = .ok (.lrem, 1)) (ha : zB64 a) (hb : zB64 b) (h0 : 0 ≤ a) (h1 : 0 < b) (k : Y d μ (pc + 1) L (.long (zl (a % b)) :: st) σ P) : Y d μ pc L (.long (zl b) :: .long (zl a) :: st) σ P :=
  Y.lrem hdg ha hb (by omega) (by rw [Int.tmod_eq_emod_of_nonneg h0]; exact k)
theorem zrI {v v' : Int} (h : v = v') : some (Value.int (zi v)) = some (.int (zi v')) := by rw [h]
theorem zrL {v v' : Int} (h : v = v') : some (Value.long (zl v)) = some (.long (zl v')) := by rw [h]
theorem hqT {w : Nat} (h : w < 5) : [some 3, some 4, some 5, some 6, some 7][((w : Nat) : Int).toNat]? = some (some (3 + w)) := by
  rcases (show w = 0 ∨ w = 1 ∨ w = 2 ∨ w = 3 ∨ w = 4 by omega) with rfl | rfl | rfl | rfl | rfl <;> rfl
theorem hqM {w : Nat} (h : w < 4) : [some 9, some 10, some 11, some 12][((w : Nat) : Int).toNat]? = some (some (9 + w)) := by
  rcases zs4 h with rfl | rfl | rfl | rfl <;> rfl
theorem hqD {w : Nat} (h : w < 2) : [some 41, some 42][((w : Nat) : Int).toNat]? = some (some (41 + w)) := by
  rcases (show w = 0 ∨ w = 1 by omega) with rfl | rfl <;> rfl
theorem hqE {w : Nat} (h : w < 9) : [some 48, some 49, some 50, some 51, some 52, some 53, some 54, some 55, some 56][((w : Nat) : Int).toNat]? = some (some (48 + w)) := by
  rcases (show w = 0 ∨ w = 1 ∨ w = 2 ∨ w = 3 ∨ w = 4 ∨ w = 5 ∨ w = 6 ∨ w = 7 ∨ w = 8 by omega) with rfl | rfl | rfl | rfl | rfl | rfl | rfl | rfl | rfl <;> rfl
theorem hqS {w : Nat} (h : w < 4) : [some 59, some 61, some 63, some 65][((w : Nat) : Int).toNat]? = some (some (59 + 2 * w)) := by
  rcases zs4 h with rfl | rfl | rfl | rfl <;> rfl
theorem zt_1 (x y : Int) : zB x → zB y → -100 ≤ x → x ≤ 100 → zB (x + 3) := by
  intro h1 h2 h3 h4
  omega
end YX
end
section
section ZD
/-! loops -/
theorem zw1 {A : Type} (I K : A → Prop) (m : A → Nat) (hs : ∀ a, I a → (∀ a', I a' → m a' < m a → K a') → K a) : ∀ a, I a → K a := by
  have key : ∀ (n : Nat) (a : A), m a < n → I a → K a := by
    intro n
    induction n with
    | zero => intro a h; omega
    | succ n ih => intro a h hI; exact hs a hI (fun a' hI' hm => ih a' (by omega) hI')
  exact fun a hI => key (m a + 1) a (Nat.lt_succ_self _) hI
theorem zw2 {A B : Type} (I K : A → B → Prop) (m : A → B → Nat) (hs : ∀ a b, I a b → (∀ a' b', I a' b' → m a' b' < m a b → K a' b') → K a b) : ∀ a b, I a b → K a b := fun a b h => zw1 (A := A × B) (fun q => I q.1 q.2) (fun q => K q.1 q.2) (fun q => m q.1 q.2) (fun q hq ih => hs q.1 q.2 hq (fun a' b' h1 h2 => ih (a', b') h1 h2)) (a, b) h
theorem zw3 {A B C : Type} (I K : A → B → C → Prop) (m : A → B → C → Nat) (hs : ∀ a b c, I a b c → (∀ a' b' c', I a' b' c' → m a' b' c' < m a b c → K a' b' c') → K a b c) : ∀ a b c, I a b c → K a b c := fun a b c h => zw1 (A := A × B × C) (fun q => I q.1 q.2.1 q.2.2) (fun q => K q.1 q.2.1 q.2.2) (fun q => m q.1 q.2.1 q.2.2) (fun q hq ih => hs q.1 q.2.1 q.2.2 hq (fun a' b' c' h1 h2 => ih (a', b', c') h1 h2)) (a, b, c) h
theorem zw4 {A B C D : Type} (I K : A → B → C → D → Prop) (m : A → B → C → D → Nat) (hs : ∀ a b c d, I a b c d → (∀ a' b' c' d', I a' b' c' d' → m a' b' c' d' < m a b c d → K a' b' c' d') → K a b c d) : ∀ a b c d, I a b c d → K a b c d := fun a b c d h => zw1 (A := A × B × C × D) (fun q => I q.1 q.2.1 q.2.2.1 q.2.2.2) (fun q => K q.1 q.2.1 q.2.2.1 q.2.2.2) (fun q => m q.1 q.2.1 q.2.2.1 q.2.2.2) (fun q hq ih => hs q.1 q.2.1 q.2.2.1 q.2.2.2 hq (fun a' b' c' d' h1 h2 => ih (a', b', c', d') h1 h2)) (a, b, c, d) h
theorem zw5 {A B C D E : Type} (I K : A → B → C → D → E → Prop) (m : A → B → C → D → E → Nat) (hs : ∀ a b c d e, I a b c d e → (∀ a' b' c' d' e', I a' b' c' d' e' → m a' b' c' d' e' < m a b c d e → K a' b' c' d' e') → K a b c d e) : ∀ a b c d e, I a b c d e → K a b c d e := fun a b c d e h => zw1 (A := A × B × C × D × E) (fun q => I q.1 q.2.1 q.2.2.1 q.2.2.2.1 q.2.2.2.2) (fun q => K q.1 q.2.1 q.2.2.1 q.2.2.2.1 q.2.2.2.2) (fun q => m q.1 q.2.1 q.2.2.1 q.2.2.2.1 q.2.2.2.2) (fun q hq ih => hs q.1 q.2.1 q.2.2.1 q.2.2.2.1 q.2.2.2.2 hq (fun a' b' c' d' e' h1 h2 => ih (a', b', c', d', e') h1 h2)) (a, b, c, d, e) h
/-! fewer locals -/
def zSub (L' L : List (Option Value)) : Prop := ∀ (i : Nat) (v : Value), L'[i]? = some (some v) → L[i]? = some (some v)
theorem zs_0 {L : List (Option Value)} : zSub [] L := fun i v h => by simp at h
theorem zs_s {L' L : List (Option Value)} {v : Value} (h : zSub L' L) : zSub (some v :: L') (some v :: L) := by
  intro i u hu
  cases i with
  | zero => exact hu
  | succ i => exact h i u hu
theorem zs_n {L' L : List (Option Value)} {x : Option Value} (h : zSub L' L) : zSub (none :: L') (x :: L) := by
  intro i u hu
  cases i with
  | zero => cases hu
  | succ i => exact h i u hu
theorem Y.sub {d : Nat} {μ : zU} {pc : Nat} {L L' : List (Option Value)} {st : List Value} {σ : zS} {P : Option Value → zS → Prop} (hs : zSub L' L) (k : Y d μ pc L' st σ P) : Y d μ pc L st σ P := Y.loc k hs
theorem YC.of2 {hd : Nat} {μ : zU} {avs : List Value} {σ : zS} {Q : Option Value → zS → Prop} (hpl : plainName μ.1.cls = true) (hsl : (lg_sl avs).length ≤ μ.2.2.1) (k : ∀ (d : Nat) (P : Option Value → zS → Prop), hd ≤ d → (∀ r s, Q r s → P r s) → Y d μ 0 (zEnt avs μ.2.2.1) [] σ P) : YC hd μ avs σ Q := YC.of hpl hsl (fun d h => k d Q h (fun _ _ h => h))
/-! sums -/
def sm (f : Int → Int) (a : Int) : Nat → Int
  | 0 => 0
  | n + 1 => sm f a n + f (a + n)
theorem sm_s {f : Int → Int} {a i : Int} (h : a ≤ i) : sm f a (i + 1 - a).toNat = sm f a (i - a).toNat + f i := by
  have e : (i + 1 - a).toNat = (i - a).toNat + 1 := by omega
  rw [e]
  show sm f a (i - a).toNat + f (a + ((i - a).toNat : Int)) = _
  rw [show a + ((i - a).toNat : Int) = i by omega]
theorem sm_0 {f : Int → Int} {a : Int} : sm f a (a - a).toNat = 0 := by
  rw [show (a - a).toNat = 0 by omega]
  rfl
theorem sm_c {f g : Int → Int} {a : Int} : ∀ n : Nat, (∀ i : Int, a ≤ i → i < a + n → f i = g i) → sm f a n = sm g a n
  | 0, _ => rfl
  | n + 1, h => by
    show sm f a n + _ = sm g a n + _
    rw [sm_c n (fun i h1 h2 => h i h1 (by omega)), h (a + n) (by omega) (by omega)]
theorem sm_b {f : Int → Int} {a lo hi : Int} : ∀ n : Nat, (∀ i : Int, a ≤ i → i < a + n → lo ≤ f i ∧ f i ≤ hi) → lo * n ≤ sm f a n ∧ sm f a n ≤ hi * n
  | 0, _ => by constructor <;> show _ <;> simp [sm]
  | n + 1, h => by
    obtain ⟨h1, h2⟩ := sm_b n (fun i q1 q2 => h i q1 (by omega))
    obtain ⟨h3, h4⟩ := h (a + n) (by omega) (by omega)
    have e1 : lo * ((n + 1 : Nat) : Int) = lo * n + lo := by rw [Int.natCast_succ, Int.mul_add, Int.mul_one]
    have e2 : hi * ((n + 1 : Nat) : Int) = hi * n + hi := by rw [Int.natCast_succ, Int.mul_add, Int.mul_one]
    rw [e1, e2]
    show lo * n + lo ≤ sm f a n + f (a + n) ∧ sm f a n + f (a + n) ≤ hi * n + hi
    constructor <;> omega
/-! the plan: 0 period, 1 jitter, 2 deadline, 3 phase, 4 stride, 5 many (by chain); 6 node, 7 cost, 8 priority, 9 lag (by number of the step) -/
abbrev zP : Type := Nat → Int → Int
def cP (σ : zS) : zP := fun k => match k with
  | 0 => σ.1 3
  | 1 => σ.1 4
  | 2 => σ.1 5
  | 3 => σ.1 6
  | 4 => σ.1 7
  | 5 => σ.1 13
  | 6 => σ.1 9
  | 7 => σ.1 10
  | 8 => σ.1 11
  | _ => σ.1 12
def mP (σ : zS) : zP := fun k => match k with
  | 0 => σ.1 72
  | 1 => σ.1 73
  | 2 => σ.1 74
  | 3 => σ.1 75
  | 4 => σ.1 76
  | 5 => σ.1 77
  | 6 => σ.1 78
  | 7 => σ.1 79
  | 8 => σ.1 80
  | _ => σ.1 81
theorem cp0 {σ : zS} : cP σ 0 = σ.1 3 := rfl
theorem cp1 {σ : zS} : cP σ 1 = σ.1 4 := rfl
theorem cp2 {σ : zS} : cP σ 2 = σ.1 5 := rfl
theorem cp3 {σ : zS} : cP σ 3 = σ.1 6 := rfl
theorem cp4 {σ : zS} : cP σ 4 = σ.1 7 := rfl
theorem cp5 {σ : zS} : cP σ 5 = σ.1 13 := rfl
theorem cp6 {σ : zS} : cP σ 6 = σ.1 9 := rfl
theorem cp7 {σ : zS} : cP σ 7 = σ.1 10 := rfl
theorem cp8 {σ : zS} : cP σ 8 = σ.1 11 := rfl
theorem cp9 {σ : zS} : cP σ 9 = σ.1 12 := rfl
theorem mp0 {σ : zS} : mP σ 0 = σ.1 72 := rfl
theorem mp1 {σ : zS} : mP σ 1 = σ.1 73 := rfl
theorem mp2 {σ : zS} : mP σ 2 = σ.1 74 := rfl
theorem mp3 {σ : zS} : mP σ 3 = σ.1 75 := rfl
theorem mp4 {σ : zS} : mP σ 4 = σ.1 76 := rfl
theorem mp5 {σ : zS} : mP σ 5 = σ.1 77 := rfl
theorem mp6 {σ : zS} : mP σ 6 = σ.1 78 := rfl
theorem mp7 {σ : zS} : mP σ 7 = σ.1 79 := rfl
theorem mp8 {σ : zS} : mP σ 8 = σ.1 80 := rfl
theorem mp9 {σ : zS} : mP σ 9 = σ.1 81 := rfl
def th (p : zP) (x : Int) : Prop := x % 3 < p 5 (x / 3)
def riv (p : zP) (x k : Int) : Prop := th p k ∧ k ≠ x ∧ p 6 k = p 6 x ∧ p 8 x ≤ p 8 k
/-- a plan's numbers are as told -/
def WP (p : zP) : Prop := (∀ i : Int, 0 ≤ i → i < 3 → (5 ≤ p 0 i ∧ p 0 i ≤ 100) ∧ (0 ≤ p 1 i ∧ p 1 i ≤ 30) ∧ (0 ≤ p 2 i ∧ p 2 i ≤ 200) ∧ (0 ≤ p 3 i ∧ p 3 i ≤ 99) ∧ (0 ≤ p 4 i ∧ p 4 i ≤ 9) ∧ (0 ≤ p 5 i ∧ p 5 i ≤ 3)) ∧
  (∀ x : Int, 0 ≤ x → x < 9 → (0 ≤ p 6 x ∧ p 6 x ≤ 1) ∧ (0 ≤ p 7 x ∧ p 7 x ≤ 28) ∧ (0 ≤ p 8 x ∧ p 8 x ≤ 9) ∧ (0 ≤ p 9 x ∧ p 9 x ≤ 20)) ∧
  (∀ x : Int, 0 ≤ x → x < 9 → th p x → 1 ≤ p 7 x)
def ear (p : zP) (x : Int) : Int := p 9 x + sm (fun y => p 9 y + p 7 y) (x - x % 3) (x - (x - x % 3)).toNat
noncomputable def rvs (p : zP) (x : Int) : Int := sm (fun y => zb (riv p x y)) 0 9
def lb (p : zP) : Int := p 0 0 * p 0 1 * p 0 2
noncomputable def la (p : zP) (x : Int) : Int := sm (fun y => @ite _ (y = x ∨ riv p x y) (Classical.propDecidable _) (p 7 y * (lb p / p 0 (y / 3))) 0) 0 9
theorem ear_b {p : zP} (hp : WP p) {x : Int} (h0 : 0 ≤ x) (h9 : x < 9) : 0 ≤ ear p x ∧ ear p x ≤ 116 := by
  have h := (hp.2.1 x h0 h9).2.2.2
  have hs := sm_b (f := fun y => p 9 y + p 7 y) (a := x - x % 3) (lo := 0) (hi := 48) (x - (x - x % 3)).toNat (fun i h1 h2 => by
    have := hp.2.1 i (by omega) (by omega)
    omega)
  unfold ear
  have e : ((x - (x - x % 3)).toNat : Int) ≤ 2 := by omega
  have e0 : 0 ≤ ((x - (x - x % 3)).toNat : Int) := by omega
  omega
end ZD
end
section
section ZM1
variable {σ : zS}
set_option maxHeartbeats 1000000 in
theorem c_X4_within {v a b : Int} (hv : zB64 v) (ha : zB a) (hb : zB b) : YI 0 μX4_within [.long (zl v), .int (zi a), .int (zi b)] σ (zb (a ≤ v ∧ v ≤ b)) σ := by
  refine YC.of2 (by decide) (Nat.le_of_ble_eq_true rfl) (fun d P hd hP => ?_)
  refine Y.lload_n dX4_within_0 rfl ?_
  refine Y.iload_n dX4_within_1 rfl ?_
  refine Y.i2l dX4_within_2 (by omega) ?_
  refine Y.lcmp dX4_within_3 (by omega) (by omega) (fun c_3 bc_3 lc_3 ec_3 => ?_)
  refine Y.if_lt 18 dX4_within_4 (by decide) (by omega) (fun h_4 => ?_) (fun h_4 => ?_)
  · refine Y.iconst dX4_within_18 ?_
    exact Y.zret dX4_within_19 rfl (by decide) (hP _ _ ⟨zrI (by first | rw [zb_t (by omega)] | rw [zb_f (by omega)]), rfl⟩)
  · refine Y.lload_n dX4_within_7 rfl ?_
    refine Y.iload_n dX4_within_8 rfl ?_
    refine Y.i2l dX4_within_9 (by omega) ?_
    refine Y.lcmp dX4_within_10 (by omega) (by omega) (fun c_10 bc_10 lc_10 ec_10 => ?_)
    refine Y.if_gt 18 dX4_within_11 (by decide) (by omega) (fun h_11 => ?_) (fun h_11 => ?_)
    · refine Y.iconst dX4_within_18 ?_
      exact Y.zret dX4_within_19 rfl (by decide) (hP _ _ ⟨zrI (by first | rw [zb_t (by omega)] | rw [zb_f (by omega)]), rfl⟩)
    · refine Y.iconst dX4_within_14 ?_
      refine Y.goto 19 dX4_within_15 (by decide) ?_
      exact Y.zret dX4_within_19 rfl (by decide) (hP _ _ ⟨zrI (by first | rw [zb_t (by omega)] | rw [zb_f (by omega)]), rfl⟩)
set_option maxHeartbeats 1000000 in
theorem c_X4_isChain {v : Int} (hv : zB v) : YI 1 μX4_isChain [.int (zi v)] σ (zb (0 ≤ v ∧ v ≤ 2)) σ := by
  refine YC.of2 (by decide) (Nat.le_of_ble_eq_true rfl) (fun d P hd hP => ?_)
  refine Y.iload_n dX4_isChain_0 rfl ?_
  refine Y.i2l dX4_isChain_1 (by omega) ?_
  refine Y.iconst dX4_isChain_2 ?_
  refine Y.iconst dX4_isChain_3 ?_
  refine Y.cSI dX4_isChain_4 mkX4_within csX4_50 (c_X4_within (by omega) (by omega) (by omega)) (by omega) rfl rfl (Nat.le_of_ble_eq_true rfl) ?_
  exact Y.zret dX4_isChain_7 rfl zb_01 (hP _ _ ⟨rfl, rfl⟩)
set_option maxHeartbeats 1000000 in
theorem c_X4_isSheet {v : Int} (hv : zB v) : YI 1 μX4_isSheet [.int (zi v)] σ (zb (0 ≤ v ∧ v ≤ 3)) σ := by
  refine YC.of2 (by decide) (Nat.le_of_ble_eq_true rfl) (fun d P hd hP => ?_)
  refine Y.iload_n dX4_isSheet_0 rfl ?_
  refine Y.i2l dX4_isSheet_1 (by omega) ?_
  refine Y.iconst dX4_isSheet_2 ?_
  refine Y.iconst dX4_isSheet_3 ?_
  refine Y.cSI dX4_isSheet_4 mkX4_within csX4_50 (c_X4_within (by omega) (by omega) (by omega)) (by omega) rfl rfl (Nat.le_of_ble_eq_true rfl) ?_
  exact Y.zret dX4_isSheet_7 rfl zb_01 (hP _ _ ⟨rfl, rfl⟩)
set_option maxHeartbeats 1000000 in
theorem c_X4_isForm {v : Int} (hv : zB v) : YI 1 μX4_isForm [.int (zi v)] σ (zb (0 ≤ v ∧ v ≤ 2)) σ := by
  refine YC.of2 (by decide) (Nat.le_of_ble_eq_true rfl) (fun d P hd hP => ?_)
  refine Y.iload_n dX4_isForm_0 rfl ?_
  refine Y.i2l dX4_isForm_1 (by omega) ?_
  refine Y.iconst dX4_isForm_2 ?_
  refine Y.iconst dX4_isForm_3 ?_
  refine Y.cSI dX4_isForm_4 mkX4_within csX4_50 (c_X4_within (by omega) (by omega) (by omega)) (by omega) rfl rfl (Nat.le_of_ble_eq_true rfl) ?_
  exact Y.zret dX4_isForm_7 rfl zb_01 (hP _ _ ⟨rfl, rfl⟩)
def nof (p : zP) (i j : Int) : Int := if 0 ≤ i ∧ i ≤ 2 ∧ 0 ≤ j ∧ j ≤ p 5 i - 1 then i * 3 + j else -1
set_option maxHeartbeats 1000000 in
theorem c_X2_numberOf (hp : WP (cP σ)) {i j : Int} (hi : zB i) (hj : zB j) : YI 2 μX2_numberOf [.ref 1, .int (zi i), .int (zi j)] σ (nof (cP σ) i j) σ := by
  refine YC.of2 (by decide) (Nat.le_of_ble_eq_true rfl) (fun d P hd hP => ?_)
  refine Y.iload_n dX2_numberOf_0 rfl ?_
  refine Y.cSI dX2_numberOf_1 mkX4_isChain csX2_29 (c_X4_isChain (by omega)) (by omega) rfl rfl (Nat.le_of_ble_eq_true rfl) ?_
  refine Y.ifz_eq 24 dX2_numberOf_4 (by decide) (fun h_4 => ?_) (fun h_4 => ?_)
  · refine Y.iconst dX2_numberOf_24 ?_
    exact Y.iret dX2_numberOf_25 rfl (hP _ _ ⟨zrI (by unfold nof; first | rw [if_pos (by simp only [cp0, cp1, cp2, cp3, cp4, cp5, cp6, cp7, cp8, cp9]; omega)] | rw [if_neg (by simp only [cp0, cp1, cp2, cp3, cp4, cp5, cp6, cp7, cp8, cp9]; omega)]), rfl⟩)
  · have hm := (hp.1 i (by omega) (by omega)).2.2.2.2.2
    simp only [cp0, cp1, cp2, cp3, cp4, cp5, cp6, cp7, cp8, cp9] at hm
    refine Y.iload_n dX2_numberOf_7 rfl ?_
    refine Y.i2l dX2_numberOf_8 (by omega) ?_
    refine Y.iconst dX2_numberOf_9 ?_
    refine Y.aload_n dX2_numberOf_10 rfl ?_
    refine Y.getf dX2_numberOf_11 flX2_19 ob1 rfl ?_
    refine Y.iload_n dX2_numberOf_14 rfl ?_
    refine Y.iald dX2_numberOf_15 ia13 (by omega) (by omega) ?_
    refine Y.iconst dX2_numberOf_16 ?_
    refine Y.isub dX2_numberOf_17 ?_
    refine Y.cSI dX2_numberOf_18 mkX4_within csX2_33 (c_X4_within (by omega) (by omega) (by omega)) (by omega) rfl rfl (Nat.le_of_ble_eq_true rfl) ?_
    refine Y.ifz_ne 26 dX2_numberOf_21 (by decide) (fun h_21 => ?_) (fun h_21 => ?_)
    · refine Y.iload_n dX2_numberOf_26 rfl ?_
      refine Y.iconst dX2_numberOf_27 ?_
      refine Y.imul dX2_numberOf_28 ?_
      refine Y.iload_n dX2_numberOf_29 rfl ?_
      refine Y.iadd dX2_numberOf_30 ?_
      exact Y.iret dX2_numberOf_31 rfl (hP _ _ ⟨zrI (by unfold nof; first | rw [if_pos (by simp only [cp0, cp1, cp2, cp3, cp4, cp5, cp6, cp7, cp8, cp9]; omega)] | rw [if_neg (by simp only [cp0, cp1, cp2, cp3, cp4, cp5, cp6, cp7, cp8, cp9]; omega)]), rfl⟩)
    · refine Y.iconst dX2_numberOf_24 ?_
      exact Y.iret dX2_numberOf_25 rfl (hP _ _ ⟨zrI (by unfold nof; first | rw [if_pos (by simp only [cp0, cp1, cp2, cp3, cp4, cp5, cp6, cp7, cp8, cp9]; omega)] | rw [if_neg (by simp only [cp0, cp1, cp2, cp3, cp4, cp5, cp6, cp7, cp8, cp9]; omega)]), rfl⟩)
set_option maxHeartbeats 1000000 in
theorem c_X2_isStep (hp : WP (cP σ)) {x : Int} (h0 : 0 ≤ x) (h9 : x < 9) : YI 0 μX2_isStep [.ref 1, .int (zi x)] σ (zb (th (cP σ) x)) σ := by
  refine YC.of2 (by decide) (Nat.le_of_ble_eq_true rfl) (fun d P hd hP => ?_)
  have hm := (hp.1 (x / 3) (by omega) (by omega)).2.2.2.2.2
  have hk := hp.2.1 x h0 h9
  simp only [cp0, cp1, cp2, cp3, cp4, cp5, cp6, cp7, cp8, cp9] at hm hk
  refine Y.iload_n dX2_isStep_0 rfl ?_
  refine Y.iconst dX2_isStep_1 ?_
  refine Y.iremp dX2_isStep_2 (by omega) (by omega) (by omega) (by omega) ?_
  refine Y.aload_n dX2_isStep_3 rfl ?_
  refine Y.getf dX2_isStep_4 flX2_19 ob1 rfl ?_
  refine Y.iload_n dX2_isStep_7 rfl ?_
  refine Y.iconst dX2_isStep_8 ?_
  refine Y.idivp dX2_isStep_9 (by omega) (by omega) (by omega) (by omega) ?_
  refine Y.iald dX2_isStep_10 ia13 (by omega) (by omega) ?_
  refine Y.icmp_ge 18 dX2_isStep_11 (by decide) (by omega) (by omega) (fun h_11 => ?_) (fun h_11 => ?_)
  · refine Y.iconst dX2_isStep_18 ?_
    exact Y.zret dX2_isStep_19 rfl (by decide) (hP _ _ ⟨zrI (by first | exact (zb_t (show x % 3 < σ.1 13 (x / 3) by omega)).symm | exact (zb_f (show ¬ (x % 3 < σ.1 13 (x / 3)) by omega)).symm), rfl⟩)
  · refine Y.iconst dX2_isStep_14 ?_
    refine Y.goto 19 dX2_isStep_15 (by decide) ?_
    exact Y.zret dX2_isStep_19 rfl (by decide) (hP _ _ ⟨zrI (by first | exact (zb_t (show x % 3 < σ.1 13 (x / 3) by omega)).symm | exact (zb_f (show ¬ (x % 3 < σ.1 13 (x / 3)) by omega)).symm), rfl⟩)
set_option maxHeartbeats 1000000 in
theorem c_X2_lastOf (hp : WP (cP σ)) {i : Int} (h0 : 0 ≤ i) (h3 : i < 3) : YI 0 μX2_lastOf [.ref 1, .int (zi i)] σ (i * 3 + cP σ 5 i - 1) σ := by
  refine YC.of2 (by decide) (Nat.le_of_ble_eq_true rfl) (fun d P hd hP => ?_)
  have hi := hp.1 i h0 h3
  simp only [cp0, cp1, cp2, cp3, cp4, cp5, cp6, cp7, cp8, cp9] at hi
  refine Y.iload_n dX2_lastOf_0 rfl ?_
  refine Y.iconst dX2_lastOf_1 ?_
  refine Y.imul dX2_lastOf_2 ?_
  refine Y.aload_n dX2_lastOf_3 rfl ?_
  refine Y.getf dX2_lastOf_4 flX2_19 ob1 rfl ?_
  refine Y.iload_n dX2_lastOf_7 rfl ?_
  refine Y.iald dX2_lastOf_8 ia13 (by omega) (by omega) ?_
  refine Y.iadd dX2_lastOf_9 ?_
  refine Y.iconst dX2_lastOf_10 ?_
  refine Y.isub dX2_lastOf_11 ?_
  exact Y.iret dX2_lastOf_12 rfl (hP _ _ ⟨rfl, rfl⟩)
set_option maxHeartbeats 1000000 in
theorem c_X2_stepsInAll  : YI 0 μX2_stepsInAll [.ref 1] σ (cP σ 5 0 + cP σ 5 1 + cP σ 5 2) σ := by
  refine YC.of2 (by decide) (Nat.le_of_ble_eq_true rfl) (fun d P hd hP => ?_)
  refine Y.aload_n dX2_stepsInAll_0 rfl ?_
  refine Y.getf dX2_stepsInAll_1 flX2_19 ob1 rfl ?_
  refine Y.iconst dX2_stepsInAll_4 ?_
  refine Y.iald dX2_stepsInAll_5 ia13 (by omega) (by omega) ?_
  refine Y.aload_n dX2_stepsInAll_6 rfl ?_
  refine Y.getf dX2_stepsInAll_7 flX2_19 ob1 rfl ?_
  refine Y.iconst dX2_stepsInAll_10 ?_
  refine Y.iald dX2_stepsInAll_11 ia13 (by omega) (by omega) ?_
  refine Y.iadd dX2_stepsInAll_12 ?_
  refine Y.aload_n dX2_stepsInAll_13 rfl ?_
  refine Y.getf dX2_stepsInAll_14 flX2_19 ob1 rfl ?_
  refine Y.iconst dX2_stepsInAll_17 ?_
  refine Y.iald dX2_stepsInAll_18 ia13 (by omega) (by omega) ?_
  refine Y.iadd dX2_stepsInAll_19 ?_
  exact Y.iret dX2_stepsInAll_20 rfl (hP _ _ ⟨rfl, rfl⟩)
set_option maxHeartbeats 1000000 in
theorem c_X2_periodOf (hp : WP (cP σ)) {i : Int} (h0 : 0 ≤ i) (h3 : i < 3) : YI 1 μX2_periodOf [.ref 1, .int (zi i)] σ (cP σ 0 i) σ := by
  refine YC.of2 (by decide) (Nat.le_of_ble_eq_true rfl) (fun d P hd hP => ?_)
  have hi := hp.1 i h0 h3
  simp only [cp0, cp1, cp2, cp3, cp4, cp5, cp6, cp7, cp8, cp9] at hi
  refine Y.iconst dX2_periodOf_0 ?_
  refine Y.aload_n dX2_periodOf_1 rfl ?_
  refine Y.getf dX2_periodOf_2 flX2_11 ob1 rfl ?_
  refine Y.iconst dX2_periodOf_5 ?_
  refine Y.aald dX2_periodOf_6 ra2 (by decide) (by decide) (by decide) rfl ?_
  refine Y.iload_n dX2_periodOf_7 rfl ?_
  refine Y.iald dX2_periodOf_8 ia3 (by omega) (by omega) ?_
  refine Y.mmax dX2_periodOf_9 csX2_37 (by omega) (Nat.le_of_ble_eq_true rfl) (by omega) (by omega) ?_
  exact Y.iret dX2_periodOf_12 rfl (hP _ _ ⟨zrI (by simp only [cp0, cp1, cp2, cp3, cp4, cp5, cp6, cp7, cp8, cp9]; omega), rfl⟩)
set_option maxHeartbeats 1000000 in
theorem c_X2_earliestOf (hp : WP (cP σ)) {x : Int} (h0 : 0 ≤ x) (h9 : x < 9) : YI 0 μX2_earliestOf [.ref 1, .int (zi x)] σ (ear (cP σ) x) σ := by
  refine YC.of2 (by decide) (Nat.le_of_ble_eq_true rfl) (fun d P hd hP => ?_)
  have hm := (hp.1 (x / 3) (by omega) (by omega)).2.2.2.2.2
  have hk := hp.2.1 x h0 h9
  simp only [cp0, cp1, cp2, cp3, cp4, cp5, cp6, cp7, cp8, cp9] at hm hk
  refine Y.aload_n dX2_earliestOf_0 rfl ?_
  refine Y.getf dX2_earliestOf_1 flX2_16 ob1 rfl ?_
  refine Y.iconst dX2_earliestOf_4 ?_
  refine Y.aald dX2_earliestOf_5 ra8 (by decide) (by decide) (by decide) rfl ?_
  refine Y.iload_n dX2_earliestOf_6 rfl ?_
  refine Y.iald dX2_earliestOf_7 ia12 (by omega) (by omega) ?_
  refine Y.istore_n dX2_earliestOf_8 (by decide) rfl ?_
  refine Y.iload_n dX2_earliestOf_9 rfl ?_
  refine Y.iload_n dX2_earliestOf_10 rfl ?_
  refine Y.iconst dX2_earliestOf_11 ?_
  refine Y.iremp dX2_earliestOf_12 (by omega) (by omega) (by omega) (by omega) ?_
  refine Y.isub dX2_earliestOf_13 ?_
  refine Y.istore_n dX2_earliestOf_14 (by decide) rfl ?_
  refine zw2 (fun s y => (x - x % 3 ≤ y ∧ y ≤ x ∧ s = cP σ 9 x + sm (fun y => cP σ 9 y + cP σ 7 y) (x - x % 3) (y - (x - x % 3)).toNat)) (fun s y => Y d μX2_earliestOf 15 [some (.ref 1), some (.int (zi x)), some (.int (zi s)), some (.int (zi y))] [] σ P) (fun s y => (x - y).toNat) ?_ _ _ ⟨by omega, by omega, by rw [sm_0]; simp only [cp0, cp1, cp2, cp3, cp4, cp5, cp6, cp7, cp8, cp9]; omega⟩
  intro s y hI ih
  obtain ⟨i1, i2, i3⟩ := hI
  refine Y.iload_n dX2_earliestOf_15 rfl ?_
  refine Y.iload_n dX2_earliestOf_16 rfl ?_
  refine Y.icmp_ge 46 dX2_earliestOf_17 (by decide) (by omega) (by omega) (fun h_17 => ?_) (fun h_17 => ?_)
  · refine Y.iload_n dX2_earliestOf_46 rfl ?_
    exact Y.iret dX2_earliestOf_47 rfl (hP _ _ ⟨zrI (by rw [i3, show y = x by omega]; rfl), rfl⟩)
  · refine Y.iload_n dX2_earliestOf_20 rfl ?_
    refine Y.aload_n dX2_earliestOf_21 rfl ?_
    refine Y.getf dX2_earliestOf_22 flX2_16 ob1 rfl ?_
    refine Y.iconst dX2_earliestOf_25 ?_
    refine Y.aald dX2_earliestOf_26 ra8 (by decide) (by decide) (by decide) rfl ?_
    refine Y.iload_n dX2_earliestOf_27 rfl ?_
    refine Y.iald dX2_earliestOf_28 ia12 (by omega) (by omega) ?_
    refine Y.aload_n dX2_earliestOf_29 rfl ?_
    refine Y.getf dX2_earliestOf_30 flX2_16 ob1 rfl ?_
    refine Y.iconst dX2_earliestOf_33 ?_
    refine Y.aald dX2_earliestOf_34 ra8 (by decide) (by decide) (by decide) rfl ?_
    refine Y.iload_n dX2_earliestOf_35 rfl ?_
    refine Y.iald dX2_earliestOf_36 ia10 (by omega) (by omega) ?_
    refine Y.iadd dX2_earliestOf_37 ?_
    refine Y.iadd dX2_earliestOf_38 ?_
    refine Y.istore_n dX2_earliestOf_39 (by decide) rfl ?_
    refine Y.iinc dX2_earliestOf_40 rfl (by decide) rfl ?_
    refine Y.goto 15 dX2_earliestOf_43 (by decide) ?_
    exact ih _ _ ⟨by omega, by omega, by rw [sm_s (by omega)]; simp only [cp0, cp1, cp2, cp3, cp4, cp5, cp6, cp7, cp8, cp9]; rw [i3]; simp only [cp0, cp1, cp2, cp3, cp4, cp5, cp6, cp7, cp8, cp9]; omega⟩ (by omega)
end ZM1
end
